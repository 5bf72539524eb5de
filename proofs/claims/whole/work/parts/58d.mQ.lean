/-! the reference: counts, choosing, the loops of step and run -/
section MQ
variable {b : Nat → Option va_E} {F : Nat → Int32} {A : Nat → Nat → Int32} {L : Nat → Nat → Int64} {nx : Option Nat} {r : mn_Res}
set_option maxHeartbeats 4000000 in
theorem cl_count_out {x : Int32} (hx : (decide (nI 0 ≤ x) && decide (x ≤ nI 2)) = false) : Cl 134 [.ref 149, .int (x)] (mpic b F A L) nx = some ((mpic b (up1 F 0 (nI 0)) A L, nx, 0, 0), .inl (some (.int (-1)))) := by
  refine Cl_of (x := mnI_X8_count) rfl ?_
  show Ev 134 0 [some (.ref 149), some (.int (x)), none, none, none] [] _ _
  simp (disch := first | omega | (simp only [cat_i, cat_r, ri_r, ri_0]; done)) only [eX8_count_0, eX8_count_1, eX8_count_2, eX8_count_5, eX8_count_6, eX8_count_7, eX8_count_8, eX8_count_9, eX8_count_12, eX8_count_15, eX8_count_16, eX8_count_17, eX8_count_18, eX8_count_21, eX8_count_24, eX8_count_25, eX8_count_26, eX8_count_27, eX8_count_28, eX8_count_31, eX8_count_32, eX8_count_35, eX8_count_36, eX8_count_37, eX8_count_38, eX8_count_39, eX8_count_40, eX8_count_41, eX8_count_43, eX8_count_46, eX8_count_47, eX8_count_50, eX8_count_51, eX8_count_52, eX8_count_55, eX8_count_58, eX8_count_59, eX8_count_60, eX8_count_63, eX8_count_64, eX8_count_67, eX8_count_68, eX8_count_69, eX8_count_70, eX8_count_71, eX8_count_73, eX8_count_75, eX8_count_77, eX8_count_80, eX8_count_81, eX8_count_82, eX8_count_85, eX8_count_86, eX8_count_87, eX8_count_90, eX8_count_91, eX8_count_92, eX8_count_94, eX8_count_95, eX8_count_96, eX8_count_97, eX8_count_98, eX8_count_99, eX8_count_102, eX8_count_105, eX8_count_108, eX8_count_111, eX8_count_112, ↓reduceIte, Evk_some, Evh_some, Evn_some, Evr_v, Evr_n, mk_i, mk_r, mk_0, mk_n, mk_l, mc0, mc1, mc2, mc3, mc4, mi_obj, Bool.and_self, Bool.true_and, Nat.add_zero, Nat.zero_add, nI_add, pk_mul, pk_sub, Nat.add_sub_cancel, eq_self, if_true, if_false, n10, bI_t, bI_f, bI_0, Nat.reduceAdd, Nat.reduceMul, Nat.reduceSub, nI_eq, nI_ltI, Nat.reduceEqDiff, Nat.reduceLT, Nat.reduceDiv, Nat.reduceMod, Nat.reduceLeDiff, mp_code, cl_in, toL_le, hx]
set_option maxHeartbeats 4000000 in
theorem cl_count_idle {w : Nat} (hw : w < 3) (h9 : F 9 = nI 0) : Cl 134 [.ref 149, .int (nI w)] (mpic b F A L) nx = some ((mpic b (up1 F 0 (nI 0)) A L, nx, 0, 0), .inl (some (.int (nI 0)))) := by
  refine Cl_of (x := mnI_X8_count) rfl ?_
  show Ev 134 0 [some (.ref 149), some (.int (nI w)), none, none, none] [] _ _
  have h1 := in0 (show w ≤ 2 by omega) (by omega)
  have c9 : up1 F 0 (nI 0) 9 = nI 0 := h9
  simp (disch := first | omega | (simp only [cat_i, cat_r, ri_r, ri_0]; done)) only [eX8_count_0, eX8_count_1, eX8_count_2, eX8_count_5, eX8_count_6, eX8_count_7, eX8_count_8, eX8_count_9, eX8_count_12, eX8_count_15, eX8_count_16, eX8_count_17, eX8_count_18, eX8_count_21, eX8_count_24, eX8_count_25, eX8_count_26, eX8_count_27, eX8_count_28, eX8_count_31, eX8_count_32, eX8_count_35, eX8_count_36, eX8_count_37, eX8_count_38, eX8_count_39, eX8_count_40, eX8_count_41, eX8_count_43, eX8_count_46, eX8_count_47, eX8_count_50, eX8_count_51, eX8_count_52, eX8_count_55, eX8_count_58, eX8_count_59, eX8_count_60, eX8_count_63, eX8_count_64, eX8_count_67, eX8_count_68, eX8_count_69, eX8_count_70, eX8_count_71, eX8_count_73, eX8_count_75, eX8_count_77, eX8_count_80, eX8_count_81, eX8_count_82, eX8_count_85, eX8_count_86, eX8_count_87, eX8_count_90, eX8_count_91, eX8_count_92, eX8_count_94, eX8_count_95, eX8_count_96, eX8_count_97, eX8_count_98, eX8_count_99, eX8_count_102, eX8_count_105, eX8_count_108, eX8_count_111, eX8_count_112, ↓reduceIte, Evk_some, Evh_some, Evn_some, Evr_v, Evr_n, mk_i, mk_r, mk_0, mk_n, mk_l, mc0, mc1, mc2, mc3, mc4, mi_obj, Bool.and_self, Bool.true_and, Nat.add_zero, Nat.zero_add, nI_add, pk_mul, pk_sub, Nat.add_sub_cancel, eq_self, if_true, if_false, n10, bI_t, bI_f, bI_0, Nat.reduceAdd, Nat.reduceMul, Nat.reduceSub, nI_eq, nI_ltI, Nat.reduceEqDiff, Nat.reduceLT, Nat.reduceDiv, Nat.reduceMod, Nat.reduceLeDiff, mp_code, cl_in, toL_le, h1, mg_runs, c9, Bool.true_eq_false]
set_option maxHeartbeats 4000000 in
theorem cl_count_2 (h9 : F 9 = nI 1) : Cl 134 [.ref 149, .int (nI 2)] (mpic b F A L) nx = some ((mpic b (up1 F 0 (nI 0)) A L, nx, 0, 0), .inl (some (.int (F 13)))) := by
  refine Cl_of (x := mnI_X8_count) rfl ?_
  show Ev 134 0 [some (.ref 149), some (.int (nI 2)), none, none, none] [] _ _
  have h1 := in0 (show 2 ≤ 2 by omega) (by omega)
  have c9 : up1 F 0 (nI 0) 9 = nI 1 := h9
  have c13 : up1 F 0 (nI 0) 13 = F 13 := rfl
  simp (disch := first | omega | (simp only [cat_i, cat_r, ri_r, ri_0]; done)) only [eX8_count_0, eX8_count_1, eX8_count_2, eX8_count_5, eX8_count_6, eX8_count_7, eX8_count_8, eX8_count_9, eX8_count_12, eX8_count_15, eX8_count_16, eX8_count_17, eX8_count_18, eX8_count_21, eX8_count_24, eX8_count_25, eX8_count_26, eX8_count_27, eX8_count_28, eX8_count_31, eX8_count_32, eX8_count_35, eX8_count_36, eX8_count_37, eX8_count_38, eX8_count_39, eX8_count_40, eX8_count_41, eX8_count_43, eX8_count_46, eX8_count_47, eX8_count_50, eX8_count_51, eX8_count_52, eX8_count_55, eX8_count_58, eX8_count_59, eX8_count_60, eX8_count_63, eX8_count_64, eX8_count_67, eX8_count_68, eX8_count_69, eX8_count_70, eX8_count_71, eX8_count_73, eX8_count_75, eX8_count_77, eX8_count_80, eX8_count_81, eX8_count_82, eX8_count_85, eX8_count_86, eX8_count_87, eX8_count_90, eX8_count_91, eX8_count_92, eX8_count_94, eX8_count_95, eX8_count_96, eX8_count_97, eX8_count_98, eX8_count_99, eX8_count_102, eX8_count_105, eX8_count_108, eX8_count_111, eX8_count_112, ↓reduceIte, Evk_some, Evh_some, Evn_some, Evr_v, Evr_n, mk_i, mk_r, mk_0, mk_n, mk_l, mc0, mc1, mc2, mc3, mc4, mi_obj, Bool.and_self, Bool.true_and, Nat.add_zero, Nat.zero_add, nI_add, pk_mul, pk_sub, Nat.add_sub_cancel, eq_self, if_true, if_false, n10, bI_t, bI_f, bI_0, Nat.reduceAdd, Nat.reduceMul, Nat.reduceSub, nI_eq, nI_ltI, Nat.reduceEqDiff, Nat.reduceLT, Nat.reduceDiv, Nat.reduceMod, Nat.reduceLeDiff, mp_code, cl_in, toL_le, h1, mg_runs, c9, Bool.true_eq_false, mg_brought, c13]
def usd (A : Nat → Nat → Int32) (x : Nat) : Bool := decide (A 29 x = nI 1)
def cnU (A : Nat → Nat → Int32) (k : Nat) : Nat := ((List.range k).filter (usd A)).length
theorem cnU_s {k : Nat} : cnU A (k + 1) = cnU A k + (if usd A k = true then 1 else 0) := by
  unfold cnU
  rw [List.range_succ, List.filter_append, List.length_append]
  by_cases h : usd A k = true <;> simp [h]
def smW (A : Nat → Nat → Int32) (w : Nat → Nat) : Nat → Nat
  | 0 => 0
  | k + 1 => smW A w k + (if usd A k = true then cntB (w k) 12 else 0)
set_option maxHeartbeats 4000000 in
theorem ev_count0 (hB : ∀ x, x < 40 → A 29 x = nI 0 ∨ A 29 x = nI 1) {c4 : Option Value} : ∀ (j k : Nat) (c4 : Option Value), k + j = 40 → Ev 134 40 [some (.ref 149), some (.int (nI 0)), some (.int (nI (cnU A k))), some (.int (nI k)), c4] [] (mpic b F A L, nx, 0, 0) ((mpic b F A L, nx, 0, 0), .inl (some (.int (nI (cnU A 40))))) := by
  intro j
  induction j with
  | zero =>
    intro k c4 hk
    have hk : k = 40 := by omega
    subst hk
    refine eX8_count_40.mpr ?_
    simp (disch := first | omega | (simp only [cat_i, cat_r, ri_r, ri_0]; done)) only [eX8_count_0, eX8_count_1, eX8_count_2, eX8_count_5, eX8_count_6, eX8_count_7, eX8_count_8, eX8_count_9, eX8_count_12, eX8_count_15, eX8_count_16, eX8_count_17, eX8_count_18, eX8_count_21, eX8_count_24, eX8_count_25, eX8_count_26, eX8_count_27, eX8_count_28, eX8_count_31, eX8_count_32, eX8_count_35, eX8_count_36, eX8_count_37, eX8_count_38, eX8_count_39, eX8_count_41, eX8_count_43, eX8_count_46, eX8_count_47, eX8_count_50, eX8_count_51, eX8_count_52, eX8_count_55, eX8_count_58, eX8_count_59, eX8_count_60, eX8_count_63, eX8_count_64, eX8_count_67, eX8_count_68, eX8_count_69, eX8_count_70, eX8_count_71, eX8_count_73, eX8_count_75, eX8_count_77, eX8_count_80, eX8_count_81, eX8_count_82, eX8_count_85, eX8_count_86, eX8_count_87, eX8_count_90, eX8_count_91, eX8_count_92, eX8_count_94, eX8_count_95, eX8_count_96, eX8_count_97, eX8_count_98, eX8_count_99, eX8_count_102, eX8_count_105, eX8_count_108, eX8_count_111, eX8_count_112, ↓reduceIte, Evk_some, Evh_some, Evn_some, Evr_v, Evr_n, mk_i, mk_r, mk_0, mk_n, mk_l, mc0, mc1, mc2, mc3, mc4, mi_obj, Bool.and_self, Bool.true_and, Nat.add_zero, Nat.zero_add, nI_add, pk_mul, pk_sub, Nat.add_sub_cancel, eq_self, if_true, if_false, n10, bI_t, bI_f, bI_0, Nat.reduceAdd, Nat.reduceMul, Nat.reduceSub, nI_eq, nI_ltI, nI_leI, Nat.reduceEqDiff, Nat.reduceLT, Nat.reduceDiv, Nat.reduceMod, Nat.reduceLeDiff]
  | succ j ih =>
    intro k c4 hk
    have hq : ¬ 40 ≤ k := by omega
    refine eX8_count_40.mpr ?_
    rcases hB k (by omega) with h | h
    · have hu : usd A k = false := by unfold usd; rw [h]; rfl
      have i := ih (k + 1) c4 (by omega)
      rw [cnU_s, hu] at i
      simp (disch := first | omega | (simp only [cat_i, cat_r, ri_r, ri_0]; done)) only [eX8_count_0, eX8_count_1, eX8_count_2, eX8_count_5, eX8_count_6, eX8_count_7, eX8_count_8, eX8_count_9, eX8_count_12, eX8_count_15, eX8_count_16, eX8_count_17, eX8_count_18, eX8_count_21, eX8_count_24, eX8_count_25, eX8_count_26, eX8_count_27, eX8_count_28, eX8_count_31, eX8_count_32, eX8_count_35, eX8_count_36, eX8_count_37, eX8_count_38, eX8_count_39, eX8_count_41, eX8_count_43, eX8_count_46, eX8_count_47, eX8_count_50, eX8_count_51, eX8_count_52, eX8_count_55, eX8_count_58, eX8_count_59, eX8_count_60, eX8_count_63, eX8_count_64, eX8_count_67, eX8_count_68, eX8_count_69, eX8_count_70, eX8_count_71, eX8_count_73, eX8_count_75, eX8_count_77, eX8_count_80, eX8_count_81, eX8_count_82, eX8_count_85, eX8_count_86, eX8_count_87, eX8_count_90, eX8_count_91, eX8_count_92, eX8_count_94, eX8_count_95, eX8_count_96, eX8_count_97, eX8_count_98, eX8_count_99, eX8_count_102, eX8_count_105, eX8_count_108, eX8_count_111, eX8_count_112, ↓reduceIte, Evk_some, Evh_some, Evn_some, Evr_v, Evr_n, mk_i, mk_r, mk_0, mk_n, mk_l, mc0, mc1, mc2, mc3, mc4, mi_obj, Bool.and_self, Bool.true_and, Nat.add_zero, Nat.zero_add, nI_add, pk_mul, pk_sub, Nat.add_sub_cancel, eq_self, if_true, if_false, n10, bI_t, bI_f, bI_0, Nat.reduceAdd, Nat.reduceMul, Nat.reduceSub, nI_eq, nI_ltI, nI_leI, Nat.reduceEqDiff, Nat.reduceLT, Nat.reduceDiv, Nat.reduceMod, Nat.reduceLeDiff, hq, mg_used, ml_used, h]
      exact i
    · have hu : usd A k = true := by unfold usd; rw [h]; rfl
      have i := ih (k + 1) (some (.int (nI 0))) (by omega)
      rw [cnU_s, hu, if_pos rfl] at i
      simp (disch := first | omega | (simp only [cat_i, cat_r, ri_r, ri_0]; done)) only [eX8_count_0, eX8_count_1, eX8_count_2, eX8_count_5, eX8_count_6, eX8_count_7, eX8_count_8, eX8_count_9, eX8_count_12, eX8_count_15, eX8_count_16, eX8_count_17, eX8_count_18, eX8_count_21, eX8_count_24, eX8_count_25, eX8_count_26, eX8_count_27, eX8_count_28, eX8_count_31, eX8_count_32, eX8_count_35, eX8_count_36, eX8_count_37, eX8_count_38, eX8_count_39, eX8_count_41, eX8_count_43, eX8_count_46, eX8_count_47, eX8_count_50, eX8_count_51, eX8_count_52, eX8_count_55, eX8_count_58, eX8_count_59, eX8_count_60, eX8_count_63, eX8_count_64, eX8_count_67, eX8_count_68, eX8_count_69, eX8_count_70, eX8_count_71, eX8_count_73, eX8_count_75, eX8_count_77, eX8_count_80, eX8_count_81, eX8_count_82, eX8_count_85, eX8_count_86, eX8_count_87, eX8_count_90, eX8_count_91, eX8_count_92, eX8_count_94, eX8_count_95, eX8_count_96, eX8_count_97, eX8_count_98, eX8_count_99, eX8_count_102, eX8_count_105, eX8_count_108, eX8_count_111, eX8_count_112, ↓reduceIte, Evk_some, Evh_some, Evn_some, Evr_v, Evr_n, mk_i, mk_r, mk_0, mk_n, mk_l, mc0, mc1, mc2, mc3, mc4, mi_obj, Bool.and_self, Bool.true_and, Nat.add_zero, Nat.zero_add, nI_add, pk_mul, pk_sub, Nat.add_sub_cancel, eq_self, if_true, if_false, n10, bI_t, bI_f, bI_0, Nat.reduceAdd, Nat.reduceMul, Nat.reduceSub, nI_eq, nI_ltI, nI_leI, Nat.reduceEqDiff, Nat.reduceLT, Nat.reduceDiv, Nat.reduceMod, Nat.reduceLeDiff, hq, mg_used, ml_used, h]
      exact i
set_option maxHeartbeats 4000000 in
theorem cl_count_0 (h9 : F 9 = nI 1) (hB : ∀ x, x < 40 → A 29 x = nI 0 ∨ A 29 x = nI 1) : Cl 134 [.ref 149, .int (nI 0)] (mpic b F A L) nx = some ((mpic b (up1 F 0 (nI 0)) A L, nx, 0, 0), .inl (some (.int (nI (cnU A 40))))) := by
  refine Cl_of (x := mnI_X8_count) rfl ?_
  show Ev 134 0 [some (.ref 149), some (.int (nI 0)), none, none, none] [] _ _
  have h1 : (decide (nI 0 ≤ nI 0) && decide (nI 0 ≤ nI 2)) = true := by decide
  have c9 : up1 F 0 (nI 0) 9 = nI 1 := h9
  simp (disch := first | omega | (simp only [cat_i, cat_r, ri_r, ri_0]; done)) only [eX8_count_0, eX8_count_1, eX8_count_2, eX8_count_5, eX8_count_6, eX8_count_7, eX8_count_8, eX8_count_9, eX8_count_12, eX8_count_15, eX8_count_16, eX8_count_17, eX8_count_18, eX8_count_21, eX8_count_24, eX8_count_25, eX8_count_26, eX8_count_27, eX8_count_28, eX8_count_31, eX8_count_32, eX8_count_35, eX8_count_36, eX8_count_37, eX8_count_38, eX8_count_39, ↓reduceIte, Evk_some, Evh_some, Evn_some, Evr_v, Evr_n, mk_i, mk_r, mk_0, mk_n, mk_l, mc0, mc1, mc2, mc3, mc4, mi_obj, Bool.and_self, Bool.true_and, Nat.add_zero, Nat.zero_add, nI_add, pk_mul, pk_sub, Nat.add_sub_cancel, eq_self, if_true, if_false, n10, bI_t, bI_f, bI_0, Nat.reduceAdd, Nat.reduceMul, Nat.reduceSub, nI_eq, nI_ltI, Nat.reduceEqDiff, Nat.reduceLT, Nat.reduceDiv, Nat.reduceMod, Nat.reduceLeDiff, mp_code, cl_in, toL_le, h1, mg_runs, c9, Bool.true_eq_false]
  exact ev_count0 (c4 := none) hB 40 0 none (by omega)
theorem bt_v {w c : Nat} (hw : w < 4096) (hc : c < 12) : (nI w >>> (nI c &&& 31)) &&& nI 1 = nI (if w.testBit c = true then 1 else 0) := by
  obtain ⟨h1, h2⟩ := sh31 c (by omega)
  rw [h1, pk_shrN (by omega) _ c h2, pk_andN (by have := Nat.div_le_self w (2 ^ c); omega) 1 (by decide)]
  rw [Nat.testBit_eq_decide_div_mod_eq]
  rcases Nat.mod_two_eq_zero_or_one (w / 2 ^ c) with h | h <;> simp [h]
set_option maxHeartbeats 4000000 in
theorem ev_count1 {w s a : Nat} (hw : w < 4096) (hs : s < 40) (h31 : A 31 s = nI w) : ∀ (j c : Nat), c + j = 12 → ∀ r : mn_Res, Ev 134 73 [some (.ref 149), some (.int (nI 1)), some (.int (nI (a + cntB w c))), some (.int (nI s)), some (.int (nI c))] [] (mpic b F A L, nx, 0, 0) r ↔ Ev 134 105 [some (.ref 149), some (.int (nI 1)), some (.int (nI (a + cntB w 12))), some (.int (nI s)), some (.int (nI 12))] [] (mpic b F A L, nx, 0, 0) r := by
  intro j
  induction j with
  | zero =>
    intro c hc r
    have hc : c = 12 := by omega
    subst hc
    refine eX8_count_73.trans ?_
    simp (disch := first | omega | (simp only [cat_i, cat_r, ri_r, ri_0]; done)) only [eX8_count_75, eX8_count_77, ↓reduceIte, Evk_some, Evh_some, Evn_some, Evr_v, Evr_n, mk_i, mk_r, mk_0, mk_n, mk_l, mc0, mc1, mc2, mc3, mc4, mi_obj, Bool.and_self, Bool.true_and, Nat.add_zero, Nat.zero_add, nI_add, pk_mul, pk_sub, Nat.add_sub_cancel, eq_self, if_true, if_false, n10, bI_t, bI_f, bI_0, Nat.reduceAdd, Nat.reduceMul, Nat.reduceSub, nI_eq, nI_ltI, nI_leI, Nat.reduceEqDiff, Nat.reduceLT, Nat.reduceDiv, Nat.reduceMod, Nat.reduceLeDiff]
  | succ j ih =>
    intro c hc r
    have hq : ¬ 12 ≤ c := by omega
    refine Iff.trans ?_ (ih (c + 1) (by omega) r)
    refine eX8_count_73.trans ?_
    rw [cntB_succ, ← Nat.add_assoc]
    simp (disch := first | omega | (simp only [cat_i, cat_r, ri_r, ri_0]; done)) only [eX8_count_75, eX8_count_77, eX8_count_80, eX8_count_81, eX8_count_82, eX8_count_85, eX8_count_86, eX8_count_87, eX8_count_90, eX8_count_91, eX8_count_92, eX8_count_94, eX8_count_95, eX8_count_96, eX8_count_97, eX8_count_98, eX8_count_99, eX8_count_102, ↓reduceIte, Evk_some, Evh_some, Evn_some, Evr_v, Evr_n, mk_i, mk_r, mk_0, mk_n, mk_l, mc0, mc1, mc2, mc3, mc4, mi_obj, Bool.and_self, Bool.true_and, Nat.add_zero, Nat.zero_add, nI_add, pk_mul, pk_sub, Nat.add_sub_cancel, eq_self, if_true, if_false, n10, bI_t, bI_f, bI_0, Nat.reduceAdd, Nat.reduceMul, Nat.reduceSub, nI_eq, nI_ltI, nI_leI, Nat.reduceEqDiff, Nat.reduceLT, Nat.reduceDiv, Nat.reduceMod, Nat.reduceLeDiff, hq, mg_written, ml_written, h31, bt_v hw (show c < 12 by omega)]
set_option maxHeartbeats 4000000 in
theorem ev_count2 {w : Nat → Nat} (hB : ∀ x, x < 40 → A 29 x = nI 0 ∨ (A 29 x = nI 1 ∧ A 31 x = nI (w x) ∧ w x < 4096)) : ∀ (j k : Nat) (c4 : Option Value), k + j = 40 → Ev 134 40 [some (.ref 149), some (.int (nI 1)), some (.int (nI (smW A w k))), some (.int (nI k)), c4] [] (mpic b F A L, nx, 0, 0) ((mpic b F A L, nx, 0, 0), .inl (some (.int (nI (smW A w 40))))) := by
  intro j
  induction j with
  | zero =>
    intro k c4 hk
    have hk : k = 40 := by omega
    subst hk
    refine eX8_count_40.mpr ?_
    simp (disch := first | omega | (simp only [cat_i, cat_r, ri_r, ri_0]; done)) only [eX8_count_0, eX8_count_1, eX8_count_2, eX8_count_5, eX8_count_6, eX8_count_7, eX8_count_8, eX8_count_9, eX8_count_12, eX8_count_15, eX8_count_16, eX8_count_17, eX8_count_18, eX8_count_21, eX8_count_24, eX8_count_25, eX8_count_26, eX8_count_27, eX8_count_28, eX8_count_31, eX8_count_32, eX8_count_35, eX8_count_36, eX8_count_37, eX8_count_38, eX8_count_39, eX8_count_41, eX8_count_43, eX8_count_46, eX8_count_47, eX8_count_50, eX8_count_51, eX8_count_52, eX8_count_55, eX8_count_58, eX8_count_59, eX8_count_60, eX8_count_63, eX8_count_64, eX8_count_67, eX8_count_68, eX8_count_69, eX8_count_70, eX8_count_71, eX8_count_73, eX8_count_75, eX8_count_77, eX8_count_80, eX8_count_81, eX8_count_82, eX8_count_85, eX8_count_86, eX8_count_87, eX8_count_90, eX8_count_91, eX8_count_92, eX8_count_94, eX8_count_95, eX8_count_96, eX8_count_97, eX8_count_98, eX8_count_99, eX8_count_102, eX8_count_105, eX8_count_108, eX8_count_111, eX8_count_112, ↓reduceIte, Evk_some, Evh_some, Evn_some, Evr_v, Evr_n, mk_i, mk_r, mk_0, mk_n, mk_l, mc0, mc1, mc2, mc3, mc4, mi_obj, Bool.and_self, Bool.true_and, Nat.add_zero, Nat.zero_add, nI_add, pk_mul, pk_sub, Nat.add_sub_cancel, eq_self, if_true, if_false, n10, bI_t, bI_f, bI_0, Nat.reduceAdd, Nat.reduceMul, Nat.reduceSub, nI_eq, nI_ltI, nI_leI, Nat.reduceEqDiff, Nat.reduceLT, Nat.reduceDiv, Nat.reduceMod, Nat.reduceLeDiff]
  | succ j ih =>
    intro k c4 hk
    have hq : ¬ 40 ≤ k := by omega
    refine eX8_count_40.mpr ?_
    rcases hB k (by omega) with h | ⟨h, h31, hw⟩
    · have hu : usd A k = false := by unfold usd; rw [h]; rfl
      have i := ih (k + 1) c4 (by omega)
      unfold smW at i
      rw [hu] at i
      simp (disch := first | omega | (simp only [cat_i, cat_r, ri_r, ri_0]; done)) only [eX8_count_0, eX8_count_1, eX8_count_2, eX8_count_5, eX8_count_6, eX8_count_7, eX8_count_8, eX8_count_9, eX8_count_12, eX8_count_15, eX8_count_16, eX8_count_17, eX8_count_18, eX8_count_21, eX8_count_24, eX8_count_25, eX8_count_26, eX8_count_27, eX8_count_28, eX8_count_31, eX8_count_32, eX8_count_35, eX8_count_36, eX8_count_37, eX8_count_38, eX8_count_39, eX8_count_41, eX8_count_43, eX8_count_46, eX8_count_47, eX8_count_50, eX8_count_51, eX8_count_52, eX8_count_55, eX8_count_58, eX8_count_59, eX8_count_60, eX8_count_63, eX8_count_64, eX8_count_67, eX8_count_68, eX8_count_69, eX8_count_70, eX8_count_71, eX8_count_73, eX8_count_75, eX8_count_77, eX8_count_80, eX8_count_81, eX8_count_82, eX8_count_85, eX8_count_86, eX8_count_87, eX8_count_90, eX8_count_91, eX8_count_92, eX8_count_94, eX8_count_95, eX8_count_96, eX8_count_97, eX8_count_98, eX8_count_99, eX8_count_102, eX8_count_105, eX8_count_108, eX8_count_111, eX8_count_112, ↓reduceIte, Evk_some, Evh_some, Evn_some, Evr_v, Evr_n, mk_i, mk_r, mk_0, mk_n, mk_l, mc0, mc1, mc2, mc3, mc4, mi_obj, Bool.and_self, Bool.true_and, Nat.add_zero, Nat.zero_add, nI_add, pk_mul, pk_sub, Nat.add_sub_cancel, eq_self, if_true, if_false, n10, bI_t, bI_f, bI_0, Nat.reduceAdd, Nat.reduceMul, Nat.reduceSub, nI_eq, nI_ltI, nI_leI, Nat.reduceEqDiff, Nat.reduceLT, Nat.reduceDiv, Nat.reduceMod, Nat.reduceLeDiff, hq, mg_used, ml_used, h]
      exact i
    · have hu : usd A k = true := by unfold usd; rw [h]; rfl
      have i := ih (k + 1) (some (.int (nI 12))) (by omega)
      unfold smW at i
      rw [hu, if_pos rfl] at i
      have e := ev_count1 (b := b) (F := F) (L := L) (nx := nx) (a := smW A w k) hw (show k < 40 by omega) h31 12 0 (by omega)
      rw [show cntB (w k) 0 = 0 from rfl, Nat.add_zero] at e
      simp (disch := first | omega | (simp only [cat_i, cat_r, ri_r, ri_0]; done)) only [eX8_count_41, eX8_count_43, eX8_count_46, eX8_count_47, eX8_count_50, eX8_count_51, eX8_count_52, eX8_count_55, eX8_count_58, eX8_count_59, eX8_count_60, eX8_count_63, eX8_count_64, eX8_count_67, eX8_count_68, eX8_count_69, eX8_count_70, eX8_count_71, ↓reduceIte, Evk_some, Evh_some, Evn_some, Evr_v, Evr_n, mk_i, mk_r, mk_0, mk_n, mk_l, mc0, mc1, mc2, mc3, mc4, mi_obj, Bool.and_self, Bool.true_and, Nat.add_zero, Nat.zero_add, nI_add, pk_mul, pk_sub, Nat.add_sub_cancel, eq_self, if_true, if_false, n10, bI_t, bI_f, bI_0, Nat.reduceAdd, Nat.reduceMul, Nat.reduceSub, nI_eq, nI_ltI, nI_leI, Nat.reduceEqDiff, Nat.reduceLT, Nat.reduceDiv, Nat.reduceMod, Nat.reduceLeDiff, hq, mg_used, ml_used, h]
      refine (e _).mpr ?_
      simp (disch := first | omega | (simp only [cat_i, cat_r, ri_r, ri_0]; done)) only [eX8_count_105, eX8_count_108, ↓reduceIte, Evk_some, Evh_some, Evn_some, Evr_v, Evr_n, mk_i, mk_r, mk_0, mk_n, mk_l, mc0, mc1, mc2, mc3, mc4, mi_obj, Bool.and_self, Bool.true_and, Nat.add_zero, Nat.zero_add, nI_add, pk_mul, pk_sub, Nat.add_sub_cancel, eq_self, if_true, if_false, n10, bI_t, bI_f, bI_0, Nat.reduceAdd, Nat.reduceMul, Nat.reduceSub, nI_eq, nI_ltI, nI_leI, Nat.reduceEqDiff, Nat.reduceLT, Nat.reduceDiv, Nat.reduceMod, Nat.reduceLeDiff]
      exact i
set_option maxHeartbeats 4000000 in
theorem cl_count_1 {w : Nat → Nat} (h9 : F 9 = nI 1) (hB : ∀ x, x < 40 → A 29 x = nI 0 ∨ (A 29 x = nI 1 ∧ A 31 x = nI (w x) ∧ w x < 4096)) : Cl 134 [.ref 149, .int (nI 1)] (mpic b F A L) nx = some ((mpic b (up1 F 0 (nI 0)) A L, nx, 0, 0), .inl (some (.int (nI (smW A w 40))))) := by
  refine Cl_of (x := mnI_X8_count) rfl ?_
  show Ev 134 0 [some (.ref 149), some (.int (nI 1)), none, none, none] [] _ _
  have h1 := in0 (show 1 ≤ 2 by omega) (by omega)
  have c9 : up1 F 0 (nI 0) 9 = nI 1 := h9
  simp (disch := first | omega | (simp only [cat_i, cat_r, ri_r, ri_0]; done)) only [eX8_count_0, eX8_count_1, eX8_count_2, eX8_count_5, eX8_count_6, eX8_count_7, eX8_count_8, eX8_count_9, eX8_count_12, eX8_count_15, eX8_count_16, eX8_count_17, eX8_count_18, eX8_count_21, eX8_count_24, eX8_count_25, eX8_count_26, eX8_count_27, eX8_count_28, eX8_count_31, eX8_count_32, eX8_count_35, eX8_count_36, eX8_count_37, eX8_count_38, eX8_count_39, ↓reduceIte, Evk_some, Evh_some, Evn_some, Evr_v, Evr_n, mk_i, mk_r, mk_0, mk_n, mk_l, mc0, mc1, mc2, mc3, mc4, mi_obj, Bool.and_self, Bool.true_and, Nat.add_zero, Nat.zero_add, nI_add, pk_mul, pk_sub, Nat.add_sub_cancel, eq_self, if_true, if_false, n10, bI_t, bI_f, bI_0, Nat.reduceAdd, Nat.reduceMul, Nat.reduceSub, nI_eq, nI_ltI, Nat.reduceEqDiff, Nat.reduceLT, Nat.reduceDiv, Nat.reduceMod, Nat.reduceLeDiff, mp_code, cl_in, toL_le, h1, mg_runs, c9, Bool.true_eq_false]
  exact ev_count2 hB 40 0 none (by omega)
/-- how many of the first k can go on -/
def rdN (f : Nat → Bool) (k : Nat) : Nat := ((List.range k).filter f).length
theorem rdN_s {f : Nat → Bool} {k : Nat} : rdN f (k + 1) = rdN f k + (if f k = true then 1 else 0) := by
  unfold rdN
  rw [List.range_succ, List.filter_append, List.length_append]
  by_cases h : f k = true <;> simp [h]
theorem rdN_le {f : Nat → Bool} {k : Nat} : rdN f k ≤ k := by
  unfold rdN
  exact Nat.le_trans (List.length_filter_le _ _) (by simp)
theorem rdN_mono {f : Nat → Bool} {j : Nat} : ∀ k, rdN f j ≤ rdN f (j + k) := by
  intro k
  induction k with
  | zero => exact Nat.le_refl _
  | succ k ih => rw [← Nat.add_assoc, rdN_s]; omega
set_option maxHeartbeats 4000000 in
theorem ev_choose1 {f : Nat → Bool} {n : Nat} (hn : n ≤ 12) (hF : F 11 = nI n) (hg : ∀ t, t < n → Cl 126 [.ref 149, .int (nI t)] (mpic b F A L) nx = some ((mpic b F A L, nx, 0, 0), .inl (some (.int (bI (f t)))))) {x y : Int32} {c5 : Option Value} : ∀ (j k : Nat), k + j = n → ∀ r : mn_Res, Ev 127 5 [some (.ref 149), some (.int x), some (.int y), some (.int (nI (rdN f k))), some (.int (nI k)), c5] [] (mpic b F A L, nx, 0, 0) r ↔ Ev 127 37 [some (.ref 149), some (.int x), some (.int y), some (.int (nI (rdN f n))), some (.int (nI n)), c5] [] (mpic b F A L, nx, 0, 0) r := by
  intro j
  induction j with
  | zero =>
    intro k hk r
    have hk : k = n := by omega
    subst hk
    refine eX8_choose_5.trans ?_
    simp (disch := first | omega | (simp only [cat_i, cat_r, ri_r, ri_0]; done)) only [eX8_choose_7, eX8_choose_8, eX8_choose_11, ↓reduceIte, Evk_some, Evh_some, Evn_some, Evr_v, Evr_n, mk_i, mk_r, mk_0, mk_n, mk_l, mc0, mc1, mc2, mc3, mc4, mi_obj, Bool.and_self, Bool.true_and, Nat.add_zero, Nat.zero_add, nI_add, pk_mul, pk_sub, Nat.add_sub_cancel, eq_self, if_true, if_false, n10, bI_t, bI_f, bI_0, Nat.reduceAdd, Nat.reduceMul, Nat.reduceSub, nI_eq, nI_ltI, nI_leI, Nat.reduceEqDiff, Nat.reduceLT, Nat.reduceDiv, Nat.reduceMod, Nat.reduceLeDiff, mg_tasks, hF, Nat.le_refl]
  | succ j ih =>
    intro k hk r
    have hq : ¬ n ≤ k := by omega
    have hgk := hg k (by omega)
    refine Iff.trans ?_ (ih (k + 1) (by omega) r)
    refine eX8_choose_5.trans ?_
    rw [rdN_s]
    cases hf : f k with
    | true =>
      rw [hf] at hgk
      simp (disch := first | omega | (simp only [cat_i, cat_r, ri_r, ri_0]; done)) only [eX8_choose_7, eX8_choose_8, eX8_choose_11, eX8_choose_14, eX8_choose_15, eX8_choose_16, eX8_choose_18, eX8_choose_21, eX8_choose_24, eX8_choose_25, eX8_choose_28, eX8_choose_29, eX8_choose_30, eX8_choose_31, eX8_choose_34, ↓reduceIte, Evk_some, Evh_some, Evn_some, Evr_v, Evr_n, mk_i, mk_r, mk_0, mk_n, mk_l, mc0, mc1, mc2, mc3, mc4, mi_obj, Bool.and_self, Bool.true_and, Nat.add_zero, Nat.zero_add, nI_add, pk_mul, pk_sub, Nat.add_sub_cancel, eq_self, if_true, if_false, n10, bI_t, bI_f, bI_0, Nat.reduceAdd, Nat.reduceMul, Nat.reduceSub, nI_eq, nI_ltI, nI_leI, Nat.reduceEqDiff, Nat.reduceLT, Nat.reduceDiv, Nat.reduceMod, Nat.reduceLeDiff, mg_tasks, hF, hq, hgk, Bool.true_eq_false]
    | false =>
      rw [hf] at hgk
      simp (disch := first | omega | (simp only [cat_i, cat_r, ri_r, ri_0]; done)) only [eX8_choose_7, eX8_choose_8, eX8_choose_11, eX8_choose_14, eX8_choose_15, eX8_choose_16, eX8_choose_18, eX8_choose_21, eX8_choose_24, eX8_choose_25, eX8_choose_28, eX8_choose_29, eX8_choose_30, eX8_choose_31, eX8_choose_34, ↓reduceIte, Evk_some, Evh_some, Evn_some, Evr_v, Evr_n, mk_i, mk_r, mk_0, mk_n, mk_l, mc0, mc1, mc2, mc3, mc4, mi_obj, Bool.and_self, Bool.true_and, Nat.add_zero, Nat.zero_add, nI_add, pk_mul, pk_sub, Nat.add_sub_cancel, eq_self, if_true, if_false, n10, bI_t, bI_f, bI_0, Nat.reduceAdd, Nat.reduceMul, Nat.reduceSub, nI_eq, nI_ltI, nI_leI, Nat.reduceEqDiff, Nat.reduceLT, Nat.reduceDiv, Nat.reduceMod, Nat.reduceLeDiff, mg_tasks, hF, hq, hgk, Bool.false_eq_true]
set_option maxHeartbeats 4000000 in
theorem ev_choose2 {f : Nat → Bool} {n t0 : Nat} (hn : n ≤ 12) (hg : ∀ t, t < n → Cl 126 [.ref 149, .int (nI t)] (mpic b F A L) nx = some ((mpic b F A L, nx, 0, 0), .inl (some (.int (bI (f t)))))) (ht : t0 < n) (hf0 : f t0 = true) {x y z : Int32} : ∀ (j t l : Nat), t + j = t0 → l + rdN f t = rdN f t0 → Ev 127 55 [some (.ref 149), some (.int x), some (.int y), some (.int z), some (.int (nI l)), some (.int (nI t))] [] (mpic b F A L, nx, 0, 0) ((mpic b F A L, nx, 0, 0), .inl (some (.int (nI t0)))) := by
  intro j
  induction j with
  | zero =>
    intro t l h1 h2
    have h1 : t = t0 := by omega
    subst h1
    have hl : l = 0 := by omega
    subst hl
    have hgk := hg t ht
    rw [hf0] at hgk
    refine eX8_choose_55.mpr ?_
    simp (disch := first | omega | (simp only [cat_i, cat_r, ri_r, ri_0]; done)) only [eX8_choose_0, eX8_choose_1, eX8_choose_2, eX8_choose_3, eX8_choose_5, eX8_choose_7, eX8_choose_8, eX8_choose_11, eX8_choose_14, eX8_choose_15, eX8_choose_16, eX8_choose_18, eX8_choose_21, eX8_choose_24, eX8_choose_25, eX8_choose_28, eX8_choose_29, eX8_choose_30, eX8_choose_31, eX8_choose_34, eX8_choose_37, eX8_choose_38, eX8_choose_41, eX8_choose_42, eX8_choose_43, eX8_choose_44, eX8_choose_47, eX8_choose_48, eX8_choose_49, eX8_choose_50, eX8_choose_52, eX8_choose_53, eX8_choose_56, eX8_choose_58, eX8_choose_61, eX8_choose_64, eX8_choose_66, eX8_choose_69, eX8_choose_71, eX8_choose_72, eX8_choose_74, eX8_choose_77, eX8_choose_80, eX8_choose_81, eX8_choose_84, eX8_choose_85, eX8_choose_86, eX8_choose_88, eX8_choose_91, eX8_choose_94, eX8_choose_96, ↓reduceIte, Evk_some, Evh_some, Evn_some, Evr_v, Evr_n, mk_i, mk_r, mk_0, mk_n, mk_l, mc0, mc1, mc2, mc3, mc4, mi_obj, Bool.and_self, Bool.true_and, Nat.add_zero, Nat.zero_add, nI_add, pk_mul, pk_sub, Nat.add_sub_cancel, eq_self, if_true, if_false, n10, bI_t, bI_f, bI_0, Nat.reduceAdd, Nat.reduceMul, Nat.reduceSub, nI_eq, nI_ltI, nI_leI, Nat.reduceEqDiff, Nat.reduceLT, Nat.reduceDiv, Nat.reduceMod, Nat.reduceLeDiff, hgk, Bool.true_eq_false, Nat.le_refl]
  | succ j ih =>
    intro t l h1 h2
    have hgk := hg t (by omega)
    have hm := rdN_mono (f := f) (j := t + 1) j
    rw [show t + 1 + j = t0 by omega, rdN_s] at hm
    have hl12 := rdN_le (f := f) (k := t0)
    refine eX8_choose_55.mpr ?_
    cases hf : f t with
    | true =>
      rw [hf] at hgk hm
      rw [if_pos rfl] at hm
      have hl : ¬ l ≤ 0 := by omega
      have i := ih (t + 1) (l - 1) (by omega) (by rw [rdN_s, hf, if_pos rfl]; omega)
      simp (disch := first | omega | (simp only [cat_i, cat_r, ri_r, ri_0]; done)) only [eX8_choose_0, eX8_choose_1, eX8_choose_2, eX8_choose_3, eX8_choose_5, eX8_choose_7, eX8_choose_8, eX8_choose_11, eX8_choose_14, eX8_choose_15, eX8_choose_16, eX8_choose_18, eX8_choose_21, eX8_choose_24, eX8_choose_25, eX8_choose_28, eX8_choose_29, eX8_choose_30, eX8_choose_31, eX8_choose_34, eX8_choose_37, eX8_choose_38, eX8_choose_41, eX8_choose_42, eX8_choose_43, eX8_choose_44, eX8_choose_47, eX8_choose_48, eX8_choose_49, eX8_choose_50, eX8_choose_52, eX8_choose_53, eX8_choose_56, eX8_choose_58, eX8_choose_61, eX8_choose_64, eX8_choose_66, eX8_choose_69, eX8_choose_71, eX8_choose_72, eX8_choose_74, eX8_choose_77, eX8_choose_80, eX8_choose_81, eX8_choose_84, eX8_choose_85, eX8_choose_86, eX8_choose_88, eX8_choose_91, eX8_choose_94, eX8_choose_96, ↓reduceIte, Evk_some, Evh_some, Evn_some, Evr_v, Evr_n, mk_i, mk_r, mk_0, mk_n, mk_l, mc0, mc1, mc2, mc3, mc4, mi_obj, Bool.and_self, Bool.true_and, Nat.add_zero, Nat.zero_add, nI_add, pk_mul, pk_sub, Nat.add_sub_cancel, eq_self, if_true, if_false, n10, bI_t, bI_f, bI_0, Nat.reduceAdd, Nat.reduceMul, Nat.reduceSub, nI_eq, nI_ltI, nI_leI, Nat.reduceEqDiff, Nat.reduceLT, Nat.reduceDiv, Nat.reduceMod, Nat.reduceLeDiff, hgk, Bool.true_eq_false, hl]
      exact i
    | false =>
      rw [hf] at hgk
      have i := ih (t + 1) l (by omega) (by rw [rdN_s, hf]; exact h2)
      simp (disch := first | omega | (simp only [cat_i, cat_r, ri_r, ri_0]; done)) only [eX8_choose_0, eX8_choose_1, eX8_choose_2, eX8_choose_3, eX8_choose_5, eX8_choose_7, eX8_choose_8, eX8_choose_11, eX8_choose_14, eX8_choose_15, eX8_choose_16, eX8_choose_18, eX8_choose_21, eX8_choose_24, eX8_choose_25, eX8_choose_28, eX8_choose_29, eX8_choose_30, eX8_choose_31, eX8_choose_34, eX8_choose_37, eX8_choose_38, eX8_choose_41, eX8_choose_42, eX8_choose_43, eX8_choose_44, eX8_choose_47, eX8_choose_48, eX8_choose_49, eX8_choose_50, eX8_choose_52, eX8_choose_53, eX8_choose_56, eX8_choose_58, eX8_choose_61, eX8_choose_64, eX8_choose_66, eX8_choose_69, eX8_choose_71, eX8_choose_72, eX8_choose_74, eX8_choose_77, eX8_choose_80, eX8_choose_81, eX8_choose_84, eX8_choose_85, eX8_choose_86, eX8_choose_88, eX8_choose_91, eX8_choose_94, eX8_choose_96, ↓reduceIte, Evk_some, Evh_some, Evn_some, Evr_v, Evr_n, mk_i, mk_r, mk_0, mk_n, mk_l, mc0, mc1, mc2, mc3, mc4, mi_obj, Bool.and_self, Bool.true_and, Nat.add_zero, Nat.zero_add, nI_add, pk_mul, pk_sub, Nat.add_sub_cancel, eq_self, if_true, if_false, n10, bI_t, bI_f, bI_0, Nat.reduceAdd, Nat.reduceMul, Nat.reduceSub, nI_eq, nI_ltI, nI_leI, Nat.reduceEqDiff, Nat.reduceLT, Nat.reduceDiv, Nat.reduceMod, Nat.reduceLeDiff, hgk, Nat.sub_zero]
      exact i
theorem cl_choose_last {f : Nat → Bool} {n t0 : Nat} (hn : n ≤ 12) (hF : F 11 = nI n) (hg : ∀ t, t < n → Cl 126 [.ref 149, .int (nI t)] (mpic b F A L) nx = some ((mpic b F A L, nx, 0, 0), .inl (some (.int (bI (f t)))))) (ht : t0 < n) (hf0 : f t0 = true) (h0 : rdN f t0 = rdN f n - 1) {x : Int32} : Cl 127 [.ref 149, .int x, .int (nI 1)] (mpic b F A L) nx = some ((mpic b F A L, nx, 0, 0), .inl (some (.int (nI t0)))) := by
  refine Cl_of (x := mnI_X8_choose) rfl ?_
  show Ev 127 0 [some (.ref 149), some (.int (x)), some (.int (nI 1)), none, none, none] [] _ _
  have e1 := ev_choose1 (b := b) (L := L) (nx := nx) hn hF hg (x := x) (y := nI 1) (c5 := none) n 0 (by omega)
  have e2 := ev_choose2 (b := b) (L := L) (nx := nx) hn hg ht hf0 (x := x) (y := nI 1) (z := nI (rdN f n)) t0 0 (rdN f n - 1) (by omega) (by rw [h0]; rfl)
  have hpos : 1 ≤ rdN f n := by
    have hm := rdN_mono (f := f) (j := t0 + 1) (n - (t0 + 1))
    rw [show t0 + 1 + (n - (t0 + 1)) = n by omega, rdN_s, hf0, if_pos rfl] at hm
    omega
  simp (disch := first | omega | (simp only [cat_i, cat_r, ri_r, ri_0]; done)) only [eX8_choose_0, eX8_choose_1, eX8_choose_2, eX8_choose_3, ↓reduceIte, Evk_some, Evh_some, Evn_some, Evr_v, Evr_n, mk_i, mk_r, mk_0, mk_n, mk_l, mc0, mc1, mc2, mc3, mc4, mi_obj, Bool.and_self, Bool.true_and, Nat.add_zero, Nat.zero_add, nI_add, pk_mul, pk_sub, Nat.add_sub_cancel, eq_self, if_true, if_false, n10, bI_t, bI_f, bI_0, Nat.reduceAdd, Nat.reduceMul, Nat.reduceSub, nI_eq, nI_ltI, nI_leI, Nat.reduceEqDiff, Nat.reduceLT, Nat.reduceDiv, Nat.reduceMod, Nat.reduceLeDiff]
  refine (e1 _).mpr ?_
  simp (disch := first | omega | (simp only [cat_i, cat_r, ri_r, ri_0]; done)) only [eX8_choose_37, eX8_choose_38, eX8_choose_41, eX8_choose_42, eX8_choose_43, eX8_choose_44, eX8_choose_47, eX8_choose_48, eX8_choose_49, eX8_choose_50, eX8_choose_52, eX8_choose_53, ↓reduceIte, Evk_some, Evh_some, Evn_some, Evr_v, Evr_n, mk_i, mk_r, mk_0, mk_n, mk_l, mc0, mc1, mc2, mc3, mc4, mi_obj, Bool.and_self, Bool.true_and, Nat.add_zero, Nat.zero_add, nI_add, pk_mul, pk_sub, Nat.add_sub_cancel, eq_self, if_true, if_false, n10, bI_t, bI_f, bI_0, Nat.reduceAdd, Nat.reduceMul, Nat.reduceSub, nI_eq, nI_ltI, nI_leI, Nat.reduceEqDiff, Nat.reduceLT, Nat.reduceDiv, Nat.reduceMod, Nat.reduceLeDiff]
  exact e2
theorem cl_choose_n {f : Nat → Bool} {n t0 m : Nat} (hn : n ≤ 12) (hF : F 11 = nI n) (hg : ∀ t, t < n → Cl 126 [.ref 149, .int (nI t)] (mpic b F A L) nx = some ((mpic b F A L, nx, 0, 0), .inl (some (.int (bI (f t)))))) (ht : t0 < n) (hf0 : f t0 = true) (hm : m < 2 ^ 31) (h0 : rdN f t0 = m % rdN f n) : Cl 127 [.ref 149, .int (nI m), .int (nI 0)] (mpic b F A L) nx = some ((mpic b F A L, nx, 0, 0), .inl (some (.int (nI t0)))) := by
  refine Cl_of (x := mnI_X8_choose) rfl ?_
  show Ev 127 0 [some (.ref 149), some (.int (nI m)), some (.int (nI 0)), none, none, none] [] _ _
  have e1 := ev_choose1 (b := b) (L := L) (nx := nx) hn hF hg (x := nI m) (y := nI 0) (c5 := none) n 0 (by omega)
  have hpos : 1 ≤ rdN f n := by
    have hm := rdN_mono (f := f) (j := t0 + 1) (n - (t0 + 1))
    rw [show t0 + 1 + (n - (t0 + 1)) = n by omega, rdN_s, hf0, if_pos rfl] at hm
    omega
  have hle := rdN_le (f := f) (k := n)
  have e2 := ev_choose2 (b := b) (L := L) (nx := nx) hn hg ht hf0 (x := nI m) (y := nI 0) (z := nI (rdN f n)) t0 0 (m % rdN f n) (by omega) (by rw [h0]; rfl)
  have hz : ¬ nI (rdN f n) = 0 := nI_ne0 (by omega) (by omega)
  have hr := pk_rem (a := m) (d := rdN f n) hm (by omega) (by omega)
  simp (disch := first | omega | (simp only [cat_i, cat_r, ri_r, ri_0]; done)) only [eX8_choose_0, eX8_choose_1, eX8_choose_2, eX8_choose_3, ↓reduceIte, Evk_some, Evh_some, Evn_some, Evr_v, Evr_n, mk_i, mk_r, mk_0, mk_n, mk_l, mc0, mc1, mc2, mc3, mc4, mi_obj, Bool.and_self, Bool.true_and, Nat.add_zero, Nat.zero_add, nI_add, pk_mul, pk_sub, Nat.add_sub_cancel, eq_self, if_true, if_false, n10, bI_t, bI_f, bI_0, Nat.reduceAdd, Nat.reduceMul, Nat.reduceSub, nI_eq, nI_ltI, nI_leI, Nat.reduceEqDiff, Nat.reduceLT, Nat.reduceDiv, Nat.reduceMod, Nat.reduceLeDiff]
  refine (e1 _).mpr ?_
  simp (disch := first | omega | exact hz) only [eX8_choose_37, eX8_choose_38, eX8_choose_41, eX8_choose_42, eX8_choose_43, eX8_choose_44, eX8_choose_47, eX8_choose_48, eX8_choose_49, ↓reduceIte, Evk_some, Evh_some, Evn_some, Evr_v, Evr_n, mk_i, mk_r, mk_0, mk_n, mk_l, mc0, mc1, mc2, mc3, mc4, mi_obj, Bool.and_self, Bool.true_and, Nat.add_zero, Nat.zero_add, nI_add, Nat.add_sub_cancel, eq_self, if_true, if_false, n10, bI_t, bI_f, bI_0, Nat.reduceAdd, Nat.reduceMul, Nat.reduceSub, nI_eq, nI_ltI, nI_leI, Nat.reduceEqDiff, Nat.reduceLT, Nat.reduceDiv, Nat.reduceMod, Nat.reduceLeDiff, hr]
  simp (disch := first | omega | (simp only [cat_i, cat_r, ri_r, ri_0]; done)) only [eX8_choose_50, eX8_choose_52, eX8_choose_53, ↓reduceIte, Evk_some, Evh_some, Evn_some, Evr_v, Evr_n, mk_i, mk_r, mk_0, mk_n, mk_l, mc0, mc1, mc2, mc3, mc4, mi_obj, Bool.and_self, Bool.true_and, Nat.add_zero, Nat.zero_add, nI_add, pk_mul, pk_sub, Nat.add_sub_cancel, eq_self, if_true, if_false, n10, bI_t, bI_f, bI_0, Nat.reduceAdd, Nat.reduceMul, Nat.reduceSub, nI_eq, nI_ltI, nI_leI, Nat.reduceEqDiff, Nat.reduceLT, Nat.reduceDiv, Nat.reduceMod, Nat.reduceLeDiff]
  exact e2
/-- the loop of step: its ends and one round -/
theorem ev_step_end {t n k : Nat} {on : Bool} (ht : t < 12) (hn : n < 2 ^ 31) (hk : k < 2 ^ 31) (h : on = false ∨ n ≤ k ∨ A 16 t ≠ nI 0) : Ev 124 61 [some (.ref 149), some (.int (nI t)), some (.int (nI n)), some (.int (nI k)), some (.int (bI on))] [] (mpic b F A L, nx, 0, 0) ((mpic b F A L, nx, 0, 0), .inl (some (.int (nI k)))) := by
  cases on with
  | false => simp (disch := first | omega | (simp only [cat_i, cat_r, ri_r, ri_0]; done)) only [eX8_step_0, eX8_step_1, eX8_step_2, eX8_step_5, eX8_step_8, eX8_step_9, eX8_step_10, eX8_step_11, eX8_step_12, eX8_step_15, eX8_step_16, eX8_step_17, eX8_step_20, eX8_step_23, eX8_step_24, eX8_step_27, eX8_step_28, eX8_step_29, eX8_step_30, eX8_step_33, eX8_step_36, eX8_step_39, eX8_step_40, eX8_step_43, eX8_step_44, eX8_step_47, eX8_step_48, eX8_step_51, eX8_step_54, eX8_step_55, eX8_step_56, eX8_step_57, eX8_step_58, eX8_step_59, eX8_step_61, eX8_step_63, eX8_step_66, eX8_step_67, eX8_step_68, eX8_step_71, eX8_step_72, eX8_step_75, eX8_step_76, eX8_step_77, eX8_step_80, eX8_step_81, eX8_step_82, eX8_step_85, eX8_step_88, eX8_step_89, eX8_step_92, eX8_step_93, eX8_step_95, eX8_step_96, eX8_step_97, eX8_step_100, eX8_step_103, eX8_step_106, eX8_step_109, eX8_step_110, ↓reduceIte, Evk_some, Evh_some, Evn_some, Evr_v, Evr_n, mk_i, mk_r, mk_0, mk_n, mk_l, mc0, mc1, mc2, mc3, mc4, mi_obj, Bool.and_self, Bool.true_and, Nat.add_zero, Nat.zero_add, nI_add, pk_mul, pk_sub, Nat.add_sub_cancel, eq_self, if_true, if_false, n10, bI_t, bI_f, bI_0, Nat.reduceAdd, Nat.reduceMul, Nat.reduceSub, nI_eq, nI_ltI, nI_leI, Nat.reduceEqDiff, Nat.reduceLT, Nat.reduceDiv, Nat.reduceMod, Nat.reduceLeDiff]
  | true =>
    have h := h.resolve_left (by simp)
    by_cases hq : n ≤ k
    · simp (disch := first | omega | (simp only [cat_i, cat_r, ri_r, ri_0]; done)) only [eX8_step_0, eX8_step_1, eX8_step_2, eX8_step_5, eX8_step_8, eX8_step_9, eX8_step_10, eX8_step_11, eX8_step_12, eX8_step_15, eX8_step_16, eX8_step_17, eX8_step_20, eX8_step_23, eX8_step_24, eX8_step_27, eX8_step_28, eX8_step_29, eX8_step_30, eX8_step_33, eX8_step_36, eX8_step_39, eX8_step_40, eX8_step_43, eX8_step_44, eX8_step_47, eX8_step_48, eX8_step_51, eX8_step_54, eX8_step_55, eX8_step_56, eX8_step_57, eX8_step_58, eX8_step_59, eX8_step_61, eX8_step_63, eX8_step_66, eX8_step_67, eX8_step_68, eX8_step_71, eX8_step_72, eX8_step_75, eX8_step_76, eX8_step_77, eX8_step_80, eX8_step_81, eX8_step_82, eX8_step_85, eX8_step_88, eX8_step_89, eX8_step_92, eX8_step_93, eX8_step_95, eX8_step_96, eX8_step_97, eX8_step_100, eX8_step_103, eX8_step_106, eX8_step_109, eX8_step_110, ↓reduceIte, Evk_some, Evh_some, Evn_some, Evr_v, Evr_n, mk_i, mk_r, mk_0, mk_n, mk_l, mc0, mc1, mc2, mc3, mc4, mi_obj, Bool.and_self, Bool.true_and, Nat.add_zero, Nat.zero_add, nI_add, pk_mul, pk_sub, Nat.add_sub_cancel, eq_self, if_true, if_false, n10, bI_t, bI_f, bI_0, Nat.reduceAdd, Nat.reduceMul, Nat.reduceSub, nI_eq, nI_ltI, nI_leI, Nat.reduceEqDiff, Nat.reduceLT, Nat.reduceDiv, Nat.reduceMod, Nat.reduceLeDiff, hq, Bool.true_eq_false]
    · have h := h.resolve_left hq
      simp (disch := first | omega | (simp only [cat_i, cat_r, ri_r, ri_0]; done)) only [eX8_step_0, eX8_step_1, eX8_step_2, eX8_step_5, eX8_step_8, eX8_step_9, eX8_step_10, eX8_step_11, eX8_step_12, eX8_step_15, eX8_step_16, eX8_step_17, eX8_step_20, eX8_step_23, eX8_step_24, eX8_step_27, eX8_step_28, eX8_step_29, eX8_step_30, eX8_step_33, eX8_step_36, eX8_step_39, eX8_step_40, eX8_step_43, eX8_step_44, eX8_step_47, eX8_step_48, eX8_step_51, eX8_step_54, eX8_step_55, eX8_step_56, eX8_step_57, eX8_step_58, eX8_step_59, eX8_step_61, eX8_step_63, eX8_step_66, eX8_step_67, eX8_step_68, eX8_step_71, eX8_step_72, eX8_step_75, eX8_step_76, eX8_step_77, eX8_step_80, eX8_step_81, eX8_step_82, eX8_step_85, eX8_step_88, eX8_step_89, eX8_step_92, eX8_step_93, eX8_step_95, eX8_step_96, eX8_step_97, eX8_step_100, eX8_step_103, eX8_step_106, eX8_step_109, eX8_step_110, ↓reduceIte, Evk_some, Evh_some, Evn_some, Evr_v, Evr_n, mk_i, mk_r, mk_0, mk_n, mk_l, mc0, mc1, mc2, mc3, mc4, mi_obj, Bool.and_self, Bool.true_and, Nat.add_zero, Nat.zero_add, nI_add, pk_mul, pk_sub, Nat.add_sub_cancel, eq_self, if_true, if_false, n10, bI_t, bI_f, bI_0, Nat.reduceAdd, Nat.reduceMul, Nat.reduceSub, nI_eq, nI_ltI, nI_leI, Nat.reduceEqDiff, Nat.reduceLT, Nat.reduceDiv, Nat.reduceMod, Nat.reduceLeDiff, hq, mg_state, ml_state, h, Bool.true_eq_false]
theorem ev_step_go {t n k : Nat} {w g : Bool} {F' : Nat → Int32} {A' : Nat → Nat → Int32} {L' : Nat → Nat → Int64} (ht : t < 12) (hn : n < 2 ^ 31) (hk : k < n) (h16 : A 16 t = nI 0) (hw : Cl 116 [.ref 149, .int (nI t)] (mpic b F A L) nx = some ((mpic b F A L, nx, 0, 0), .inl (some (.int (bI w))))) (hg : Cl 125 [.ref 149, .int (nI t)] (mpic b F A L) nx = some ((mpic b F' A' L', nx, 0, 0), .inl (some (.int (bI g))))) : Ev 124 61 [some (.ref 149), some (.int (nI t)), some (.int (nI n)), some (.int (nI k)), some (.int (bI true))] [] (mpic b F A L, nx, 0, 0) r ↔ Ev 124 61 [some (.ref 149), some (.int (nI t)), some (.int (nI n)), some (.int (nI (k + if g = true then 1 else 0))), some (.int (bI !w))] [] (mpic b F' A' L', nx, 0, 0) r := by
  have hq : ¬ n ≤ k := by omega
  refine eX8_step_61.trans ?_
  cases w with
  | true =>
    cases g with
    | true => simp (disch := first | omega | (simp only [cat_i, cat_r, ri_r, ri_0]; done)) only [eX8_step_0, eX8_step_1, eX8_step_2, eX8_step_5, eX8_step_8, eX8_step_9, eX8_step_10, eX8_step_11, eX8_step_12, eX8_step_15, eX8_step_16, eX8_step_17, eX8_step_20, eX8_step_23, eX8_step_24, eX8_step_27, eX8_step_28, eX8_step_29, eX8_step_30, eX8_step_33, eX8_step_36, eX8_step_39, eX8_step_40, eX8_step_43, eX8_step_44, eX8_step_47, eX8_step_48, eX8_step_51, eX8_step_54, eX8_step_55, eX8_step_56, eX8_step_57, eX8_step_58, eX8_step_59, eX8_step_63, eX8_step_66, eX8_step_67, eX8_step_68, eX8_step_71, eX8_step_72, eX8_step_75, eX8_step_76, eX8_step_77, eX8_step_80, eX8_step_81, eX8_step_82, eX8_step_85, eX8_step_88, eX8_step_89, eX8_step_92, eX8_step_93, eX8_step_95, eX8_step_96, eX8_step_97, eX8_step_100, eX8_step_103, eX8_step_106, eX8_step_109, eX8_step_110, ↓reduceIte, Evk_some, Evh_some, Evn_some, Evr_v, Evr_n, mk_i, mk_r, mk_0, mk_n, mk_l, mc0, mc1, mc2, mc3, mc4, mi_obj, Bool.and_self, Bool.true_and, Nat.add_zero, Nat.zero_add, nI_add, pk_mul, pk_sub, Nat.add_sub_cancel, eq_self, if_true, if_false, n10, bI_t, bI_f, bI_0, Nat.reduceAdd, Nat.reduceMul, Nat.reduceSub, nI_eq, nI_ltI, nI_leI, Nat.reduceEqDiff, Nat.reduceLT, Nat.reduceDiv, Nat.reduceMod, Nat.reduceLeDiff, hq, mg_state, ml_state, h16, hw, hg, Bool.true_eq_false, Bool.not_true]
    | false => simp (disch := first | omega | (simp only [cat_i, cat_r, ri_r, ri_0]; done)) only [eX8_step_0, eX8_step_1, eX8_step_2, eX8_step_5, eX8_step_8, eX8_step_9, eX8_step_10, eX8_step_11, eX8_step_12, eX8_step_15, eX8_step_16, eX8_step_17, eX8_step_20, eX8_step_23, eX8_step_24, eX8_step_27, eX8_step_28, eX8_step_29, eX8_step_30, eX8_step_33, eX8_step_36, eX8_step_39, eX8_step_40, eX8_step_43, eX8_step_44, eX8_step_47, eX8_step_48, eX8_step_51, eX8_step_54, eX8_step_55, eX8_step_56, eX8_step_57, eX8_step_58, eX8_step_59, eX8_step_63, eX8_step_66, eX8_step_67, eX8_step_68, eX8_step_71, eX8_step_72, eX8_step_75, eX8_step_76, eX8_step_77, eX8_step_80, eX8_step_81, eX8_step_82, eX8_step_85, eX8_step_88, eX8_step_89, eX8_step_92, eX8_step_93, eX8_step_95, eX8_step_96, eX8_step_97, eX8_step_100, eX8_step_103, eX8_step_106, eX8_step_109, eX8_step_110, ↓reduceIte, Evk_some, Evh_some, Evn_some, Evr_v, Evr_n, mk_i, mk_r, mk_0, mk_n, mk_l, mc0, mc1, mc2, mc3, mc4, mi_obj, Bool.and_self, Bool.true_and, Nat.add_zero, Nat.zero_add, nI_add, pk_mul, pk_sub, Nat.add_sub_cancel, eq_self, if_true, if_false, n10, bI_t, bI_f, bI_0, Nat.reduceAdd, Nat.reduceMul, Nat.reduceSub, nI_eq, nI_ltI, nI_leI, Nat.reduceEqDiff, Nat.reduceLT, Nat.reduceDiv, Nat.reduceMod, Nat.reduceLeDiff, hq, mg_state, ml_state, h16, hw, hg, Bool.true_eq_false, Bool.not_true, Bool.false_eq_true]
  | false =>
    cases g with
    | true => simp (disch := first | omega | (simp only [cat_i, cat_r, ri_r, ri_0]; done)) only [eX8_step_0, eX8_step_1, eX8_step_2, eX8_step_5, eX8_step_8, eX8_step_9, eX8_step_10, eX8_step_11, eX8_step_12, eX8_step_15, eX8_step_16, eX8_step_17, eX8_step_20, eX8_step_23, eX8_step_24, eX8_step_27, eX8_step_28, eX8_step_29, eX8_step_30, eX8_step_33, eX8_step_36, eX8_step_39, eX8_step_40, eX8_step_43, eX8_step_44, eX8_step_47, eX8_step_48, eX8_step_51, eX8_step_54, eX8_step_55, eX8_step_56, eX8_step_57, eX8_step_58, eX8_step_59, eX8_step_63, eX8_step_66, eX8_step_67, eX8_step_68, eX8_step_71, eX8_step_72, eX8_step_75, eX8_step_76, eX8_step_77, eX8_step_80, eX8_step_81, eX8_step_82, eX8_step_85, eX8_step_88, eX8_step_89, eX8_step_92, eX8_step_93, eX8_step_95, eX8_step_96, eX8_step_97, eX8_step_100, eX8_step_103, eX8_step_106, eX8_step_109, eX8_step_110, ↓reduceIte, Evk_some, Evh_some, Evn_some, Evr_v, Evr_n, mk_i, mk_r, mk_0, mk_n, mk_l, mc0, mc1, mc2, mc3, mc4, mi_obj, Bool.and_self, Bool.true_and, Nat.add_zero, Nat.zero_add, nI_add, pk_mul, pk_sub, Nat.add_sub_cancel, eq_self, if_true, if_false, n10, bI_t, bI_f, bI_0, Nat.reduceAdd, Nat.reduceMul, Nat.reduceSub, nI_eq, nI_ltI, nI_leI, Nat.reduceEqDiff, Nat.reduceLT, Nat.reduceDiv, Nat.reduceMod, Nat.reduceLeDiff, hq, mg_state, ml_state, h16, hw, hg, Bool.true_eq_false, Bool.not_false]
    | false => simp (disch := first | omega | (simp only [cat_i, cat_r, ri_r, ri_0]; done)) only [eX8_step_0, eX8_step_1, eX8_step_2, eX8_step_5, eX8_step_8, eX8_step_9, eX8_step_10, eX8_step_11, eX8_step_12, eX8_step_15, eX8_step_16, eX8_step_17, eX8_step_20, eX8_step_23, eX8_step_24, eX8_step_27, eX8_step_28, eX8_step_29, eX8_step_30, eX8_step_33, eX8_step_36, eX8_step_39, eX8_step_40, eX8_step_43, eX8_step_44, eX8_step_47, eX8_step_48, eX8_step_51, eX8_step_54, eX8_step_55, eX8_step_56, eX8_step_57, eX8_step_58, eX8_step_59, eX8_step_63, eX8_step_66, eX8_step_67, eX8_step_68, eX8_step_71, eX8_step_72, eX8_step_75, eX8_step_76, eX8_step_77, eX8_step_80, eX8_step_81, eX8_step_82, eX8_step_85, eX8_step_88, eX8_step_89, eX8_step_92, eX8_step_93, eX8_step_95, eX8_step_96, eX8_step_97, eX8_step_100, eX8_step_103, eX8_step_106, eX8_step_109, eX8_step_110, ↓reduceIte, Evk_some, Evh_some, Evn_some, Evr_v, Evr_n, mk_i, mk_r, mk_0, mk_n, mk_l, mc0, mc1, mc2, mc3, mc4, mi_obj, Bool.and_self, Bool.true_and, Nat.add_zero, Nat.zero_add, nI_add, pk_mul, pk_sub, Nat.add_sub_cancel, eq_self, if_true, if_false, n10, bI_t, bI_f, bI_0, Nat.reduceAdd, Nat.reduceMul, Nat.reduceSub, nI_eq, nI_ltI, nI_leI, Nat.reduceEqDiff, Nat.reduceLT, Nat.reduceDiv, Nat.reduceMod, Nat.reduceLeDiff, hq, mg_state, ml_state, h16, hw, hg, Bool.true_eq_false, Bool.not_false, Bool.false_eq_true]
end MQ
