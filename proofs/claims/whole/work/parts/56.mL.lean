/-! the reference: the checker -/
section ML
variable {b : Nat → Option va_E} {F : Nat → Int32} {A : Nat → Nat → Int32} {L : Nat → Nat → Int64} {nx : Option Nat} {r : mn_Res}
def wi (a : Int32) (n : Nat) : Bool := decide (nI 0 ≤ a) && decide (a < nI n)
/-- is an argument as said: m a merge, o the operation, a the argument, k the place, n the length, nb the blocks -/
def okA (m : Bool) (o : Nat) (a : Int32) (k n nb : Nat) : Bool :=
  if o = 1 then wi a (if m then 3 else 4) else if o = 2 then !m && wi a 4 else if o = 3 ∨ o = 4 then !m && wi a 12 else if o = 11 then !m && wi a n else if o = 12 then wi a n && (!m || decide (nI k < a)) else if o = 13 then !m && wi a nb else if o = 14 ∨ o = 15 then !m else true
theorem wi_le {a : Int32} {n : Nat} (hn : n < 2 ^ 31 - 1) : (decide (nI 0 ≤ a) && decide (a ≤ nI n)) = wi a (n + 1) := by
  unfold wi
  congr 1
  rw [decide_eq_decide, Int32.le_iff_toInt_le, Int32.lt_iff_toInt_lt, nI_toInt (by omega), nI_toInt (by omega)]
  omega
theorem wi_z {a : Int32} {n : Nat} (hn : n < 2 ^ 31) : wi a n = true ↔ ∃ x, x < n ∧ a = nI x := by
  unfold wi
  constructor
  · intro h
    simp only [Bool.and_eq_true, decide_eq_true_eq] at h
    obtain ⟨j, hj, rfl⟩ := nI_of (x := a) (by rw [Int32.not_lt]; exact h.1)
    exact ⟨j, (nI_ltI hj hn).mp h.2, rfl⟩
  · rintro ⟨x, hx, rfl⟩
    simp [nI_leI (show 0 < 2 ^ 31 by omega) (show x < 2 ^ 31 by omega), nI_ltI (show x < 2 ^ 31 by omega) hn, hx]
theorem wi_gt {a : Int32} {k n : Nat} (hk : k + 1 < 2 ^ 31) (hn : n < 2 ^ 31) (h0 : 0 < n) : (decide (nI (k + 1) ≤ a) && decide (a ≤ nI (n - 1))) = (wi a n && decide (nI k < a)) := by
  unfold wi
  by_cases h1 : nI (k + 1) ≤ a
  · have e1 : nI k < a := by
      rw [Int32.lt_iff_toInt_lt, nI_toInt (by omega)]
      rw [Int32.le_iff_toInt_le, nI_toInt (by omega)] at h1
      omega
    have e2 : nI 0 ≤ a := by
      rw [Int32.le_iff_toInt_le, nI_toInt (by omega)]
      rw [Int32.le_iff_toInt_le, nI_toInt (by omega)] at h1
      omega
    simp only [h1, e1, e2, decide_true, Bool.true_and, Bool.and_true]
    rw [decide_eq_decide, Int32.le_iff_toInt_le, Int32.lt_iff_toInt_lt, nI_toInt (by omega), nI_toInt (by omega)]
    omega
  · have e1 : ¬ nI k < a := by
      rw [Int32.lt_iff_toInt_lt, nI_toInt (by omega)]
      rw [Int32.le_iff_toInt_le, nI_toInt (by omega)] at h1
      omega
    simp only [h1, e1, decide_false, Bool.false_and, Bool.and_false]
set_option maxHeartbeats 16000000 in
theorem cl_isArgument {c k o n nb : Nat} {a : Int32} (hc : c < 8) (hk : k < n) (hn : n ≤ 24) (hnb : nb ≤ 6) (h0 : c < 6 → 0 < nb) (h1 : A 5 (24 * c + k) = nI o) (ho : o < 19) (h2 : A 6 (24 * c + k) = a) (h3 : A 4 c = nI n) (h4 : F 1 = nI nb) : Cl 92 [.ref 149, .int (nI c), .int (nI k)] (mpic b F A L) nx = some ((mpic b F A L, nx, 0, 0), .inl (some (.int (bI (okA (decide (6 ≤ c)) o a k n nb))))) := by
  refine Cl_of (x := mnI_X8_isArgument) rfl ?_
  show Ev 92 0 [some (.ref 149), some (.int (nI c)), some (.int (nI k)), none, none, none] [] _ _
  have z1 : ∀ {q : Bool}, (Ev 92 116 [some (.ref 149), some (.int (nI c)), some (.int (nI k)), some (.int (nI o)), some (.int a), some (.int (bI (decide (6 ≤ c))))] [.int (bI q)] (mpic b F A L, nx, 0, 0) ((mpic b F A L, nx, 0, 0), .inl (some (.int (bI q))))) := fun {q} => (eX8_isArgument_116 (bI_z q)).mpr rfl
  have z2 : ∀ {q : Bool}, (Ev 92 136 [some (.ref 149), some (.int (nI c)), some (.int (nI k)), some (.int (nI o)), some (.int a), some (.int (bI (decide (6 ≤ c))))] [.int (bI q)] (mpic b F A L, nx, 0, 0) ((mpic b F A L, nx, 0, 0), .inl (some (.int (bI q))))) := fun {q} => (eX8_isArgument_136 (bI_z q)).mpr rfl
  have z3 : ∀ {q : Bool}, (Ev 92 175 [some (.ref 149), some (.int (nI c)), some (.int (nI k)), some (.int (nI o)), some (.int a), some (.int (bI (decide (6 ≤ c))))] [.int (bI q)] (mpic b F A L, nx, 0, 0) ((mpic b F A L, nx, 0, 0), .inl (some (.int (bI q))))) := fun {q} => (eX8_isArgument_175 (bI_z q)).mpr rfl
  have w2 : (decide (nI 0 ≤ a) && decide (a ≤ nI 2)) = wi a 3 := wi_le (by omega)
  have w3 : (decide (nI 0 ≤ a) && decide (a ≤ nI 3)) = wi a 4 := wi_le (by omega)
  have w11 : (decide (nI 0 ≤ a) && decide (a ≤ nI 11)) = wi a 12 := wi_le (by omega)
  have wn : (decide (nI 0 ≤ a) && decide (a ≤ nI (n - 1))) = wi a n := by rw [wi_le (by omega), show n - 1 + 1 = n by omega]
  have wg : (decide (nI (k + 1) ≤ a) && decide (a ≤ nI (n - 1))) = (wi a n && decide (nI k < a)) := wi_gt (by omega) (by omega) (by omega)
  by_cases h6 : 6 ≤ c
  · have h6' : ¬ c < 6 := by omega
    simp only [h6, decide_true] at z1 z2 z3
    rcases (show o = 0 ∨ o = 1 ∨ o = 2 ∨ o = 3 ∨ o = 4 ∨ o = 5 ∨ o = 6 ∨ o = 7 ∨ o = 8 ∨ o = 9 ∨ o = 10 ∨ o = 11 ∨ o = 12 ∨ o = 13 ∨ o = 14 ∨ o = 15 ∨ o = 16 ∨ o = 17 ∨ o = 18 by omega) with rfl | rfl | rfl | rfl | rfl | rfl | rfl | rfl | rfl | rfl | rfl | rfl | rfl | rfl | rfl | rfl | rfl | rfl | rfl <;> simp (disch := first | omega | (simp only [cat_i, cat_r, ri_r, ri_0]; done)) only [eX8_isArgument_0, eX8_isArgument_1, eX8_isArgument_4, eX8_isArgument_6, eX8_isArgument_7, eX8_isArgument_8, eX8_isArgument_9, eX8_isArgument_10, eX8_isArgument_11, eX8_isArgument_12, eX8_isArgument_13, eX8_isArgument_16, eX8_isArgument_18, eX8_isArgument_19, eX8_isArgument_20, eX8_isArgument_21, eX8_isArgument_22, eX8_isArgument_23, eX8_isArgument_25, eX8_isArgument_26, eX8_isArgument_28, eX8_isArgument_31, eX8_isArgument_32, eX8_isArgument_35, eX8_isArgument_36, eX8_isArgument_38, eX8_isArgument_40, eX8_isArgument_43, eX8_isArgument_44, eX8_isArgument_47, eX8_isArgument_48, eX8_isArgument_49, eX8_isArgument_52, eX8_isArgument_53, eX8_isArgument_54, eX8_isArgument_57, eX8_isArgument_58, eX8_isArgument_60, eX8_isArgument_63, eX8_isArgument_64, eX8_isArgument_66, eX8_isArgument_69, eX8_isArgument_70, eX8_isArgument_72, eX8_isArgument_75, eX8_isArgument_76, eX8_isArgument_78, eX8_isArgument_81, eX8_isArgument_82, eX8_isArgument_84, eX8_isArgument_87, eX8_isArgument_89, eX8_isArgument_90, eX8_isArgument_91, eX8_isArgument_94, eX8_isArgument_95, eX8_isArgument_96, eX8_isArgument_99, eX8_isArgument_101, eX8_isArgument_102, eX8_isArgument_103, eX8_isArgument_105, eX8_isArgument_108, eX8_isArgument_109, eX8_isArgument_112, eX8_isArgument_113, eX8_isArgument_117, eX8_isArgument_118, eX8_isArgument_119, eX8_isArgument_122, eX8_isArgument_123, eX8_isArgument_124, eX8_isArgument_127, eX8_isArgument_129, eX8_isArgument_130, eX8_isArgument_131, eX8_isArgument_133, eX8_isArgument_137, eX8_isArgument_138, eX8_isArgument_140, eX8_isArgument_143, eX8_isArgument_144, eX8_isArgument_146, eX8_isArgument_149, eX8_isArgument_151, eX8_isArgument_152, eX8_isArgument_154, eX8_isArgument_157, eX8_isArgument_158, eX8_isArgument_159, eX8_isArgument_160, eX8_isArgument_163, eX8_isArgument_164, eX8_isArgument_165, eX8_isArgument_168, eX8_isArgument_169, eX8_isArgument_170, eX8_isArgument_171, eX8_isArgument_172, eX8_isArgument_176, eX8_isArgument_177, eX8_isArgument_179, eX8_isArgument_182, eX8_isArgument_184, eX8_isArgument_185, eX8_isArgument_186, eX8_isArgument_187, eX8_isArgument_190, eX8_isArgument_191, eX8_isArgument_192, eX8_isArgument_195, eX8_isArgument_198, eX8_isArgument_199, eX8_isArgument_202, ↓reduceIte, Evk_some, Evh_some, Evn_some, Evr_v, Evr_n, mk_i, mk_r, mk_0, mk_n, mk_l, mc0, mc1, mc2, mc3, mc4, mi_obj, Bool.and_self, Bool.true_and, Nat.add_zero, Nat.zero_add, nI_add, pk_mul, pk_sub, Nat.add_sub_cancel, eq_self, if_true, if_false, n10, bI_t, bI_f, bI_0, Nat.reduceAdd, Nat.reduceMul, Nat.reduceSub, nI_eq, nI_ltI, nI_leI, Nat.reduceEqDiff, Nat.reduceLT, Nat.reduceDiv, Nat.reduceMod, Nat.reduceLeDiff, mg_operation, mg_argument, ml_operation, ml_argument, mg_size, ml_size, mg_blocks, h1, h2, h3, h4, h6, h6', decide_true, Bool.true_eq_false, cl_in, toL_le, w2, w3, w11, wn, wg, okA, Bool.not_true, Bool.false_and, Bool.false_or, or_self, or_true, true_or, or_false, false_or]
    all_goals first
      | exact (eX8_isArgument_88 n0_z).mpr rfl
      | exact (eX8_isArgument_203 n1_z).mpr rfl
      | exact (eX8_isArgument_203 n0_z).mpr rfl
      | exact z1
      | exact z2
      | exact z3
      | skip
  · have h6' : c < 6 := by omega
    have hnb0 := h0 h6'
    have wb : (decide (nI 0 ≤ a) && decide (a ≤ nI (nb - 1))) = wi a nb := by rw [wi_le (by omega), show nb - 1 + 1 = nb by omega]
    simp only [h6, decide_false] at z1 z2 z3
    rcases (show o = 0 ∨ o = 1 ∨ o = 2 ∨ o = 3 ∨ o = 4 ∨ o = 5 ∨ o = 6 ∨ o = 7 ∨ o = 8 ∨ o = 9 ∨ o = 10 ∨ o = 11 ∨ o = 12 ∨ o = 13 ∨ o = 14 ∨ o = 15 ∨ o = 16 ∨ o = 17 ∨ o = 18 by omega) with rfl | rfl | rfl | rfl | rfl | rfl | rfl | rfl | rfl | rfl | rfl | rfl | rfl | rfl | rfl | rfl | rfl | rfl | rfl <;> simp (disch := first | omega | (simp only [cat_i, cat_r, ri_r, ri_0]; done)) only [eX8_isArgument_0, eX8_isArgument_1, eX8_isArgument_4, eX8_isArgument_6, eX8_isArgument_7, eX8_isArgument_8, eX8_isArgument_9, eX8_isArgument_10, eX8_isArgument_11, eX8_isArgument_12, eX8_isArgument_13, eX8_isArgument_16, eX8_isArgument_18, eX8_isArgument_19, eX8_isArgument_20, eX8_isArgument_21, eX8_isArgument_22, eX8_isArgument_23, eX8_isArgument_25, eX8_isArgument_26, eX8_isArgument_28, eX8_isArgument_31, eX8_isArgument_32, eX8_isArgument_35, eX8_isArgument_36, eX8_isArgument_38, eX8_isArgument_40, eX8_isArgument_43, eX8_isArgument_44, eX8_isArgument_47, eX8_isArgument_48, eX8_isArgument_49, eX8_isArgument_52, eX8_isArgument_53, eX8_isArgument_54, eX8_isArgument_57, eX8_isArgument_58, eX8_isArgument_60, eX8_isArgument_63, eX8_isArgument_64, eX8_isArgument_66, eX8_isArgument_69, eX8_isArgument_70, eX8_isArgument_72, eX8_isArgument_75, eX8_isArgument_76, eX8_isArgument_78, eX8_isArgument_81, eX8_isArgument_82, eX8_isArgument_84, eX8_isArgument_87, eX8_isArgument_89, eX8_isArgument_90, eX8_isArgument_91, eX8_isArgument_94, eX8_isArgument_95, eX8_isArgument_96, eX8_isArgument_99, eX8_isArgument_101, eX8_isArgument_102, eX8_isArgument_103, eX8_isArgument_105, eX8_isArgument_108, eX8_isArgument_109, eX8_isArgument_112, eX8_isArgument_113, eX8_isArgument_117, eX8_isArgument_118, eX8_isArgument_119, eX8_isArgument_122, eX8_isArgument_123, eX8_isArgument_124, eX8_isArgument_127, eX8_isArgument_129, eX8_isArgument_130, eX8_isArgument_131, eX8_isArgument_133, eX8_isArgument_137, eX8_isArgument_138, eX8_isArgument_140, eX8_isArgument_143, eX8_isArgument_144, eX8_isArgument_146, eX8_isArgument_149, eX8_isArgument_151, eX8_isArgument_152, eX8_isArgument_154, eX8_isArgument_157, eX8_isArgument_158, eX8_isArgument_159, eX8_isArgument_160, eX8_isArgument_163, eX8_isArgument_164, eX8_isArgument_165, eX8_isArgument_168, eX8_isArgument_169, eX8_isArgument_170, eX8_isArgument_171, eX8_isArgument_172, eX8_isArgument_176, eX8_isArgument_177, eX8_isArgument_179, eX8_isArgument_182, eX8_isArgument_184, eX8_isArgument_185, eX8_isArgument_186, eX8_isArgument_187, eX8_isArgument_190, eX8_isArgument_191, eX8_isArgument_192, eX8_isArgument_195, eX8_isArgument_198, eX8_isArgument_199, eX8_isArgument_202, ↓reduceIte, Evk_some, Evh_some, Evn_some, Evr_v, Evr_n, mk_i, mk_r, mk_0, mk_n, mk_l, mc0, mc1, mc2, mc3, mc4, mi_obj, Bool.and_self, Bool.true_and, Nat.add_zero, Nat.zero_add, nI_add, pk_mul, pk_sub, Nat.add_sub_cancel, eq_self, if_true, if_false, n10, bI_t, bI_f, bI_0, Nat.reduceAdd, Nat.reduceMul, Nat.reduceSub, nI_eq, nI_ltI, nI_leI, Nat.reduceEqDiff, Nat.reduceLT, Nat.reduceDiv, Nat.reduceMod, Nat.reduceLeDiff, mg_operation, mg_argument, ml_operation, ml_argument, mg_size, ml_size, mg_blocks, h1, h2, h3, h4, h6, h6', decide_false, cl_in, toL_le, w2, w3, w11, wn, wg, wb, okA, Bool.not_false, Bool.true_and, Bool.true_or, Bool.and_true, or_self, or_true, true_or, or_false, false_or, Bool.false_eq_true]
    all_goals first
      | exact (eX8_isArgument_88 n0_z).mpr rfl
      | exact (eX8_isArgument_203 n1_z).mpr rfl
      | exact (eX8_isArgument_203 n0_z).mpr rfl
      | exact z1
      | exact z2
      | exact z3
      | skip
    all_goals cases hq : wi a nb with
      | true =>
        simp only [↓reduceIte, Bool.true_eq_false]
        exact (eX8_isArgument_203 n1_z).mpr rfl
      | false =>
        simp only [↓reduceIte]
        exact (eX8_isArgument_203 n0_z).mpr rfl
end ML
