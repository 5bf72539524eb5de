/-! the reference: tidy -/
section MG
variable {b : Nat → Option va_E} {F : Nat → Int32} {A : Nat → Nat → Int32} {L : Nat → Nat → Int64} {nx : Option Nat} {r : mn_Res}
def dI (x : Int32) : Option Nat := if x = -1 then none else some x.toNatClampNeg
theorem dI_oI {o : Option Nat} (h : ∀ y, o = some y → y < 2 ^ 31) : dI (oI o) = o := by
  cases o with
  | none => rfl
  | some y =>
    have := h y rfl
    unfold dI
    rw [oI_s, if_neg (fun q => (nI_m1 this).mp q), nI_clamp this]
def cw (w : Int32) (v : Nat → Int64) : Nat → Option Int64 := fun c => if c < 12 ∧ bt w c = true then some (v c) else none
def gR (A : Nat → Nat → Int32) (L : Nat → Nat → Int64) : FG := fun x => if x < 40 ∧ A 29 x = nI 1 then some (cw (A 31 x) (fun c => L 32 (12 * x + c)), dI (A 30 x)) else none
def WfR (A : Nat → Nat → Int32) : Prop := ∀ x, x < 40 → (A 29 x = nI 0 ∨ A 29 x = nI 1) ∧ (A 29 x = nI 1 → (∃ w, w < 4096 ∧ A 31 x = nI w) ∧ ∃ o, A 30 x = oI o ∧ ∀ y, o = some y → y < 40)
def fr3 (A A' : Nat → Nat → Int32) : Prop := ∀ k, k ≠ 29 → k ≠ 30 → k ≠ 31 → A' k = A k
def frL (L L' : Nat → Nat → Int64) : Prop := ∀ k, k ≠ 32 → L' k = L k
theorem fr3.trans {A A1 A2 : Nat → Nat → Int32} (h : fr3 A A1) (h' : fr3 A1 A2) : fr3 A A2 := fun k a b c => (h' k a b c).trans (h k a b c)
theorem frL.trans {A A1 A2 : Nat → Nat → Int64} (h : frL A A1) (h' : frL A1 A2) : frL A A2 := fun k a => (h' k a).trans (h k a)
theorem gR_some {x : Nat} (h1 : x < 40) (h2 : A 29 x = nI 1) : gR A L x = some (cw (A 31 x) (fun c => L 32 (12 * x + c)), dI (A 30 x)) := if_pos ⟨h1, h2⟩
theorem gR_of {x : Nat} (h : gR A L x ≠ none) : x < 40 ∧ A 29 x = nI 1 := by
  unfold gR at h
  split at h
  · assumption
  · exact absurd rfl h
/-- what lies on s -/
def onB (A : Nat → Nat → Int32) (s x : Nat) : Bool := decide (A 29 x = nI 1) && decide (A 30 x = nI s)
def onL (A : Nat → Nat → Int32) (s k : Nat) : List Nat := (List.range k).filter (onB A s)
theorem onL_succ {s k : Nat} : onL A s (k + 1) = onL A s k ++ (if onB A s k = true then [k] else []) := by
  unfold onL
  rw [List.range_succ, List.filter_append]
  congr 1
  by_cases h : onB A s k = true <;> simp [h]
set_option maxHeartbeats 4000000 in
theorem ev_tidy_on (hw : WfR A) {s : Nat} {c1 : Option Value} : ∀ j k, k + j = 40 → (Ev 107 44 [some (.ref 149), c1, some (.int (nI s)), some (.int (oI (onL A s k).getLast?)), some (.int (nI (onL A s k).length)), some (.int (nI k))] [] (mpic b F A L, nx, 0, 0) r ↔ Ev 107 87 [some (.ref 149), c1, some (.int (nI s)), some (.int (oI (onL A s 40).getLast?)), some (.int (nI (onL A s 40).length)), some (.int (nI 40))] [] (mpic b F A L, nx, 0, 0) r) := by
  intro j
  induction j with
  | zero =>
    intro k hk
    have hk : k = 40 := by omega
    subst hk
    refine eX8_tidy_44.trans ?_
    simp (disch := first | omega | (simp only [cat_i, cat_r, ri_r, ri_0]; done)) only [eX8_tidy_46, eX8_tidy_48, Evk_some, Evh_some, Evn_some, Evr_v, Evr_n, mk_i, mk_r, mk_0, mk_n, mk_l, mc0, mc1, mc2, mc3, mc4, mi_obj, Bool.and_self, Bool.true_and, Nat.add_zero, Nat.zero_add, nI_add, pk_mul, pk_sub, Nat.add_sub_cancel, eq_self, if_true, if_false, n10, bI_t, bI_f, bI_0, Nat.reduceAdd, Nat.reduceMul, Nat.reduceSub, nI_eq, nI_ltI, nI_leI, Nat.reduceEqDiff, Nat.reduceLT, Nat.reduceDiv, Nat.reduceMod, Nat.reduceLeDiff]
  | succ j ih =>
    intro k hk
    have h40 : ¬ 40 ≤ k := by omega
    refine Iff.trans ?_ (ih (k + 1) (by omega))
    refine eX8_tidy_44.trans ?_
    rw [onL_succ]
    rcases (hw k (by omega)).1 with h29 | h29
    · have hb : onB A s k = false := by unfold onB; rw [h29]; rfl
      simp (disch := first | omega | (simp only [cat_i, cat_r, ri_r, ri_0]; done)) only [eX8_tidy_46, eX8_tidy_48, eX8_tidy_51, eX8_tidy_52, eX8_tidy_55, eX8_tidy_57, eX8_tidy_58, eX8_tidy_61, eX8_tidy_62, eX8_tidy_65, eX8_tidy_67, eX8_tidy_68, eX8_tidy_69, eX8_tidy_72, eX8_tidy_75, eX8_tidy_77, eX8_tidy_78, eX8_tidy_81, eX8_tidy_84, Evk_some, Evh_some, Evn_some, Evr_v, Evr_n, mk_i, mk_r, mk_0, mk_n, mk_l, mc0, mc1, mc2, mc3, mc4, mi_obj, Bool.and_self, Bool.true_and, Nat.add_zero, Nat.zero_add, nI_add, pk_mul, pk_sub, Nat.add_sub_cancel, eq_self, if_true, if_false, n10, bI_t, bI_f, bI_0, Nat.reduceAdd, Nat.reduceMul, Nat.reduceSub, nI_eq, nI_ltI, nI_leI, Nat.reduceEqDiff, Nat.reduceLT, Nat.reduceDiv, Nat.reduceMod, Nat.reduceLeDiff, mg_used, ml_used, h29, h40, hb, Bool.false_eq_true, List.append_nil]
    · by_cases h30 : A 30 k = nI s
      · have hb : onB A s k = true := by unfold onB; rw [h29, h30]; simp
        simp (disch := first | omega | (simp only [cat_i, cat_r, ri_r, ri_0]; done)) only [eX8_tidy_46, eX8_tidy_48, eX8_tidy_51, eX8_tidy_52, eX8_tidy_55, eX8_tidy_57, eX8_tidy_58, eX8_tidy_61, eX8_tidy_62, eX8_tidy_65, eX8_tidy_67, eX8_tidy_68, eX8_tidy_69, eX8_tidy_72, eX8_tidy_75, eX8_tidy_77, eX8_tidy_78, eX8_tidy_81, eX8_tidy_84, Evk_some, Evh_some, Evn_some, Evr_v, Evr_n, mk_i, mk_r, mk_0, mk_n, mk_l, mc0, mc1, mc2, mc3, mc4, mi_obj, Bool.and_self, Bool.true_and, Nat.add_zero, Nat.zero_add, nI_add, pk_mul, pk_sub, Nat.add_sub_cancel, eq_self, if_true, if_false, n10, bI_t, bI_f, bI_0, Nat.reduceAdd, Nat.reduceMul, Nat.reduceSub, nI_eq, nI_ltI, nI_leI, Nat.reduceEqDiff, Nat.reduceLT, Nat.reduceDiv, Nat.reduceMod, Nat.reduceLeDiff, mg_used, ml_used, mg_below, ml_below, h29, h30, h40, hb, List.getLast?_append, List.getLast?_singleton, Option.some_or, oI_s, List.length_append, List.length_singleton]
      · have hb : onB A s k = false := by unfold onB; simp [h30]
        simp (disch := first | omega | (simp only [cat_i, cat_r, ri_r, ri_0]; done)) only [eX8_tidy_46, eX8_tidy_48, eX8_tidy_51, eX8_tidy_52, eX8_tidy_55, eX8_tidy_57, eX8_tidy_58, eX8_tidy_61, eX8_tidy_62, eX8_tidy_65, eX8_tidy_67, eX8_tidy_68, eX8_tidy_69, eX8_tidy_72, eX8_tidy_75, eX8_tidy_77, eX8_tidy_78, eX8_tidy_81, eX8_tidy_84, Evk_some, Evh_some, Evn_some, Evr_v, Evr_n, mk_i, mk_r, mk_0, mk_n, mk_l, mc0, mc1, mc2, mc3, mc4, mi_obj, Bool.and_self, Bool.true_and, Nat.add_zero, Nat.zero_add, nI_add, pk_mul, pk_sub, Nat.add_sub_cancel, eq_self, if_true, if_false, n10, bI_t, bI_f, bI_0, Nat.reduceAdd, Nat.reduceMul, Nat.reduceSub, nI_eq, nI_ltI, nI_leI, Nat.reduceEqDiff, Nat.reduceLT, Nat.reduceDiv, Nat.reduceMod, Nat.reduceLeDiff, mg_used, ml_used, mg_below, ml_below, h29, h30, h40, hb, Bool.false_eq_true, List.append_nil]
theorem bt_1 {x : Int32} {c : Nat} : ((x >>> (nI c &&& 31)) &&& nI 1 = nI 1) ↔ bt x c = true := by
  unfold bt
  obtain ⟨j, hj, h⟩ := pk_andE (x >>> (nI c &&& 31)) (m := nI 1) 1 (by decide)
  rw [h]
  rcases (show j = 0 ∨ j = 1 by omega) with rfl | rfl <;> decide
set_option maxHeartbeats 4000000 in
theorem ev_tidy_in {s a ws : Nat} {c1 : Option Value} (hs : s < 40) (ha : a < 40) (hsa : a ≠ s) (hws : ws < 4096) : ∀ (j c : Nat), c + j = 12 → ∀ (A : Nat → Nat → Int32) (L : Nat → Nat → Int64) (wa : Nat), A 31 s = nI ws → A 31 a = nI wa → wa < 4096 →
    ∃ A' L' wa', (∀ k, k ≠ 31 → A' k = A k) ∧ (∀ x, x ≠ a → A' 31 x = A 31 x) ∧ A' 31 a = nI wa' ∧ wa' < 4096 ∧ (∀ d, wa'.testBit d = (wa.testBit d || (decide (c ≤ d) && (decide (d < 12) && ws.testBit d)))) ∧ frL L L' ∧
      (∀ i, (∀ d, d < 12 → i ≠ 12 * a + d) → L' 32 i = L 32 i) ∧ (∀ d, d < 12 → L' 32 (12 * a + d) = if c ≤ d ∧ ws.testBit d = true ∧ wa.testBit d = false then L 32 (12 * s + d) else L 32 (12 * a + d)) ∧
      (∀ r : mn_Res, Ev 107 99 [some (.ref 149), c1, some (.int (nI s)), some (.int (nI a)), some (.int (nI 1)), some (.int (nI c))] [] (mpic b F A L, nx, 0, 0) r ↔ Ev 107 166 [some (.ref 149), c1, some (.int (nI s)), some (.int (nI a)), some (.int (nI 1)), some (.int (nI 12))] [] (mpic b F A' L', nx, 0, 0) r) := by
  intro j
  induction j with
  | zero =>
    intro c hc A L wa hs31 ha31 hwa
    have hc : c = 12 := by omega
    subst hc
    refine ⟨A, L, wa, fun _ _ => rfl, fun _ _ => rfl, ha31, hwa, fun d => ?_, fun _ _ => rfl, fun _ _ => rfl, fun d hd => ?_, ?_⟩
    · by_cases h : 12 ≤ d
      · have : ¬ d < 12 := by omega
        simp [this]
      · simp [h]
    · rw [if_neg (by omega)]
    · intro r
      refine eX8_tidy_99.trans ?_
      simp (disch := first | omega | (simp only [cat_i, cat_r, ri_r, ri_0]; done)) only [eX8_tidy_101, eX8_tidy_103, Evk_some, Evh_some, Evn_some, Evr_v, Evr_n, mk_i, mk_r, mk_0, mk_n, mk_l, mc0, mc1, mc2, mc3, mc4, mi_obj, Bool.and_self, Bool.true_and, Nat.add_zero, Nat.zero_add, nI_add, pk_mul, pk_sub, Nat.add_sub_cancel, eq_self, if_true, if_false, n10, bI_t, bI_f, bI_0, Nat.reduceAdd, Nat.reduceMul, Nat.reduceSub, nI_eq, nI_ltI, nI_leI, Nat.reduceEqDiff, Nat.reduceLT, Nat.reduceDiv, Nat.reduceMod, Nat.reduceLeDiff]
  | succ j ih =>
    intro c hc A L wa hs31 ha31 hwa
    have h12 : ¬ 12 ≤ c := by omega
    have b1 : bt (nI ws) c = ws.testBit c := bt_nI (by omega) (by omega)
    have b2 : bt (nI wa) c = wa.testBit c := bt_nI (by omega) (by omega)
    by_cases hq : ws.testBit c = true ∧ wa.testBit c = false
    · obtain ⟨q1, q2⟩ := hq
      have hw2 : wa ||| 2 ^ c < 4096 := Nat.or_lt_two_pow (n := 12) hwa (Nat.pow_lt_pow_right (by decide) (by omega))
      obtain ⟨A', L', wa', k1, k2, k3, k4, k5, k6, k7, k8, k9⟩ := ih (c + 1) (by omega) (up2 A 31 a (nI (wa ||| 2 ^ c))) (upL L 32 (12 * a + c) (L 32 (12 * s + c))) (wa ||| 2 ^ c) (by rw [up2_o (Ne.symm hsa)]; exact hs31) up2_s hw2
      refine ⟨A', L', wa', fun k hk => (k1 k hk).trans (up2_n hk), fun x hx => (k2 x hx).trans (up2_o hx), k3, k4, fun d => ?_, fun k hk => (k6 k hk).trans (upL_n hk), fun i hi => (k7 i hi).trans (upL_o (hi c (by omega))), fun d hd => ?_, ?_⟩
      · rw [k5, Nat.testBit_or, Nat.testBit_two_pow]
        by_cases hcd : c = d
        · subst hcd
          simp [q1]
          omega
        · by_cases hd : c + 1 ≤ d
          · have : c ≤ d := by omega
            simp [hd, this, hcd]
          · have : ¬ c ≤ d := by omega
            simp [hd, this, hcd]
      · rw [k8 d hd]
        by_cases hcd : d = c
        · subst hcd
          rw [if_neg (by omega), if_pos ⟨Nat.le_refl _, q1, q2⟩, upL_s]
        · rw [upL_o (by omega), upL_o (by omega), Nat.testBit_or, Nat.testBit_two_pow]
          have : decide (c = d) = false := by simp; omega
          rw [this, Bool.or_false]
          by_cases hd2 : c + 1 ≤ d
          · have : c ≤ d := by omega
            simp only [hd2, this]
          · rw [if_neg (fun z => hd2 z.1), if_neg (fun z => hd2 (by omega))]
      · intro r
        refine Iff.trans ?_ (k9 r)
        refine eX8_tidy_99.trans ?_
        simp (disch := first | omega | (simp only [cat_i, cat_r, ri_r, ri_0]; done)) only [eX8_tidy_101, eX8_tidy_103, eX8_tidy_106, eX8_tidy_108, eX8_tidy_109, eX8_tidy_112, eX8_tidy_113, eX8_tidy_116, eX8_tidy_117, eX8_tidy_118, eX8_tidy_120, eX8_tidy_121, eX8_tidy_122, eX8_tidy_123, eX8_tidy_124, eX8_tidy_127, eX8_tidy_128, eX8_tidy_131, eX8_tidy_132, eX8_tidy_133, eX8_tidy_135, eX8_tidy_136, eX8_tidy_137, eX8_tidy_138, eX8_tidy_141, eX8_tidy_142, eX8_tidy_143, eX8_tidy_145, eX8_tidy_146, eX8_tidy_149, eX8_tidy_151, eX8_tidy_152, eX8_tidy_153, eX8_tidy_155, eX8_tidy_156, eX8_tidy_157, eX8_tidy_160, eX8_tidy_163, Evk_some, Evh_some, Evn_some, Evr_v, Evr_n, mk_i, mk_r, mk_0, mk_n, mk_l, mc0, mc1, mc2, mc3, mc4, mi_obj, Bool.and_self, Bool.true_and, Nat.add_zero, Nat.zero_add, nI_add, pk_mul, pk_sub, Nat.add_sub_cancel, eq_self, if_true, if_false, n10, bI_t, bI_f, bI_0, Nat.reduceAdd, Nat.reduceMul, Nat.reduceSub, nI_eq, nI_ltI, nI_leI, Nat.reduceEqDiff, Nat.reduceLT, Nat.reduceDiv, Nat.reduceMod, Nat.reduceLeDiff, mg_written, ml_written, mg_value, ml_value, hs31, ha31, bt_1, bt_0, b1, b2, q1, q2, h12, cl_writeAt ha (show c < 12 by omega) hwa ha31]
    · obtain ⟨A', L', wa', k1, k2, k3, k4, k5, k6, k7, k8, k9⟩ := ih (c + 1) (by omega) A L wa hs31 ha31 hwa
      refine ⟨A', L', wa', k1, k2, k3, k4, fun d => ?_, k6, k7, fun d hd => ?_, ?_⟩
      · rw [k5]
        by_cases hcd : c = d
        · subst hcd
          have h1 : ¬ c + 1 ≤ c := by omega
          have h2 : c < 12 := by omega
          simp only [h1, h2, decide_false, Bool.false_and, Nat.le_refl, decide_true, Bool.true_and, Bool.or_false]
          cases e1 : ws.testBit c with
          | false => simp
          | true =>
            cases e2 : wa.testBit c with
            | false => exact absurd ⟨e1, e2⟩ hq
            | true => rfl
        · by_cases hd : c + 1 ≤ d
          · have : c ≤ d := by omega
            simp [hd, this]
          · have : ¬ c ≤ d := by omega
            simp [hd, this]
      · rw [k8 d hd]
        by_cases hcd : d = c
        · subst hcd
          rw [if_neg (by omega), if_neg (fun z => hq z.2)]
        · by_cases hd2 : c + 1 ≤ d
          · have : c ≤ d := by omega
            simp only [hd2, this]
          · rw [if_neg (fun z => hd2 z.1), if_neg (fun z => hd2 (by omega))]
      · intro r
        refine Iff.trans ?_ (k9 r)
        refine eX8_tidy_99.trans ?_
        cases e1 : ws.testBit c with
        | false => simp (disch := first | omega | (simp only [cat_i, cat_r, ri_r, ri_0]; done)) only [eX8_tidy_101, eX8_tidy_103, eX8_tidy_106, eX8_tidy_108, eX8_tidy_109, eX8_tidy_112, eX8_tidy_113, eX8_tidy_116, eX8_tidy_117, eX8_tidy_118, eX8_tidy_120, eX8_tidy_121, eX8_tidy_122, eX8_tidy_123, eX8_tidy_124, eX8_tidy_127, eX8_tidy_128, eX8_tidy_131, eX8_tidy_132, eX8_tidy_133, eX8_tidy_135, eX8_tidy_136, eX8_tidy_137, eX8_tidy_138, eX8_tidy_141, eX8_tidy_142, eX8_tidy_143, eX8_tidy_145, eX8_tidy_146, eX8_tidy_149, eX8_tidy_151, eX8_tidy_152, eX8_tidy_153, eX8_tidy_155, eX8_tidy_156, eX8_tidy_157, eX8_tidy_160, eX8_tidy_163, Evk_some, Evh_some, Evn_some, Evr_v, Evr_n, mk_i, mk_r, mk_0, mk_n, mk_l, mc0, mc1, mc2, mc3, mc4, mi_obj, Bool.and_self, Bool.true_and, Nat.add_zero, Nat.zero_add, nI_add, pk_mul, pk_sub, Nat.add_sub_cancel, eq_self, if_true, if_false, n10, bI_t, bI_f, bI_0, Nat.reduceAdd, Nat.reduceMul, Nat.reduceSub, nI_eq, nI_ltI, nI_leI, Nat.reduceEqDiff, Nat.reduceLT, Nat.reduceDiv, Nat.reduceMod, Nat.reduceLeDiff, mg_written, ml_written, hs31, bt_1, b1, e1, h12, Bool.false_eq_true]
        | true =>
          have e2 : wa.testBit c = true := by
            cases e2 : wa.testBit c with
            | false => exact absurd ⟨e1, e2⟩ hq
            | true => rfl
          simp (disch := first | omega | (simp only [cat_i, cat_r, ri_r, ri_0]; done)) only [eX8_tidy_101, eX8_tidy_103, eX8_tidy_106, eX8_tidy_108, eX8_tidy_109, eX8_tidy_112, eX8_tidy_113, eX8_tidy_116, eX8_tidy_117, eX8_tidy_118, eX8_tidy_120, eX8_tidy_121, eX8_tidy_122, eX8_tidy_123, eX8_tidy_124, eX8_tidy_127, eX8_tidy_128, eX8_tidy_131, eX8_tidy_132, eX8_tidy_133, eX8_tidy_135, eX8_tidy_136, eX8_tidy_137, eX8_tidy_138, eX8_tidy_141, eX8_tidy_142, eX8_tidy_143, eX8_tidy_145, eX8_tidy_146, eX8_tidy_149, eX8_tidy_151, eX8_tidy_152, eX8_tidy_153, eX8_tidy_155, eX8_tidy_156, eX8_tidy_157, eX8_tidy_160, eX8_tidy_163, Evk_some, Evh_some, Evn_some, Evr_v, Evr_n, mk_i, mk_r, mk_0, mk_n, mk_l, mc0, mc1, mc2, mc3, mc4, mi_obj, Bool.and_self, Bool.true_and, Nat.add_zero, Nat.zero_add, nI_add, pk_mul, pk_sub, Nat.add_sub_cancel, eq_self, if_true, if_false, n10, bI_t, bI_f, bI_0, Nat.reduceAdd, Nat.reduceMul, Nat.reduceSub, nI_eq, nI_ltI, nI_leI, Nat.reduceEqDiff, Nat.reduceLT, Nat.reduceDiv, Nat.reduceMod, Nat.reduceLeDiff, mg_written, ml_written, hs31, ha31, bt_1, bt_0, b1, b2, e1, e2, h12, Bool.true_eq_false]
end MG
