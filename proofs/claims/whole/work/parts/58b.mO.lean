/-! the reference: the fault of a code, of a program -/
section MO
variable {b : Nat → Option va_E} {F : Nat → Int32} {A : Nat → Nat → Int32} {L : Nat → Nat → Int64} {nx : Option Nat} {r : mn_Res} {op ar : Nat → Nat}
def Flt (op ar : Nat → Nat) (p : Nat) : Prop := (∃ h, Rch op ar p h ∧ (h < tkN (op p) ∨ 6 < h)) ∨ ∃ h h', h ≠ h' ∧ Rch op ar p h ∧ Rch op ar p h'
def Lst (Q : Nat → Prop) (n : Nat) (o : Option Nat) : Prop := (∃ k, o = some k ∧ k < n ∧ Q k ∧ ∀ q, q < k → ¬ Q q) ∨ (o = none ∧ ∀ k, k < n → ¬ Q k)
theorem Lst.one {Q : Nat → Prop} {n : Nat} {o o' : Option Nat} (h : Lst Q n o) (h' : Lst Q n o') : o = o' := by
  rcases h with ⟨k, rfl, k1, k2, k3⟩ | ⟨rfl, k1⟩
  · rcases h' with ⟨k', rfl, k1', k2', k3'⟩ | ⟨rfl, k1'⟩
    · rcases Nat.lt_trichotomy k k' with q | q | q
      · exact absurd k2 (k3' _ q)
      · rw [q]
      · exact absurd k2' (k3 _ q)
    · exact absurd k2 (k1' k k1)
  · rcases h' with ⟨k', rfl, k1', k2', k3'⟩ | ⟨rfl, k1'⟩
    · exact absurd k2' (k1 k' k1')
    · rfl
theorem Lst.congr {Q Q' : Nat → Prop} {n : Nat} {o : Option Nat} (hq : ∀ k, k < n → (Q k ↔ Q' k)) (h : Lst Q n o) : Lst Q' n o := by
  rcases h with ⟨k, rfl, k1, k2, k3⟩ | ⟨rfl, k1⟩
  · exact Or.inl ⟨k, rfl, k1, (hq k k1).mp k2, fun q hk z => k3 q hk ((hq q (by omega)).mpr z)⟩
  · exact Or.inr ⟨rfl, fun k hk z => k1 k hk ((hq k hk).mpr z)⟩
def rb (A : Nat → Nat → Int32) (k h : Nat) : Bool := decide (A 10 (8 * k + h) = nI 1)
def mnyN (A : Nat → Nat → Int32) (k j : Nat) : Nat := ((List.range j).filter (rb A k)).length
def badB (A : Nat → Nat → Int32) (tk k j : Nat) : Bool := (List.range j).any (fun h => rb A k h && (decide (6 < h) || decide (h < tk)))
theorem mny_s {k j : Nat} : mnyN A k (j + 1) = mnyN A k j + (if rb A k j = true then 1 else 0) := by
  unfold mnyN
  rw [List.range_succ, List.filter_append, List.length_append]
  by_cases h : rb A k j = true <;> simp [h]
theorem bad_s {tk k j : Nat} : badB A tk k (j + 1) = (badB A tk k j || (rb A k j && (decide (6 < j) || decide (j < tk)))) := by
  unfold badB
  rw [List.range_succ, List.any_append]
  simp
theorem mny_le {k j : Nat} : mnyN A k j ≤ j := by
  unfold mnyN
  exact Nat.le_trans (List.length_filter_le _ _) (by simp)
set_option maxHeartbeats 4000000 in
theorem ev_sf1 {c k o : Nat} (hc : c < 8) (hk : k < 24) (h5 : A 5 (24 * c + k) = nI o) (ho : o < 19) (hB : WB A) {x : Int32} : ∀ (j i : Nat), i + j = 8 → ∀ r : mn_Res, Ev 97 29 [some (.ref 149), some (.int (nI c)), some (.int x), some (.int (nI k)), some (.int (nI (mnyN A k i))), some (.int (bI (badB A (tkN o) k i))), some (.int (nI i))] [] (mpic b F A L, nx, 0, 0) r ↔ Ev 97 101 [some (.ref 149), some (.int (nI c)), some (.int x), some (.int (nI k)), some (.int (nI (mnyN A k 8))), some (.int (bI (badB A (tkN o) k 8))), some (.int (nI 8))] [] (mpic b F A L, nx, 0, 0) r := by
  intro j
  induction j with
  | zero =>
    intro i hi r
    have hi : i = 8 := by omega
    subst hi
    refine eX8_stackFault_29.trans ?_
    simp (disch := first | omega | (simp only [cat_i, cat_r, ri_r, ri_0]; done)) only [eX8_stackFault_31, eX8_stackFault_33, ↓reduceIte, Evk_some, Evh_some, Evn_some, Evr_v, Evr_n, mk_i, mk_r, mk_0, mk_n, mk_l, mc0, mc1, mc2, mc3, mc4, mi_obj, Bool.and_self, Bool.true_and, Nat.add_zero, Nat.zero_add, nI_add, pk_mul, pk_sub, Nat.add_sub_cancel, eq_self, if_true, if_false, n10, bI_t, bI_f, bI_0, Nat.reduceAdd, Nat.reduceMul, Nat.reduceSub, nI_eq, nI_ltI, nI_leI, Nat.reduceEqDiff, Nat.reduceLT, Nat.reduceDiv, Nat.reduceMod, Nat.reduceLeDiff]
  | succ j ih =>
    intro i hi r
    have hq : ¬ 8 ≤ i := by omega
    have ptk := tk_lt ho
    have tks := cl_takes (p := mpic b F A L) (nx := nx) ho
    refine Iff.trans ?_ (ih (i + 1) (by omega) r)
    refine eX8_stackFault_29.trans ?_
    rw [mny_s, bad_s]
    rcases hB (8 * k + i) (by omega) with h | h
    · have hr : rb A k i = false := by unfold rb; rw [h]; rfl
      simp (disch := first | omega | (simp only [cat_i, cat_r, ri_r, ri_0]; done)) only [eX8_stackFault_31, eX8_stackFault_33, eX8_stackFault_36, eX8_stackFault_37, eX8_stackFault_40, eX8_stackFault_42, eX8_stackFault_43, eX8_stackFault_44, eX8_stackFault_46, eX8_stackFault_47, eX8_stackFault_48, eX8_stackFault_51, eX8_stackFault_54, eX8_stackFault_57, eX8_stackFault_59, eX8_stackFault_62, eX8_stackFault_64, eX8_stackFault_66, eX8_stackFault_69, eX8_stackFault_71, eX8_stackFault_72, eX8_stackFault_75, eX8_stackFault_77, eX8_stackFault_78, eX8_stackFault_79, eX8_stackFault_80, eX8_stackFault_81, eX8_stackFault_82, eX8_stackFault_85, eX8_stackFault_88, eX8_stackFault_89, eX8_stackFault_92, eX8_stackFault_93, eX8_stackFault_95, eX8_stackFault_98, ↓reduceIte, Evk_some, Evh_some, Evn_some, Evr_v, Evr_n, mk_i, mk_r, mk_0, mk_n, mk_l, mc0, mc1, mc2, mc3, mc4, mi_obj, Bool.and_self, Bool.true_and, Nat.add_zero, Nat.zero_add, nI_add, pk_mul, pk_sub, Nat.add_sub_cancel, eq_self, if_true, if_false, n10, bI_t, bI_f, bI_0, Nat.reduceAdd, Nat.reduceMul, Nat.reduceSub, nI_eq, nI_ltI, nI_leI, Nat.reduceEqDiff, Nat.reduceLT, Nat.reduceDiv, Nat.reduceMod, Nat.reduceLeDiff, hq, mg_reached, ml_reached, h, hr, Bool.false_eq_true, Bool.false_and, Bool.or_false]
    · have hr : rb A k i = true := by unfold rb; rw [h]; rfl
      cases hb : badB A (tkN o) k i with
      | true => simp (disch := first | omega | (simp only [cat_i, cat_r, ri_r, ri_0]; done)) only [eX8_stackFault_31, eX8_stackFault_33, eX8_stackFault_36, eX8_stackFault_37, eX8_stackFault_40, eX8_stackFault_42, eX8_stackFault_43, eX8_stackFault_44, eX8_stackFault_46, eX8_stackFault_47, eX8_stackFault_48, eX8_stackFault_51, eX8_stackFault_54, eX8_stackFault_57, eX8_stackFault_59, eX8_stackFault_62, eX8_stackFault_64, eX8_stackFault_66, eX8_stackFault_69, eX8_stackFault_71, eX8_stackFault_72, eX8_stackFault_75, eX8_stackFault_77, eX8_stackFault_78, eX8_stackFault_79, eX8_stackFault_80, eX8_stackFault_81, eX8_stackFault_82, eX8_stackFault_85, eX8_stackFault_88, eX8_stackFault_89, eX8_stackFault_92, eX8_stackFault_93, eX8_stackFault_95, eX8_stackFault_98, ↓reduceIte, Evk_some, Evh_some, Evn_some, Evr_v, Evr_n, mk_i, mk_r, mk_0, mk_n, mk_l, mc0, mc1, mc2, mc3, mc4, mi_obj, Bool.and_self, Bool.true_and, Nat.add_zero, Nat.zero_add, nI_add, pk_mul, pk_sub, Nat.add_sub_cancel, eq_self, if_true, if_false, n10, bI_t, bI_f, bI_0, Nat.reduceAdd, Nat.reduceMul, Nat.reduceSub, nI_eq, nI_ltI, nI_leI, Nat.reduceEqDiff, Nat.reduceLT, Nat.reduceDiv, Nat.reduceMod, Nat.reduceLeDiff, hq, mg_reached, ml_reached, h, hr, Bool.true_eq_false, Bool.true_or]
      | false =>
        by_cases h6 : 6 < i
        · simp (disch := first | omega | (simp only [cat_i, cat_r, ri_r, ri_0]; done)) only [eX8_stackFault_31, eX8_stackFault_33, eX8_stackFault_36, eX8_stackFault_37, eX8_stackFault_40, eX8_stackFault_42, eX8_stackFault_43, eX8_stackFault_44, eX8_stackFault_46, eX8_stackFault_47, eX8_stackFault_48, eX8_stackFault_51, eX8_stackFault_54, eX8_stackFault_57, eX8_stackFault_59, eX8_stackFault_62, eX8_stackFault_64, eX8_stackFault_66, eX8_stackFault_69, eX8_stackFault_71, eX8_stackFault_72, eX8_stackFault_75, eX8_stackFault_77, eX8_stackFault_78, eX8_stackFault_79, eX8_stackFault_80, eX8_stackFault_81, eX8_stackFault_82, eX8_stackFault_85, eX8_stackFault_88, eX8_stackFault_89, eX8_stackFault_92, eX8_stackFault_93, eX8_stackFault_95, eX8_stackFault_98, ↓reduceIte, Evk_some, Evh_some, Evn_some, Evr_v, Evr_n, mk_i, mk_r, mk_0, mk_n, mk_l, mc0, mc1, mc2, mc3, mc4, mi_obj, Bool.and_self, Bool.true_and, Nat.add_zero, Nat.zero_add, nI_add, pk_mul, pk_sub, Nat.add_sub_cancel, eq_self, if_true, if_false, n10, bI_t, bI_f, bI_0, Nat.reduceAdd, Nat.reduceMul, Nat.reduceSub, nI_eq, nI_ltI, nI_leI, Nat.reduceEqDiff, Nat.reduceLT, Nat.reduceDiv, Nat.reduceMod, Nat.reduceLeDiff, hq, mg_reached, ml_reached, h, hr, h6, decide_true, Bool.true_or, Bool.false_or]
        · by_cases ht : tkN o ≤ i
          · have ht' : ¬ i < tkN o := by omega
            simp (disch := first | omega | (simp only [cat_i, cat_r, ri_r, ri_0]; done)) only [eX8_stackFault_31, eX8_stackFault_33, eX8_stackFault_36, eX8_stackFault_37, eX8_stackFault_40, eX8_stackFault_42, eX8_stackFault_43, eX8_stackFault_44, eX8_stackFault_46, eX8_stackFault_47, eX8_stackFault_48, eX8_stackFault_51, eX8_stackFault_54, eX8_stackFault_57, eX8_stackFault_59, eX8_stackFault_62, eX8_stackFault_64, eX8_stackFault_66, eX8_stackFault_69, eX8_stackFault_71, eX8_stackFault_72, eX8_stackFault_75, eX8_stackFault_77, eX8_stackFault_78, eX8_stackFault_79, eX8_stackFault_80, eX8_stackFault_81, eX8_stackFault_82, eX8_stackFault_85, eX8_stackFault_88, eX8_stackFault_89, eX8_stackFault_92, eX8_stackFault_93, eX8_stackFault_95, eX8_stackFault_98, ↓reduceIte, Evk_some, Evh_some, Evn_some, Evr_v, Evr_n, mk_i, mk_r, mk_0, mk_n, mk_l, mc0, mc1, mc2, mc3, mc4, mi_obj, Bool.and_self, Bool.true_and, Nat.add_zero, Nat.zero_add, nI_add, pk_mul, pk_sub, Nat.add_sub_cancel, eq_self, if_true, if_false, n10, bI_t, bI_f, bI_0, Nat.reduceAdd, Nat.reduceMul, Nat.reduceSub, nI_eq, nI_ltI, nI_leI, Nat.reduceEqDiff, Nat.reduceLT, Nat.reduceDiv, Nat.reduceMod, Nat.reduceLeDiff, hq, mg_reached, ml_reached, h, hr, h6, mg_operation, ml_operation, h5, tks, ht, ht', decide_false, Bool.false_or]
          · have ht' : i < tkN o := by omega
            simp (disch := first | omega | (simp only [cat_i, cat_r, ri_r, ri_0]; done)) only [eX8_stackFault_31, eX8_stackFault_33, eX8_stackFault_36, eX8_stackFault_37, eX8_stackFault_40, eX8_stackFault_42, eX8_stackFault_43, eX8_stackFault_44, eX8_stackFault_46, eX8_stackFault_47, eX8_stackFault_48, eX8_stackFault_51, eX8_stackFault_54, eX8_stackFault_57, eX8_stackFault_59, eX8_stackFault_62, eX8_stackFault_64, eX8_stackFault_66, eX8_stackFault_69, eX8_stackFault_71, eX8_stackFault_72, eX8_stackFault_75, eX8_stackFault_77, eX8_stackFault_78, eX8_stackFault_79, eX8_stackFault_80, eX8_stackFault_81, eX8_stackFault_82, eX8_stackFault_85, eX8_stackFault_88, eX8_stackFault_89, eX8_stackFault_92, eX8_stackFault_93, eX8_stackFault_95, eX8_stackFault_98, ↓reduceIte, Evk_some, Evh_some, Evn_some, Evr_v, Evr_n, mk_i, mk_r, mk_0, mk_n, mk_l, mc0, mc1, mc2, mc3, mc4, mi_obj, Bool.and_self, Bool.true_and, Nat.add_zero, Nat.zero_add, nI_add, pk_mul, pk_sub, Nat.add_sub_cancel, eq_self, if_true, if_false, n10, bI_t, bI_f, bI_0, Nat.reduceAdd, Nat.reduceMul, Nat.reduceSub, nI_eq, nI_ltI, nI_leI, Nat.reduceEqDiff, Nat.reduceLT, Nat.reduceDiv, Nat.reduceMod, Nat.reduceLeDiff, hq, mg_reached, ml_reached, h, hr, h6, mg_operation, ml_operation, h5, tks, ht, ht', decide_false, decide_true, Bool.false_or]
def prv (j : Nat) : Int32 := if j = 0 then -1 else nI (j - 1)
theorem prv_0 : prv 0 = -1 := rfl
theorem prv_1 {j : Nat} : prv (j + 1) = nI j := by unfold prv; rw [if_neg (by omega), Nat.add_sub_cancel]
theorem prv_a {j : Nat} : nI j + (-1) = prv j := by
  cases j with
  | zero => rfl
  | succ j => rw [prv_1]; exact pk_m1 j
def fbB (A : Nat → Nat → Int32) (op : Nat → Nat) (k : Nat) : Bool := badB A (tkN (op k)) k 8 || decide (1 < mnyN A k 8)
def lstF (f : Nat → Bool) : Nat → Option Nat → Option Nat
  | 0, o => o
  | j + 1, o => lstF f j (if f j = true then some j else o)
theorem lstF_sp {f : Nat → Bool} : ∀ (j : Nat) (o : Option Nat), (∃ k, lstF f j o = some k ∧ k < j ∧ f k = true ∧ ∀ q, q < k → ¬ f q = true) ∨ (lstF f j o = o ∧ ∀ k, k < j → ¬ f k = true) := by
  intro j
  induction j with
  | zero => intro o; exact Or.inr ⟨rfl, fun k hk => by omega⟩
  | succ j ih =>
    intro o
    unfold lstF
    rcases ih (if f j = true then some j else o) with ⟨k, k1, k2, k3, k4⟩ | ⟨k1, k2⟩
    · exact Or.inl ⟨k, k1, by omega, k3, k4⟩
    · by_cases h : f j = true
      · rw [if_pos h] at k1 ⊢
        exact Or.inl ⟨j, k1, by omega, h, k2⟩
      · rw [if_neg h] at k1 ⊢
        refine Or.inr ⟨k1, fun k hk => ?_⟩
        by_cases hq : k = j
        · subst hq; exact h
        · exact k2 k (by omega)
set_option maxHeartbeats 4000000 in
theorem ev_sf2 {c n : Nat} (hc : c < 8) (hn : n ≤ 24) (hB : WB A) (h5 : ∀ p, p < n → A 5 (24 * c + p) = nI (op p) ∧ op p < 19) : ∀ (j : Nat) (o : Option Nat) (c4 c5 c6 : Option Value), j ≤ n → Ev 97 16 [some (.ref 149), some (.int (nI c)), some (.int (oI o)), some (.int (prv j)), c4, c5, c6] [] (mpic b F A L, nx, 0, 0) ((mpic b F A L, nx, 0, 0), .inl (some (.int (oI (lstF (fbB A op) j o))))) := by
  intro j
  induction j with
  | zero =>
    intro o c4 c5 c6 hj
    refine eX8_stackFault_16.mpr ?_
    have hq : (-1 : Int32) < nI 0 := by decide
    simp (disch := first | omega | (simp only [cat_i, cat_r, ri_r, ri_0]; done)) only [eX8_stackFault_17, eX8_stackFault_124, eX8_stackFault_125, ↓reduceIte, Evk_some, Evh_some, Evn_some, Evr_v, Evr_n, mk_i, mk_r, mk_0, mk_n, mk_l, mc0, mc1, mc2, mc3, mc4, mi_obj, Bool.and_self, Bool.true_and, Nat.add_zero, Nat.zero_add, nI_add, pk_mul, pk_sub, Nat.add_sub_cancel, eq_self, if_true, if_false, n10, bI_t, bI_f, bI_0, Nat.reduceAdd, Nat.reduceMul, Nat.reduceSub, nI_eq, nI_ltI, nI_leI, Nat.reduceEqDiff, Nat.reduceLT, Nat.reduceDiv, Nat.reduceMod, Nat.reduceLeDiff, prv_0, hq, lstF]
  | succ j ih =>
    intro o c4 c5 c6 hj
    obtain ⟨g1, g2⟩ := h5 j (by omega)
    have e1 := ev_sf1 (b := b) (F := F) (L := L) (nx := nx) hc (show j < 24 by omega) g1 g2 hB (x := oI o) 8 0 (by omega)
    have hm := mny_le (A := A) (k := j) (j := 8)
    refine eX8_stackFault_16.mpr ?_
    rw [prv_1]
    have hq : ¬ j < 0 := by omega
    simp (disch := first | omega | (simp only [cat_i, cat_r, ri_r, ri_0]; done)) only [eX8_stackFault_17, eX8_stackFault_20, eX8_stackFault_21, eX8_stackFault_23, eX8_stackFault_24, eX8_stackFault_26, eX8_stackFault_27, ↓reduceIte, Evk_some, Evh_some, Evn_some, Evr_v, Evr_n, mk_i, mk_r, mk_0, mk_n, mk_l, mc0, mc1, mc2, mc3, mc4, mi_obj, Bool.and_self, Bool.true_and, Nat.add_zero, Nat.zero_add, nI_add, pk_mul, pk_sub, Nat.add_sub_cancel, eq_self, if_true, if_false, n10, bI_t, bI_f, bI_0, Nat.reduceAdd, Nat.reduceMul, Nat.reduceSub, nI_eq, nI_ltI, nI_leI, Nat.reduceEqDiff, Nat.reduceLT, Nat.reduceDiv, Nat.reduceMod, Nat.reduceLeDiff, hq]
    refine (e1 _).mpr ?_
    unfold lstF
    have ihj := ih (if fbB A op j = true then some j else o) (some (.int (nI (mnyN A j 8)))) (some (.int (bI (badB A (tkN (op j)) j 8)))) (some (.int (nI 8))) (by omega)
    cases hb : badB A (tkN (op j)) j 8 with
    | true =>
      have hf : fbB A op j = true := by unfold fbB; rw [hb]; rfl
      rw [hb, hf, if_pos rfl] at ihj
      simp (disch := first | omega | (simp only [cat_i, cat_r, ri_r, ri_0]; done)) only [eX8_stackFault_101, eX8_stackFault_103, eX8_stackFault_106, eX8_stackFault_108, eX8_stackFault_109, eX8_stackFault_112, eX8_stackFault_113, eX8_stackFault_116, eX8_stackFault_117, eX8_stackFault_118, eX8_stackFault_121, ↓reduceIte, Evk_some, Evh_some, Evn_some, Evr_v, Evr_n, mk_i, mk_r, mk_0, mk_n, mk_l, mc0, mc1, mc2, mc3, mc4, mi_obj, Bool.and_self, Bool.true_and, Nat.add_zero, Nat.zero_add, nI_add, pk_mul, pk_sub, Nat.add_sub_cancel, eq_self, if_true, if_false, n10, bI_t, bI_f, bI_0, Nat.reduceAdd, Nat.reduceMul, Nat.reduceSub, nI_eq, nI_ltI, nI_leI, Nat.reduceEqDiff, Nat.reduceLT, Nat.reduceDiv, Nat.reduceMod, Nat.reduceLeDiff, Bool.true_eq_false, prv_a, hf]
      exact ihj
    | false =>
      by_cases h1 : mnyN A j 8 ≤ 1
      · have hf : fbB A op j = false := by unfold fbB; rw [hb]; simp; omega
        rw [hb, hf, if_neg (by simp)] at ihj
        simp (disch := first | omega | (simp only [cat_i, cat_r, ri_r, ri_0]; done)) only [eX8_stackFault_101, eX8_stackFault_103, eX8_stackFault_106, eX8_stackFault_108, eX8_stackFault_109, eX8_stackFault_112, eX8_stackFault_113, eX8_stackFault_116, eX8_stackFault_117, eX8_stackFault_118, eX8_stackFault_121, ↓reduceIte, Evk_some, Evh_some, Evn_some, Evr_v, Evr_n, mk_i, mk_r, mk_0, mk_n, mk_l, mc0, mc1, mc2, mc3, mc4, mi_obj, Bool.and_self, Bool.true_and, Nat.add_zero, Nat.zero_add, nI_add, pk_mul, pk_sub, Nat.add_sub_cancel, eq_self, if_true, if_false, n10, bI_t, bI_f, bI_0, Nat.reduceAdd, Nat.reduceMul, Nat.reduceSub, nI_eq, nI_ltI, nI_leI, Nat.reduceEqDiff, Nat.reduceLT, Nat.reduceDiv, Nat.reduceMod, Nat.reduceLeDiff, prv_a, hf, h1, Bool.false_eq_true]
        exact ihj
      · have hf : fbB A op j = true := by unfold fbB; rw [hb]; simp; omega
        rw [hb, hf, if_pos rfl] at ihj
        simp (disch := first | omega | (simp only [cat_i, cat_r, ri_r, ri_0]; done)) only [eX8_stackFault_101, eX8_stackFault_103, eX8_stackFault_106, eX8_stackFault_108, eX8_stackFault_109, eX8_stackFault_112, eX8_stackFault_113, eX8_stackFault_116, eX8_stackFault_117, eX8_stackFault_118, eX8_stackFault_121, ↓reduceIte, Evk_some, Evh_some, Evn_some, Evr_v, Evr_n, mk_i, mk_r, mk_0, mk_n, mk_l, mc0, mc1, mc2, mc3, mc4, mi_obj, Bool.and_self, Bool.true_and, Nat.add_zero, Nat.zero_add, nI_add, pk_mul, pk_sub, Nat.add_sub_cancel, eq_self, if_true, if_false, n10, bI_t, bI_f, bI_0, Nat.reduceAdd, Nat.reduceMul, Nat.reduceSub, nI_eq, nI_ltI, nI_leI, Nat.reduceEqDiff, Nat.reduceLT, Nat.reduceDiv, Nat.reduceMod, Nat.reduceLeDiff, prv_a, hf, h1]
        exact ihj
theorem two_len {l : List Nat} (hn : l.Nodup) : 1 < l.length ↔ ∃ x y, x ≠ y ∧ x ∈ l ∧ y ∈ l := by
  match l, hn with
  | [], _ => simp
  | [a], _ =>
    simp only [List.length_singleton, Nat.lt_irrefl, false_iff, List.mem_singleton]
    rintro ⟨x, y, h, rfl, rfl⟩
    exact h rfl
  | a :: a' :: l, hn =>
    refine ⟨fun _ => ⟨a, a', ?_, by simp, by simp⟩, fun _ => by simp⟩
    intro q
    subst q
    simp at hn
theorem fbB_Flt (hw : ∀ p h, p < 24 → h < 8 → (A 10 (8 * p + h) = nI 1 ↔ Rch op ar p h)) {n : Nat} (hwf : wfC op ar n) {k : Nat} (hk : k < n) : fbB A op k = true ↔ Flt op ar k := by
  have hn := hwf.2.1
  have hrb : ∀ h, h < 8 → (rb A k h = true ↔ Rch op ar k h) := fun h hh => by unfold rb; rw [decide_eq_true_eq]; exact hw k h (by omega) hh
  unfold fbB Flt
  rw [Bool.or_eq_true, decide_eq_true_eq]
  refine or_congr ?_ ?_
  · unfold badB
    rw [List.any_eq_true]
    constructor
    · rintro ⟨h, h1, h2⟩
      rw [List.mem_range] at h1
      simp only [Bool.and_eq_true, Bool.or_eq_true, decide_eq_true_eq] at h2
      exact ⟨h, (hrb h h1).mp h2.1, h2.2.symm⟩
    · rintro ⟨h, h1, h2⟩
      have := (h1.bound hwf).2
      refine ⟨h, List.mem_range.mpr (by omega), ?_⟩
      simp only [Bool.and_eq_true, Bool.or_eq_true, decide_eq_true_eq]
      exact ⟨(hrb h (by omega)).mpr h1, h2.symm⟩
  · unfold mnyN
    rw [two_len (List.Pairwise.filter _ List.nodup_range)]
    constructor
    · rintro ⟨x, y, h1, h2, h3⟩
      simp only [List.mem_filter, List.mem_range] at h2 h3
      exact ⟨x, y, h1, (hrb x h2.1).mp h2.2, (hrb y h3.1).mp h3.2⟩
    · rintro ⟨x, y, h1, h2, h3⟩
      have q2 := (h2.bound hwf).2
      have q3 := (h3.bound hwf).2
      refine ⟨x, y, h1, ?_, ?_⟩ <;> simp only [List.mem_filter, List.mem_range]
      · exact ⟨by omega, (hrb x (by omega)).mpr h2⟩
      · exact ⟨by omega, (hrb y (by omega)).mpr h3⟩
theorem cl_stackFault {c n : Nat} (hc : c < 8) (hw : wfC op ar n) (hcd : cdR A c n op ar) : ∃ A' o, fr10 A A' ∧ Lst (Flt op ar) n o ∧ Cl 97 [.ref 149, .int (nI c)] (mpic b F A L) nx = some ((mpic b F A' L, nx, 0, 0), .inl (some (.int (oI o)))) := by
  obtain ⟨A', k1, k2, k3, k4⟩ := cl_goAllWays (b := b) (F := F) (L := L) (nx := nx) hc hw hcd
  have hcd' := hcd.fr k1
  have e := ev_sf2 (b := b) (F := F) (L := L) (nx := nx) (op := op) hc hw.2.1 k2 (fun p hp => ⟨(hcd'.2 p hp).1, (hw.2.2 p hp).1⟩) n none none none none (Nat.le_refl _)
  refine ⟨A', lstF (fbB A' op) n none, k1, ?_, Cl_of (x := mnI_X8_stackFault) rfl ?_⟩
  · rcases lstF_sp (f := fbB A' op) n none with ⟨k, q1, q2, q3, q4⟩ | ⟨q1, q2⟩
    · exact Or.inl ⟨k, q1, q2, (fbB_Flt k3 hw q2).mp q3, fun q hq z => q4 q hq ((fbB_Flt k3 hw (by omega)).mpr z)⟩
    · exact Or.inr ⟨q1, fun k hk z => q2 k hk ((fbB_Flt k3 hw hk).mpr z)⟩
  · show Ev 97 0 [some (.ref 149), some (.int (nI c)), none, none, none, none, none] [] _ _
    have h4 := hcd'.1
    have hn0 := hw.1
    have hn1 := hw.2.1
    have ep : prv n = nI (n - 1) := by unfold prv; rw [if_neg (by omega)]
    rw [ep] at e
    simp (disch := first | omega | (simp only [cat_i, cat_r, ri_r, ri_0]; done)) only [eX8_stackFault_0, eX8_stackFault_1, eX8_stackFault_2, eX8_stackFault_5, eX8_stackFault_6, eX8_stackFault_7, eX8_stackFault_8, eX8_stackFault_11, eX8_stackFault_12, eX8_stackFault_13, eX8_stackFault_14, eX8_stackFault_15, ↓reduceIte, Evk_some, Evh_some, Evn_some, Evr_v, Evr_n, mk_i, mk_r, mk_0, mk_n, mk_l, mc0, mc1, mc2, mc3, mc4, mi_obj, Bool.and_self, Bool.true_and, Nat.add_zero, Nat.zero_add, nI_add, pk_mul, pk_sub, Nat.add_sub_cancel, eq_self, if_true, if_false, n10, bI_t, bI_f, bI_0, Nat.reduceAdd, Nat.reduceMul, Nat.reduceSub, nI_eq, nI_ltI, nI_leI, Nat.reduceEqDiff, Nat.reduceLT, Nat.reduceDiv, Nat.reduceMod, Nat.reduceLeDiff, k4, mg_size, ml_size, h4]
    exact e
/-- the fault of a code -/
def FoR (m : Bool) (op : Nat → Nat) (ai : Nat → Int32) (n nb : Nat) (o : Option Nat) : Prop :=
  (∃ k, o = some k ∧ k < n ∧ okA m (op k) (ai k) k n nb = false ∧ ∀ q, q < k → okA m (op q) (ai q) q n nb = true) ∨
  ((∀ q, q < n → okA m (op q) (ai q) q n nb = true) ∧ ((n = 0 ∧ o = some 0) ∨ (0 < n ∧ (op (n - 1) ≠ 16 ∧ (m = true ∨ op (n - 1) ≠ 11)) ∧ o = some (n - 1)) ∨ (0 < n ∧ ¬ (op (n - 1) ≠ 16 ∧ (m = true ∨ op (n - 1) ≠ 11)) ∧ Lst (Flt op (fun k => (ai k).toNatClampNeg)) n o)))
theorem FoR.one {m : Bool} {ai : Nat → Int32} {n nb : Nat} {o o' : Option Nat} (h : FoR m op ai n nb o) (h' : FoR m op ai n nb o') : o = o' := by
  rcases h with ⟨k, rfl, k1, k2, k3⟩ | ⟨h1, h2⟩
  · rcases h' with ⟨k', rfl, k1', k2', k3'⟩ | ⟨h1', -⟩
    · rcases Nat.lt_trichotomy k k' with q | q | q
      · exact absurd (k3' _ q) (by rw [k2]; simp)
      · rw [q]
      · exact absurd (k3 _ q) (by rw [k2']; simp)
    · exact absurd (h1' k k1) (by rw [k2]; simp)
  · rcases h' with ⟨k', rfl, k1', k2', k3'⟩ | ⟨h1', h2'⟩
    · exact absurd (h1 k' k1') (by rw [k2']; simp)
    · rcases h2 with ⟨a, rfl⟩ | ⟨a, a2, rfl⟩ | ⟨a, a2, a3⟩
      · rcases h2' with ⟨c, rfl⟩ | ⟨c, c2, rfl⟩ | ⟨c, c2, c3⟩
        · rfl
        · omega
        · omega
      · rcases h2' with ⟨c, rfl⟩ | ⟨c, c2, rfl⟩ | ⟨c, c2, c3⟩
        · omega
        · rfl
        · exact absurd a2 c2
      · rcases h2' with ⟨c, rfl⟩ | ⟨c, c2, rfl⟩ | ⟨c, c2, c3⟩
        · omega
        · exact absurd c2 a2
        · exact a3.one c3
noncomputable def foF (m : Bool) (op : Nat → Nat) (ai : Nat → Int32) (n nb : Nat) : Option Nat := @dite _ (∃ o, FoR m op ai n nb o) (Classical.propDecidable _) (fun h => Classical.choose h) (fun _ => none)
theorem foF_eq {m : Bool} {ai : Nat → Int32} {n nb : Nat} {o : Option Nat} (h : FoR m op ai n nb o) : foF m op ai n nb = o := by
  have he : ∃ o, FoR m op ai n nb o := ⟨o, h⟩
  unfold foF
  rw [dif_pos he]
  exact (Classical.choose_spec he).one h
/-- when arguments and end are as said, the code is well formed -/
theorem wf_of {m : Bool} {ai : Nat → Int32} {n nb : Nat} (hn : n ≤ 24) (ho : ∀ p, p < n → op p < 19) (h1 : ∀ q, q < n → okA m (op q) (ai q) q n nb = true) (h0 : 0 < n) (h2 : ¬ (op (n - 1) ≠ 16 ∧ (m = true ∨ op (n - 1) ≠ 11))) : wfC op (fun k => (ai k).toNatClampNeg) n ∧ ∀ p, p < n → (op p = 11 ∨ op p = 12) → ai p = nI ((ai p).toNatClampNeg) := by
  have key : ∀ p, p < n → (op p = 11 ∨ op p = 12) → ∃ x, x < n ∧ ai p = nI x := by
    intro p hp hq
    have := h1 p hp
    unfold okA at this
    rcases hq with hq | hq
    · rw [hq] at this
      simp at this
      exact (wi_z (by omega)).mp this.2
    · rw [hq] at this
      simp only [Nat.reduceEqDiff, if_false, or_self, if_true, Bool.and_eq_true] at this
      exact (wi_z (by omega)).mp this.1
  refine ⟨⟨h0, hn, fun p hp => ⟨ho p hp, fun hq => ?_, fun q1 q2 => ?_⟩⟩, fun p hp hq => ?_⟩
  · obtain ⟨x, hx, he⟩ := key p hp hq
    show (ai p).toNatClampNeg < n
    rw [he, nI_clamp (by omega)]
    exact hx
  · apply Classical.byContradiction
    intro hc
    have : p = n - 1 := by omega
    subst this
    exact h2 ⟨q1, Or.inr q2⟩
  · obtain ⟨x, hx, he⟩ := key p hp hq
    rw [he, nI_clamp (by omega)]
end MO
