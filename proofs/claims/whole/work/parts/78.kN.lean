/-! the class: the fault of a code, the first fault -/
section KN
variable {b : Nat → Option va_E} {N : cN} {J : cJ} {P : cP} {nx : Option Nat} {r : mn_Res}
set_option maxHeartbeats 4000000 in
theorem kv_fi {j n nb : Nat} {op : Nat → Nat} {ai : Nat → Int32} (hj : j < 8) (hn : n ≤ cap j) (h2 : N 2 j 0 = nI n) (h5 : ∀ p, p < n → N 3 j p = nI (op p) ∧ op p < 19 ∧ N 4 j p = ai p) : ∀ (d k : Nat), k + d = n → (∀ q, q < k → okA (decide (6 ≤ j)) (op q) (ai q) q n nb = true) →
    (∃ q, q < n ∧ okA (decide (6 ≤ j)) (op q) (ai q) q n nb = false ∧ (∀ x, x < q → okA (decide (6 ≤ j)) (op x) (ai x) x n nb = true) ∧ Ev 1 2 [some (.ref 9), some (.ref (12 + 3 * j)), some (.int (nI nb)), some (.int (nI k))] [] (cpic b N J P, nx, 0, 0) ((cpic b N J P, nx, 0, 0), .inl (some (.int (nI q))))) ∨
    ((∀ q, q < n → okA (decide (6 ≤ j)) (op q) (ai q) q n nb = true) ∧ ∀ r : mn_Res, Ev 1 2 [some (.ref 9), some (.ref (12 + 3 * j)), some (.int (nI nb)), some (.int (nI k))] [] (cpic b N J P, nx, 0, 0) r ↔ Ev 1 27 [some (.ref 9), some (.ref (12 + 3 * j)), some (.int (nI nb)), some (.int (nI n))] [] (cpic b N J P, nx, 0, 0) r) := by
  have hcap := cap_le j
  intro d
  induction d with
  | zero =>
    intro k hk hq
    have hk : k = n := by omega
    subst hk
    refine Or.inr ⟨hq, fun r => ?_⟩
    refine eX0_faultIn_2.trans ?_
    simp (disch := first | omega | (simp only [cat_i, cat_r, ri_r, ri_0, tkv_r, sgv_r, cdv_r]; done)) only [eX0_faultIn_3, eX0_faultIn_3n, eX0_faultIn_3t, eX0_faultIn_3s, eX0_faultIn_3c, eX0_faultIn_4, eX0_faultIn_7, ↓reduceIte, Evk_some, Evh_some, Evn_some, Evr_v, Evr_n, mk_i, mk_r, mk_0, mk_n, mk_l, mc0, mc1, mc2, mc3, mc4, mi_obj, Bool.and_self, Bool.true_and, Nat.add_zero, Nat.zero_add, nI_add, pk_mul, pk_sub, Nat.add_sub_cancel, eq_self, if_true, if_false, n10, bI_t, bI_f, bI_0, Nat.reduceAdd, Nat.reduceMul, Nat.reduceSub, nI_eq, nI_ltI, nI_leI, Nat.reduceEqDiff, Nat.reduceLT, Nat.reduceDiv, Nat.reduceMod, Nat.reduceLeDiff, ci_Code, ci_Frame, ci_Task, ci_Segment, ci_Main, ci_Program, ci_Checker, ci_World, tkv_s, sgv_s, cdv_s, tkv_n, sgv_n, cdv_n, tkv_k, sgv_k, cdv_k, cg_Code_length, h2, Nat.le_refl]
  | succ d ih =>
    intro k hk hq
    have h3 : ¬ n ≤ k := by omega
    obtain ⟨a1, a2, a3⟩ := h5 k (by omega)
    have ka := kl_isAsSaid (b := b) (J := J) (P := P) (nx := nx) (nb := nb) hj (show k < n by omega) hn a1 a2 a3 h2
    cases hok : okA (decide (6 ≤ j)) (op k) (ai k) k n nb with
    | false =>
      rw [hok] at ka
      refine Or.inl ⟨k, by omega, hok, hq, ?_⟩
      refine eX0_faultIn_2.mpr ?_
      simp (disch := first | omega | (simp only [cat_i, cat_r, ri_r, ri_0, tkv_r, sgv_r, cdv_r]; done)) only [eX0_faultIn_3, eX0_faultIn_3n, eX0_faultIn_3t, eX0_faultIn_3s, eX0_faultIn_3c, eX0_faultIn_4, eX0_faultIn_7, eX0_faultIn_10, eX0_faultIn_10n, eX0_faultIn_10t, eX0_faultIn_10s, eX0_faultIn_10c, eX0_faultIn_11, eX0_faultIn_12, eX0_faultIn_13, eX0_faultIn_16, eX0_faultIn_19, eX0_faultIn_20, ↓reduceIte, Evk_some, Evh_some, Evn_some, Evr_v, Evr_n, mk_i, mk_r, mk_0, mk_n, mk_l, mc0, mc1, mc2, mc3, mc4, mi_obj, Bool.and_self, Bool.true_and, Nat.add_zero, Nat.zero_add, nI_add, pk_mul, pk_sub, Nat.add_sub_cancel, eq_self, if_true, if_false, n10, bI_t, bI_f, bI_0, Nat.reduceAdd, Nat.reduceMul, Nat.reduceSub, nI_eq, nI_ltI, nI_leI, Nat.reduceEqDiff, Nat.reduceLT, Nat.reduceDiv, Nat.reduceMod, Nat.reduceLeDiff, ci_Code, ci_Frame, ci_Task, ci_Segment, ci_Main, ci_Program, ci_Checker, ci_World, tkv_s, sgv_s, cdv_s, tkv_n, sgv_n, cdv_n, tkv_k, sgv_k, cdv_k, cg_Code_length, h2, h3, ka]
    | true =>
      rw [hok] at ka
      have st : ∀ r : mn_Res, Ev 1 2 [some (.ref 9), some (.ref (12 + 3 * j)), some (.int (nI nb)), some (.int (nI k))] [] (cpic b N J P, nx, 0, 0) r ↔ Ev 1 2 [some (.ref 9), some (.ref (12 + 3 * j)), some (.int (nI nb)), some (.int (nI (k + 1)))] [] (cpic b N J P, nx, 0, 0) r := by
        intro r
        refine eX0_faultIn_2.trans ?_
        simp (disch := first | omega | (simp only [cat_i, cat_r, ri_r, ri_0, tkv_r, sgv_r, cdv_r]; done)) only [eX0_faultIn_3, eX0_faultIn_3n, eX0_faultIn_3t, eX0_faultIn_3s, eX0_faultIn_3c, eX0_faultIn_4, eX0_faultIn_7, eX0_faultIn_10, eX0_faultIn_10n, eX0_faultIn_10t, eX0_faultIn_10s, eX0_faultIn_10c, eX0_faultIn_11, eX0_faultIn_12, eX0_faultIn_13, eX0_faultIn_16, eX0_faultIn_19, eX0_faultIn_20, eX0_faultIn_21, eX0_faultIn_24, ↓reduceIte, Evk_some, Evh_some, Evn_some, Evr_v, Evr_n, mk_i, mk_r, mk_0, mk_n, mk_l, mc0, mc1, mc2, mc3, mc4, mi_obj, Bool.and_self, Bool.true_and, Nat.add_zero, Nat.zero_add, nI_add, pk_mul, pk_sub, Nat.add_sub_cancel, eq_self, if_true, if_false, n10, bI_t, bI_f, bI_0, Nat.reduceAdd, Nat.reduceMul, Nat.reduceSub, nI_eq, nI_ltI, nI_leI, Nat.reduceEqDiff, Nat.reduceLT, Nat.reduceDiv, Nat.reduceMod, Nat.reduceLeDiff, ci_Code, ci_Frame, ci_Task, ci_Segment, ci_Main, ci_Program, ci_Checker, ci_World, tkv_s, sgv_s, cdv_s, tkv_n, sgv_n, cdv_n, tkv_k, sgv_k, cdv_k, cg_Code_length, h2, h3, ka, Bool.true_eq_false]
      rcases ih (k + 1) (by omega) (fun q hqk => by
        by_cases e : q = k
        · subst e; exact hok
        · exact hq q (by omega)) with ⟨q, q1, q2, q3, q4⟩ | ⟨q1, q2⟩
      · exact Or.inl ⟨q, q1, q2, q3, (st _).mpr q4⟩
      · exact Or.inr ⟨q1, fun r => (st r).trans (q2 r)⟩
set_option maxHeartbeats 8000000 in
theorem kl_faultIn {j n nb : Nat} {op : Nat → Nat} {ai : Nat → Int32} (hb : bS b) (hj : j < 8) (hn : n ≤ cap j) (h2 : N 2 j 0 = nI n) (h5 : ∀ p, p < n → N 3 j p = nI (op p) ∧ op p < 19 ∧ N 4 j p = ai p) :
    ∃ N', frK N N' ∧ FoR (decide (6 ≤ j)) op ai n nb (foF (decide (6 ≤ j)) op ai n nb) ∧ Cl 1 [.ref 9, .ref (12 + 3 * j), .int (nI nb)] (cpic b N J P) nx = some ((cpic b N' J P, nx, 0, 0), .inl (some (.int (oI (foF (decide (6 ≤ j)) op ai n nb))))) := by
  have hcap := cap_le j
  have pre : ∀ r : mn_Res, Ev 1 0 [some (.ref (9)), some (.ref (12 + 3 * j)), some (.int (nI nb)), none] [] (cpic b N J P, nx, 0, 0) r ↔ Ev 1 2 [some (.ref 9), some (.ref (12 + 3 * j)), some (.int (nI nb)), some (.int (nI 0))] [] (cpic b N J P, nx, 0, 0) r := by
    intro r
    rw [eX0_faultIn_0, eX0_faultIn_1]
    simp only [mk_i]
  rcases kv_fi (b := b) (J := J) (P := P) (nx := nx) (nb := nb) hj hn h2 h5 n 0 (by omega) (fun q hq => by omega) with ⟨q, q1, q2, q3, q4⟩ | ⟨q1, q2⟩
  · have hfo : FoR (decide (6 ≤ j)) op ai n nb (some q) := Or.inl ⟨q, rfl, q1, q2, q3⟩
    refine ⟨N, fun _ _ _ _ _ _ => rfl, ?_⟩
    rw [foF_eq hfo]
    exact ⟨hfo, Cl_of (x := mnI_X0_faultIn) rfl ((pre _).mpr q4)⟩
  · by_cases hn0 : n = 0
    · subst hn0
      have hfo : FoR (decide (6 ≤ j)) op ai 0 nb (some 0) := Or.inr ⟨q1, Or.inl ⟨rfl, rfl⟩⟩
      refine ⟨N, fun _ _ _ _ _ _ => rfl, ?_⟩
      rw [foF_eq hfo]
      refine ⟨hfo, Cl_of (x := mnI_X0_faultIn) rfl ((pre _).mpr ((q2 _).mpr ?_))⟩
      simp (disch := first | omega | (simp only [cat_i, cat_r, ri_r, ri_0, tkv_r, sgv_r, cdv_r]; done)) only [eX0_faultIn_27, eX0_faultIn_27n, eX0_faultIn_27t, eX0_faultIn_27s, eX0_faultIn_27c, eX0_faultIn_28, eX0_faultIn_31, eX0_faultIn_34, eX0_faultIn_35, eX0_faultIn_36, eX0_faultIn_36n, eX0_faultIn_36t, eX0_faultIn_36s, eX0_faultIn_36c, eX0_faultIn_37, eX0_faultIn_37n, eX0_faultIn_37t, eX0_faultIn_37s, eX0_faultIn_37c, eX0_faultIn_38, eX0_faultIn_41, eX0_faultIn_42, eX0_faultIn_43, eX0_faultIn_46, eX0_faultIn_47, eX0_faultIn_48, eX0_faultIn_50, eX0_faultIn_53, eX0_faultIn_54, eX0_faultIn_56, eX0_faultIn_59, eX0_faultIn_59n, eX0_faultIn_59t, eX0_faultIn_59s, eX0_faultIn_59c, eX0_faultIn_60, eX0_faultIn_63, eX0_faultIn_66, eX0_faultIn_66n, eX0_faultIn_66t, eX0_faultIn_66s, eX0_faultIn_66c, eX0_faultIn_67, eX0_faultIn_70, eX0_faultIn_71, eX0_faultIn_72, eX0_faultIn_73, eX0_faultIn_74, eX0_faultIn_74n, eX0_faultIn_74t, eX0_faultIn_74s, eX0_faultIn_74c, eX0_faultIn_75, eX0_faultIn_78, eX0_faultIn_79, eX0_faultIn_82, eX0_faultIn_82n, eX0_faultIn_82t, eX0_faultIn_82s, eX0_faultIn_82c, eX0_faultIn_83, eX0_faultIn_86, eX0_faultIn_89, eX0_faultIn_90, eX0_faultIn_93, eX0_faultIn_96, eX0_faultIn_97, ↓reduceIte, Evk_some, Evh_some, Evn_some, Evr_v, Evr_n, mk_i, mk_r, mk_0, mk_n, mk_l, mc0, mc1, mc2, mc3, mc4, mi_obj, Bool.and_self, Bool.true_and, Nat.add_zero, Nat.zero_add, nI_add, pk_mul, pk_sub, Nat.add_sub_cancel, eq_self, if_true, if_false, n10, bI_t, bI_f, bI_0, Nat.reduceAdd, Nat.reduceMul, Nat.reduceSub, nI_eq, nI_ltI, nI_leI, Nat.reduceEqDiff, Nat.reduceLT, Nat.reduceDiv, Nat.reduceMod, Nat.reduceLeDiff, ci_Code, ci_Frame, ci_Task, ci_Segment, ci_Main, ci_Program, ci_Checker, ci_World, tkv_s, sgv_s, cdv_s, tkv_n, sgv_n, cdv_n, tkv_k, sgv_k, cdv_k, cg_Code_length, h2]
      rfl
    · obtain ⟨a1, a2, a3⟩ := h5 (n - 1) (by omega)
      have k1 := kl_operationAt (b := b) (J := J) (P := P) (nx := nx) (p := n - 1) hj h2 hn (by omega)
      rw [if_pos (by omega), a1] at k1
      by_cases hlast : op (n - 1) ≠ 16 ∧ (decide (6 ≤ j) = true ∨ op (n - 1) ≠ 11)
      · have hfo : FoR (decide (6 ≤ j)) op ai n nb (some (n - 1)) := Or.inr ⟨q1, Or.inr (Or.inl ⟨by omega, hlast, rfl⟩)⟩
        refine ⟨N, fun _ _ _ _ _ _ => rfl, ?_⟩
        rw [foF_eq hfo]
        refine ⟨hfo, Cl_of (x := mnI_X0_faultIn) rfl ((pre _).mpr ((q2 _).mpr ?_))⟩
        obtain ⟨l1, l2⟩ := hlast
        by_cases l11 : op (n - 1) = 11
        · have l6 : decide (6 ≤ j) = true := l2.resolve_right (fun z => z l11)
          simp (disch := first | omega | (simp only [cat_i, cat_r, ri_r, ri_0, tkv_r, sgv_r, cdv_r]; done)) only [eX0_faultIn_27, eX0_faultIn_27n, eX0_faultIn_27t, eX0_faultIn_27s, eX0_faultIn_27c, eX0_faultIn_28, eX0_faultIn_31, eX0_faultIn_34, eX0_faultIn_35, eX0_faultIn_36, eX0_faultIn_36n, eX0_faultIn_36t, eX0_faultIn_36s, eX0_faultIn_36c, eX0_faultIn_37, eX0_faultIn_37n, eX0_faultIn_37t, eX0_faultIn_37s, eX0_faultIn_37c, eX0_faultIn_38, eX0_faultIn_41, eX0_faultIn_42, eX0_faultIn_43, eX0_faultIn_46, eX0_faultIn_47, eX0_faultIn_48, eX0_faultIn_50, eX0_faultIn_53, eX0_faultIn_54, eX0_faultIn_56, eX0_faultIn_59, eX0_faultIn_59n, eX0_faultIn_59t, eX0_faultIn_59s, eX0_faultIn_59c, eX0_faultIn_60, eX0_faultIn_63, eX0_faultIn_66, eX0_faultIn_66n, eX0_faultIn_66t, eX0_faultIn_66s, eX0_faultIn_66c, eX0_faultIn_67, eX0_faultIn_70, eX0_faultIn_71, eX0_faultIn_72, eX0_faultIn_73, eX0_faultIn_74, eX0_faultIn_74n, eX0_faultIn_74t, eX0_faultIn_74s, eX0_faultIn_74c, eX0_faultIn_75, eX0_faultIn_78, eX0_faultIn_79, eX0_faultIn_82, eX0_faultIn_82n, eX0_faultIn_82t, eX0_faultIn_82s, eX0_faultIn_82c, eX0_faultIn_83, eX0_faultIn_86, eX0_faultIn_89, eX0_faultIn_90, eX0_faultIn_93, eX0_faultIn_96, eX0_faultIn_97, ↓reduceIte, Evk_some, Evh_some, Evn_some, Evr_v, Evr_n, mk_i, mk_r, mk_0, mk_n, mk_l, mc0, mc1, mc2, mc3, mc4, mi_obj, Bool.and_self, Bool.true_and, Nat.add_zero, Nat.zero_add, nI_add, pk_mul, pk_sub, Nat.add_sub_cancel, eq_self, if_true, if_false, n10, bI_t, bI_f, bI_0, Nat.reduceAdd, Nat.reduceMul, Nat.reduceSub, nI_eq, nI_ltI, nI_leI, Nat.reduceEqDiff, Nat.reduceLT, Nat.reduceDiv, Nat.reduceMod, Nat.reduceLeDiff, ci_Code, ci_Frame, ci_Task, ci_Segment, ci_Main, ci_Program, ci_Checker, ci_World, tkv_s, sgv_s, cdv_s, tkv_n, sgv_n, cdv_n, tkv_k, sgv_k, cdv_k, cg_Code_length, h2, hn0, k1, eq_false l1, eq_true l11, cg_Code_isMerge, l6, Bool.true_eq_false]
          rfl
        · simp (disch := first | omega | (simp only [cat_i, cat_r, ri_r, ri_0, tkv_r, sgv_r, cdv_r]; done)) only [eX0_faultIn_27, eX0_faultIn_27n, eX0_faultIn_27t, eX0_faultIn_27s, eX0_faultIn_27c, eX0_faultIn_28, eX0_faultIn_31, eX0_faultIn_34, eX0_faultIn_35, eX0_faultIn_36, eX0_faultIn_36n, eX0_faultIn_36t, eX0_faultIn_36s, eX0_faultIn_36c, eX0_faultIn_37, eX0_faultIn_37n, eX0_faultIn_37t, eX0_faultIn_37s, eX0_faultIn_37c, eX0_faultIn_38, eX0_faultIn_41, eX0_faultIn_42, eX0_faultIn_43, eX0_faultIn_46, eX0_faultIn_47, eX0_faultIn_48, eX0_faultIn_50, eX0_faultIn_53, eX0_faultIn_54, eX0_faultIn_56, eX0_faultIn_59, eX0_faultIn_59n, eX0_faultIn_59t, eX0_faultIn_59s, eX0_faultIn_59c, eX0_faultIn_60, eX0_faultIn_63, eX0_faultIn_66, eX0_faultIn_66n, eX0_faultIn_66t, eX0_faultIn_66s, eX0_faultIn_66c, eX0_faultIn_67, eX0_faultIn_70, eX0_faultIn_71, eX0_faultIn_72, eX0_faultIn_73, eX0_faultIn_74, eX0_faultIn_74n, eX0_faultIn_74t, eX0_faultIn_74s, eX0_faultIn_74c, eX0_faultIn_75, eX0_faultIn_78, eX0_faultIn_79, eX0_faultIn_82, eX0_faultIn_82n, eX0_faultIn_82t, eX0_faultIn_82s, eX0_faultIn_82c, eX0_faultIn_83, eX0_faultIn_86, eX0_faultIn_89, eX0_faultIn_90, eX0_faultIn_93, eX0_faultIn_96, eX0_faultIn_97, ↓reduceIte, Evk_some, Evh_some, Evn_some, Evr_v, Evr_n, mk_i, mk_r, mk_0, mk_n, mk_l, mc0, mc1, mc2, mc3, mc4, mi_obj, Bool.and_self, Bool.true_and, Nat.add_zero, Nat.zero_add, nI_add, pk_mul, pk_sub, Nat.add_sub_cancel, eq_self, if_true, if_false, n10, bI_t, bI_f, bI_0, Nat.reduceAdd, Nat.reduceMul, Nat.reduceSub, nI_eq, nI_ltI, nI_leI, Nat.reduceEqDiff, Nat.reduceLT, Nat.reduceDiv, Nat.reduceMod, Nat.reduceLeDiff, ci_Code, ci_Frame, ci_Task, ci_Segment, ci_Main, ci_Program, ci_Checker, ci_World, tkv_s, sgv_s, cdv_s, tkv_n, sgv_n, cdv_n, tkv_k, sgv_k, cdv_k, cg_Code_length, h2, hn0, k1, eq_false l1, eq_false l11]
          rfl
      · obtain ⟨w1, w2⟩ := wf_of (m := decide (6 ≤ j)) (ai := ai) (nb := nb) (show n ≤ 24 by omega) (fun p hp => (h5 p hp).2.1) q1 (by omega) hlast
        obtain ⟨N', lw, g1, g2, g3, g4, g5⟩ := kl_goAllWays (b := b) (J := J) (P := P) (nx := nx) hb hj w1 ⟨h2, hn, fun p hp => ⟨(h5 p hp).1, fun hq => by rw [(h5 p hp).2.2]; exact w2 p hp hq⟩⟩
        have hfo : FoR (decide (6 ≤ j)) op ai n nb (if lw < n then some lw else none) := Or.inr ⟨q1, Or.inr (Or.inr ⟨by omega, hlast, g4⟩)⟩
        refine ⟨N', g1, ?_⟩
        rw [foF_eq hfo]
        refine ⟨hfo, Cl_of (x := mnI_X0_faultIn) rfl ((pre _).mpr ((q2 _).mpr ?_))⟩
        have e2 : N' 2 j 0 = nI n := by rw [g1 2 j (by decide) (by decide) (by decide) (by decide)]; exact h2
        have fin : Ev 1 73 [some (.ref 9), some (.ref (12 + 3 * j)), some (.int (nI nb)), some (.int (nI (op (n - 1))))] [] (cpic b N J P, nx, 0, 0) ((cpic b N' J P, nx, 0, 0), .inl (some (.int (oI (if lw < n then some lw else none))))) := by
          by_cases hlt : lw < n
          · have h3 : ¬ n ≤ lw := by omega
            simp (disch := first | omega | (simp only [cat_i, cat_r, ri_r, ri_0, tkv_r, sgv_r, cdv_r]; done)) only [eX0_faultIn_73, eX0_faultIn_74, eX0_faultIn_74n, eX0_faultIn_74t, eX0_faultIn_74s, eX0_faultIn_74c, eX0_faultIn_75, eX0_faultIn_78, eX0_faultIn_79, eX0_faultIn_82, eX0_faultIn_82n, eX0_faultIn_82t, eX0_faultIn_82s, eX0_faultIn_82c, eX0_faultIn_83, eX0_faultIn_86, eX0_faultIn_89, eX0_faultIn_90, eX0_faultIn_93, eX0_faultIn_96, eX0_faultIn_97, ↓reduceIte, Evk_some, Evh_some, Evn_some, Evr_v, Evr_n, mk_i, mk_r, mk_0, mk_n, mk_l, mc0, mc1, mc2, mc3, mc4, mi_obj, Bool.and_self, Bool.true_and, Nat.add_zero, Nat.zero_add, nI_add, pk_mul, pk_sub, Nat.add_sub_cancel, eq_self, if_true, if_false, n10, bI_t, bI_f, bI_0, Nat.reduceAdd, Nat.reduceMul, Nat.reduceSub, nI_eq, nI_ltI, nI_leI, Nat.reduceEqDiff, Nat.reduceLT, Nat.reduceDiv, Nat.reduceMod, Nat.reduceLeDiff, ci_Code, ci_Frame, ci_Task, ci_Segment, ci_Main, ci_Program, ci_Checker, ci_World, tkv_s, sgv_s, cdv_s, tkv_n, sgv_n, cdv_n, tkv_k, sgv_k, cdv_k, g5, cg_Checker_lowest, g2, cg_Code_length, e2, h3, hlt]
            rfl
          · have h3 : n ≤ lw := by omega
            simp (disch := first | omega | (simp only [cat_i, cat_r, ri_r, ri_0, tkv_r, sgv_r, cdv_r]; done)) only [eX0_faultIn_73, eX0_faultIn_74, eX0_faultIn_74n, eX0_faultIn_74t, eX0_faultIn_74s, eX0_faultIn_74c, eX0_faultIn_75, eX0_faultIn_78, eX0_faultIn_79, eX0_faultIn_82, eX0_faultIn_82n, eX0_faultIn_82t, eX0_faultIn_82s, eX0_faultIn_82c, eX0_faultIn_83, eX0_faultIn_86, eX0_faultIn_89, eX0_faultIn_90, eX0_faultIn_93, eX0_faultIn_96, eX0_faultIn_97, ↓reduceIte, Evk_some, Evh_some, Evn_some, Evr_v, Evr_n, mk_i, mk_r, mk_0, mk_n, mk_l, mc0, mc1, mc2, mc3, mc4, mi_obj, Bool.and_self, Bool.true_and, Nat.add_zero, Nat.zero_add, nI_add, pk_mul, pk_sub, Nat.add_sub_cancel, eq_self, if_true, if_false, n10, bI_t, bI_f, bI_0, Nat.reduceAdd, Nat.reduceMul, Nat.reduceSub, nI_eq, nI_ltI, nI_leI, Nat.reduceEqDiff, Nat.reduceLT, Nat.reduceDiv, Nat.reduceMod, Nat.reduceLeDiff, ci_Code, ci_Frame, ci_Task, ci_Segment, ci_Main, ci_Program, ci_Checker, ci_World, tkv_s, sgv_s, cdv_s, tkv_n, sgv_n, cdv_n, tkv_k, sgv_k, cdv_k, g5, cg_Checker_lowest, g2, cg_Code_length, e2, h3, hlt]
            rfl
        by_cases l16 : op (n - 1) = 16
        · simp (disch := first | omega | (simp only [cat_i, cat_r, ri_r, ri_0, tkv_r, sgv_r, cdv_r]; done)) only [eX0_faultIn_27, eX0_faultIn_27n, eX0_faultIn_27t, eX0_faultIn_27s, eX0_faultIn_27c, eX0_faultIn_28, eX0_faultIn_31, eX0_faultIn_34, eX0_faultIn_35, eX0_faultIn_36, eX0_faultIn_36n, eX0_faultIn_36t, eX0_faultIn_36s, eX0_faultIn_36c, eX0_faultIn_37, eX0_faultIn_37n, eX0_faultIn_37t, eX0_faultIn_37s, eX0_faultIn_37c, eX0_faultIn_38, eX0_faultIn_41, eX0_faultIn_42, eX0_faultIn_43, eX0_faultIn_46, eX0_faultIn_47, eX0_faultIn_48, eX0_faultIn_50, eX0_faultIn_53, eX0_faultIn_54, eX0_faultIn_56, eX0_faultIn_59, eX0_faultIn_59n, eX0_faultIn_59t, eX0_faultIn_59s, eX0_faultIn_59c, eX0_faultIn_60, eX0_faultIn_63, eX0_faultIn_66, eX0_faultIn_66n, eX0_faultIn_66t, eX0_faultIn_66s, eX0_faultIn_66c, eX0_faultIn_67, eX0_faultIn_70, eX0_faultIn_71, eX0_faultIn_72, ↓reduceIte, Evk_some, Evh_some, Evn_some, Evr_v, Evr_n, mk_i, mk_r, mk_0, mk_n, mk_l, mc0, mc1, mc2, mc3, mc4, mi_obj, Bool.and_self, Bool.true_and, Nat.add_zero, Nat.zero_add, nI_add, pk_mul, pk_sub, Nat.add_sub_cancel, eq_self, if_true, if_false, n10, bI_t, bI_f, bI_0, Nat.reduceAdd, Nat.reduceMul, Nat.reduceSub, nI_eq, nI_ltI, nI_leI, Nat.reduceEqDiff, Nat.reduceLT, Nat.reduceDiv, Nat.reduceMod, Nat.reduceLeDiff, ci_Code, ci_Frame, ci_Task, ci_Segment, ci_Main, ci_Program, ci_Checker, ci_World, tkv_s, sgv_s, cdv_s, tkv_n, sgv_n, cdv_n, tkv_k, sgv_k, cdv_k, cg_Code_length, h2, hn0, k1, eq_true l16]
          exact fin
        · by_cases l11 : op (n - 1) = 11
          · have l6 : decide (6 ≤ j) = false := by
              cases hd : decide (6 ≤ j) with
              | false => rfl
              | true => exact absurd ⟨l16, Or.inl hd⟩ hlast
            simp (disch := first | omega | (simp only [cat_i, cat_r, ri_r, ri_0, tkv_r, sgv_r, cdv_r]; done)) only [eX0_faultIn_27, eX0_faultIn_27n, eX0_faultIn_27t, eX0_faultIn_27s, eX0_faultIn_27c, eX0_faultIn_28, eX0_faultIn_31, eX0_faultIn_34, eX0_faultIn_35, eX0_faultIn_36, eX0_faultIn_36n, eX0_faultIn_36t, eX0_faultIn_36s, eX0_faultIn_36c, eX0_faultIn_37, eX0_faultIn_37n, eX0_faultIn_37t, eX0_faultIn_37s, eX0_faultIn_37c, eX0_faultIn_38, eX0_faultIn_41, eX0_faultIn_42, eX0_faultIn_43, eX0_faultIn_46, eX0_faultIn_47, eX0_faultIn_48, eX0_faultIn_50, eX0_faultIn_53, eX0_faultIn_54, eX0_faultIn_56, eX0_faultIn_59, eX0_faultIn_59n, eX0_faultIn_59t, eX0_faultIn_59s, eX0_faultIn_59c, eX0_faultIn_60, eX0_faultIn_63, eX0_faultIn_66, eX0_faultIn_66n, eX0_faultIn_66t, eX0_faultIn_66s, eX0_faultIn_66c, eX0_faultIn_67, eX0_faultIn_70, eX0_faultIn_71, eX0_faultIn_72, ↓reduceIte, Evk_some, Evh_some, Evn_some, Evr_v, Evr_n, mk_i, mk_r, mk_0, mk_n, mk_l, mc0, mc1, mc2, mc3, mc4, mi_obj, Bool.and_self, Bool.true_and, Nat.add_zero, Nat.zero_add, nI_add, pk_mul, pk_sub, Nat.add_sub_cancel, eq_self, if_true, if_false, n10, bI_t, bI_f, bI_0, Nat.reduceAdd, Nat.reduceMul, Nat.reduceSub, nI_eq, nI_ltI, nI_leI, Nat.reduceEqDiff, Nat.reduceLT, Nat.reduceDiv, Nat.reduceMod, Nat.reduceLeDiff, ci_Code, ci_Frame, ci_Task, ci_Segment, ci_Main, ci_Program, ci_Checker, ci_World, tkv_s, sgv_s, cdv_s, tkv_n, sgv_n, cdv_n, tkv_k, sgv_k, cdv_k, cg_Code_length, h2, hn0, k1, eq_false l16, eq_true l11, cg_Code_isMerge, l6]
            exact fin
          · exact absurd ⟨l16, Or.inr l11⟩ hlast
/-- the class's codes -/
def cdT (N : cN) (sz : Nat → Nat) (op : Nat → Nat → Nat) (ai : Nat → Nat → Int32) : Prop := ∀ c, c < 8 → N 2 c 0 = nI (sz c) ∧ sz c ≤ cap c ∧ ∀ p, p < sz c → N 3 c p = nI (op c p) ∧ op c p < 19 ∧ N 4 c p = ai c p
theorem cdT.fr {N' : cN} {sz : Nat → Nat} {op : Nat → Nat → Nat} {ai : Nat → Nat → Int32} (h : cdT N sz op ai) (hf : frK N N') : cdT N' sz op ai := by
  intro c hc
  rw [hf 2 c (by decide) (by decide) (by decide) (by decide), hf 3 c (by decide) (by decide) (by decide) (by decide), hf 4 c (by decide) (by decide) (by decide) (by decide)]
  exact h c hc
theorem pf_skip {fo : Nat → Option Nat} {nb nm : Nat} : ∀ (l l' : List Nat), (∀ c ∈ l, vld nb nm c = false) → pfF fo nb nm (l ++ l') = pfF fo nb nm l' := by
  intro l
  induction l with
  | nil => intro l' _; rfl
  | cons c l ih =>
    intro l' h
    rw [List.cons_append]
    conv => lhs; unfold pfF
    rw [if_neg (by rw [h c List.mem_cons_self]; simp)]
    exact ih l' (fun x hx => h x (List.mem_cons_of_mem _ hx))
set_option maxHeartbeats 8000000 in
theorem kv_ff2 {nb nm : Nat} {sz : Nat → Nat} {op : Nat → Nat → Nat} {ai : Nat → Nat → Int32} (hb : bS b) (hnb : nb ≤ 6) (hnm : nm ≤ 2) : ∀ (d k : Nat), k + d = nm → ∀ (N : cN) (c2 : Option Value), N 0 0 0 = nI nb → N 1 0 0 = nI nm → cdT N sz op ai → ∃ N', frK N N' ∧ Ev 31 47 [some (.ref 4), some (.int (nI k)), c2] [] (cpic b N J P, nx, 0, 0) ((cpic b N' J P, nx, 0, 0), .inl (some (.int (pfF (fun c => foF (decide (6 ≤ c)) (op c) (ai c) (sz c) nb) nb nm (List.range' (6 + k) (2 - k)))))) := by
  intro d
  induction d with
  | zero =>
    intro k hk N c2 h0 h1 hcd
    have hk : k = nm := by omega
    subst hk
    refine ⟨N, fun _ _ _ _ _ _ => rfl, ?_⟩
    have e : pfF (fun c => foF (decide (6 ≤ c)) (op c) (ai c) (sz c) nb) nb k (List.range' (6 + k) (2 - k)) = -1 := by
      have := pf_skip (fo := fun c => foF (decide (6 ≤ c)) (op c) (ai c) (sz c) nb) (nb := nb) (nm := k) (List.range' (6 + k) (2 - k)) [] (fun c hc => by
        have := List.mem_range'_1.mp hc
        unfold vld
        rw [if_neg (by omega)]
        simp; omega)
      rw [List.append_nil] at this
      exact this
    rw [e]
    refine eX3_firstFault_47.mpr ?_
    simp (disch := first | omega | (simp only [cat_i, cat_r, ri_r, ri_0, tkv_r, sgv_r, cdv_r]; done)) only [eX3_firstFault_48, eX3_firstFault_49, eX3_firstFault_52, eX3_firstFault_55, eX3_firstFault_56, eX3_firstFault_59, eX3_firstFault_60, eX3_firstFault_63, eX3_firstFault_64, eX3_firstFault_65, eX3_firstFault_66, eX3_firstFault_69, eX3_firstFault_72, eX3_firstFault_73, eX3_firstFault_74, eX3_firstFault_77, eX3_firstFault_80, eX3_firstFault_82, eX3_firstFault_83, eX3_firstFault_84, eX3_firstFault_85, eX3_firstFault_86, eX3_firstFault_87, eX3_firstFault_88, eX3_firstFault_91, eX3_firstFault_94, eX3_firstFault_95, ↓reduceIte, Evk_some, Evh_some, Evn_some, Evr_v, Evr_n, mk_i, mk_r, mk_0, mk_n, mk_l, mc0, mc1, mc2, mc3, mc4, mi_obj, Bool.and_self, Bool.true_and, Nat.add_zero, Nat.zero_add, nI_add, pk_mul, pk_sub, Nat.add_sub_cancel, eq_self, if_true, if_false, n10, bI_t, bI_f, bI_0, Nat.reduceAdd, Nat.reduceMul, Nat.reduceSub, nI_eq, nI_ltI, nI_leI, Nat.reduceEqDiff, Nat.reduceLT, Nat.reduceDiv, Nat.reduceMod, Nat.reduceLeDiff, ci_Code, ci_Frame, ci_Task, ci_Segment, ci_Main, ci_Program, ci_Checker, ci_World, tkv_s, sgv_s, cdv_s, tkv_n, sgv_n, cdv_n, tkv_k, sgv_k, cdv_k, cg_Program_mergeCount, h1, Nat.le_refl]
  | succ d ih =>
    intro k hk N c2 h0 h1 hcd
    obtain ⟨b1, b2, b3⟩ := hcd (6 + k) (by omega)
    obtain ⟨N1, f1, f2, f3⟩ := kl_faultIn (b := b) (J := J) (P := P) (nx := nx) (nb := nb) hb (show 6 + k < 8 by omega) b2 b1 b3
    have h3 : ¬ nm ≤ k := by omega
    have hr : List.range' (6 + k) (2 - k) = (6 + k) :: List.range' (6 + (k + 1)) (2 - (k + 1)) := by
      rw [show 2 - k = (2 - (k + 1)) + 1 by omega, List.range'_succ]
      rfl
    have hv : vld nb nm (6 + k) = true := by
      unfold vld
      rw [if_neg (by omega)]
      simp; omega
    rw [hr]
    cases hfo : foF (decide (6 ≤ 6 + k)) (op (6 + k)) (ai (6 + k)) (sz (6 + k)) nb with
    | some q =>
      have hq : q < 24 := by
        have hc := cap_le (6 + k)
        rw [hfo] at f2
        rcases f2 with ⟨x, e, hx, -⟩ | ⟨-, ⟨hz, e⟩ | ⟨hz, -, e⟩ | ⟨hz, -, hl⟩⟩
        · cases e; omega
        · cases e; omega
        · cases e; omega
        · rcases hl with ⟨x, e, hx, -⟩ | ⟨e, -⟩
          · cases e; omega
          · cases e
      rw [hfo] at f3
      refine ⟨N1, f1, ?_⟩
      have ev : pfF (fun c => foF (decide (6 ≤ c)) (op c) (ai c) (sz c) nb) nb nm ((6 + k) :: List.range' (6 + (k + 1)) (2 - (k + 1))) = nI (1000 + 100 * k + q) := by
        unfold pfF
        rw [if_pos hv]
        simp only [hfo]
        unfold vlc
        rw [if_neg (by omega), show 6 + k - 6 = k by omega]
      rw [ev]
      refine eX3_firstFault_47.mpr ?_
      rw [oI_s] at f3
      have hq0 : ¬ q < 0 := by omega
      simp (disch := first | omega | (simp only [cat_i, cat_r, ri_r, ri_0, tkv_r, sgv_r, cdv_r]; done)) only [eX3_firstFault_48, eX3_firstFault_49, eX3_firstFault_52, eX3_firstFault_55, eX3_firstFault_56, eX3_firstFault_59, eX3_firstFault_60, eX3_firstFault_63, eX3_firstFault_64, eX3_firstFault_65, eX3_firstFault_66, eX3_firstFault_69, eX3_firstFault_72, eX3_firstFault_73, eX3_firstFault_74, eX3_firstFault_77, eX3_firstFault_80, eX3_firstFault_82, eX3_firstFault_83, eX3_firstFault_84, eX3_firstFault_85, eX3_firstFault_86, eX3_firstFault_87, eX3_firstFault_88, eX3_firstFault_91, eX3_firstFault_94, eX3_firstFault_95, ↓reduceIte, Evk_some, Evh_some, Evn_some, Evr_v, Evr_n, mk_i, mk_r, mk_0, mk_n, mk_l, mc0, mc1, mc2, mc3, mc4, mi_obj, Bool.and_self, Bool.true_and, Nat.add_zero, Nat.zero_add, nI_add, pk_mul, pk_sub, Nat.add_sub_cancel, eq_self, if_true, if_false, n10, bI_t, bI_f, bI_0, Nat.reduceAdd, Nat.reduceMul, Nat.reduceSub, nI_eq, nI_ltI, nI_leI, Nat.reduceEqDiff, Nat.reduceLT, Nat.reduceDiv, Nat.reduceMod, Nat.reduceLeDiff, ci_Code, ci_Frame, ci_Task, ci_Segment, ci_Main, ci_Program, ci_Checker, ci_World, tkv_s, sgv_s, cdv_s, tkv_n, sgv_n, cdv_n, tkv_k, sgv_k, cdv_k, cg_Program_mergeCount, h1, h3, cg_Program_checker, cg_Program_merges, cq_merges, cg_Program_blockCount, h0, f3, hq0]
    | none =>
      rw [hfo] at f3
      obtain ⟨N', i1, i2⟩ := ih (k + 1) (by omega) N1 (some (.int (-1))) (by rw [f1 0 0 (by decide) (by decide) (by decide) (by decide)]; exact h0) (by rw [f1 1 0 (by decide) (by decide) (by decide) (by decide)]; exact h1) (hcd.fr f1)
      refine ⟨N', f1.trans i1, ?_⟩
      have ev : pfF (fun c => foF (decide (6 ≤ c)) (op c) (ai c) (sz c) nb) nb nm ((6 + k) :: List.range' (6 + (k + 1)) (2 - (k + 1))) = pfF (fun c => foF (decide (6 ≤ c)) (op c) (ai c) (sz c) nb) nb nm (List.range' (6 + (k + 1)) (2 - (k + 1))) := by
        conv => lhs; unfold pfF
        rw [if_pos hv]
        simp only [hfo]
      rw [ev]
      refine eX3_firstFault_47.mpr ?_
      rw [oI_n] at f3
      have hm1 : (-1 : Int32) < nI 0 := by decide
      simp (disch := first | omega | (simp only [cat_i, cat_r, ri_r, ri_0, tkv_r, sgv_r, cdv_r]; done)) only [eX3_firstFault_48, eX3_firstFault_49, eX3_firstFault_52, eX3_firstFault_55, eX3_firstFault_56, eX3_firstFault_59, eX3_firstFault_60, eX3_firstFault_63, eX3_firstFault_64, eX3_firstFault_65, eX3_firstFault_66, eX3_firstFault_69, eX3_firstFault_72, eX3_firstFault_73, eX3_firstFault_74, eX3_firstFault_77, eX3_firstFault_80, eX3_firstFault_82, eX3_firstFault_83, eX3_firstFault_84, eX3_firstFault_85, eX3_firstFault_86, eX3_firstFault_87, eX3_firstFault_88, eX3_firstFault_91, ↓reduceIte, Evk_some, Evh_some, Evn_some, Evr_v, Evr_n, mk_i, mk_r, mk_0, mk_n, mk_l, mc0, mc1, mc2, mc3, mc4, mi_obj, Bool.and_self, Bool.true_and, Nat.add_zero, Nat.zero_add, nI_add, pk_mul, pk_sub, Nat.add_sub_cancel, eq_self, if_true, if_false, n10, bI_t, bI_f, bI_0, Nat.reduceAdd, Nat.reduceMul, Nat.reduceSub, nI_eq, nI_ltI, nI_leI, Nat.reduceEqDiff, Nat.reduceLT, Nat.reduceDiv, Nat.reduceMod, Nat.reduceLeDiff, ci_Code, ci_Frame, ci_Task, ci_Segment, ci_Main, ci_Program, ci_Checker, ci_World, tkv_s, sgv_s, cdv_s, tkv_n, sgv_n, cdv_n, tkv_k, sgv_k, cdv_k, cg_Program_mergeCount, h1, h3, cg_Program_checker, cg_Program_merges, cq_merges, cg_Program_blockCount, h0, f3, hm1]
      exact i2
set_option maxHeartbeats 8000000 in
theorem kv_ff1 {nb nm : Nat} {sz : Nat → Nat} {op : Nat → Nat → Nat} {ai : Nat → Nat → Int32} (hb : bS b) (hnb : nb ≤ 6) (hnm : nm ≤ 2) : ∀ (d k : Nat), k + d = nb → ∀ (N : cN) (c2 : Option Value), N 0 0 0 = nI nb → N 1 0 0 = nI nm → cdT N sz op ai → ∃ N', frK N N' ∧ Ev 31 2 [some (.ref 4), some (.int (nI k)), c2] [] (cpic b N J P, nx, 0, 0) ((cpic b N' J P, nx, 0, 0), .inl (some (.int (pfF (fun c => foF (decide (6 ≤ c)) (op c) (ai c) (sz c) nb) nb nm (List.range' k (8 - k)))))) := by
  intro d
  induction d with
  | zero =>
    intro k hk N c2 h0 h1 hcd
    have hk : k = nb := by omega
    subst hk
    obtain ⟨N', i1, i2⟩ := kv_ff2 (b := b) (J := J) (P := P) (nx := nx) hb hnb hnm nm 0 (by omega) N c2 h0 h1 hcd
    refine ⟨N', i1, ?_⟩
    have e : pfF (fun c => foF (decide (6 ≤ c)) (op c) (ai c) (sz c) k) k nm (List.range' k (8 - k)) = pfF (fun c => foF (decide (6 ≤ c)) (op c) (ai c) (sz c) k) k nm (List.range' (6 + 0) (2 - 0)) := by
      have hsp : List.range' k (8 - k) = List.range' k (6 - k) ++ List.range' (6 + 0) (2 - 0) := by
        have := List.range'_append_1 (s := k) (m := 6 - k) (n := 2)
        rw [show k + (6 - k) = 6 by omega, show 6 - k + 2 = 8 - k by omega] at this
        exact this.symm
      rw [hsp]
      exact pf_skip _ _ (fun c hc => by
        have := List.mem_range'_1.mp hc
        unfold vld
        rw [if_pos (by omega)]
        simp; omega)
    rw [e]
    refine eX3_firstFault_2.mpr ?_
    simp (disch := first | omega | (simp only [cat_i, cat_r, ri_r, ri_0, tkv_r, sgv_r, cdv_r]; done)) only [eX3_firstFault_3, eX3_firstFault_4, eX3_firstFault_7, eX3_firstFault_10, eX3_firstFault_11, eX3_firstFault_14, eX3_firstFault_15, eX3_firstFault_18, eX3_firstFault_19, eX3_firstFault_20, eX3_firstFault_21, eX3_firstFault_24, eX3_firstFault_27, eX3_firstFault_28, eX3_firstFault_29, eX3_firstFault_32, eX3_firstFault_34, eX3_firstFault_35, eX3_firstFault_36, eX3_firstFault_37, eX3_firstFault_38, eX3_firstFault_39, eX3_firstFault_42, eX3_firstFault_45, eX3_firstFault_46, ↓reduceIte, Evk_some, Evh_some, Evn_some, Evr_v, Evr_n, mk_i, mk_r, mk_0, mk_n, mk_l, mc0, mc1, mc2, mc3, mc4, mi_obj, Bool.and_self, Bool.true_and, Nat.add_zero, Nat.zero_add, nI_add, pk_mul, pk_sub, Nat.add_sub_cancel, eq_self, if_true, if_false, n10, bI_t, bI_f, bI_0, Nat.reduceAdd, Nat.reduceMul, Nat.reduceSub, nI_eq, nI_ltI, nI_leI, Nat.reduceEqDiff, Nat.reduceLT, Nat.reduceDiv, Nat.reduceMod, Nat.reduceLeDiff, ci_Code, ci_Frame, ci_Task, ci_Segment, ci_Main, ci_Program, ci_Checker, ci_World, tkv_s, sgv_s, cdv_s, tkv_n, sgv_n, cdv_n, tkv_k, sgv_k, cdv_k, cg_Program_blockCount, h0, Nat.le_refl]
    exact i2
  | succ d ih =>
    intro k hk N c2 h0 h1 hcd
    obtain ⟨b1, b2, b3⟩ := hcd k (by omega)
    obtain ⟨N1, f1, f2, f3⟩ := kl_faultIn (b := b) (J := J) (P := P) (nx := nx) (nb := nb) hb (show k < 8 by omega) b2 b1 b3
    have h3 : ¬ nb ≤ k := by omega
    have hr : List.range' k (8 - k) = k :: List.range' (k + 1) (8 - (k + 1)) := by
      rw [show 8 - k = (8 - (k + 1)) + 1 by omega, List.range'_succ]
    have hv : vld nb nm k = true := by
      unfold vld
      rw [if_pos (by omega)]
      simp; omega
    rw [hr]
    cases hfo : foF (decide (6 ≤ k)) (op k) (ai k) (sz k) nb with
    | some q =>
      have hq : q < 24 ∨ q = 0 := by
        have hc := cap_le k
        rw [hfo] at f2
        rcases f2 with ⟨x, e, hx, -⟩ | ⟨-, ⟨hz, e⟩ | ⟨hz, -, e⟩ | ⟨hz, -, hl⟩⟩
        · cases e; omega
        · cases e; omega
        · cases e; omega
        · rcases hl with ⟨x, e, hx, -⟩ | ⟨e, -⟩
          · cases e; omega
          · cases e
      rw [hfo] at f3
      refine ⟨N1, f1, ?_⟩
      have ev : pfF (fun c => foF (decide (6 ≤ c)) (op c) (ai c) (sz c) nb) nb nm (k :: List.range' (k + 1) (8 - (k + 1))) = nI (100 * k + q) := by
        unfold pfF
        rw [if_pos hv]
        simp only [hfo]
        unfold vlc
        rw [if_pos (by omega)]
      rw [ev]
      refine eX3_firstFault_2.mpr ?_
      rw [oI_s] at f3
      have hq0 : ¬ q < 0 := by omega
      simp (disch := first | omega | (simp only [cat_i, cat_r, ri_r, ri_0, tkv_r, sgv_r, cdv_r]; done)) only [eX3_firstFault_3, eX3_firstFault_4, eX3_firstFault_7, eX3_firstFault_10, eX3_firstFault_11, eX3_firstFault_14, eX3_firstFault_15, eX3_firstFault_18, eX3_firstFault_19, eX3_firstFault_20, eX3_firstFault_21, eX3_firstFault_24, eX3_firstFault_27, eX3_firstFault_28, eX3_firstFault_29, eX3_firstFault_32, eX3_firstFault_34, eX3_firstFault_35, eX3_firstFault_36, eX3_firstFault_37, eX3_firstFault_38, ↓reduceIte, Evk_some, Evh_some, Evn_some, Evr_v, Evr_n, mk_i, mk_r, mk_0, mk_n, mk_l, mc0, mc1, mc2, mc3, mc4, mi_obj, Bool.and_self, Bool.true_and, Nat.add_zero, Nat.zero_add, nI_add, pk_mul, pk_sub, Nat.add_sub_cancel, eq_self, if_true, if_false, n10, bI_t, bI_f, bI_0, Nat.reduceAdd, Nat.reduceMul, Nat.reduceSub, nI_eq, nI_ltI, nI_leI, Nat.reduceEqDiff, Nat.reduceLT, Nat.reduceDiv, Nat.reduceMod, Nat.reduceLeDiff, ci_Code, ci_Frame, ci_Task, ci_Segment, ci_Main, ci_Program, ci_Checker, ci_World, tkv_s, sgv_s, cdv_s, tkv_n, sgv_n, cdv_n, tkv_k, sgv_k, cdv_k, cg_Program_blockCount, h0, h3, cg_Program_checker, cg_Program_blocks, cq_blocks, f3, hq0]
    | none =>
      rw [hfo] at f3
      obtain ⟨N', i1, i2⟩ := ih (k + 1) (by omega) N1 (some (.int (-1))) (by rw [f1 0 0 (by decide) (by decide) (by decide) (by decide)]; exact h0) (by rw [f1 1 0 (by decide) (by decide) (by decide) (by decide)]; exact h1) (hcd.fr f1)
      refine ⟨N', f1.trans i1, ?_⟩
      have ev : pfF (fun c => foF (decide (6 ≤ c)) (op c) (ai c) (sz c) nb) nb nm (k :: List.range' (k + 1) (8 - (k + 1))) = pfF (fun c => foF (decide (6 ≤ c)) (op c) (ai c) (sz c) nb) nb nm (List.range' (k + 1) (8 - (k + 1))) := by
        conv => lhs; unfold pfF
        rw [if_pos hv]
        simp only [hfo]
      rw [ev]
      refine eX3_firstFault_2.mpr ?_
      rw [oI_n] at f3
      have hm1 : (-1 : Int32) < nI 0 := by decide
      simp (disch := first | omega | (simp only [cat_i, cat_r, ri_r, ri_0, tkv_r, sgv_r, cdv_r]; done)) only [eX3_firstFault_3, eX3_firstFault_4, eX3_firstFault_7, eX3_firstFault_10, eX3_firstFault_11, eX3_firstFault_14, eX3_firstFault_15, eX3_firstFault_18, eX3_firstFault_19, eX3_firstFault_20, eX3_firstFault_21, eX3_firstFault_24, eX3_firstFault_27, eX3_firstFault_28, eX3_firstFault_29, eX3_firstFault_32, eX3_firstFault_34, eX3_firstFault_35, eX3_firstFault_36, eX3_firstFault_37, eX3_firstFault_38, eX3_firstFault_39, eX3_firstFault_42, ↓reduceIte, Evk_some, Evh_some, Evn_some, Evr_v, Evr_n, mk_i, mk_r, mk_0, mk_n, mk_l, mc0, mc1, mc2, mc3, mc4, mi_obj, Bool.and_self, Bool.true_and, Nat.add_zero, Nat.zero_add, nI_add, pk_mul, pk_sub, Nat.add_sub_cancel, eq_self, if_true, if_false, n10, bI_t, bI_f, bI_0, Nat.reduceAdd, Nat.reduceMul, Nat.reduceSub, nI_eq, nI_ltI, nI_leI, Nat.reduceEqDiff, Nat.reduceLT, Nat.reduceDiv, Nat.reduceMod, Nat.reduceLeDiff, ci_Code, ci_Frame, ci_Task, ci_Segment, ci_Main, ci_Program, ci_Checker, ci_World, tkv_s, sgv_s, cdv_s, tkv_n, sgv_n, cdv_n, tkv_k, sgv_k, cdv_k, cg_Program_blockCount, h0, h3, cg_Program_checker, cg_Program_blocks, cq_blocks, f3, hm1]
      exact i2
theorem kl_firstFault {nb nm : Nat} {sz : Nat → Nat} {op : Nat → Nat → Nat} {ai : Nat → Nat → Int32} (hb : bS b) (hnb : nb ≤ 6) (hnm : nm ≤ 2) (h0 : N 0 0 0 = nI nb) (h1 : N 1 0 0 = nI nm) (hcd : cdT N sz op ai) : ∃ N', frK N N' ∧ Cl 31 [.ref 4] (cpic b N J P) nx = some ((cpic b N' J P, nx, 0, 0), .inl (some (.int (pfP sz op ai nb nm)))) := by
  obtain ⟨N', i1, i2⟩ := kv_ff1 (b := b) (J := J) (P := P) (nx := nx) hb hnb hnm nb 0 (by omega) N none h0 h1 hcd
  refine ⟨N', i1, Cl_of (x := mnI_X3_firstFault) rfl ?_⟩
  show Ev 31 0 [some (.ref (4)), none, none] [] _ _
  rw [eX3_firstFault_0, eX3_firstFault_1]
  exact i2
end KN
