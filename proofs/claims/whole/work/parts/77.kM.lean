/-! the class: all ways of a code, its fault, the first fault -/
section KM
variable {b : Nat → Option va_E} {N : cN} {J : cJ} {P : cP} {nx : Option Nat} {r : mn_Res} {op ar : Nat → Nat}
/-- the class's code j: length n, operations op, arguments -/
def cdC (N : cN) (j n : Nat) (op ar : Nat → Nat) : Prop := N 2 j 0 = nI n ∧ n ≤ cap j ∧ ∀ p, p < n → N 3 j p = nI (op p) ∧ (op p = 11 ∨ op p = 12 → N 4 j p = nI (ar p))
theorem cdC.fr {N N' : cN} {j n : Nat} (h : cdC N j n op ar) (hf : frK N N') : cdC N' j n op ar := by
  obtain ⟨h1, h2, h3⟩ := h
  refine ⟨by rw [hf 2 j (by decide) (by decide) (by decide) (by decide)]; exact h1, h2, fun p hp => ?_⟩
  rw [hf 3 j (by decide) (by decide) (by decide) (by decide), hf 4 j (by decide) (by decide) (by decide) (by decide)]
  exact h3 p hp
set_option maxHeartbeats 8000000 in
theorem kl_goOn {j n p h : Nat} {hm fd : Nat → Nat} {fc lw k : Nat} (hb : bS b) (hj : j < 8) (hw : wfC op ar n) (hcd : cdC N j n op ar) (hI : CkI op ar n hm fd fc lw k) (hc : ckN N n hm fd fc lw) (hp : p < n) (hr : Rch op ar p h) (h1 : tkN (op p) ≤ h) (h6 : h ≤ 6) :
    ∃ N' hm' fd' fc' lw', frK N N' ∧ CkI op ar n hm' fd' fc' lw' k ∧ ckN N' n hm' fd' fc' lw' ∧ (∀ q g, (hm q).testBit g = true → (hm' q).testBit g = true) ∧ (∀ p' h', Sc op ar p h p' h' → (hm' p').testBit h' = true) ∧ (∀ i, i < fc → fd' i = fd i) ∧ fc ≤ fc' ∧ Cl 4 [.ref 9, .ref (12 + 3 * j), .int (nI p), .int (nI h)] (cpic b N J P) nx = some ((cpic b N' J P, nx, 0, 0), .inl none) := by
  obtain ⟨w1, w2, w3⟩ := hw
  obtain ⟨o1, o2, o3⟩ := w3 p hp
  obtain ⟨d1, d2, d3⟩ := hcd
  obtain ⟨d4, d5⟩ := d3 p hp
  have hcap := cap_le j
  have ppu := pu_le _ o1
  have k1 := kl_operationAt (b := b) (J := J) (P := P) (nx := nx) hj d1 d2 (show p < 2 ^ 31 by omega)
  rw [if_pos hp, d4] at k1
  have k2 := kl_argumentAt (b := b) (J := J) (P := P) (nx := nx) hj d1 d2 (show p < 2 ^ 31 by omega)
  rw [if_pos hp] at k2
  have haf : h - tkN (op p) + puN (op p) < 8 := by omega
  by_cases e11 : op p = 11
  · have ha := o2 (Or.inl e11)
    have hs : Sc op ar p h (ar p) (h - tkN (op p) + puN (op p)) := ⟨h1, h6, by omega, rfl, Or.inr ⟨Or.inl e11, rfl⟩⟩
    obtain ⟨N', hm', fd', fc', lw', q1, q2, q3, q4, q5, q6, q7, q8⟩ := kl_reach (b := b) (J := J) (P := P) (nx := nx) hj w2 d1 hI hc ha haf (hr.step hs)
    refine ⟨N', hm', fd', fc', lw', q1, q2, q3, q4, fun p' h' hs' => ?_, q6, q7, Cl_of (x := mnI_X0_goOn) rfl ?_⟩
    · obtain ⟨-, -, -, rfl, ⟨x1, x2⟩ | ⟨x1, rfl⟩⟩ := hs'
      · exact absurd e11 x1
      · exact q5
    · show Ev 4 0 [some (.ref (9)), some (.ref (12 + 3 * j)), some (.int (nI p)), some (.int (nI h)), none, none] [] _ _
      rw [d5 (Or.inl e11)] at k2
      rw [e11] at k1 q8 h1
      simp (disch := first | omega | (simp only [cat_i, cat_r, ri_r, ri_0, tkv_r, sgv_r, cdv_r]; done)) only [eX0_goOn_0, eX0_goOn_0n, eX0_goOn_0t, eX0_goOn_0s, eX0_goOn_0c, eX0_goOn_1, eX0_goOn_2, eX0_goOn_5, eX0_goOn_7, eX0_goOn_8, eX0_goOn_11, eX0_goOn_13, eX0_goOn_14, eX0_goOn_15, eX0_goOn_18, eX0_goOn_20, eX0_goOn_21, eX0_goOn_22, eX0_goOn_24, eX0_goOn_26, eX0_goOn_28, eX0_goOn_31, eX0_goOn_33, eX0_goOn_35, eX0_goOn_38, eX0_goOn_39, eX0_goOn_39n, eX0_goOn_39t, eX0_goOn_39s, eX0_goOn_39c, eX0_goOn_40, eX0_goOn_40n, eX0_goOn_40t, eX0_goOn_40s, eX0_goOn_40c, eX0_goOn_41, eX0_goOn_42, eX0_goOn_45, eX0_goOn_47, eX0_goOn_50, eX0_goOn_52, eX0_goOn_54, eX0_goOn_57, eX0_goOn_59, eX0_goOn_61, eX0_goOn_64, eX0_goOn_65, eX0_goOn_65n, eX0_goOn_65t, eX0_goOn_65s, eX0_goOn_65c, eX0_goOn_66, eX0_goOn_67, eX0_goOn_68, eX0_goOn_69, eX0_goOn_71, eX0_goOn_74, ↓reduceIte, Evk_some, Evh_some, Evn_some, Evr_v, Evr_n, mk_i, mk_r, mk_0, mk_n, mk_l, mc0, mc1, mc2, mc3, mc4, mi_obj, Bool.and_self, Bool.true_and, Nat.add_zero, Nat.zero_add, nI_add, pk_mul, pk_sub, Nat.add_sub_cancel, eq_self, if_true, if_false, n10, bI_t, bI_f, bI_0, Nat.reduceAdd, Nat.reduceMul, Nat.reduceSub, nI_eq, nI_ltI, nI_leI, Nat.reduceEqDiff, Nat.reduceLT, Nat.reduceDiv, Nat.reduceMod, Nat.reduceLeDiff, ci_Code, ci_Frame, ci_Task, ci_Segment, ci_Main, ci_Program, ci_Checker, ci_World, tkv_s, sgv_s, cdv_s, tkv_n, sgv_n, cdv_n, tkv_k, sgv_k, cdv_k, k1, k2, ca_T hb, ca_U hb, q8]
  · by_cases e12 : op p = 12
    · have ha := o2 (Or.inr e12)
      have hp1 := o3 (by omega) e11
      have hs : Sc op ar p h (ar p) (h - tkN (op p) + puN (op p)) := ⟨h1, h6, by omega, rfl, Or.inr ⟨Or.inr e12, rfl⟩⟩
      have hs2 : Sc op ar p h (p + 1) (h - tkN (op p) + puN (op p)) := ⟨h1, h6, by omega, rfl, Or.inl ⟨e11, rfl⟩⟩
      obtain ⟨N1, hm1, fd1, fc1, lw1, q1, q2, q3, q4, q5, q6, q7, q8⟩ := kl_reach (b := b) (J := J) (P := P) (nx := nx) hj w2 d1 hI hc ha haf (hr.step hs)
      have d1' : N1 2 j 0 = nI n := by rw [q1 2 j (by decide) (by decide) (by decide) (by decide)]; exact d1
      obtain ⟨N', hm', fd', fc', lw', r1, r2, r3, r4, r5, r6, r7, r8⟩ := kl_reach (b := b) (J := J) (P := P) (nx := nx) hj w2 d1' q2 q3 hp1 haf (hr.step hs2)
      refine ⟨N', hm', fd', fc', lw', q1.trans r1, r2, r3, fun q g z => r4 q g (q4 q g z), fun p' h' hs' => ?_, fun i hi => (r6 i (by omega)).trans (q6 i hi), by omega, Cl_of (x := mnI_X0_goOn) rfl ?_⟩
      · obtain ⟨-, -, -, rfl, ⟨x1, rfl⟩ | ⟨x1, rfl⟩⟩ := hs'
        · exact r5
        · exact r4 _ _ q5
      · show Ev 4 0 [some (.ref (9)), some (.ref (12 + 3 * j)), some (.int (nI p)), some (.int (nI h)), none, none] [] _ _
        rw [d5 (Or.inr e12)] at k2
        rw [e12] at k1 q8 r8 h1
        simp (disch := first | omega | (simp only [cat_i, cat_r, ri_r, ri_0, tkv_r, sgv_r, cdv_r]; done)) only [eX0_goOn_0, eX0_goOn_0n, eX0_goOn_0t, eX0_goOn_0s, eX0_goOn_0c, eX0_goOn_1, eX0_goOn_2, eX0_goOn_5, eX0_goOn_7, eX0_goOn_8, eX0_goOn_11, eX0_goOn_13, eX0_goOn_14, eX0_goOn_15, eX0_goOn_18, eX0_goOn_20, eX0_goOn_21, eX0_goOn_22, eX0_goOn_24, eX0_goOn_26, eX0_goOn_28, eX0_goOn_31, eX0_goOn_33, eX0_goOn_35, eX0_goOn_38, eX0_goOn_39, eX0_goOn_39n, eX0_goOn_39t, eX0_goOn_39s, eX0_goOn_39c, eX0_goOn_40, eX0_goOn_40n, eX0_goOn_40t, eX0_goOn_40s, eX0_goOn_40c, eX0_goOn_41, eX0_goOn_42, eX0_goOn_45, eX0_goOn_47, eX0_goOn_50, eX0_goOn_52, eX0_goOn_54, eX0_goOn_57, eX0_goOn_59, eX0_goOn_61, eX0_goOn_64, eX0_goOn_65, eX0_goOn_65n, eX0_goOn_65t, eX0_goOn_65s, eX0_goOn_65c, eX0_goOn_66, eX0_goOn_67, eX0_goOn_68, eX0_goOn_69, eX0_goOn_71, eX0_goOn_74, ↓reduceIte, Evk_some, Evh_some, Evn_some, Evr_v, Evr_n, mk_i, mk_r, mk_0, mk_n, mk_l, mc0, mc1, mc2, mc3, mc4, mi_obj, Bool.and_self, Bool.true_and, Nat.add_zero, Nat.zero_add, nI_add, pk_mul, pk_sub, Nat.add_sub_cancel, eq_self, if_true, if_false, n10, bI_t, bI_f, bI_0, Nat.reduceAdd, Nat.reduceMul, Nat.reduceSub, nI_eq, nI_ltI, nI_leI, Nat.reduceEqDiff, Nat.reduceLT, Nat.reduceDiv, Nat.reduceMod, Nat.reduceLeDiff, ci_Code, ci_Frame, ci_Task, ci_Segment, ci_Main, ci_Program, ci_Checker, ci_World, tkv_s, sgv_s, cdv_s, tkv_n, sgv_n, cdv_n, tkv_k, sgv_k, cdv_k, k1, k2, ca_T hb, ca_U hb, q8, r8]
    · by_cases e16 : op p = 16
      · refine ⟨N, hm, fd, fc, lw, fun _ _ _ _ _ _ => rfl, hI, hc, fun _ _ z => z, fun p' h' hs' => absurd e16 hs'.2.2.1, fun _ _ => rfl, Nat.le_refl _, Cl_of (x := mnI_X0_goOn) rfl ?_⟩
        show Ev 4 0 [some (.ref (9)), some (.ref (12 + 3 * j)), some (.int (nI p)), some (.int (nI h)), none, none] [] _ _
        rw [e16] at k1 h1
        simp (disch := first | omega | (simp only [cat_i, cat_r, ri_r, ri_0, tkv_r, sgv_r, cdv_r]; done)) only [eX0_goOn_0, eX0_goOn_0n, eX0_goOn_0t, eX0_goOn_0s, eX0_goOn_0c, eX0_goOn_1, eX0_goOn_2, eX0_goOn_5, eX0_goOn_7, eX0_goOn_8, eX0_goOn_11, eX0_goOn_13, eX0_goOn_14, eX0_goOn_15, eX0_goOn_18, eX0_goOn_20, eX0_goOn_21, eX0_goOn_22, eX0_goOn_24, eX0_goOn_26, eX0_goOn_28, eX0_goOn_31, eX0_goOn_33, eX0_goOn_35, eX0_goOn_38, eX0_goOn_39, eX0_goOn_39n, eX0_goOn_39t, eX0_goOn_39s, eX0_goOn_39c, eX0_goOn_40, eX0_goOn_40n, eX0_goOn_40t, eX0_goOn_40s, eX0_goOn_40c, eX0_goOn_41, eX0_goOn_42, eX0_goOn_45, eX0_goOn_47, eX0_goOn_50, eX0_goOn_52, eX0_goOn_54, eX0_goOn_57, eX0_goOn_59, eX0_goOn_61, eX0_goOn_64, eX0_goOn_65, eX0_goOn_65n, eX0_goOn_65t, eX0_goOn_65s, eX0_goOn_65c, eX0_goOn_66, eX0_goOn_67, eX0_goOn_68, eX0_goOn_69, eX0_goOn_71, eX0_goOn_74, ↓reduceIte, Evk_some, Evh_some, Evn_some, Evr_v, Evr_n, mk_i, mk_r, mk_0, mk_n, mk_l, mc0, mc1, mc2, mc3, mc4, mi_obj, Bool.and_self, Bool.true_and, Nat.add_zero, Nat.zero_add, nI_add, pk_mul, pk_sub, Nat.add_sub_cancel, eq_self, if_true, if_false, n10, bI_t, bI_f, bI_0, Nat.reduceAdd, Nat.reduceMul, Nat.reduceSub, nI_eq, nI_ltI, nI_leI, Nat.reduceEqDiff, Nat.reduceLT, Nat.reduceDiv, Nat.reduceMod, Nat.reduceLeDiff, ci_Code, ci_Frame, ci_Task, ci_Segment, ci_Main, ci_Program, ci_Checker, ci_World, tkv_s, sgv_s, cdv_s, tkv_n, sgv_n, cdv_n, tkv_k, sgv_k, cdv_k, k1, ca_T hb, ca_U hb]
      · have hp1 := o3 e16 e11
        have hs2 : Sc op ar p h (p + 1) (h - tkN (op p) + puN (op p)) := ⟨h1, h6, e16, rfl, Or.inl ⟨e11, rfl⟩⟩
        obtain ⟨N', hm', fd', fc', lw', r1, r2, r3, r4, r5, r6, r7, r8⟩ := kl_reach (b := b) (J := J) (P := P) (nx := nx) hj w2 d1 hI hc hp1 haf (hr.step hs2)
        refine ⟨N', hm', fd', fc', lw', r1, r2, r3, r4, fun p' h' hs' => ?_, r6, r7, Cl_of (x := mnI_X0_goOn) rfl ?_⟩
        · obtain ⟨-, -, -, rfl, ⟨x1, rfl⟩ | ⟨x1, rfl⟩⟩ := hs'
          · exact r5
          · omega
        · show Ev 4 0 [some (.ref (9)), some (.ref (12 + 3 * j)), some (.int (nI p)), some (.int (nI h)), none, none] [] _ _
          have htk := tk_lt o1
          simp (disch := first | omega | (simp only [cat_i, cat_r, ri_r, ri_0, tkv_r, sgv_r, cdv_r]; done)) only [eX0_goOn_0, eX0_goOn_0n, eX0_goOn_0t, eX0_goOn_0s, eX0_goOn_0c, eX0_goOn_1, eX0_goOn_2, eX0_goOn_5, eX0_goOn_7, eX0_goOn_8, eX0_goOn_11, eX0_goOn_13, eX0_goOn_14, eX0_goOn_15, eX0_goOn_18, eX0_goOn_20, eX0_goOn_21, eX0_goOn_22, eX0_goOn_24, eX0_goOn_26, eX0_goOn_28, eX0_goOn_31, eX0_goOn_33, eX0_goOn_35, eX0_goOn_38, eX0_goOn_39, eX0_goOn_39n, eX0_goOn_39t, eX0_goOn_39s, eX0_goOn_39c, eX0_goOn_40, eX0_goOn_40n, eX0_goOn_40t, eX0_goOn_40s, eX0_goOn_40c, eX0_goOn_41, eX0_goOn_42, eX0_goOn_45, eX0_goOn_47, eX0_goOn_50, eX0_goOn_52, eX0_goOn_54, eX0_goOn_57, eX0_goOn_59, eX0_goOn_61, eX0_goOn_64, eX0_goOn_65, eX0_goOn_65n, eX0_goOn_65t, eX0_goOn_65s, eX0_goOn_65c, eX0_goOn_66, eX0_goOn_67, eX0_goOn_68, eX0_goOn_69, eX0_goOn_71, eX0_goOn_74, ↓reduceIte, Evk_some, Evh_some, Evn_some, Evr_v, Evr_n, mk_i, mk_r, mk_0, mk_n, mk_l, mc0, mc1, mc2, mc3, mc4, mi_obj, Bool.and_self, Bool.true_and, Nat.add_zero, Nat.zero_add, nI_add, pk_mul, pk_sub, Nat.add_sub_cancel, eq_self, if_true, if_false, n10, bI_t, bI_f, bI_0, Nat.reduceAdd, Nat.reduceMul, Nat.reduceSub, nI_eq, nI_ltI, nI_leI, Nat.reduceEqDiff, Nat.reduceLT, Nat.reduceDiv, Nat.reduceMod, Nat.reduceLeDiff, ci_Code, ci_Frame, ci_Task, ci_Segment, ci_Main, ci_Program, ci_Checker, ci_World, tkv_s, sgv_s, cdv_s, tkv_n, sgv_n, cdv_n, tkv_k, sgv_k, cdv_k, k1, ca_T hb, ca_U hb, eq_false e11, eq_false e12, eq_false e16, r8]
set_option maxHeartbeats 8000000 in
theorem kv_ways {j n : Nat} (hb : bS b) (hj : j < 8) (hw : wfC op ar n) : ∀ (fuel k : Nat) (N : cN) (hm fd : Nat → Nat) (fc lw : Nat) (c3 c4 : Option Value), 192 - k ≤ fuel → cdC N j n op ar → CkI op ar n hm fd fc lw k → ckN N n hm fd fc lw → (hm 0).testBit 0 = true → fc ≤ 8 * n →
    ∃ N' hm' fd' fc' lw', frK N N' ∧ CkI op ar n hm' fd' fc' lw' fc' ∧ N' 10 0 0 = nI lw' ∧ (hm' 0).testBit 0 = true ∧ Ev 3 45 [some (.ref 9), some (.ref (12 + 3 * j)), some (.int (nI k)), c3, c4] [] (cpic b N J P, nx, 0, 0) ((cpic b N' J P, nx, 0, 0), .inl none) := by
  intro fuel
  induction fuel with
  | zero =>
    intro k N hm fd fc lw c3 c4 hf hcd hI hc h0 hfc
    have hn := hw.2.1
    have hk := hI.2.2.2.2.2.2.2.2.2
    have : k = fc := by omega
    subst this
    refine ⟨N, hm, fd, k, lw, fun _ _ _ _ _ _ => rfl, hI, hc.2.2.2, h0, ?_⟩
    refine eX0_goAllWays_45.mpr ?_
    simp (disch := first | omega | (simp only [cat_i, cat_r, ri_r, ri_0, tkv_r, sgv_r, cdv_r]; done)) only [eX0_goAllWays_46, eX0_goAllWays_47, eX0_goAllWays_50, eX0_goAllWays_133, ↓reduceIte, Evk_some, Evh_some, Evn_some, Evr_v, Evr_n, mk_i, mk_r, mk_0, mk_n, mk_l, mc0, mc1, mc2, mc3, mc4, mi_obj, Bool.and_self, Bool.true_and, Nat.add_zero, Nat.zero_add, nI_add, pk_mul, pk_sub, Nat.add_sub_cancel, eq_self, if_true, if_false, n10, bI_t, bI_f, bI_0, Nat.reduceAdd, Nat.reduceMul, Nat.reduceSub, nI_eq, nI_ltI, nI_leI, Nat.reduceEqDiff, Nat.reduceLT, Nat.reduceDiv, Nat.reduceMod, Nat.reduceLeDiff, ci_Code, ci_Frame, ci_Task, ci_Segment, ci_Main, ci_Program, ci_Checker, ci_World, tkv_s, sgv_s, cdv_s, tkv_n, sgv_n, cdv_n, tkv_k, sgv_k, cdv_k, cg_Checker_foundCount, hc.2.2.1, Nat.le_refl]
  | succ fuel ih =>
    intro k N hm fd fc lw c3 c4 hf hcd hI hc h0 hfc
    have hn := hw.2.1
    have hk := hI.2.2.2.2.2.2.2.2.2
    by_cases hkf : k = fc
    · subst hkf
      refine ⟨N, hm, fd, k, lw, fun _ _ _ _ _ _ => rfl, hI, hc.2.2.2, h0, ?_⟩
      refine eX0_goAllWays_45.mpr ?_
      simp (disch := first | omega | (simp only [cat_i, cat_r, ri_r, ri_0, tkv_r, sgv_r, cdv_r]; done)) only [eX0_goAllWays_46, eX0_goAllWays_47, eX0_goAllWays_50, eX0_goAllWays_133, ↓reduceIte, Evk_some, Evh_some, Evn_some, Evr_v, Evr_n, mk_i, mk_r, mk_0, mk_n, mk_l, mc0, mc1, mc2, mc3, mc4, mi_obj, Bool.and_self, Bool.true_and, Nat.add_zero, Nat.zero_add, nI_add, pk_mul, pk_sub, Nat.add_sub_cancel, eq_self, if_true, if_false, n10, bI_t, bI_f, bI_0, Nat.reduceAdd, Nat.reduceMul, Nat.reduceSub, nI_eq, nI_ltI, nI_leI, Nat.reduceEqDiff, Nat.reduceLT, Nat.reduceDiv, Nat.reduceMod, Nat.reduceLeDiff, ci_Code, ci_Frame, ci_Task, ci_Segment, ci_Main, ci_Program, ci_Checker, ci_World, tkv_s, sgv_s, cdv_s, tkv_n, sgv_n, cdv_n, tkv_k, sgv_k, cdv_k, cg_Checker_foundCount, hc.2.2.1, Nat.le_refl]
    · have hfu : 192 - (k + 1) ≤ fuel := by omega
      have hI' := hI
      obtain ⟨i1, i2, i3, i4, i5, i6, i7, i8, i9, i10⟩ := hI'
      obtain ⟨p, h, hp, hh, e8, hbit, hrch⟩ := i3 k (by omega)
      have n8 : N 8 0 k = nI (p * 8 + h) := by rw [hc.2.1 k (by omega), e8]
      have c9 := hc.2.2.1
      have c10 := hc.2.2.2
      obtain ⟨d1, d2, d3⟩ := hcd
      obtain ⟨d4, -⟩ := d3 p hp
      obtain ⟨o1, -, -⟩ := hw.2.2 p hp
      have htk := tk_lt o1
      have hcap := cap_le j
      have k1 := kl_operationAt (b := b) (J := J) (P := P) (nx := nx) hj d1 d2 (show p < 2 ^ 31 by omega)
      rw [if_pos hp, d4] at k1
      have q1 : (p * 8 + h) / 8 = p := by omega
      have q2 : (p * 8 + h) % 8 = h := by omega
      have x1 : nI (p * 8 + h) / nI 8 = nI p := by rw [pk_div (by omega) (by omega) (by omega), q1]
      have x2 : nI (p * 8 + h) - nI p * nI 8 = nI h := by
        have := pk_rem (a := p * 8 + h) (d := 8) (by omega) (by omega) (by omega)
        rw [x1, q2] at this
        exact this
      have x2' : nI (p * 8 + h) - nI (p * 8) = nI h := by rw [← pk_mul]; exact x2
      have n80 : ¬ nI 8 = 0 := by decide
      have hkf1 : ¬ fc ≤ k := by omega
      have hk192 : ¬ 192 ≤ k := by omega
      have one : ∀ p' h', fd k = p' * 8 + h' → h' < 8 → p' = p ∧ h' = h := by intro p' h' e hh'; omega
      by_cases hbad : h < tkN (op p) ∨ 6 < h
      · -- lowest = min
        have mm : ∀ {ls : List (Option Value)} {h : mn_S} {r : mn_Res} {x y : Int32}, Ev 3 110 ls [.int y, .int x, .ref 9] h r ↔ Ev 3 113 ls [.int (if y < x then y else x), .ref 9] h r := fun {ls h r x y} => eX0_goAllWays_110 (st := [.ref 9]) (by decide)
        have hmin : (if nI p < nI lw then nI p else nI lw) = nI (if p < lw then p else lw) := by
          by_cases hpl : p < lw
          · rw [if_pos hpl, if_pos ((nI_ltI (by omega) (by omega)).mpr hpl)]
          · rw [if_neg hpl, if_neg (fun z => hpl ((nI_ltI (by omega) (by omega)).mp z))]
        have lwle : (if p < lw then p else lw) ≤ lw ∧ (if p < lw then p else lw) ≤ p := by split <;> omega
        obtain ⟨N', hm', fd', fc', lw', r1, r2, r3, r4, r5⟩ := ih (k + 1) (up3 N 10 0 0 (nI (if p < lw then p else lw))) hm fd fc (if p < lw then p else lw) (some (.int (nI p))) (some (.int (nI h))) hfu ⟨d1, d2, d3⟩ ⟨by omega, i2, i3, i4, i5, fun q g g' a1 a2 a3 a4 => by have := i6 q g g' a1 a2 a3 a4; omega, fun i q g a1 a2 a3 a4 => by
            by_cases hik : i = k
            · subst hik
              obtain ⟨rfl, rfl⟩ := one q g a2 a3
              exact lwle.2
            · have := i7 i q g (by omega) a2 a3 a4
              omega, fun hlt => by
            by_cases hpl : p < lw
            · rw [if_pos hpl]
              exact Or.inr ⟨h, hbit, hbad⟩
            · rw [if_neg hpl] at hlt ⊢
              exact i8 hlt, fun i q g a1 a2 a3 p' h' hs => by
            by_cases hik : i = k
            · subst hik
              obtain ⟨rfl, rfl⟩ := one q g a2 a3
              have h1 := hs.1
              have h2 := hs.2.1
              omega
            · exact i9 i q g (by omega) a2 a3 p' h' hs, by omega⟩ ⟨hc.1, hc.2.1, c9, up3_s⟩ h0 hfc
        refine ⟨N', hm', fd', fc', lw', fun k i a1 a2 a3 a4 => (r1 k i a1 a2 a3 a4).trans (congrFun (up3_k a4) i), r2, r3, r4, ?_⟩
        refine eX0_goAllWays_45.mpr ?_
        by_cases hlt : h < tkN (op p)
        · simp (disch := first | omega | exact n80) only [eX0_goAllWays_46, eX0_goAllWays_47, eX0_goAllWays_50, eX0_goAllWays_53, eX0_goAllWays_54, eX0_goAllWays_55, eX0_goAllWays_58, eX0_goAllWays_59, eX0_goAllWays_62, eX0_goAllWays_63, eX0_goAllWays_66, eX0_goAllWays_67, eX0_goAllWays_68, eX0_goAllWays_70, eX0_goAllWays_71, eX0_goAllWays_72, eX0_goAllWays_73, eX0_goAllWays_76, eX0_goAllWays_77, eX0_goAllWays_78, eX0_goAllWays_80, eX0_goAllWays_81, eX0_goAllWays_83, eX0_goAllWays_85, eX0_goAllWays_88, eX0_goAllWays_88n, eX0_goAllWays_88t, eX0_goAllWays_88s, eX0_goAllWays_88c, eX0_goAllWays_89, eX0_goAllWays_90, eX0_goAllWays_93, eX0_goAllWays_94, eX0_goAllWays_97, eX0_goAllWays_99, eX0_goAllWays_101, eX0_goAllWays_104, eX0_goAllWays_105, eX0_goAllWays_106, eX0_goAllWays_109, eX0_goAllWays_110, eX0_goAllWays_113, eX0_goAllWays_116, eX0_goAllWays_119, eX0_goAllWays_120, eX0_goAllWays_120n, eX0_goAllWays_120t, eX0_goAllWays_120s, eX0_goAllWays_120c, eX0_goAllWays_121, eX0_goAllWays_122, eX0_goAllWays_124, eX0_goAllWays_127, eX0_goAllWays_130, ↓reduceIte, Evk_some, Evh_some, Evn_some, Evr_v, Evr_n, mk_i, mk_r, mk_0, mk_n, mk_l, mc0, mc1, mc2, mc3, mc4, mi_obj, Bool.and_self, Bool.true_and, Nat.add_zero, Nat.zero_add, nI_add, pk_mul, pk_sub, Nat.add_sub_cancel, eq_self, if_true, if_false, n10, bI_t, bI_f, bI_0, Nat.reduceAdd, Nat.reduceMul, Nat.reduceSub, nI_eq, nI_leI, Nat.reduceEqDiff, Nat.reduceLT, Nat.reduceDiv, Nat.reduceMod, Nat.reduceLeDiff, nI_ltI (show h < 2 ^ 31 by omega) htk.1, ci_Code, ci_Checker, mm, cg_Checker_foundCount, cg_Checker_found, cn_found, ca_found, c9, n8, hkf1, hk192, x1, x2, x2', k1, ca_T hb o1, hlt, cg_Checker_lowest, c10, hmin, cp_Checker_lowest]
          exact r5
        · have h6 : 6 < h := by omega
          have h6' : ¬ h ≤ 6 := by omega
          simp (disch := first | omega | exact n80) only [eX0_goAllWays_46, eX0_goAllWays_47, eX0_goAllWays_50, eX0_goAllWays_53, eX0_goAllWays_54, eX0_goAllWays_55, eX0_goAllWays_58, eX0_goAllWays_59, eX0_goAllWays_62, eX0_goAllWays_63, eX0_goAllWays_66, eX0_goAllWays_67, eX0_goAllWays_68, eX0_goAllWays_70, eX0_goAllWays_71, eX0_goAllWays_72, eX0_goAllWays_73, eX0_goAllWays_76, eX0_goAllWays_77, eX0_goAllWays_78, eX0_goAllWays_80, eX0_goAllWays_81, eX0_goAllWays_83, eX0_goAllWays_85, eX0_goAllWays_88, eX0_goAllWays_88n, eX0_goAllWays_88t, eX0_goAllWays_88s, eX0_goAllWays_88c, eX0_goAllWays_89, eX0_goAllWays_90, eX0_goAllWays_93, eX0_goAllWays_94, eX0_goAllWays_97, eX0_goAllWays_99, eX0_goAllWays_101, eX0_goAllWays_104, eX0_goAllWays_105, eX0_goAllWays_106, eX0_goAllWays_109, eX0_goAllWays_110, eX0_goAllWays_113, eX0_goAllWays_116, eX0_goAllWays_119, eX0_goAllWays_120, eX0_goAllWays_120n, eX0_goAllWays_120t, eX0_goAllWays_120s, eX0_goAllWays_120c, eX0_goAllWays_121, eX0_goAllWays_122, eX0_goAllWays_124, eX0_goAllWays_127, eX0_goAllWays_130, ↓reduceIte, Evk_some, Evh_some, Evn_some, Evr_v, Evr_n, mk_i, mk_r, mk_0, mk_n, mk_l, mc0, mc1, mc2, mc3, mc4, mi_obj, Bool.and_self, Bool.true_and, Nat.add_zero, Nat.zero_add, nI_add, pk_mul, pk_sub, Nat.add_sub_cancel, eq_self, if_true, if_false, n10, bI_t, bI_f, bI_0, Nat.reduceAdd, Nat.reduceMul, Nat.reduceSub, nI_eq, nI_leI, Nat.reduceEqDiff, Nat.reduceLT, Nat.reduceDiv, Nat.reduceMod, Nat.reduceLeDiff, nI_ltI (show h < 2 ^ 31 by omega) htk.1, ci_Code, ci_Checker, mm, cg_Checker_foundCount, cg_Checker_found, cn_found, ca_found, c9, n8, hkf1, hk192, x1, x2, x2', k1, ca_T hb o1, hlt, h6', cg_Checker_lowest, c10, hmin, cp_Checker_lowest]
          exact r5
      · have hg1 : tkN (op p) ≤ h := by omega
        have hg2 : h ≤ 6 := by omega
        have hlt : ¬ h < tkN (op p) := by omega
        obtain ⟨N1, hm1, fd1, fc1, lw1, s1, s2, s3, s4, s5, s6, s7, s8⟩ := kl_goOn (b := b) (J := J) (P := P) (nx := nx) hb hj hw ⟨d1, d2, d3⟩ hI hc hp hrch hg1 hg2
        obtain ⟨j1, j2, j3, j4, j5, j6, j7, j8, j9, j10⟩ := s2
        have hfc1 : fc1 ≤ 8 * n := by
          have := pig (8 * n) ((List.range fc1).map fd1) (by
            rw [List.nodup_iff_pairwise_ne, List.pairwise_map]
            refine List.Pairwise.imp_of_mem (R := (· ≠ ·)) ?_ (List.nodup_iff_pairwise_ne.mp List.nodup_range)
            intro i j hi hj hne e
            exact hne (j5 i j (List.mem_range.mp hi) (List.mem_range.mp hj) e)) (by
            intro x hx
            obtain ⟨i, hi, rfl⟩ := List.mem_map.mp hx
            obtain ⟨p1, h1, a1, a2, a3, -⟩ := j3 i (List.mem_range.mp hi)
            omega)
          simpa using this
        obtain ⟨N', hm', fd', fc', lw', r1, r2, r3, r4, r5⟩ := ih (k + 1) N1 hm1 fd1 fc1 lw1 (some (.int (nI p))) (some (.int (nI h))) hfu (cdC.fr ⟨d1, d2, d3⟩ s1) ⟨j1, j2, j3, j4, j5, j6, fun i q g a1 a2 a3 a4 => by
            by_cases hik : i = k
            · subst hik
              rw [s6 i (by omega)] at a2
              obtain ⟨rfl, rfl⟩ := one q g a2 a3
              exact absurd a4 hbad
            · exact j7 i q g (by omega) a2 a3 a4, j8, fun i q g a1 a2 a3 p' h' hs => by
            by_cases hik : i = k
            · subst hik
              rw [s6 i (by omega)] at a2
              obtain ⟨rfl, rfl⟩ := one q g a2 a3
              exact s5 p' h' hs
            · exact j9 i q g (by omega) a2 a3 p' h' hs, by omega⟩ s3 (s4 _ _ h0) hfc1
        refine ⟨N', hm', fd', fc', lw', s1.trans r1, r2, r3, r4, ?_⟩
        refine eX0_goAllWays_45.mpr ?_
        simp (disch := first | omega | exact n80) only [eX0_goAllWays_46, eX0_goAllWays_47, eX0_goAllWays_50, eX0_goAllWays_53, eX0_goAllWays_54, eX0_goAllWays_55, eX0_goAllWays_58, eX0_goAllWays_59, eX0_goAllWays_62, eX0_goAllWays_63, eX0_goAllWays_66, eX0_goAllWays_67, eX0_goAllWays_68, eX0_goAllWays_70, eX0_goAllWays_71, eX0_goAllWays_72, eX0_goAllWays_73, eX0_goAllWays_76, eX0_goAllWays_77, eX0_goAllWays_78, eX0_goAllWays_80, eX0_goAllWays_81, eX0_goAllWays_83, eX0_goAllWays_85, eX0_goAllWays_88, eX0_goAllWays_88n, eX0_goAllWays_88t, eX0_goAllWays_88s, eX0_goAllWays_88c, eX0_goAllWays_89, eX0_goAllWays_90, eX0_goAllWays_93, eX0_goAllWays_94, eX0_goAllWays_97, eX0_goAllWays_99, eX0_goAllWays_101, eX0_goAllWays_104, eX0_goAllWays_105, eX0_goAllWays_106, eX0_goAllWays_109, eX0_goAllWays_110, eX0_goAllWays_113, eX0_goAllWays_116, eX0_goAllWays_119, eX0_goAllWays_120, eX0_goAllWays_120n, eX0_goAllWays_120t, eX0_goAllWays_120s, eX0_goAllWays_120c, eX0_goAllWays_121, eX0_goAllWays_122, eX0_goAllWays_124, eX0_goAllWays_127, eX0_goAllWays_130, ↓reduceIte, Evk_some, Evh_some, Evn_some, Evr_v, Evr_n, mk_i, mk_r, mk_0, mk_n, mk_l, mc0, mc1, mc2, mc3, mc4, mi_obj, Bool.and_self, Bool.true_and, Nat.add_zero, Nat.zero_add, nI_add, pk_mul, pk_sub, Nat.add_sub_cancel, eq_self, if_true, if_false, n10, bI_t, bI_f, bI_0, Nat.reduceAdd, Nat.reduceMul, Nat.reduceSub, nI_eq, nI_leI, Nat.reduceEqDiff, Nat.reduceLT, Nat.reduceDiv, Nat.reduceMod, Nat.reduceLeDiff, nI_ltI (show h < 2 ^ 31 by omega) htk.1, ci_Code, ci_Checker, cg_Checker_foundCount, cg_Checker_found, cn_found, ca_found, c9, n8, hkf1, hk192, x1, x2, x2', k1, ca_T hb o1, hlt, hg2, s8]
        exact r5
set_option maxHeartbeats 4000000 in
theorem kv_zero {j n : Nat} {c3 c4 : Option Value} (hj : j < 8) (hn : n ≤ 24) (hN : N 2 j 0 = nI n) : ∀ (d k : Nat), k + d = n → ∀ (N1 : cN), frK N N1 → (∀ p, p < k → N1 7 0 p = nI 0) → ∃ N', frK N N' ∧ (∀ p, p < n → N' 7 0 p = nI 0) ∧ ∀ r : mn_Res, Ev 3 2 [some (.ref 9), some (.ref (12 + 3 * j)), some (.int (nI k)), c3, c4] [] (cpic b N1 J P, nx, 0, 0) r ↔ Ev 3 23 [some (.ref 9), some (.ref (12 + 3 * j)), some (.int (nI n)), c3, c4] [] (cpic b N' J P, nx, 0, 0) r := by
  intro d
  induction d with
  | zero =>
    intro k hk N1 h1 h2
    have hk : k = n := by omega
    subst hk
    have e : N1 2 j 0 = nI k := by rw [h1 2 j (by decide) (by decide) (by decide) (by decide)]; exact hN
    refine ⟨N1, h1, h2, fun r => ?_⟩
    refine eX0_goAllWays_2.trans ?_
    simp (disch := first | omega | (simp only [cat_i, cat_r, ri_r, ri_0, tkv_r, sgv_r, cdv_r]; done)) only [eX0_goAllWays_3, eX0_goAllWays_3n, eX0_goAllWays_3t, eX0_goAllWays_3s, eX0_goAllWays_3c, eX0_goAllWays_4, eX0_goAllWays_7, ↓reduceIte, Evk_some, Evh_some, Evn_some, Evr_v, Evr_n, mk_i, mk_r, mk_0, mk_n, mk_l, mc0, mc1, mc2, mc3, mc4, mi_obj, Bool.and_self, Bool.true_and, Nat.add_zero, Nat.zero_add, nI_add, pk_mul, pk_sub, Nat.add_sub_cancel, eq_self, if_true, if_false, n10, bI_t, bI_f, bI_0, Nat.reduceAdd, Nat.reduceMul, Nat.reduceSub, nI_eq, nI_ltI, nI_leI, Nat.reduceEqDiff, Nat.reduceLT, Nat.reduceDiv, Nat.reduceMod, Nat.reduceLeDiff, ci_Code, ci_Frame, ci_Task, ci_Segment, ci_Main, ci_Program, ci_Checker, ci_World, tkv_s, sgv_s, cdv_s, tkv_n, sgv_n, cdv_n, tkv_k, sgv_k, cdv_k, cg_Code_length, e, Nat.le_refl]
  | succ d ih =>
    intro k hk N1 h1 h2
    have e : N1 2 j 0 = nI n := by rw [h1 2 j (by decide) (by decide) (by decide) (by decide)]; exact hN
    have h3 : ¬ n ≤ k := by omega
    obtain ⟨N', i1, i2, i3⟩ := ih (k + 1) (by omega) (up3 N1 7 0 k (nI 0)) (fun q i a1 a2 a3 a4 => (congrFun (up3_k a1) i).trans (h1 q i a1 a2 a3 a4)) (fun p hp => by
      by_cases h : p = k
      · subst h; exact up3_s
      · rw [up3_p h]; exact h2 p (by omega))
    refine ⟨N', i1, i2, fun r => ?_⟩
    refine Iff.trans ?_ (i3 r)
    refine eX0_goAllWays_2.trans ?_
    simp (disch := first | omega | (simp only [cat_i, cat_r, ri_r, ri_0, tkv_r, sgv_r, cdv_r]; done)) only [eX0_goAllWays_3, eX0_goAllWays_3n, eX0_goAllWays_3t, eX0_goAllWays_3s, eX0_goAllWays_3c, eX0_goAllWays_4, eX0_goAllWays_7, eX0_goAllWays_10, eX0_goAllWays_11, eX0_goAllWays_14, eX0_goAllWays_15, eX0_goAllWays_16, eX0_goAllWays_17, eX0_goAllWays_20, ↓reduceIte, Evk_some, Evh_some, Evn_some, Evr_v, Evr_n, mk_i, mk_r, mk_0, mk_n, mk_l, mc0, mc1, mc2, mc3, mc4, mi_obj, Bool.and_self, Bool.true_and, Nat.add_zero, Nat.zero_add, nI_add, pk_mul, pk_sub, Nat.add_sub_cancel, eq_self, if_true, if_false, n10, bI_t, bI_f, bI_0, Nat.reduceAdd, Nat.reduceMul, Nat.reduceSub, nI_eq, nI_ltI, nI_leI, Nat.reduceEqDiff, Nat.reduceLT, Nat.reduceDiv, Nat.reduceMod, Nat.reduceLeDiff, ci_Code, ci_Frame, ci_Task, ci_Segment, ci_Main, ci_Program, ci_Checker, ci_World, tkv_s, sgv_s, cdv_s, tkv_n, sgv_n, cdv_n, tkv_k, sgv_k, cdv_k, cg_Code_length, e, h3, cg_Checker_heights, cs_heights]
theorem kl_goAllWays {j n : Nat} (hb : bS b) (hj : j < 8) (hw : wfC op ar n) (hcd : cdC N j n op ar) : ∃ N' lw, frK N N' ∧ N' 10 0 0 = nI lw ∧ lw ≤ n ∧ Lst (Flt op ar) n (if lw < n then some lw else none) ∧ Cl 3 [.ref 9, .ref (12 + 3 * j)] (cpic b N J P) nx = some ((cpic b N' J P, nx, 0, 0), .inl none) := by
  have hn := hw.2.1
  obtain ⟨N1, z1, z2, z3⟩ := kv_zero (b := b) (J := J) (P := P) (nx := nx) (c3 := none) (c4 := none) hj hn hcd.1 n 0 (by omega) N (fun _ _ _ _ _ _ => rfl) (fun p hp => by omega)
  have hcd1 := hcd.fr z1
  have e2 : up3 N1 9 0 0 (nI 0) 2 j 0 = nI n := hcd1.1
  obtain ⟨N2, hm2, fd2, fc2, lw2, s1, s2, s3, s4, s5, s6, s7, s8⟩ := kl_reach (op := op) (ar := ar) (b := b) (N := up3 (up3 N1 9 0 0 (nI 0)) 10 0 0 (nI n)) (J := J) (P := P) (nx := nx) (n := n) (p := 0) (h := 0) (hm := fun _ => 0) (fd := fun _ => 0) (fc := 0) (lw := n) (k := 0) hj hn hcd1.1 ⟨Nat.le_refl _, fun _ _ => by show 0 < 256; decide, fun i hi => by omega, fun p h _ hbt => by simp at hbt, fun i j hi => by omega, fun p h h' _ _ hbt => by simp at hbt, fun i p h hi => by omega, fun hlt => by omega, fun i p h hi => by omega, Nat.le_refl _⟩ ⟨z2, fun i hi => by omega, rfl, up3_s⟩ hw.1 (by decide) Rch.zero
  have hcd2 : cdC N2 j n op ar := by
    refine cdC.fr (N := N1) hcd1 (fun k i a1 a2 a3 a4 => ?_)
    rw [s1 k i a1 a2 a3 a4, up3_k a4, up3_k a3]
  have hfc2 : fc2 ≤ 8 * n := by
    have := pig (8 * n) ((List.range fc2).map fd2) (by
      rw [List.nodup_iff_pairwise_ne, List.pairwise_map]
      refine List.Pairwise.imp_of_mem (R := (· ≠ ·)) ?_ (List.nodup_iff_pairwise_ne.mp List.nodup_range)
      intro i j hi hj hne e
      exact hne (s2.2.2.2.2.1 i j (List.mem_range.mp hi) (List.mem_range.mp hj) e)) (by
      intro x hx
      obtain ⟨i, hi, rfl⟩ := List.mem_map.mp hx
      obtain ⟨p1, h1, a1, a2, a3, -⟩ := s2.2.2.1 i (List.mem_range.mp hi)
      omega)
    simpa using this
  obtain ⟨N3, hm, fd, fc, lw, t1, t2, t3, t4, t5⟩ := kv_ways (b := b) (J := J) (P := P) (nx := nx) hb hj hw 192 0 N2 hm2 fd2 fc2 lw2 none none (by omega) hcd2 s2 s3 s5 hfc2
  refine ⟨N3, lw, ?_, t3, t2.1, ?_, Cl_of (x := mnI_X0_goAllWays) rfl ?_⟩
  · intro k i a1 a2 a3 a4
    rw [t1 k i a1 a2 a3 a4, s1 k i a1 a2 a3 a4, up3_k a4, up3_k a3]
    exact z1 k i a1 a2 a3 a4
  · obtain ⟨i1, i2, i3, i4, i5, i6, i7, i8, i9, i10⟩ := t2
    have rb : ∀ p h, Rch op ar p h → p < n ∧ (hm p).testBit h = true := by
      intro p h hr
      refine hr (fun p h => p < n ∧ (hm p).testBit h = true) ⟨hw.1, t4⟩ ?_
      rintro p h p' h' ⟨a1, a2⟩ hs
      obtain ⟨i, hi, e⟩ := i4 p h a1 a2
      exact ⟨(hs.bound hw a1).1, i9 i p h hi e (bit_lt (i2 p a1) a2) p' h' hs⟩
    have br : ∀ p h, p < n → (hm p).testBit h = true → Rch op ar p h := by
      intro p h a1 a2
      obtain ⟨i, hi, e⟩ := i4 p h a1 a2
      obtain ⟨p1, h1, b1, b2, b3, b4, b5⟩ := i3 i hi
      have := bit_lt (i2 p a1) a2
      have : p1 = p ∧ h1 = h := by omega
      obtain ⟨rfl, rfl⟩ := this
      exact b5
    have flt : ∀ p, Flt op ar p → lw ≤ p := by
      rintro p (⟨h, hr, hx⟩ | ⟨h, h', hne, hr, hr'⟩)
      · obtain ⟨a1, a2⟩ := rb p h hr
        obtain ⟨i, hi, e⟩ := i4 p h a1 a2
        exact i7 i p h hi e (bit_lt (i2 p a1) a2) hx
      · obtain ⟨a1, a2⟩ := rb p h hr
        exact i6 p h h' a1 hne a2 (rb p h' hr').2
    by_cases hlt : lw < n
    · rw [if_pos hlt]
      refine Or.inl ⟨lw, rfl, hlt, ?_, fun q hq z => by have := flt q z; omega⟩
      rcases i8 hlt with ⟨h, h', a1, a2, a3⟩ | ⟨h, a1, a2⟩
      · exact Or.inr ⟨h, h', a1, br _ _ hlt a2, br _ _ hlt a3⟩
      · exact Or.inl ⟨h, br _ _ hlt a1, a2⟩
    · rw [if_neg hlt]
      exact Or.inr ⟨rfl, fun k hk z => by have := flt k z; omega⟩
  · show Ev 3 0 [some (.ref (9)), some (.ref (12 + 3 * j)), none, none, none] [] _ _
    rw [eX0_goAllWays_0, eX0_goAllWays_1]
    simp only [mk_r]
    refine (z3 _).mpr ?_
    have e0 : nI 0 = nI 0 := rfl
    simp (disch := first | omega | (simp only [cat_i, cat_r, ri_r, ri_0, tkv_r, sgv_r, cdv_r]; done)) only [eX0_goAllWays_23, eX0_goAllWays_24, eX0_goAllWays_25, eX0_goAllWays_28, eX0_goAllWays_29, eX0_goAllWays_29n, eX0_goAllWays_29t, eX0_goAllWays_29s, eX0_goAllWays_29c, eX0_goAllWays_30, eX0_goAllWays_33, eX0_goAllWays_36, eX0_goAllWays_37, eX0_goAllWays_37n, eX0_goAllWays_37t, eX0_goAllWays_37s, eX0_goAllWays_37c, eX0_goAllWays_38, eX0_goAllWays_39, eX0_goAllWays_40, eX0_goAllWays_43, eX0_goAllWays_44, ↓reduceIte, Evk_some, Evh_some, Evn_some, Evr_v, Evr_n, mk_i, mk_r, mk_0, mk_n, mk_l, mc0, mc1, mc2, mc3, mc4, mi_obj, Bool.and_self, Bool.true_and, Nat.add_zero, Nat.zero_add, nI_add, pk_mul, pk_sub, Nat.add_sub_cancel, eq_self, if_true, if_false, n10, bI_t, bI_f, bI_0, Nat.reduceAdd, Nat.reduceMul, Nat.reduceSub, nI_eq, nI_ltI, nI_leI, Nat.reduceEqDiff, Nat.reduceLT, Nat.reduceDiv, Nat.reduceMod, Nat.reduceLeDiff, ci_Code, ci_Frame, ci_Task, ci_Segment, ci_Main, ci_Program, ci_Checker, ci_World, tkv_s, sgv_s, cdv_s, tkv_n, sgv_n, cdv_n, tkv_k, sgv_k, cdv_k, cp_Checker_foundCount, cg_Code_length, e2, cp_Checker_lowest, s8]
    exact t5
end KM
