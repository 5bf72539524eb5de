/-! the class: laying together, counts, who is ready -/
section KG
variable {b : Nat → Option va_E} {N : cN} {J : cJ} {P : cP} {nx : Option Nat} {r : mn_Res}
theorem Rmv_up {need : Nat → Prop} {g : FG} (ha : Ak g) {s x : Nat} (hs : g s ≠ none) (hx : s < x) (h : Rmv need (rmF s g) x) : Rmv need g x := by
  obtain ⟨h1, h2, h3⟩ := h
  obtain ⟨⟨ws, bs⟩, hs'⟩ := Option.ne_none_iff_exists'.mp hs
  refine ⟨?_, h2, ?_⟩
  · intro q
    rw [rem_at hs', if_neg (by omega), q] at h1
    exact h1 rfl
  · intro k k' w w' hk hk'
    have l1 := ha _ _ _ hk
    have l2 := ha _ _ _ hk'
    refine h3 k k' w w' ?_ ?_
    · rw [rem_at hs', if_neg (by omega), hk, Option.map_some, if_neg (by simp; omega)]
    · rw [rem_at hs', if_neg (by omega), hk', Option.map_some, if_neg (by simp; omega)]
set_option maxHeartbeats 4000000 in
theorem kv_together {m : Nat} {nd : Nat → Bool} (hm2 : m ≤ 23) : ∀ (j : Nat), j ≤ m → ∀ (N : cN) (J : cJ) (P : cP), N 12 0 0 = nI m → (∀ s, s < m → N 23 s 0 = bI (nd s)) → WfC N P m → (∀ s, j ≤ s → ¬ Rmv (fun s => nd s = true) (gC N J P m) s) →
    ∃ N' J' P' l, frS N N' J J' P P' ∧ WfC N' P' m ∧ Rd (fun s => nd s = true) (gC N J P m) l (gC N' J' P' m) ∧ Nrm (fun s => nd s = true) (gC N' J' P' m) ∧ Ev 63 11 [some (.ref 36), some (.int (prv j))] [] (cpic b N J P, nx, 0, 0) ((cpic b N' J' P', nx, 0, 0), .inl none) := by
  intro j
  induction j with
  | zero =>
    intro _ N J P hm h23 hw hr
    refine ⟨N, J, P, [], frS.refl, hw, rfl, fun s => hr s (Nat.zero_le _), ?_⟩
    refine eX6_layTogether_11.mpr ?_
    have hq : (-1 : Int32) < nI 0 := by decide
    simp (disch := first | omega | (simp only [cat_i, cat_r, ri_r, ri_0, tkv_r, sgv_r, cdv_r]; done)) only [eX6_layTogether_12, eX6_layTogether_15, eX6_layTogether_16, eX6_layTogether_19, eX6_layTogether_20, eX6_layTogether_21, eX6_layTogether_24, eX6_layTogether_27, eX6_layTogether_28, eX6_layTogether_31, eX6_layTogether_32, eX6_layTogether_33, eX6_layTogether_36, eX6_layTogether_39, eX6_layTogether_40, eX6_layTogether_41, eX6_layTogether_44, eX6_layTogether_45, eX6_layTogether_46, eX6_layTogether_49, eX6_layTogether_52, eX6_layTogether_55, ↓reduceIte, Evk_some, Evh_some, Evn_some, Evr_v, Evr_n, mk_i, mk_r, mk_0, mk_n, mk_l, mc0, mc1, mc2, mc3, mc4, mi_obj, Bool.and_self, Bool.true_and, Nat.add_zero, Nat.zero_add, nI_add, pk_mul, pk_sub, Nat.add_sub_cancel, eq_self, if_true, if_false, n10, bI_t, bI_f, bI_0, Nat.reduceAdd, Nat.reduceMul, Nat.reduceSub, nI_eq, nI_ltI, nI_leI, Nat.reduceEqDiff, Nat.reduceLT, Nat.reduceDiv, Nat.reduceMod, Nat.reduceLeDiff, ci_Code, ci_Frame, ci_Task, ci_Segment, ci_Main, ci_Program, ci_Checker, ci_World, tkv_s, sgv_s, cdv_s, tkv_n, sgv_n, cdv_n, tkv_k, sgv_k, cdv_k, prv_0, hq]
  | succ j ih =>
    intro hj N J P hm h23 hw hr
    have hj23 : j < 23 := by omega
    have hneg : ¬ j < 0 := by omega
    rcases (hw j (by omega)).1 with h22 | h22
    · obtain ⟨N', J', P', l, i1, i2, i3, i4, i5⟩ := ih (by omega) N J P hm h23 hw (fun s hs => by
        by_cases h : s = j
        · subst h
          intro q
          have := (gC_of q.1).2
          rw [h22] at this
          exact absurd this (by decide)
        · exact hr s (by omega))
      refine ⟨N', J', P', l, i1, i2, i3, i4, ?_⟩
      refine eX6_layTogether_11.mpr ?_
      simp (disch := first | omega | (simp only [cat_i, cat_r, ri_r, ri_0, tkv_r, sgv_r, cdv_r]; done)) only [eX6_layTogether_12, eX6_layTogether_15, eX6_layTogether_16, eX6_layTogether_19, eX6_layTogether_20, eX6_layTogether_21, eX6_layTogether_24, eX6_layTogether_27, eX6_layTogether_28, eX6_layTogether_31, eX6_layTogether_32, eX6_layTogether_33, eX6_layTogether_36, eX6_layTogether_39, eX6_layTogether_40, eX6_layTogether_41, eX6_layTogether_44, eX6_layTogether_45, eX6_layTogether_46, eX6_layTogether_49, eX6_layTogether_52, ↓reduceIte, Evk_some, Evh_some, Evn_some, Evr_v, Evr_n, mk_i, mk_r, mk_0, mk_n, mk_l, mc0, mc1, mc2, mc3, mc4, mi_obj, Bool.and_self, Bool.true_and, Nat.add_zero, Nat.zero_add, nI_add, pk_mul, pk_sub, Nat.add_sub_cancel, eq_self, if_true, if_false, n10, bI_t, bI_f, bI_0, Nat.reduceAdd, Nat.reduceMul, Nat.reduceSub, nI_eq, nI_ltI, nI_leI, Nat.reduceEqDiff, Nat.reduceLT, Nat.reduceDiv, Nat.reduceMod, Nat.reduceLeDiff, ci_Code, ci_Frame, ci_Task, ci_Segment, ci_Main, ci_Program, ci_Checker, ci_World, tkv_s, sgv_s, cdv_s, tkv_n, sgv_n, cdv_n, tkv_k, sgv_k, cdv_k, prv_1, hneg, cg_World_segments, cq_segments, cg_Segment_isLive, h22, prv_a]
      exact i5
    · cases hnd : nd j with
      | true =>
        obtain ⟨N', J', P', l, i1, i2, i3, i4, i5⟩ := ih (by omega) N J P hm h23 hw (fun s hs => by
          by_cases h : s = j
          · subst h
            exact fun q => q.2.1 hnd
          · exact hr s (by omega))
        refine ⟨N', J', P', l, i1, i2, i3, i4, ?_⟩
        refine eX6_layTogether_11.mpr ?_
        have e23 : N 23 j 0 = nI 1 := by rw [h23 j (by omega), hnd]; rfl
        simp (disch := first | omega | (simp only [cat_i, cat_r, ri_r, ri_0, tkv_r, sgv_r, cdv_r]; done)) only [eX6_layTogether_12, eX6_layTogether_15, eX6_layTogether_16, eX6_layTogether_19, eX6_layTogether_20, eX6_layTogether_21, eX6_layTogether_24, eX6_layTogether_27, eX6_layTogether_28, eX6_layTogether_31, eX6_layTogether_32, eX6_layTogether_33, eX6_layTogether_36, eX6_layTogether_39, eX6_layTogether_40, eX6_layTogether_41, eX6_layTogether_44, eX6_layTogether_45, eX6_layTogether_46, eX6_layTogether_49, eX6_layTogether_52, ↓reduceIte, Evk_some, Evh_some, Evn_some, Evr_v, Evr_n, mk_i, mk_r, mk_0, mk_n, mk_l, mc0, mc1, mc2, mc3, mc4, mi_obj, Bool.and_self, Bool.true_and, Nat.add_zero, Nat.zero_add, nI_add, pk_mul, pk_sub, Nat.add_sub_cancel, eq_self, if_true, if_false, n10, bI_t, bI_f, bI_0, Nat.reduceAdd, Nat.reduceMul, Nat.reduceSub, nI_eq, nI_ltI, nI_leI, Nat.reduceEqDiff, Nat.reduceLT, Nat.reduceDiv, Nat.reduceMod, Nat.reduceLeDiff, ci_Code, ci_Frame, ci_Task, ci_Segment, ci_Main, ci_Program, ci_Checker, ci_World, tkv_s, sgv_s, cdv_s, tkv_n, sgv_n, cdv_n, tkv_k, sgv_k, cdv_k, prv_1, hneg, cg_World_segments, cq_segments, cg_Segment_isLive, cg_Segment_isNeeded, h22, e23, prv_a]
        exact i5
      | false =>
        obtain ⟨N1, J1, P1, k1, k2, k3, k4, k5⟩ := kl_layAway (b := b) (J := J) (nx := nx) hm hm2 hw (show j < m by omega) h22
        have e23 : N 23 j 0 = nI 0 := by rw [h23 j (by omega), hnd]; rfl
        have hm' : N1 12 0 0 = nI m := by rw [k1.1 12 0 (by decide) (by decide) (by decide)]; exact hm
        have hlive : gC N J P m j ≠ none := by rw [gC_some (by omega) h22]; simp
        rcases k4 with ⟨g1, k, k', w, w', q1, q2, q3⟩ | ⟨g1, g2⟩
        · obtain ⟨N', J', P', l, i1, i2, i3, i4, i5⟩ := ih (by omega) N1 J1 P1 hm' (fun s hs => by rw [k2]; exact h23 s hs) k3 (fun s hs => by
            rw [g1]
            by_cases h : s = j
            · subst h
              exact fun q => q1 (q.2.2 _ _ _ _ q2 q3)
            · exact hr s (by omega))
          refine ⟨N', J', P', l, k1.trans i1, i2, by rw [g1] at i3; exact i3, i4, ?_⟩
          refine eX6_layTogether_11.mpr ?_
          simp (disch := first | omega | (simp only [cat_i, cat_r, ri_r, ri_0, tkv_r, sgv_r, cdv_r]; done)) only [eX6_layTogether_12, eX6_layTogether_15, eX6_layTogether_16, eX6_layTogether_19, eX6_layTogether_20, eX6_layTogether_21, eX6_layTogether_24, eX6_layTogether_27, eX6_layTogether_28, eX6_layTogether_31, eX6_layTogether_32, eX6_layTogether_33, eX6_layTogether_36, eX6_layTogether_39, eX6_layTogether_40, eX6_layTogether_41, eX6_layTogether_44, eX6_layTogether_45, eX6_layTogether_46, eX6_layTogether_49, eX6_layTogether_52, ↓reduceIte, Evk_some, Evh_some, Evn_some, Evr_v, Evr_n, mk_i, mk_r, mk_0, mk_n, mk_l, mc0, mc1, mc2, mc3, mc4, mi_obj, Bool.and_self, Bool.true_and, Nat.add_zero, Nat.zero_add, nI_add, pk_mul, pk_sub, Nat.add_sub_cancel, eq_self, if_true, if_false, n10, bI_t, bI_f, bI_0, Nat.reduceAdd, Nat.reduceMul, Nat.reduceSub, nI_eq, nI_ltI, nI_leI, Nat.reduceEqDiff, Nat.reduceLT, Nat.reduceDiv, Nat.reduceMod, Nat.reduceLeDiff, ci_Code, ci_Frame, ci_Task, ci_Segment, ci_Main, ci_Program, ci_Checker, ci_World, tkv_s, sgv_s, cdv_s, tkv_n, sgv_n, cdv_n, tkv_k, sgv_k, cdv_k, prv_1, hneg, cg_World_segments, cq_segments, cg_Segment_isLive, cg_Segment_isNeeded, h22, e23, k5, prv_a]
          exact i5
        · obtain ⟨N', J', P', l, i1, i2, i3, i4, i5⟩ := ih (by omega) N1 J1 P1 hm' (fun s hs => by rw [k2]; exact h23 s hs) k3 (fun s hs => by
            rw [g2]
            by_cases h : s = j
            · subst h
              intro q
              refine q.1 ?_
              unfold rmF
              rw [if_pos rfl]
            · exact fun q => hr s (by omega) (Rmv_up (gC_Ak hw) hlive (by omega) q))
          refine ⟨N', J', P', j :: l, k1.trans i1, i2, ⟨⟨hlive, by show ¬ nd j = true; rw [hnd]; simp, g1⟩, by rw [g2] at i3; exact i3⟩, i4, ?_⟩
          refine eX6_layTogether_11.mpr ?_
          simp (disch := first | omega | (simp only [cat_i, cat_r, ri_r, ri_0, tkv_r, sgv_r, cdv_r]; done)) only [eX6_layTogether_12, eX6_layTogether_15, eX6_layTogether_16, eX6_layTogether_19, eX6_layTogether_20, eX6_layTogether_21, eX6_layTogether_24, eX6_layTogether_27, eX6_layTogether_28, eX6_layTogether_31, eX6_layTogether_32, eX6_layTogether_33, eX6_layTogether_36, eX6_layTogether_39, eX6_layTogether_40, eX6_layTogether_41, eX6_layTogether_44, eX6_layTogether_45, eX6_layTogether_46, eX6_layTogether_49, eX6_layTogether_52, ↓reduceIte, Evk_some, Evh_some, Evn_some, Evr_v, Evr_n, mk_i, mk_r, mk_0, mk_n, mk_l, mc0, mc1, mc2, mc3, mc4, mi_obj, Bool.and_self, Bool.true_and, Nat.add_zero, Nat.zero_add, nI_add, pk_mul, pk_sub, Nat.add_sub_cancel, eq_self, if_true, if_false, n10, bI_t, bI_f, bI_0, Nat.reduceAdd, Nat.reduceMul, Nat.reduceSub, nI_eq, nI_ltI, nI_leI, Nat.reduceEqDiff, Nat.reduceLT, Nat.reduceDiv, Nat.reduceMod, Nat.reduceLeDiff, ci_Code, ci_Frame, ci_Task, ci_Segment, ci_Main, ci_Program, ci_Checker, ci_World, tkv_s, sgv_s, cdv_s, tkv_n, sgv_n, cdv_n, tkv_k, sgv_k, cdv_k, prv_1, hneg, cg_World_segments, cq_segments, cg_Segment_isLive, cg_Segment_isNeeded, h22, e23, k5, prv_a]
          exact i5
theorem kl_layTogether {n m : Nat} (hm : N 12 0 0 = nI m) (hm2 : m ≤ 23) (hN : N 11 0 0 = nI n) (hn : n ≤ 12) (hw : WfC N P m) (hT : ∀ t, t < n → N 16 t 0 ≠ nI 3 → (∃ s, P 4 t = some s ∧ s < m) ∧ ∀ e, P 3 t = some e → e < m) : ∃ N' J' P' l, frS N N' J J' P P' ∧ WfC N' P' m ∧ Rd (fun s => ndU N P n s = true) (gC N J P m) l (gC N' J' P' m) ∧ Nrm (fun s => ndU N P n s = true) (gC N' J' P' m) ∧ Cl 63 [.ref 36] (cpic b N J P) nx = some ((cpic b N' J' P', nx, 0, 0), .inl none) := by
  obtain ⟨N1, k1, k2, k3⟩ := kl_markNeeded (b := b) (J := J) (nx := nx) hm hm2 hN hn hT
  have hm1 : N1 12 0 0 = nI m := by rw [k1 12 0 (by decide)]; exact hm
  have hg : gC N1 J P m = gC N J P m := by
    funext s
    unfold gC
    rw [k1 22 s (by decide), k1 21 s (by decide)]
  have hw1 : WfC N1 P m := by
    intro s hs
    rw [k1 22 s (by decide), k1 21 s (by decide)]
    exact hw s hs
  obtain ⟨N', J', P', l, i1, i2, i3, i4, i5⟩ := kv_together (b := b) (nx := nx) (nd := ndU N P n) hm2 m (Nat.le_refl _) N1 J P hm1 k2 hw1 (fun s hs q => by
    have := (gC_of q.1).1
    omega)
  refine ⟨N', J', P', l, frS.trans ⟨fun k i _ _ h => k1 k i h, fun _ _ _ => rfl, fun _ _ _ => rfl⟩ i1, i2, by rw [hg] at i3; exact i3, i4, Cl_of (x := mnI_X6_layTogether) rfl ?_⟩
  show Ev 63 0 [some (.ref (36)), none] [] _ _
  have hp : nI m - nI 1 = prv m := by
    cases m with
    | zero => rfl
    | succ m => rw [prv_1, pk_sub (by omega)]; rfl
  simp (disch := first | omega | (simp only [cat_i, cat_r, ri_r, ri_0, tkv_r, sgv_r, cdv_r]; done)) only [eX6_layTogether_0, eX6_layTogether_1, eX6_layTogether_4, eX6_layTogether_5, eX6_layTogether_8, eX6_layTogether_9, eX6_layTogether_10, ↓reduceIte, Evk_some, Evh_some, Evn_some, Evr_v, Evr_n, mk_i, mk_r, mk_0, mk_n, mk_l, mc0, mc1, mc2, mc3, mc4, mi_obj, Bool.and_self, Bool.true_and, Nat.add_zero, Nat.zero_add, nI_add, pk_mul, Nat.add_sub_cancel, eq_self, if_true, if_false, n10, bI_t, bI_f, bI_0, Nat.reduceAdd, Nat.reduceMul, Nat.reduceSub, nI_eq, nI_ltI, nI_leI, Nat.reduceEqDiff, Nat.reduceLT, Nat.reduceDiv, Nat.reduceMod, Nat.reduceLeDiff, ci_World, k3, cg_World_opened, hm1, hp]
  exact i5
def lvB (N : cN) (x : Nat) : Bool := decide (N 22 x 0 = nI 1)
def lvN (N : cN) (k : Nat) : Nat := ((List.range k).filter (lvB N)).length
theorem lvN_s {k : Nat} : lvN N (k + 1) = lvN N k + (if lvB N k = true then 1 else 0) := by
  unfold lvN
  rw [List.range_succ, List.filter_append, List.length_append]
  by_cases h : lvB N k = true <;> simp [h]
def smV (N : cN) (w : Nat → Nat) : Nat → Nat
  | 0 => 0
  | k + 1 => smV N w k + (if lvB N k = true then cntB (w k) 12 else 0)
set_option maxHeartbeats 4000000 in
theorem kv_live {m : Nat} (hm : N 12 0 0 = nI m) (hm2 : m ≤ 23) (hw : WfC N P m) : ∀ (j k : Nat), k + j = m → Ev 66 4 [some (.ref 36), some (.int (nI (lvN N k))), some (.int (nI k))] [] (cpic b N J P, nx, 0, 0) ((cpic b N J P, nx, 0, 0), .inl (some (.int (nI (lvN N m))))) := by
  intro j
  induction j with
  | zero =>
    intro k hk
    have hk : k = m := by omega
    subst hk
    refine eX6_liveSegments_4.mpr ?_
    simp (disch := first | omega | (simp only [cat_i, cat_r, ri_r, ri_0, tkv_r, sgv_r, cdv_r]; done)) only [eX6_liveSegments_5, eX6_liveSegments_6, eX6_liveSegments_9, eX6_liveSegments_12, eX6_liveSegments_13, eX6_liveSegments_14, eX6_liveSegments_17, eX6_liveSegments_18, eX6_liveSegments_19, eX6_liveSegments_22, eX6_liveSegments_25, eX6_liveSegments_26, eX6_liveSegments_29, eX6_liveSegments_30, eX6_liveSegments_31, eX6_liveSegments_32, eX6_liveSegments_35, eX6_liveSegments_38, eX6_liveSegments_39, ↓reduceIte, Evk_some, Evh_some, Evn_some, Evr_v, Evr_n, mk_i, mk_r, mk_0, mk_n, mk_l, mc0, mc1, mc2, mc3, mc4, mi_obj, Bool.and_self, Bool.true_and, Nat.add_zero, Nat.zero_add, nI_add, pk_mul, pk_sub, Nat.add_sub_cancel, eq_self, if_true, if_false, n10, bI_t, bI_f, bI_0, Nat.reduceAdd, Nat.reduceMul, Nat.reduceSub, nI_eq, nI_ltI, nI_leI, Nat.reduceEqDiff, Nat.reduceLT, Nat.reduceDiv, Nat.reduceMod, Nat.reduceLeDiff, ci_Code, ci_Frame, ci_Task, ci_Segment, ci_Main, ci_Program, ci_Checker, ci_World, tkv_s, sgv_s, cdv_s, tkv_n, sgv_n, cdv_n, tkv_k, sgv_k, cdv_k, cg_World_opened, hm, Nat.le_refl]
  | succ j ih =>
    intro k hk
    have i := ih (k + 1) (by omega)
    have h3 : ¬ m ≤ k := by omega
    have h4 : k < 23 := by omega
    rw [lvN_s] at i
    refine eX6_liveSegments_4.mpr ?_
    rcases (hw k (by omega)).1 with h22 | h22
    · have hb : lvB N k = false := by unfold lvB; rw [h22]; rfl
      rw [hb] at i
      simp (disch := first | omega | (simp only [cat_i, cat_r, ri_r, ri_0, tkv_r, sgv_r, cdv_r]; done)) only [eX6_liveSegments_5, eX6_liveSegments_6, eX6_liveSegments_9, eX6_liveSegments_12, eX6_liveSegments_13, eX6_liveSegments_14, eX6_liveSegments_17, eX6_liveSegments_18, eX6_liveSegments_19, eX6_liveSegments_22, eX6_liveSegments_25, eX6_liveSegments_26, eX6_liveSegments_29, eX6_liveSegments_30, eX6_liveSegments_31, eX6_liveSegments_32, eX6_liveSegments_35, ↓reduceIte, Evk_some, Evh_some, Evn_some, Evr_v, Evr_n, mk_i, mk_r, mk_0, mk_n, mk_l, mc0, mc1, mc2, mc3, mc4, mi_obj, Bool.and_self, Bool.true_and, Nat.add_zero, Nat.zero_add, nI_add, pk_mul, pk_sub, Nat.add_sub_cancel, eq_self, if_true, if_false, n10, bI_t, bI_f, bI_0, Nat.reduceAdd, Nat.reduceMul, Nat.reduceSub, nI_eq, nI_ltI, nI_leI, Nat.reduceEqDiff, Nat.reduceLT, Nat.reduceDiv, Nat.reduceMod, Nat.reduceLeDiff, ci_Code, ci_Frame, ci_Task, ci_Segment, ci_Main, ci_Program, ci_Checker, ci_World, tkv_s, sgv_s, cdv_s, tkv_n, sgv_n, cdv_n, tkv_k, sgv_k, cdv_k, cg_World_opened, hm, h3, cg_World_segments, cq_segments, cg_Segment_isLive, h22]
      exact i
    · have hb : lvB N k = true := by unfold lvB; rw [h22]; rfl
      rw [hb] at i
      simp (disch := first | omega | (simp only [cat_i, cat_r, ri_r, ri_0, tkv_r, sgv_r, cdv_r]; done)) only [eX6_liveSegments_5, eX6_liveSegments_6, eX6_liveSegments_9, eX6_liveSegments_12, eX6_liveSegments_13, eX6_liveSegments_14, eX6_liveSegments_17, eX6_liveSegments_18, eX6_liveSegments_19, eX6_liveSegments_22, eX6_liveSegments_25, eX6_liveSegments_26, eX6_liveSegments_29, eX6_liveSegments_30, eX6_liveSegments_31, eX6_liveSegments_32, eX6_liveSegments_35, ↓reduceIte, Evk_some, Evh_some, Evn_some, Evr_v, Evr_n, mk_i, mk_r, mk_0, mk_n, mk_l, mc0, mc1, mc2, mc3, mc4, mi_obj, Bool.and_self, Bool.true_and, Nat.add_zero, Nat.zero_add, nI_add, pk_mul, pk_sub, Nat.add_sub_cancel, eq_self, if_true, if_false, n10, bI_t, bI_f, bI_0, Nat.reduceAdd, Nat.reduceMul, Nat.reduceSub, nI_eq, nI_ltI, nI_leI, Nat.reduceEqDiff, Nat.reduceLT, Nat.reduceDiv, Nat.reduceMod, Nat.reduceLeDiff, ci_Code, ci_Frame, ci_Task, ci_Segment, ci_Main, ci_Program, ci_Checker, ci_World, tkv_s, sgv_s, cdv_s, tkv_n, sgv_n, cdv_n, tkv_k, sgv_k, cdv_k, cg_World_opened, hm, h3, cg_World_segments, cq_segments, cg_Segment_isLive, h22]
      exact i
set_option maxHeartbeats 4000000 in
theorem kl_liveSegments {m : Nat} (hm : N 12 0 0 = nI m) (hm2 : m ≤ 23) (hw : WfC N P m) : Cl 66 [.ref (36)] (cpic b N J P) nx = some ((cpic b N J P, nx, 0, 0), .inl (some (.int (nI (lvN N m))))) := by
  refine Cl_of (x := mnI_X6_liveSegments) rfl ?_
  show Ev 66 0 [some (.ref (36)), none, none] [] _ _
  have i := kv_live (b := b) (J := J) (nx := nx) hm hm2 hw m 0 (by omega)
  rw [eX6_liveSegments_0, eX6_liveSegments_1, eX6_liveSegments_2, eX6_liveSegments_3]
  exact i
set_option maxHeartbeats 4000000 in
theorem kv_written {m : Nat} {w : Nat → Nat} (hm : N 12 0 0 = nI m) (hm2 : m ≤ 23) (hw : ∀ s, s < m → (N 22 s 0 = nI 0 ∨ N 22 s 0 = nI 1) ∧ N 21 s 0 = nI (w s) ∧ w s < 4096) : ∀ (j k : Nat), k + j = m → Ev 67 4 [some (.ref 36), some (.int (nI (smV N w k))), some (.int (nI k))] [] (cpic b N J P, nx, 0, 0) ((cpic b N J P, nx, 0, 0), .inl (some (.int (nI (smV N w m))))) := by
  intro j
  induction j with
  | zero =>
    intro k hk
    have hk : k = m := by omega
    subst hk
    refine eX6_writtenCells_4.mpr ?_
    simp (disch := first | omega | (simp only [cat_i, cat_r, ri_r, ri_0, tkv_r, sgv_r, cdv_r]; done)) only [eX6_writtenCells_5, eX6_writtenCells_6, eX6_writtenCells_9, eX6_writtenCells_12, eX6_writtenCells_13, eX6_writtenCells_14, eX6_writtenCells_17, eX6_writtenCells_18, eX6_writtenCells_19, eX6_writtenCells_22, eX6_writtenCells_25, eX6_writtenCells_26, eX6_writtenCells_29, eX6_writtenCells_30, eX6_writtenCells_31, eX6_writtenCells_34, eX6_writtenCells_37, eX6_writtenCells_38, eX6_writtenCells_39, eX6_writtenCells_40, eX6_writtenCells_43, eX6_writtenCells_46, eX6_writtenCells_47, ↓reduceIte, Evk_some, Evh_some, Evn_some, Evr_v, Evr_n, mk_i, mk_r, mk_0, mk_n, mk_l, mc0, mc1, mc2, mc3, mc4, mi_obj, Bool.and_self, Bool.true_and, Nat.add_zero, Nat.zero_add, nI_add, pk_mul, pk_sub, Nat.add_sub_cancel, eq_self, if_true, if_false, n10, bI_t, bI_f, bI_0, Nat.reduceAdd, Nat.reduceMul, Nat.reduceSub, nI_eq, nI_ltI, nI_leI, Nat.reduceEqDiff, Nat.reduceLT, Nat.reduceDiv, Nat.reduceMod, Nat.reduceLeDiff, ci_Code, ci_Frame, ci_Task, ci_Segment, ci_Main, ci_Program, ci_Checker, ci_World, tkv_s, sgv_s, cdv_s, tkv_n, sgv_n, cdv_n, tkv_k, sgv_k, cdv_k, cg_World_opened, hm, Nat.le_refl]
  | succ j ih =>
    intro k hk
    have i := ih (k + 1) (by omega)
    have h3 : ¬ m ≤ k := by omega
    have h4 : k < 23 := by omega
    obtain ⟨h22, h21, hwk⟩ := hw k (by omega)
    rw [smV] at i
    refine eX6_writtenCells_4.mpr ?_
    rcases h22 with h22 | h22
    · have hb : lvB N k = false := by unfold lvB; rw [h22]; rfl
      rw [hb] at i
      simp (disch := first | omega | (simp only [cat_i, cat_r, ri_r, ri_0, tkv_r, sgv_r, cdv_r]; done)) only [eX6_writtenCells_5, eX6_writtenCells_6, eX6_writtenCells_9, eX6_writtenCells_12, eX6_writtenCells_13, eX6_writtenCells_14, eX6_writtenCells_17, eX6_writtenCells_18, eX6_writtenCells_19, eX6_writtenCells_22, eX6_writtenCells_25, eX6_writtenCells_26, eX6_writtenCells_29, eX6_writtenCells_30, eX6_writtenCells_31, eX6_writtenCells_34, eX6_writtenCells_37, eX6_writtenCells_38, eX6_writtenCells_39, eX6_writtenCells_40, eX6_writtenCells_43, ↓reduceIte, Evk_some, Evh_some, Evn_some, Evr_v, Evr_n, mk_i, mk_r, mk_0, mk_n, mk_l, mc0, mc1, mc2, mc3, mc4, mi_obj, Bool.and_self, Bool.true_and, Nat.add_zero, Nat.zero_add, nI_add, pk_mul, pk_sub, Nat.add_sub_cancel, eq_self, if_true, if_false, n10, bI_t, bI_f, bI_0, Nat.reduceAdd, Nat.reduceMul, Nat.reduceSub, nI_eq, nI_ltI, nI_leI, Nat.reduceEqDiff, Nat.reduceLT, Nat.reduceDiv, Nat.reduceMod, Nat.reduceLeDiff, ci_Code, ci_Frame, ci_Task, ci_Segment, ci_Main, ci_Program, ci_Checker, ci_World, tkv_s, sgv_s, cdv_s, tkv_n, sgv_n, cdv_n, tkv_k, sgv_k, cdv_k, cg_World_opened, hm, h3, cg_World_segments, cq_segments, cg_Segment_isLive, h22]
      exact i
    · have hb : lvB N k = true := by unfold lvB; rw [h22]; rfl
      rw [hb] at i
      simp (disch := first | omega | (simp only [cat_i, cat_r, ri_r, ri_0, tkv_r, sgv_r, cdv_r]; done)) only [eX6_writtenCells_5, eX6_writtenCells_6, eX6_writtenCells_9, eX6_writtenCells_12, eX6_writtenCells_13, eX6_writtenCells_14, eX6_writtenCells_17, eX6_writtenCells_18, eX6_writtenCells_19, eX6_writtenCells_22, eX6_writtenCells_25, eX6_writtenCells_26, eX6_writtenCells_29, eX6_writtenCells_30, eX6_writtenCells_31, eX6_writtenCells_34, eX6_writtenCells_37, eX6_writtenCells_38, eX6_writtenCells_39, eX6_writtenCells_40, eX6_writtenCells_43, ↓reduceIte, Evk_some, Evh_some, Evn_some, Evr_v, Evr_n, mk_i, mk_r, mk_0, mk_n, mk_l, mc0, mc1, mc2, mc3, mc4, mi_obj, Bool.and_self, Bool.true_and, Nat.add_zero, Nat.zero_add, nI_add, pk_mul, pk_sub, Nat.add_sub_cancel, eq_self, if_true, if_false, n10, bI_t, bI_f, bI_0, Nat.reduceAdd, Nat.reduceMul, Nat.reduceSub, nI_eq, nI_ltI, nI_leI, Nat.reduceEqDiff, Nat.reduceLT, Nat.reduceDiv, Nat.reduceMod, Nat.reduceLeDiff, ci_Code, ci_Frame, ci_Task, ci_Segment, ci_Main, ci_Program, ci_Checker, ci_World, tkv_s, sgv_s, cdv_s, tkv_n, sgv_n, cdv_n, tkv_k, sgv_k, cdv_k, cg_World_opened, hm, h3, cg_World_segments, cq_segments, cg_Segment_isLive, h22, kl_writtenCount h4 h21 hwk]
      exact i
set_option maxHeartbeats 4000000 in
theorem kl_writtenCells {m : Nat} {w : Nat → Nat} (hm : N 12 0 0 = nI m) (hm2 : m ≤ 23) (hw : ∀ s, s < m → (N 22 s 0 = nI 0 ∨ N 22 s 0 = nI 1) ∧ N 21 s 0 = nI (w s) ∧ w s < 4096) : Cl 67 [.ref (36)] (cpic b N J P) nx = some ((cpic b N J P, nx, 0, 0), .inl (some (.int (nI (smV N w m))))) := by
  refine Cl_of (x := mnI_X6_writtenCells) rfl ?_
  show Ev 67 0 [some (.ref (36)), none, none] [] _ _
  have i := kv_written (b := b) (J := J) (P := P) (nx := nx) hm hm2 hw m 0 (by omega)
  rw [eX6_writtenCells_0, eX6_writtenCells_1, eX6_writtenCells_2, eX6_writtenCells_3]
  exact i
/-- only the row of those ready may differ -/
def fr7 (P P' : cP) : Prop := ∀ k i, k ≠ 7 → P' k i = P k i
set_option maxHeartbeats 4000000 in
theorem kv_ready {f : Nat → Bool} {n : Nat} (hn : n ≤ 12) (hN : N 11 0 0 = nI n) (hg : ∀ t, t < n → N 16 t 0 = nI 0 → ∀ P', fr7 P P' → ∃ w, f t = !w ∧ Cl 53 [.ref 36, .ref (43 + 5 * t)] (cpic b N J P') nx = some ((cpic b N J P', nx, 0, 0), .inl (some (.int (bI w))))) (hg0 : ∀ t, t < n → N 16 t 0 ≠ nI 0 → f t = false) : ∀ (j k : Nat), k + j = n → ∀ (P1 : cP), fr7 P P1 → (∀ t, t < k → f t = true → P1 7 (rdN f t) = some t) →
    ∃ P', fr7 P P' ∧ (∀ t, t < n → f t = true → P' 7 (rdN f t) = some t) ∧ Ev 52 4 [some (.ref 36), some (.int (nI (rdN f k))), some (.int (nI k))] [] (cpic b N J P1, nx, 0, 0) ((cpic b N J P', nx, 0, 0), .inl (some (.int (nI (rdN f n))))) := by
  intro j
  induction j with
  | zero =>
    intro k hk P1 h1 h2
    have hk : k = n := by omega
    subst hk
    refine ⟨P1, h1, h2, ?_⟩
    refine eX6_findReady_4.mpr ?_
    simp (disch := first | omega | (simp only [cat_i, cat_r, ri_r, ri_0, tkv_r, sgv_r, cdv_r]; done)) only [eX6_findReady_5, eX6_findReady_6, eX6_findReady_9, eX6_findReady_12, eX6_findReady_13, eX6_findReady_16, eX6_findReady_17, eX6_findReady_18, eX6_findReady_21, eX6_findReady_24, eX6_findReady_25, eX6_findReady_26, eX6_findReady_29, eX6_findReady_30, eX6_findReady_31, eX6_findReady_34, eX6_findReady_37, eX6_findReady_38, eX6_findReady_41, eX6_findReady_42, eX6_findReady_43, eX6_findReady_46, eX6_findReady_47, eX6_findReady_48, eX6_findReady_49, eX6_findReady_52, eX6_findReady_55, eX6_findReady_58, eX6_findReady_59, ↓reduceIte, Evk_some, Evh_some, Evn_some, Evr_v, Evr_n, mk_i, mk_r, mk_0, mk_n, mk_l, mc0, mc1, mc2, mc3, mc4, mi_obj, Bool.and_self, Bool.true_and, Nat.add_zero, Nat.zero_add, nI_add, pk_mul, pk_sub, Nat.add_sub_cancel, eq_self, if_true, if_false, n10, bI_t, bI_f, bI_0, Nat.reduceAdd, Nat.reduceMul, Nat.reduceSub, nI_eq, nI_ltI, nI_leI, Nat.reduceEqDiff, Nat.reduceLT, Nat.reduceDiv, Nat.reduceMod, Nat.reduceLeDiff, ci_Code, ci_Frame, ci_Task, ci_Segment, ci_Main, ci_Program, ci_Checker, ci_World, tkv_s, sgv_s, cdv_s, tkv_n, sgv_n, cdv_n, tkv_k, sgv_k, cdv_k, cg_World_taskCount, hN, Nat.le_refl]
  | succ j ih =>
    intro k hk P1 h1 h2
    have h3 : ¬ n ≤ k := by omega
    have h4 : k < 12 := by omega
    have hle := rdN_le (f := f) (k := k)
    have skip : f k = false → (∃ P', fr7 P P' ∧ (∀ t, t < n → f t = true → P' 7 (rdN f t) = some t) ∧ Ev 52 4 [some (.ref 36), some (.int (nI (rdN f k))), some (.int (nI (k + 1)))] [] (cpic b N J P1, nx, 0, 0) ((cpic b N J P', nx, 0, 0), .inl (some (.int (nI (rdN f n)))))) := by
      intro hf
      obtain ⟨P', i1, i2, i3⟩ := ih (k + 1) (by omega) P1 h1 (fun t ht hft => by
        by_cases h : t = k
        · subst h; rw [hf] at hft; cases hft
        · exact h2 t (by omega) hft)
      rw [rdN_s, hf] at i3
      exact ⟨P', i1, i2, i3⟩
    by_cases h16 : N 16 k 0 = nI 0
    · obtain ⟨w, hfw, hcl⟩ := hg k (by omega) h16 P1 h1
      cases w with
      | true =>
        obtain ⟨P', i1, i2, i3⟩ := skip (by rw [hfw]; rfl)
        refine ⟨P', i1, i2, ?_⟩
        refine eX6_findReady_4.mpr ?_
        simp (disch := first | omega | (simp only [cat_i, cat_r, ri_r, ri_0, tkv_r, sgv_r, cdv_r]; done)) only [eX6_findReady_5, eX6_findReady_6, eX6_findReady_9, eX6_findReady_12, eX6_findReady_13, eX6_findReady_16, eX6_findReady_17, eX6_findReady_18, eX6_findReady_21, eX6_findReady_24, eX6_findReady_25, eX6_findReady_26, eX6_findReady_29, eX6_findReady_30, eX6_findReady_31, eX6_findReady_34, eX6_findReady_37, eX6_findReady_38, eX6_findReady_41, eX6_findReady_42, eX6_findReady_43, eX6_findReady_46, eX6_findReady_47, eX6_findReady_48, eX6_findReady_49, eX6_findReady_52, eX6_findReady_55, ↓reduceIte, Evk_some, Evh_some, Evn_some, Evr_v, Evr_n, mk_i, mk_r, mk_0, mk_n, mk_l, mc0, mc1, mc2, mc3, mc4, mi_obj, Bool.and_self, Bool.true_and, Nat.add_zero, Nat.zero_add, nI_add, pk_mul, pk_sub, Nat.add_sub_cancel, eq_self, if_true, if_false, n10, bI_t, bI_f, bI_0, Nat.reduceAdd, Nat.reduceMul, Nat.reduceSub, nI_eq, nI_ltI, nI_leI, Nat.reduceEqDiff, Nat.reduceLT, Nat.reduceDiv, Nat.reduceMod, Nat.reduceLeDiff, ci_Code, ci_Frame, ci_Task, ci_Segment, ci_Main, ci_Program, ci_Checker, ci_World, tkv_s, sgv_s, cdv_s, tkv_n, sgv_n, cdv_n, tkv_k, sgv_k, cdv_k, cg_World_taskCount, hN, h3, cg_World_tasks, cq_tasks, cg_Task_status, h16, hcl]
        exact i3
      | false =>
        have hft : f k = true := by rw [hfw]; rfl
        obtain ⟨P', i1, i2, i3⟩ := ih (k + 1) (by omega) (upP P1 7 (rdN f k) (some k)) (fun q i hq => (congrFun (upP_k hq) i).trans (h1 q i hq)) (fun t ht hft' => by
          by_cases h : t = k
          · subst h; exact upP_s
          · have hlt : rdN f t < rdN f k := by
              have hm := rdN_mono (f := f) (j := t + 1) (k - (t + 1))
              rw [show t + 1 + (k - (t + 1)) = k by omega, rdN_s, hft', if_pos rfl] at hm
              omega
            rw [upP_n (by omega)]
            exact h2 t (by omega) hft')
        rw [rdN_s, hft] at i3
        refine ⟨P', i1, i2, ?_⟩
        refine eX6_findReady_4.mpr ?_
        simp (disch := first | omega | (simp only [cat_i, cat_r, ri_r, ri_0, tkv_r, sgv_r, cdv_r]; done)) only [eX6_findReady_5, eX6_findReady_6, eX6_findReady_9, eX6_findReady_12, eX6_findReady_13, eX6_findReady_16, eX6_findReady_17, eX6_findReady_18, eX6_findReady_21, eX6_findReady_24, eX6_findReady_25, eX6_findReady_26, eX6_findReady_29, eX6_findReady_30, eX6_findReady_31, eX6_findReady_34, eX6_findReady_37, eX6_findReady_38, eX6_findReady_41, eX6_findReady_42, eX6_findReady_43, eX6_findReady_46, eX6_findReady_47, eX6_findReady_48, eX6_findReady_49, eX6_findReady_52, eX6_findReady_55, ↓reduceIte, Evk_some, Evh_some, Evn_some, Evr_v, Evr_n, mk_i, mk_r, mk_0, mk_n, mk_l, mc0, mc1, mc2, mc3, mc4, mi_obj, Bool.and_self, Bool.true_and, Nat.add_zero, Nat.zero_add, nI_add, pk_mul, pk_sub, Nat.add_sub_cancel, eq_self, if_true, if_false, n10, bI_t, bI_f, bI_0, Nat.reduceAdd, Nat.reduceMul, Nat.reduceSub, nI_eq, nI_ltI, nI_leI, Nat.reduceEqDiff, Nat.reduceLT, Nat.reduceDiv, Nat.reduceMod, Nat.reduceLeDiff, ci_Code, ci_Frame, ci_Task, ci_Segment, ci_Main, ci_Program, ci_Checker, ci_World, tkv_s, sgv_s, cdv_s, tkv_n, sgv_n, cdv_n, tkv_k, sgv_k, cdv_k, cg_World_taskCount, hN, h3, cg_World_tasks, cq_tasks, cg_Task_status, h16, hcl, cg_World_ready, cs_ready]
        exact i3
    · obtain ⟨P', i1, i2, i3⟩ := skip (hg0 k (by omega) h16)
      refine ⟨P', i1, i2, ?_⟩
      refine eX6_findReady_4.mpr ?_
      simp (disch := first | omega | (simp only [cat_i, cat_r, ri_r, ri_0, tkv_r, sgv_r, cdv_r]; done)) only [eX6_findReady_5, eX6_findReady_6, eX6_findReady_9, eX6_findReady_12, eX6_findReady_13, eX6_findReady_16, eX6_findReady_17, eX6_findReady_18, eX6_findReady_21, eX6_findReady_24, eX6_findReady_25, eX6_findReady_26, eX6_findReady_29, eX6_findReady_30, eX6_findReady_31, eX6_findReady_34, eX6_findReady_37, eX6_findReady_38, eX6_findReady_41, eX6_findReady_42, eX6_findReady_43, eX6_findReady_46, eX6_findReady_47, eX6_findReady_48, eX6_findReady_49, eX6_findReady_52, eX6_findReady_55, ↓reduceIte, Evk_some, Evh_some, Evn_some, Evr_v, Evr_n, mk_i, mk_r, mk_0, mk_n, mk_l, mc0, mc1, mc2, mc3, mc4, mi_obj, Bool.and_self, Bool.true_and, Nat.add_zero, Nat.zero_add, nI_add, pk_mul, pk_sub, Nat.add_sub_cancel, eq_self, if_true, if_false, n10, bI_t, bI_f, bI_0, Nat.reduceAdd, Nat.reduceMul, Nat.reduceSub, nI_eq, nI_ltI, nI_leI, Nat.reduceEqDiff, Nat.reduceLT, Nat.reduceDiv, Nat.reduceMod, Nat.reduceLeDiff, ci_Code, ci_Frame, ci_Task, ci_Segment, ci_Main, ci_Program, ci_Checker, ci_World, tkv_s, sgv_s, cdv_s, tkv_n, sgv_n, cdv_n, tkv_k, sgv_k, cdv_k, cg_World_taskCount, hN, h3, cg_World_tasks, cq_tasks, cg_Task_status, h16]
      exact i3
theorem kl_findReady {f : Nat → Bool} {n : Nat} (hn : n ≤ 12) (hN : N 11 0 0 = nI n) (hg : ∀ t, t < n → N 16 t 0 = nI 0 → ∀ P', fr7 P P' → ∃ w, f t = !w ∧ Cl 53 [.ref 36, .ref (43 + 5 * t)] (cpic b N J P') nx = some ((cpic b N J P', nx, 0, 0), .inl (some (.int (bI w))))) (hg0 : ∀ t, t < n → N 16 t 0 ≠ nI 0 → f t = false) : ∃ P', fr7 P P' ∧ (∀ t, t < n → f t = true → P' 7 (rdN f t) = some t) ∧ Cl 52 [.ref 36] (cpic b N J P) nx = some ((cpic b N J P', nx, 0, 0), .inl (some (.int (nI (rdN f n))))) := by
  obtain ⟨P', i1, i2, i3⟩ := kv_ready (b := b) (J := J) (nx := nx) hn hN hg hg0 n 0 (by omega) P (fun _ _ _ => rfl) (fun t ht => by omega)
  refine ⟨P', i1, i2, Cl_of (x := mnI_X6_findReady) rfl ?_⟩
  show Ev 52 0 [some (.ref (36)), none, none] [] _ _
  rw [eX6_findReady_0, eX6_findReady_1, eX6_findReady_2, eX6_findReady_3]
  exact i3
end KG
