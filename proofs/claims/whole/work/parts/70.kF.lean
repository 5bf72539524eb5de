/-! the class: laying together -/
section KF
variable {b : Nat → Option va_E} {N : cN} {J : cJ} {P : cP} {nx : Option Nat} {r : mn_Res}
def gC (N : cN) (J : cJ) (P : cP) (m : Nat) : FG := fun s => if s < m ∧ N 22 s 0 = nI 1 then some (cw (N 21 s 0) (J 4 s), P 6 s) else none
def WfC (N : cN) (P : cP) (m : Nat) : Prop := ∀ s, s < m → (N 22 s 0 = nI 0 ∨ N 22 s 0 = nI 1) ∧ (∃ w, w < 4096 ∧ N 21 s 0 = nI w) ∧ ∀ y, P 6 s = some y → y < s
theorem gC_some {m s : Nat} (h1 : s < m) (h2 : N 22 s 0 = nI 1) : gC N J P m s = some (cw (N 21 s 0) (J 4 s), P 6 s) := if_pos ⟨h1, h2⟩
theorem gC_of {m s : Nat} (h : gC N J P m s ≠ none) : s < m ∧ N 22 s 0 = nI 1 := by
  unfold gC at h
  split at h
  · assumption
  · exact absurd rfl h
theorem gC_Ak {m : Nat} (hw : WfC N P m) : Ak (gC N J P m) := by
  intro k w t h
  obtain ⟨h1, h2⟩ := gC_of (N := N) (J := J) (P := P) (m := m) (s := k) (by rw [h]; simp)
  rw [gC_some h1 h2] at h
  exact (hw k h1).2.2 t (Prod.mk.inj (Option.some.inj h)).2
/-- is segment s needed by one of the first k tasks -/
def ndT (N : cN) (P : cP) (s t : Nat) : Bool := !decide (N 16 t 0 = nI 3) && (decide (P 4 t = some s) || decide (P 3 t = some s))
def ndU (N : cN) (P : cP) (k s : Nat) : Bool := (List.range k).any (ndT N P s)
theorem ndU_s {k s : Nat} : ndU N P (k + 1) s = (ndU N P k s || ndT N P s k) := by
  unfold ndU
  rw [List.range_succ, List.any_append]
  simp
set_option maxHeartbeats 4000000 in
theorem kv_mark1 {m : Nat} (hm : N 12 0 0 = nI m) (hm2 : m ≤ 23) : ∀ (j k : Nat), k + j = m → ∀ (N1 : cN), (∀ q i, q ≠ 23 → N1 q i = N q i) → (∀ s, s < k → N1 23 s 0 = nI 0) →
    ∃ N', (∀ q i, q ≠ 23 → N' q i = N q i) ∧ (∀ s, s < m → N' 23 s 0 = nI 0) ∧ ∀ r : mn_Res, Ev 64 2 [some (.ref 36), some (.int (nI k))] [] (cpic b N1 J P, nx, 0, 0) r ↔ Ev 64 26 [some (.ref 36), some (.int (nI m))] [] (cpic b N' J P, nx, 0, 0) r := by
  intro j
  induction j with
  | zero =>
    intro k hk N1 h1 h2
    have hk : k = m := by omega
    subst hk
    refine ⟨N1, h1, h2, fun r => ?_⟩
    refine eX6_markNeeded_2.trans ?_
    have e : N1 12 0 0 = nI k := by rw [h1 12 0 (by decide)]; exact hm
    simp (disch := first | omega | (simp only [cat_i, cat_r, ri_r, ri_0, tkv_r, sgv_r, cdv_r]; done)) only [eX6_markNeeded_3, eX6_markNeeded_4, eX6_markNeeded_7, ↓reduceIte, Evk_some, Evh_some, Evn_some, Evr_v, Evr_n, mk_i, mk_r, mk_0, mk_n, mk_l, mc0, mc1, mc2, mc3, mc4, mi_obj, Bool.and_self, Bool.true_and, Nat.add_zero, Nat.zero_add, nI_add, pk_mul, pk_sub, Nat.add_sub_cancel, eq_self, if_true, if_false, n10, bI_t, bI_f, bI_0, Nat.reduceAdd, Nat.reduceMul, Nat.reduceSub, nI_eq, nI_ltI, nI_leI, Nat.reduceEqDiff, Nat.reduceLT, Nat.reduceDiv, Nat.reduceMod, Nat.reduceLeDiff, ci_Code, ci_Frame, ci_Task, ci_Segment, ci_Main, ci_Program, ci_Checker, ci_World, tkv_s, sgv_s, cdv_s, tkv_n, sgv_n, cdv_n, tkv_k, sgv_k, cdv_k, cg_World_opened, e, Nat.le_refl]
  | succ j ih =>
    intro k hk N1 h1 h2
    obtain ⟨N', i1, i2, i3⟩ := ih (k + 1) (by omega) (up3 N1 23 k 0 (nI 0)) (fun q i hq => (congrFun (up3_k hq) i).trans (h1 q i hq)) (fun s hs => by
      by_cases h : s = k
      · subst h; exact up3_s
      · rw [up3_n h]; exact h2 s (by omega))
    refine ⟨N', i1, i2, fun r => ?_⟩
    refine Iff.trans ?_ (i3 r)
    refine eX6_markNeeded_2.trans ?_
    have e : N1 12 0 0 = nI m := by rw [h1 12 0 (by decide)]; exact hm
    have h3 : ¬ m ≤ k := by omega
    have h4 : k < 23 := by omega
    simp (disch := first | omega | (simp only [cat_i, cat_r, ri_r, ri_0, tkv_r, sgv_r, cdv_r]; done)) only [eX6_markNeeded_3, eX6_markNeeded_4, eX6_markNeeded_7, eX6_markNeeded_10, eX6_markNeeded_11, eX6_markNeeded_14, eX6_markNeeded_15, eX6_markNeeded_16, eX6_markNeeded_17, eX6_markNeeded_20, eX6_markNeeded_23, ↓reduceIte, Evk_some, Evh_some, Evn_some, Evr_v, Evr_n, mk_i, mk_r, mk_0, mk_n, mk_l, mc0, mc1, mc2, mc3, mc4, mi_obj, Bool.and_self, Bool.true_and, Nat.add_zero, Nat.zero_add, nI_add, pk_mul, pk_sub, Nat.add_sub_cancel, eq_self, if_true, if_false, n10, bI_t, bI_f, bI_0, Nat.reduceAdd, Nat.reduceMul, Nat.reduceSub, nI_eq, nI_ltI, nI_leI, Nat.reduceEqDiff, Nat.reduceLT, Nat.reduceDiv, Nat.reduceMod, Nat.reduceLeDiff, ci_Code, ci_Frame, ci_Task, ci_Segment, ci_Main, ci_Program, ci_Checker, ci_World, tkv_s, sgv_s, cdv_s, tkv_n, sgv_n, cdv_n, tkv_k, sgv_k, cdv_k, cg_World_opened, e, h3, cg_World_segments, cq_segments, cp_Segment_isNeeded0]
set_option maxHeartbeats 4000000 in
theorem kv_mark2 {n m : Nat} (hN : N 11 0 0 = nI n) (hn : n ≤ 12) (hm2 : m ≤ 23) (hT : ∀ t, t < n → N 16 t 0 ≠ nI 3 → (∃ s, P 4 t = some s ∧ s < m) ∧ ∀ e, P 3 t = some e → e < m) : ∀ (j k : Nat), k + j = n → ∀ (N1 : cN), (∀ q i, q ≠ 23 → N1 q i = N q i) → (∀ s, s < m → N1 23 s 0 = bI (ndU N P k s)) →
    ∃ N', (∀ q i, q ≠ 23 → N' q i = N q i) ∧ (∀ s, s < m → N' 23 s 0 = bI (ndU N P n s)) ∧ Ev 64 28 [some (.ref 36), some (.int (nI k))] [] (cpic b N1 J P, nx, 0, 0) ((cpic b N' J P, nx, 0, 0), .inl none) := by
  intro j
  induction j with
  | zero =>
    intro k hk N1 h1 h2
    have hk : k = n := by omega
    subst hk
    refine ⟨N1, h1, h2, ?_⟩
    refine eX6_markNeeded_28.mpr ?_
    have e : N1 11 0 0 = nI k := by rw [h1 11 0 (by decide)]; exact hN
    simp (disch := first | omega | (simp only [cat_i, cat_r, ri_r, ri_0, tkv_r, sgv_r, cdv_r]; done)) only [eX6_markNeeded_29, eX6_markNeeded_30, eX6_markNeeded_33, eX6_markNeeded_93, ↓reduceIte, Evk_some, Evh_some, Evn_some, Evr_v, Evr_n, mk_i, mk_r, mk_0, mk_n, mk_l, mc0, mc1, mc2, mc3, mc4, mi_obj, Bool.and_self, Bool.true_and, Nat.add_zero, Nat.zero_add, nI_add, pk_mul, pk_sub, Nat.add_sub_cancel, eq_self, if_true, if_false, n10, bI_t, bI_f, bI_0, Nat.reduceAdd, Nat.reduceMul, Nat.reduceSub, nI_eq, nI_ltI, nI_leI, Nat.reduceEqDiff, Nat.reduceLT, Nat.reduceDiv, Nat.reduceMod, Nat.reduceLeDiff, ci_Code, ci_Frame, ci_Task, ci_Segment, ci_Main, ci_Program, ci_Checker, ci_World, tkv_s, sgv_s, cdv_s, tkv_n, sgv_n, cdv_n, tkv_k, sgv_k, cdv_k, cg_World_taskCount, e, Nat.le_refl]
  | succ j ih =>
    intro k hk N1 h1 h2
    have e : N1 11 0 0 = nI n := by rw [h1 11 0 (by decide)]; exact hN
    have h3 : ¬ n ≤ k := by omega
    have h4 : k < 12 := by omega
    have e16 : N1 16 k 0 = N 16 k 0 := by rw [h1 16 k (by decide)]
    by_cases h5 : N 16 k 0 = nI 3
    · obtain ⟨N', i1, i2, i3⟩ := ih (k + 1) (by omega) N1 h1 (fun s hs => by
        rw [h2 s hs, ndU_s]
        have : ndT N P s k = false := by unfold ndT; simp [h5]
        rw [this, Bool.or_false])
      refine ⟨N', i1, i2, ?_⟩
      refine eX6_markNeeded_28.mpr ?_
      simp (disch := first | omega | (simp only [cat_i, cat_r, ri_r, ri_0, tkv_r, sgv_r, cdv_r]; done)) only [eX6_markNeeded_29, eX6_markNeeded_30, eX6_markNeeded_33, eX6_markNeeded_36, eX6_markNeeded_37, eX6_markNeeded_40, eX6_markNeeded_41, eX6_markNeeded_42, eX6_markNeeded_45, eX6_markNeeded_46, eX6_markNeeded_49, eX6_markNeeded_50, eX6_markNeeded_53, eX6_markNeeded_54, eX6_markNeeded_55, eX6_markNeeded_58, eX6_markNeeded_59, eX6_markNeeded_62, eX6_markNeeded_63, eX6_markNeeded_66, eX6_markNeeded_67, eX6_markNeeded_68, eX6_markNeeded_71, eX6_markNeeded_71r, eX6_markNeeded_71n, eX6_markNeeded_74, eX6_markNeeded_75, eX6_markNeeded_78, eX6_markNeeded_79, eX6_markNeeded_80, eX6_markNeeded_83, eX6_markNeeded_84, eX6_markNeeded_87, eX6_markNeeded_90, ↓reduceIte, Evk_some, Evh_some, Evn_some, Evr_v, Evr_n, mk_i, mk_r, mk_0, mk_n, mk_l, mc0, mc1, mc2, mc3, mc4, mi_obj, Bool.and_self, Bool.true_and, Nat.add_zero, Nat.zero_add, nI_add, pk_mul, pk_sub, Nat.add_sub_cancel, eq_self, if_true, if_false, n10, bI_t, bI_f, bI_0, Nat.reduceAdd, Nat.reduceMul, Nat.reduceSub, nI_eq, nI_ltI, nI_leI, Nat.reduceEqDiff, Nat.reduceLT, Nat.reduceDiv, Nat.reduceMod, Nat.reduceLeDiff, ci_Code, ci_Frame, ci_Task, ci_Segment, ci_Main, ci_Program, ci_Checker, ci_World, tkv_s, sgv_s, cdv_s, tkv_n, sgv_n, cdv_n, tkv_k, sgv_k, cdv_k, cg_World_taskCount, e, h3, cg_World_tasks, cq_tasks, cg_Task_status, e16, h5]
      exact i3
    · obtain ⟨⟨s4, hs4, hs4m⟩, he⟩ := hT k (by omega) h5
      cases h3k : P 3 k with
      | none =>
        obtain ⟨N', i1, i2, i3⟩ := ih (k + 1) (by omega) (up3 N1 23 s4 0 (nI 1)) (fun q i hq => (congrFun (up3_k hq) i).trans (h1 q i hq)) (fun s hs => by
          rw [ndU_s]
          by_cases h : s = s4
          · subst h
            have : ndT N P s k = true := by unfold ndT; simp [h5, hs4]
            rw [this, Bool.or_true, up3_s]; rfl
          · rw [up3_n h, h2 s hs]
            have : ndT N P s k = false := by unfold ndT; simp [hs4, h3k, Ne.symm h]
            rw [this, Bool.or_false])
        refine ⟨N', i1, i2, ?_⟩
        refine eX6_markNeeded_28.mpr ?_
        simp (disch := first | omega | (simp only [cat_i, cat_r, ri_r, ri_0, tkv_r, sgv_r, cdv_r]; done)) only [eX6_markNeeded_29, eX6_markNeeded_30, eX6_markNeeded_33, eX6_markNeeded_36, eX6_markNeeded_37, eX6_markNeeded_40, eX6_markNeeded_41, eX6_markNeeded_42, eX6_markNeeded_45, eX6_markNeeded_46, eX6_markNeeded_49, eX6_markNeeded_50, eX6_markNeeded_53, eX6_markNeeded_54, eX6_markNeeded_55, eX6_markNeeded_58, eX6_markNeeded_59, eX6_markNeeded_62, eX6_markNeeded_63, eX6_markNeeded_66, eX6_markNeeded_67, eX6_markNeeded_68, eX6_markNeeded_71, eX6_markNeeded_71r, eX6_markNeeded_71n, eX6_markNeeded_74, eX6_markNeeded_75, eX6_markNeeded_78, eX6_markNeeded_79, eX6_markNeeded_80, eX6_markNeeded_83, eX6_markNeeded_84, eX6_markNeeded_87, eX6_markNeeded_90, ↓reduceIte, Evk_some, Evh_some, Evn_some, Evr_v, Evr_n, mk_i, mk_r, mk_0, mk_n, mk_l, mc0, mc1, mc2, mc3, mc4, mi_obj, Bool.and_self, Bool.true_and, Nat.add_zero, Nat.zero_add, nI_add, pk_mul, pk_sub, Nat.add_sub_cancel, eq_self, if_true, if_false, n10, bI_t, bI_f, bI_0, Nat.reduceAdd, Nat.reduceMul, Nat.reduceSub, nI_eq, nI_ltI, nI_leI, Nat.reduceEqDiff, Nat.reduceLT, Nat.reduceDiv, Nat.reduceMod, Nat.reduceLeDiff, ci_Code, ci_Frame, ci_Task, ci_Segment, ci_Main, ci_Program, ci_Checker, ci_World, tkv_s, sgv_s, cdv_s, tkv_n, sgv_n, cdv_n, tkv_k, sgv_k, cdv_k, cg_World_taskCount, e, h3, cg_World_tasks, cq_tasks, cg_Task_status, e16, h5, cg_Task_segment, hs4, cp_Segment_isNeeded1, cg_Task_forkedIn, h3k]
        exact i3
      | some s3 =>
        have hs3 := he s3 h3k
        obtain ⟨N', i1, i2, i3⟩ := ih (k + 1) (by omega) (up3 (up3 N1 23 s4 0 (nI 1)) 23 s3 0 (nI 1)) (fun q i hq => (congrFun (up3_k hq) i).trans ((congrFun (up3_k hq) i).trans (h1 q i hq))) (fun s hs => by
          rw [ndU_s]
          by_cases h : s = s3
          · subst h
            have : ndT N P s k = true := by unfold ndT; simp [h5, h3k]
            rw [this, Bool.or_true, up3_s]; rfl
          · rw [up3_n h]
            by_cases h' : s = s4
            · subst h'
              have : ndT N P s k = true := by unfold ndT; simp [h5, hs4]
              rw [this, Bool.or_true, up3_s]; rfl
            · rw [up3_n h', h2 s hs]
              have : ndT N P s k = false := by unfold ndT; simp [hs4, h3k, Ne.symm h, Ne.symm h']
              rw [this, Bool.or_false])
        refine ⟨N', i1, i2, ?_⟩
        refine eX6_markNeeded_28.mpr ?_
        simp (disch := first | omega | (simp only [cat_i, cat_r, ri_r, ri_0, tkv_r, sgv_r, cdv_r]; done)) only [eX6_markNeeded_29, eX6_markNeeded_30, eX6_markNeeded_33, eX6_markNeeded_36, eX6_markNeeded_37, eX6_markNeeded_40, eX6_markNeeded_41, eX6_markNeeded_42, eX6_markNeeded_45, eX6_markNeeded_46, eX6_markNeeded_49, eX6_markNeeded_50, eX6_markNeeded_53, eX6_markNeeded_54, eX6_markNeeded_55, eX6_markNeeded_58, eX6_markNeeded_59, eX6_markNeeded_62, eX6_markNeeded_63, eX6_markNeeded_66, eX6_markNeeded_67, eX6_markNeeded_68, eX6_markNeeded_71, eX6_markNeeded_71r, eX6_markNeeded_71n, eX6_markNeeded_74, eX6_markNeeded_75, eX6_markNeeded_78, eX6_markNeeded_79, eX6_markNeeded_80, eX6_markNeeded_83, eX6_markNeeded_84, eX6_markNeeded_87, eX6_markNeeded_90, ↓reduceIte, Evk_some, Evh_some, Evn_some, Evr_v, Evr_n, mk_i, mk_r, mk_0, mk_n, mk_l, mc0, mc1, mc2, mc3, mc4, mi_obj, Bool.and_self, Bool.true_and, Nat.add_zero, Nat.zero_add, nI_add, pk_mul, pk_sub, Nat.add_sub_cancel, eq_self, if_true, if_false, n10, bI_t, bI_f, bI_0, Nat.reduceAdd, Nat.reduceMul, Nat.reduceSub, nI_eq, nI_ltI, nI_leI, Nat.reduceEqDiff, Nat.reduceLT, Nat.reduceDiv, Nat.reduceMod, Nat.reduceLeDiff, ci_Code, ci_Frame, ci_Task, ci_Segment, ci_Main, ci_Program, ci_Checker, ci_World, tkv_s, sgv_s, cdv_s, tkv_n, sgv_n, cdv_n, tkv_k, sgv_k, cdv_k, cg_World_taskCount, e, h3, cg_World_tasks, cq_tasks, cg_Task_status, e16, h5, cg_Task_segment, hs4, cp_Segment_isNeeded1, cg_Task_forkedIn, h3k]
        exact i3
theorem kl_markNeeded {n m : Nat} (hm : N 12 0 0 = nI m) (hm2 : m ≤ 23) (hN : N 11 0 0 = nI n) (hn : n ≤ 12) (hT : ∀ t, t < n → N 16 t 0 ≠ nI 3 → (∃ s, P 4 t = some s ∧ s < m) ∧ ∀ e, P 3 t = some e → e < m) : ∃ N', (∀ q i, q ≠ 23 → N' q i = N q i) ∧ (∀ s, s < m → N' 23 s 0 = bI (ndU N P n s)) ∧ Cl 64 [.ref 36] (cpic b N J P) nx = some ((cpic b N' J P, nx, 0, 0), .inl none) := by
  obtain ⟨N1, i1, i2, i3⟩ := kv_mark1 (b := b) (J := J) (P := P) (nx := nx) hm hm2 m 0 (by omega) N (fun _ _ _ => rfl) (fun s hs => by omega)
  obtain ⟨N', k1, k2, k3⟩ := kv_mark2 (b := b) (J := J) (nx := nx) hN hn hm2 hT n 0 (by omega) N1 i1 (fun s hs => i2 s hs)
  refine ⟨N', k1, k2, Cl_of (x := mnI_X6_markNeeded) rfl ?_⟩
  show Ev 64 0 [some (.ref (36)), none] [] _ _
  rw [eX6_markNeeded_0, eX6_markNeeded_1]
  refine (i3 _).mpr ?_
  rw [eX6_markNeeded_26, eX6_markNeeded_27]
  exact k3
/-- what lies on s, in the class -/
def ocB (N : cN) (P : cP) (s x : Nat) : Bool := decide (N 22 x 0 = nI 1) && decide (P 6 x = some s)
def ocL (N : cN) (P : cP) (s k : Nat) : List Nat := (List.range k).filter (ocB N P s)
theorem ocL_succ {s k : Nat} : ocL N P s (k + 1) = ocL N P s k ++ (if ocB N P s k = true then [k] else []) := by
  unfold ocL
  rw [List.range_succ, List.filter_append]
  congr 1
  by_cases h : ocB N P s k = true <;> simp [h]
set_option maxHeartbeats 4000000 in
theorem kv_lay {m s : Nat} (hm : N 12 0 0 = nI m) (hm2 : m ≤ 23) (hw : WfC N P m) : ∀ (j k : Nat), k + j = m → (Ev 65 7 [some (.ref 36), some (.ref (103 + 2 * s)), some (.int (nI (ocL N P s k).length)), some (sgv (ocL N P s k).getLast?), some (.int (nI k))] [] (cpic b N J P, nx, 0, 0) r ↔ Ev 65 60 [some (.ref 36), some (.ref (103 + 2 * s)), some (.int (nI (ocL N P s m).length)), some (sgv (ocL N P s m).getLast?), some (.int (nI m))] [] (cpic b N J P, nx, 0, 0) r) := by
  intro j
  induction j with
  | zero =>
    intro k hk
    have hk : k = m := by omega
    subst hk
    refine eX6_layAway_7.trans ?_
    simp (disch := first | omega | (simp only [cat_i, cat_r, ri_r, ri_0, tkv_r, sgv_r, cdv_r]; done)) only [eX6_layAway_9, eX6_layAway_10, eX6_layAway_13, ↓reduceIte, Evk_some, Evh_some, Evn_some, Evr_v, Evr_n, mk_i, mk_r, mk_0, mk_n, mk_l, mc0, mc1, mc2, mc3, mc4, mi_obj, Bool.and_self, Bool.true_and, Nat.add_zero, Nat.zero_add, nI_add, pk_mul, pk_sub, Nat.add_sub_cancel, eq_self, if_true, if_false, n10, bI_t, bI_f, bI_0, Nat.reduceAdd, Nat.reduceMul, Nat.reduceSub, nI_eq, nI_ltI, nI_leI, Nat.reduceEqDiff, Nat.reduceLT, Nat.reduceDiv, Nat.reduceMod, Nat.reduceLeDiff, ci_World, sgv_k, cg_World_opened, hm, Nat.le_refl]
  | succ j ih =>
    intro k hk
    have h3 : ¬ m ≤ k := by omega
    have h4 : k < 23 := by omega
    refine Iff.trans ?_ (ih (k + 1) (by omega))
    refine eX6_layAway_7.trans ?_
    rw [ocL_succ]
    rcases (hw k (by omega)).1 with h22 | h22
    · have hb : ocB N P s k = false := by unfold ocB; rw [h22]; rfl
      simp (disch := first | omega | (simp only [cat_i, cat_r, ri_r, ri_0, tkv_r, sgv_r, cdv_r]; done)) only [eX6_layAway_9, eX6_layAway_10, eX6_layAway_13, eX6_layAway_16, eX6_layAway_17, eX6_layAway_20, eX6_layAway_22, eX6_layAway_23, eX6_layAway_26, eX6_layAway_29, eX6_layAway_30, eX6_layAway_33, eX6_layAway_35, eX6_layAway_36, eX6_layAway_39, eX6_layAway_39n, eX6_layAway_39t, eX6_layAway_39s, eX6_layAway_39c, eX6_layAway_40, eX6_layAway_40n, eX6_layAway_43, eX6_layAway_44, eX6_layAway_47, eX6_layAway_49, eX6_layAway_50, eX6_layAway_50n, eX6_layAway_50t, eX6_layAway_50s, eX6_layAway_50c, eX6_layAway_51, eX6_layAway_54, eX6_layAway_57, ↓reduceIte, Evk_some, Evh_some, Evn_some, Evr_v, Evr_n, mk_i, mk_r, mk_0, mk_n, mk_l, mc0, mc1, mc2, mc3, mc4, mi_obj, Bool.and_self, Bool.true_and, Nat.add_zero, Nat.zero_add, nI_add, pk_mul, pk_sub, Nat.add_sub_cancel, eq_self, if_true, if_false, n10, bI_t, bI_f, bI_0, Nat.reduceAdd, Nat.reduceMul, Nat.reduceSub, nI_eq, nI_ltI, nI_leI, Nat.reduceEqDiff, Nat.reduceLT, Nat.reduceDiv, Nat.reduceMod, Nat.reduceLeDiff, ci_World, sgv_k, cg_World_opened, hm, h3, cg_World_segments, cq_segments, cg_Segment_isLive, h22, hb, Bool.false_eq_true, List.append_nil]
    · cases h6 : P 6 k with
      | none =>
        have hb : ocB N P s k = false := by unfold ocB; simp [h6]
        simp (disch := first | omega | (simp only [cat_i, cat_r, ri_r, ri_0, tkv_r, sgv_r, cdv_r]; done)) only [eX6_layAway_9, eX6_layAway_10, eX6_layAway_13, eX6_layAway_16, eX6_layAway_17, eX6_layAway_20, eX6_layAway_22, eX6_layAway_23, eX6_layAway_26, eX6_layAway_29, eX6_layAway_30, eX6_layAway_33, eX6_layAway_35, eX6_layAway_36, eX6_layAway_39, eX6_layAway_39n, eX6_layAway_39t, eX6_layAway_39s, eX6_layAway_39c, eX6_layAway_40, eX6_layAway_40n, eX6_layAway_43, eX6_layAway_44, eX6_layAway_47, eX6_layAway_49, eX6_layAway_50, eX6_layAway_50n, eX6_layAway_50t, eX6_layAway_50s, eX6_layAway_50c, eX6_layAway_51, eX6_layAway_54, eX6_layAway_57, ↓reduceIte, Evk_some, Evh_some, Evn_some, Evr_v, Evr_n, mk_i, mk_r, mk_0, mk_n, mk_l, mc0, mc1, mc2, mc3, mc4, mi_obj, Bool.and_self, Bool.true_and, Nat.add_zero, Nat.zero_add, nI_add, pk_mul, pk_sub, Nat.add_sub_cancel, eq_self, if_true, if_false, n10, bI_t, bI_f, bI_0, Nat.reduceAdd, Nat.reduceMul, Nat.reduceSub, nI_eq, nI_ltI, nI_leI, Nat.reduceEqDiff, Nat.reduceLT, Nat.reduceDiv, Nat.reduceMod, Nat.reduceLeDiff, ci_World, sgv_k, sgv_n, cg_World_opened, hm, h3, cg_World_segments, cq_segments, cg_Segment_isLive, cg_Segment_below, h6, h22, hb, Bool.false_eq_true, List.append_nil]
      | some y =>
        by_cases hy : y = s
        · subst hy
          have hb : ocB N P y k = true := by unfold ocB; simp [h6, h22]
          simp (disch := first | omega | (simp only [cat_i, cat_r, ri_r, ri_0, tkv_r, sgv_r, cdv_r]; done)) only [eX6_layAway_9, eX6_layAway_10, eX6_layAway_13, eX6_layAway_16, eX6_layAway_17, eX6_layAway_20, eX6_layAway_22, eX6_layAway_23, eX6_layAway_26, eX6_layAway_29, eX6_layAway_30, eX6_layAway_33, eX6_layAway_35, eX6_layAway_36, eX6_layAway_39, eX6_layAway_39n, eX6_layAway_39t, eX6_layAway_39s, eX6_layAway_39c, eX6_layAway_40, eX6_layAway_40n, eX6_layAway_43, eX6_layAway_44, eX6_layAway_47, eX6_layAway_49, eX6_layAway_50, eX6_layAway_50n, eX6_layAway_50t, eX6_layAway_50s, eX6_layAway_50c, eX6_layAway_51, eX6_layAway_54, eX6_layAway_57, ↓reduceIte, Evk_some, Evh_some, Evn_some, Evr_v, Evr_n, mk_i, mk_r, mk_0, mk_n, mk_l, mc0, mc1, mc2, mc3, mc4, mi_obj, Bool.and_self, Bool.true_and, Nat.add_zero, Nat.zero_add, nI_add, pk_mul, pk_sub, Nat.add_sub_cancel, eq_self, if_true, if_false, n10, bI_t, bI_f, bI_0, Nat.reduceAdd, Nat.reduceMul, Nat.reduceSub, nI_eq, nI_ltI, nI_leI, Nat.reduceEqDiff, Nat.reduceLT, Nat.reduceDiv, Nat.reduceMod, Nat.reduceLeDiff, ci_Code, ci_Frame, ci_Task, ci_Segment, ci_Main, ci_Program, ci_Checker, ci_World, tkv_s, sgv_s, cdv_s, tkv_n, sgv_n, cdv_n, tkv_k, sgv_k, cdv_k, cg_World_opened, hm, h3, cg_World_segments, cq_segments, cg_Segment_isLive, cg_Segment_below, h6, h22, hb, List.getLast?_append, List.getLast?_singleton, Option.some_or, List.length_append, List.length_singleton]
        · have hb : ocB N P s k = false := by unfold ocB; simp [h6, hy]
          have hy2 : ¬ 103 + 2 * y = 103 + 2 * s := by omega
          simp (disch := first | omega | (simp only [cat_i, cat_r, ri_r, ri_0, tkv_r, sgv_r, cdv_r]; done)) only [eX6_layAway_9, eX6_layAway_10, eX6_layAway_13, eX6_layAway_16, eX6_layAway_17, eX6_layAway_20, eX6_layAway_22, eX6_layAway_23, eX6_layAway_26, eX6_layAway_29, eX6_layAway_30, eX6_layAway_33, eX6_layAway_35, eX6_layAway_36, eX6_layAway_39, eX6_layAway_39n, eX6_layAway_39t, eX6_layAway_39s, eX6_layAway_39c, eX6_layAway_40, eX6_layAway_40n, eX6_layAway_43, eX6_layAway_44, eX6_layAway_47, eX6_layAway_49, eX6_layAway_50, eX6_layAway_50n, eX6_layAway_50t, eX6_layAway_50s, eX6_layAway_50c, eX6_layAway_51, eX6_layAway_54, eX6_layAway_57, ↓reduceIte, Evk_some, Evh_some, Evn_some, Evr_v, Evr_n, mk_i, mk_r, mk_0, mk_n, mk_l, mc0, mc1, mc2, mc3, mc4, mi_obj, Bool.and_self, Bool.true_and, Nat.add_zero, Nat.zero_add, nI_add, pk_mul, pk_sub, Nat.add_sub_cancel, eq_self, if_true, if_false, n10, bI_t, bI_f, bI_0, Nat.reduceAdd, Nat.reduceMul, Nat.reduceSub, nI_eq, nI_ltI, nI_leI, Nat.reduceEqDiff, Nat.reduceLT, Nat.reduceDiv, Nat.reduceMod, Nat.reduceLeDiff, ci_Code, ci_Frame, ci_Task, ci_Segment, ci_Main, ci_Program, ci_Checker, ci_World, tkv_s, sgv_s, cdv_s, tkv_n, sgv_n, cdv_n, tkv_k, sgv_k, cdv_k, cg_World_opened, hm, h3, cg_World_segments, cq_segments, cg_Segment_isLive, cg_Segment_below, h6, h22, hb, hy2, Bool.false_eq_true, List.append_nil]
theorem ocL_mem {s x m : Nat} : x ∈ ocL N P s m ↔ x < m ∧ N 22 x 0 = nI 1 ∧ P 6 x = some s := by
  unfold ocL ocB
  simp
theorem ocL_child {s x m : Nat} : x ∈ ocL N P s m ↔ ∃ w, gC N J P m x = some (w, some s) := by
  rw [ocL_mem]
  constructor
  · rintro ⟨h1, h2, h3⟩
    exact ⟨cw (N 21 x 0) (J 4 x), by rw [gC_some h1 h2, h3]⟩
  · rintro ⟨w, h⟩
    obtain ⟨h1, h2⟩ := gC_of (N := N) (J := J) (P := P) (m := m) (s := x) (by rw [h]; simp)
    rw [gC_some h1 h2] at h
    exact ⟨h1, h2, (Prod.mk.inj (Option.some.inj h)).2⟩
theorem ocL_nodup {s k : Nat} : (ocL N P s k).Nodup := List.Pairwise.filter _ List.nodup_range
/-- what laying together may change -/
def frS (N N' : cN) (J J' : cJ) (P P' : cP) : Prop := (∀ k i, k ≠ 21 → k ≠ 22 → k ≠ 23 → N' k i = N k i) ∧ (∀ k i, k ≠ 4 → J' k i = J k i) ∧ ∀ k i, k ≠ 6 → P' k i = P k i
theorem frS.refl : frS N N J J P P := ⟨fun _ _ _ _ _ => rfl, fun _ _ _ => rfl, fun _ _ _ => rfl⟩
theorem frS.trans {N1 N2 : cN} {J1 J2 : cJ} {P1 P2 : cP} (h : frS N N1 J J1 P P1) (h' : frS N1 N2 J1 J2 P1 P2) : frS N N2 J J2 P P2 := ⟨fun k i a c d => (h'.1 k i a c d).trans (h.1 k i a c d), fun k i a => (h'.2.1 k i a).trans (h.2.1 k i a), fun k i a => (h'.2.2 k i a).trans (h.2.2 k i a)⟩
theorem gC_rem0 {m s : Nat} (hs : s < m) (h22 : N 22 s 0 = nI 1) (h0 : ocL N P s m = []) : gC (up3 N 22 s 0 (nI 0)) J P m = rmF s (gC N J P m) := by
  funext x
  rw [rem_at (gC_some hs h22)]
  by_cases hx : x = s
  · subst hx
    rw [if_pos rfl]
    unfold gC
    rw [if_neg]
    rintro ⟨-, h⟩
    rw [up3_s] at h
    exact absurd h (by decide)
  · rw [if_neg hx]
    have e : gC (up3 N 22 s 0 (nI 0)) J P m x = gC N J P m x := by
      unfold gC
      rw [up3_n hx, up3_k (by decide)]
    rw [e]
    cases hg : gC N J P m x with
    | none => rfl
    | some q =>
      obtain ⟨w, o⟩ := q
      simp only [Option.map_some]
      rw [if_neg]
      rintro rfl
      have := (ocL_child (J := J)).mpr ⟨w, hg⟩
      rw [h0] at this
      cases this
theorem gC_rem1 {m s a ws wa wa' : Nat} {N' : cN} {J' : cJ} (hs : s < m) (h22 : N 22 s 0 = nI 1) (h1 : ocL N P s m = [a]) (hsa : a ≠ s) (hs31 : N 21 s 0 = nI ws) (hws : ws < 4096) (ha31 : N 21 a 0 = nI wa) (hwa : wa < 4096)
    (k1 : ∀ k i, ¬ (k = 21 ∧ i = a) → N' k i = N k i) (k3 : N' 21 a 0 = nI wa') (k4 : wa' < 4096) (k5 : ∀ d, wa'.testBit d = (wa.testBit d || (decide (0 ≤ d) && (decide (d < 12) && ws.testBit d)))) (k7 : ∀ k i, ¬ (k = 4 ∧ i = a) → J' k i = J k i) (k8 : ∀ d, d < 12 → J' 4 a d = if 0 ≤ d ∧ ws.testBit d = true ∧ wa.testBit d = false then J 4 s d else J 4 a d) :
    gC (up3 N' 22 s 0 (nI 0)) J' (upP P 6 a (P 6 s)) m = rmF s (gC N J P m) := by
  have hac : a ∈ ocL N P s m := by rw [h1]; exact List.mem_singleton.mpr rfl
  obtain ⟨a1, a2, a3⟩ := ocL_mem.mp hac
  funext x
  rw [rem_at (gC_some hs h22)]
  by_cases hx : x = s
  · subst hx
    rw [if_pos rfl]
    unfold gC
    rw [if_neg]
    rintro ⟨-, h⟩
    rw [up3_s] at h
    exact absurd h (by decide)
  · rw [if_neg hx]
    by_cases hxa : x = a
    · subst hxa
      rw [gC_some a1 a2, a3]
      simp only [Option.map_some, if_true]
      unfold gC
      rw [if_pos ⟨a1, by rw [up3_n hx, k1 22 x (by omega)]; exact a2⟩]
      rw [up3_k (by decide), upP_s, k3, hs31, ha31]
      refine congrArg (fun z => some (z, P 6 s)) (ovr_cw hwa hws k4 (fun d hd => ?_) (fun d hd hb => ?_))
      · rw [k5]; simp [hd]
      · show J' 4 x d = _
        rw [k8 d hd]
        rw [k5] at hb
        cases e : wa.testBit d with
        | true => simp
        | false =>
          rw [e] at hb
          simp [hd] at hb
          simp [hb]
    · have e : gC (up3 N' 22 s 0 (nI 0)) J' (upP P 6 a (P 6 s)) m x = gC N J P m x := by
        unfold gC
        rw [up3_n hx, k1 22 x (by omega), up3_k (by decide), k1 21 x (by omega), upP_n hxa, k7 4 x (by omega)]
      rw [e]
      cases hg : gC N J P m x with
      | none => rfl
      | some q =>
        obtain ⟨w, o⟩ := q
        simp only [Option.map_some]
        rw [if_neg]
        rintro rfl
        have := (ocL_child (J := J)).mpr ⟨w, hg⟩
        rw [h1] at this
        exact hxa (List.mem_singleton.mp this)
/-- one segment that nobody needs -/
theorem kl_layAway {m s : Nat} (hm : N 12 0 0 = nI m) (hm2 : m ≤ 23) (hw : WfC N P m) (hs : s < m) (h22 : N 22 s 0 = nI 1) :
    ∃ N' J' P', frS N N' J J' P P' ∧ N' 23 = N 23 ∧ WfC N' P' m ∧ ((gC N' J' P' m = gC N J P m ∧ ∃ k k' w w', k ≠ k' ∧ gC N J P m k = some (w, some s) ∧ gC N J P m k' = some (w', some s)) ∨ ((∀ k k' w w', gC N J P m k = some (w, some s) → gC N J P m k' = some (w', some s) → k = k') ∧ gC N' J' P' m = rmF s (gC N J P m))) ∧ Cl 65 [.ref 36, .ref (103 + 2 * s)] (cpic b N J P) nx = some ((cpic b N' J' P', nx, 0, 0), .inl none) := by
  have hs23 : s < 23 := by omega
  have step1 : ∀ r : mn_Res, Ev 65 0 [some (.ref (36)), some (.ref (103 + 2 * s)), none, none, none] [] (cpic b N J P, nx, 0, 0) r ↔ Ev 65 60 [some (.ref 36), some (.ref (103 + 2 * s)), some (.int (nI (ocL N P s m).length)), some (sgv (ocL N P s m).getLast?), some (.int (nI m))] [] (cpic b N J P, nx, 0, 0) r := by
    intro r
    rw [← kv_lay hm hm2 hw m 0 (by omega)]
    simp (disch := first | omega | (simp only [cat_i, cat_r, ri_r, ri_0, tkv_r, sgv_r, cdv_r]; done)) only [eX6_layAway_0, eX6_layAway_1, eX6_layAway_2, eX6_layAway_3, eX6_layAway_3n, eX6_layAway_3t, eX6_layAway_3s, eX6_layAway_3c, eX6_layAway_4, eX6_layAway_5, ↓reduceIte, Evk_some, Evh_some, Evn_some, Evr_v, Evr_n, mk_i, mk_r, mk_0, mk_n, mk_l, mc0, mc1, mc2, mc3, mc4, mi_obj, Bool.and_self, Bool.true_and, Nat.add_zero, Nat.zero_add, nI_add, pk_mul, pk_sub, Nat.add_sub_cancel, eq_self, if_true, if_false, n10, bI_t, bI_f, bI_0, Nat.reduceAdd, Nat.reduceMul, Nat.reduceSub, nI_eq, nI_ltI, nI_leI, Nat.reduceEqDiff, Nat.reduceLT, Nat.reduceDiv, Nat.reduceMod, Nat.reduceLeDiff, ci_Code, ci_Frame, ci_Task, ci_Segment, ci_Main, ci_Program, ci_Checker, ci_World, tkv_s, sgv_s, cdv_s, tkv_n, sgv_n, cdv_n, tkv_k, sgv_k, cdv_k]
    rfl
  match hl : ocL N P s m with
  | [] =>
    refine ⟨up3 N 22 s 0 (nI 0), J, P, ⟨fun k i _ h _ => congrFun (up3_k h) i, fun _ _ _ => rfl, fun _ _ _ => rfl⟩, up3_k (by decide), ?_, Or.inr ⟨?_, gC_rem0 hs h22 hl⟩, Cl_of (x := mnI_X6_layAway) rfl ?_⟩
    · intro x hx
      rw [up3_k (show 21 ≠ 22 by decide)]
      refine ⟨?_, (hw x hx).2⟩
      by_cases hxs : x = s
      · subst hxs
        exact Or.inl up3_s
      · rw [up3_n hxs]
        exact (hw x hx).1
    · intro k k' w w' h1 h2
      have := (ocL_child (J := J)).mpr ⟨w, h1⟩
      rw [hl] at this
      cases this
    · rw [hl] at step1
      refine (step1 _).mpr ?_
      simp (disch := first | omega | (simp only [cat_i, cat_r, ri_r, ri_0, tkv_r, sgv_r, cdv_r]; done)) only [eX6_layAway_60, eX6_layAway_61, eX6_layAway_64, eX6_layAway_64n, eX6_layAway_64t, eX6_layAway_64s, eX6_layAway_64c, eX6_layAway_65, eX6_layAway_66, eX6_layAway_69, eX6_layAway_72, eX6_layAway_73, eX6_layAway_74, eX6_layAway_77, eX6_layAway_77n, eX6_layAway_77t, eX6_layAway_77s, eX6_layAway_77c, eX6_layAway_78, eX6_layAway_78r, eX6_layAway_78n, eX6_layAway_81, eX6_layAway_81n, eX6_layAway_81t, eX6_layAway_81s, eX6_layAway_81c, eX6_layAway_82, eX6_layAway_82n, eX6_layAway_82t, eX6_layAway_82s, eX6_layAway_82c, eX6_layAway_83, eX6_layAway_86, ↓reduceIte, Evk_some, Evh_some, Evn_some, Evr_v, Evr_n, mk_i, mk_r, mk_0, mk_n, mk_l, mc0, mc1, mc2, mc3, mc4, mi_obj, Bool.and_self, Bool.true_and, Nat.add_zero, Nat.zero_add, nI_add, pk_mul, pk_sub, Nat.add_sub_cancel, eq_self, if_true, if_false, n10, bI_t, bI_f, bI_0, Nat.reduceAdd, Nat.reduceMul, Nat.reduceSub, nI_eq, nI_ltI, nI_leI, Nat.reduceEqDiff, Nat.reduceLT, Nat.reduceDiv, Nat.reduceMod, Nat.reduceLeDiff, ci_Code, ci_Frame, ci_Task, ci_Segment, ci_Main, ci_Program, ci_Checker, ci_World, tkv_s, sgv_s, cdv_s, tkv_n, sgv_n, cdv_n, tkv_k, sgv_k, cdv_k, List.getLast?_nil, List.length_nil, cp_Segment_isLive0]
  | [a] =>
    have hac : a ∈ ocL N P s m := by rw [hl]; exact List.mem_singleton.mpr rfl
    obtain ⟨a1, a2, a3⟩ := ocL_mem.mp hac
    have hlt := (hw a a1).2.2 s a3
    have hsa : a ≠ s := by omega
    obtain ⟨-, ⟨ws, hws, hs31⟩, hsb⟩ := hw s hs
    obtain ⟨-, ⟨wa, hwa, ha31⟩, -⟩ := hw a a1
    obtain ⟨N', J', wa', k1, k3, k4, k5, k7, k8, k9⟩ := kl_takeIn (b := b) (N := N) (J := J) (P := P) (nx := nx) hs23 (show a < 23 by omega) hsa hws hs31 ha31 hwa
    refine ⟨up3 N' 22 s 0 (nI 0), J', upP P 6 a (P 6 s), ⟨fun k i h1 h2 _ => (congrFun (up3_k h2) i).trans (k1 k i (by omega)), fun k i h => k7 k i (by omega), fun k i h => congrFun (upP_k h) i⟩, (up3_k (by decide)).trans (funext fun i => k1 23 i (by omega)), ?_, Or.inr ⟨?_, gC_rem1 hs h22 hl hsa hs31 hws ha31 hwa k1 k3 k4 k5 k7 k8⟩, Cl_of (x := mnI_X6_layAway) rfl ?_⟩
    · intro x hx
      rw [up3_k (show 21 ≠ 22 by decide)]
      refine ⟨?_, ?_, ?_⟩
      · by_cases hxs : x = s
        · subst hxs
          exact Or.inl up3_s
        · rw [up3_n hxs, k1 22 x (by omega)]
          exact (hw x hx).1
      · by_cases hxa : x = a
        · subst hxa
          exact ⟨wa', k4, k3⟩
        · rw [k1 21 x (by omega)]
          exact (hw x hx).2.1
      · intro y hy
        by_cases hxa : x = a
        · subst hxa
          rw [upP_s] at hy
          have := hsb y hy
          omega
        · rw [upP_n hxa] at hy
          exact (hw x hx).2.2 y hy
    · intro k k' w w' h1 h2
      have q1 := (ocL_child (J := J)).mpr ⟨w, h1⟩
      have q2 := (ocL_child (J := J)).mpr ⟨w', h2⟩
      rw [hl] at q1 q2
      rw [List.mem_singleton.mp q1, List.mem_singleton.mp q2]
    · rw [hl] at step1
      refine (step1 _).mpr ?_
      simp (disch := first | omega | (simp only [cat_i, cat_r, ri_r, ri_0, tkv_r, sgv_r, cdv_r]; done)) only [eX6_layAway_60, eX6_layAway_61, eX6_layAway_64, eX6_layAway_64n, eX6_layAway_64t, eX6_layAway_64s, eX6_layAway_64c, eX6_layAway_65, eX6_layAway_66, eX6_layAway_69, eX6_layAway_72, eX6_layAway_73, eX6_layAway_74, eX6_layAway_77, eX6_layAway_77n, eX6_layAway_77t, eX6_layAway_77s, eX6_layAway_77c, eX6_layAway_78, eX6_layAway_78r, eX6_layAway_78n, eX6_layAway_81, eX6_layAway_81n, eX6_layAway_81t, eX6_layAway_81s, eX6_layAway_81c, eX6_layAway_82, eX6_layAway_82n, eX6_layAway_82t, eX6_layAway_82s, eX6_layAway_82c, eX6_layAway_83, eX6_layAway_86, ↓reduceIte, Evk_some, Evh_some, Evn_some, Evr_v, Evr_n, mk_i, mk_r, mk_0, mk_n, mk_l, mc0, mc1, mc2, mc3, mc4, mi_obj, Bool.and_self, Bool.true_and, Nat.add_zero, Nat.zero_add, nI_add, pk_mul, pk_sub, Nat.add_sub_cancel, eq_self, if_true, if_false, n10, bI_t, bI_f, bI_0, Nat.reduceAdd, Nat.reduceMul, Nat.reduceSub, nI_eq, nI_ltI, nI_leI, Nat.reduceEqDiff, Nat.reduceLT, Nat.reduceDiv, Nat.reduceMod, Nat.reduceLeDiff, ci_Code, ci_Frame, ci_Task, ci_Segment, ci_Main, ci_Program, ci_Checker, ci_World, tkv_s, sgv_s, cdv_s, tkv_n, sgv_n, cdv_n, tkv_k, sgv_k, cdv_k, List.getLast?_singleton, List.length_singleton, k9]
  | a :: a' :: l =>
    have hlen : (ocL N P s m).length ≤ 23 := by
      unfold ocL
      exact Nat.le_trans (List.length_filter_le _ _) (by simpa using hm2)
    rw [hl] at hlen
    refine ⟨N, J, P, frS.refl, rfl, hw, Or.inl ⟨rfl, ?_⟩, Cl_of (x := mnI_X6_layAway) rfl ?_⟩
    · have hnd2 := ocL_nodup (N := N) (P := P) (s := s) (k := m)
      rw [hl] at hnd2
      have q1 : a ∈ ocL N P s m := by rw [hl]; simp
      have q2 : a' ∈ ocL N P s m := by rw [hl]; simp
      obtain ⟨w1, q1⟩ := (ocL_child (J := J)).mp q1
      obtain ⟨w2, q2⟩ := (ocL_child (J := J)).mp q2
      refine ⟨a, a', w1, w2, ?_, q1, q2⟩
      intro q
      simp [q] at hnd2
    · rw [hl] at step1
      refine (step1 _).mpr ?_
      have h1 : ¬ (a :: a' :: l).length = 0 := by simp
      have h2 : ¬ (a :: a' :: l).length = 1 := by simp
      simp (disch := first | omega | (simp only [cat_i, cat_r, ri_r, ri_0, tkv_r, sgv_r, cdv_r]; done)) only [eX6_layAway_60, eX6_layAway_61, eX6_layAway_64, eX6_layAway_64n, eX6_layAway_64t, eX6_layAway_64s, eX6_layAway_64c, eX6_layAway_65, eX6_layAway_66, eX6_layAway_69, eX6_layAway_72, eX6_layAway_73, eX6_layAway_74, eX6_layAway_77, eX6_layAway_77n, eX6_layAway_77t, eX6_layAway_77s, eX6_layAway_77c, eX6_layAway_78, eX6_layAway_78r, eX6_layAway_78n, eX6_layAway_81, eX6_layAway_81n, eX6_layAway_81t, eX6_layAway_81s, eX6_layAway_81c, eX6_layAway_82, eX6_layAway_82n, eX6_layAway_82t, eX6_layAway_82s, eX6_layAway_82c, eX6_layAway_83, eX6_layAway_86, ↓reduceIte, Evk_some, Evh_some, Evn_some, Evr_v, Evr_n, mk_i, mk_r, mk_0, mk_n, mk_l, mc0, mc1, mc2, mc3, mc4, mi_obj, Bool.and_self, Bool.true_and, Nat.add_zero, Nat.zero_add, nI_add, pk_mul, pk_sub, Nat.add_sub_cancel, eq_self, if_true, if_false, n10, bI_t, bI_f, bI_0, Nat.reduceAdd, Nat.reduceMul, Nat.reduceSub, nI_eq, nI_ltI, nI_leI, Nat.reduceEqDiff, Nat.reduceLT, Nat.reduceDiv, Nat.reduceMod, Nat.reduceLeDiff, ci_World, sgv_k, h1, h2]
end KF
