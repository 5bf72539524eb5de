/-! the law's helpers -/
section SE
variable {N N' : cN} {J J' : cJ} {P P' : cP} {F F' : Nat → Int32} {A A' : Nat → Nat → Int32} {L L' : Nat → Nat → Int64} {b b' : Nat → Option va_E} {nx : Option Nat} {p p' : Nat → Option va_E} {u : Nat → Int64} {c5 : Option Value} {x y z v : Int32} {w : Int64}
theorem mls_len : (mls F A L).length = 27 := rfl
theorem mp_at {k : Nat} : mpic b F A L k = if 149 ≤ k ∧ k < 149 + 27 then (mls F A L)[k - 149]? else b k := rfl
theorem cp_at {k : Nat} : cpic b N J P k = if 3 ≤ k ∧ k < 149 then some (cc N J P (cd_dec k).1 (cd_dec k).2.1 (cd_dec k).2.2) else b k := rfl
theorem mc_comm : mpic (cpic b N J P) F A L = cpic (mpic b F A L) N J P := by
  funext k
  rw [mp_at, cp_at, cp_at, mp_at]
  by_cases h1 : 149 ≤ k ∧ k < 149 + 27
  · rw [if_pos h1, if_neg (by omega), if_pos h1]
  · rw [if_neg h1]
    by_cases h2 : 3 ≤ k ∧ k < 149
    · rw [if_pos h2, if_pos h2]
    · rw [if_neg h2, if_neg h2, if_neg h1]
theorem mm : mpic (mpic b F A L) F' A' L' = mpic b F' A' L' := by
  funext k
  show lpic (lpic b 149 (mls F A L)) 149 (mls F' A' L') k = lpic b 149 (mls F' A' L') k
  unfold lpic
  rw [mls_len, mls_len]
  by_cases h1 : 149 ≤ k ∧ k < 149 + 27
  · rw [if_pos h1, if_pos h1]
  · rw [if_neg h1, if_neg h1, if_neg h1]
theorem m_over : mpic (cpic (mpic b F A L) N J P) F' A' L' = cpic (mpic b F' A' L') N J P := by rw [mc_comm, mm]
theorem cp_base (h : cpic b N J P = cpic b N' J' P') : cpic b' N J P = cpic b' N' J' P' := by
  funext k
  have hk := congrFun h k
  unfold cpic at hk ⊢
  by_cases h2 : 3 ≤ k ∧ k < 149
  · rw [if_pos h2, if_pos h2] at hk ⊢
    exact hk
  · rw [if_neg h2, if_neg h2]
abbrev ou (u : Nat → Int64) : va_E := .inl (1, 1, .inr (.inl u))
theorem o_up : mn_up (cpic (mpic (mn_up b 176 (ou u)) F A L) N J P) 176 (ou (vp_updL u 0 w)) = cpic (mpic (mn_up b 176 (ou (vp_updL u 0 w))) F A L) N J P := by
  funext k
  by_cases h : k = 176
  · subst h
    rw [up_s, c_out (by decide)]
    show _ = lpic _ _ _ 176
    rw [lp_out (by rw [mls_len]; decide), up_s]
  · rw [up_o h]
    unfold cpic
    by_cases h2 : 3 ≤ k ∧ k < 149
    · rw [if_pos h2, if_pos h2]
    · rw [if_neg h2, if_neg h2]
      show lpic _ _ _ k = lpic _ _ _ k
      unfold lpic
      rw [mls_len]
      by_cases h1 : 149 ≤ k ∧ k < 149 + 27
      · rw [if_pos h1, if_pos h1]
      · rw [if_neg h1, if_neg h1, up_o h, up_o h]
theorem o_at : cpic (mpic (mn_up b 176 (ou u)) F A L) N J P 176 = some (ou u) := by
  rw [c_out (by decide)]
  show lpic _ _ _ 176 = _
  rw [lp_out (by rw [mls_len]; decide), up_s]
/-- first the class, then the reference on what the class left, with another base -/
theorem Ans.two {Mc Mr : Nat} {ac ar : List Value} {es : List Nat} {K : Option Value → Prop} (B : Option Value → Nat → Option va_E) (h : ∀ b2 nx2, Ans (mpic b F A L) nx b2 nx2 N J P F A L Mc ac Mr ar es K) :
    ∃ N' J' P' F' A' L', Rel N' J' P' F' A' L' ∧ ((∃ v, K v ∧ Cl Mc ac (cpic (mpic b F A L) N J P) nx = some ((cpic (mpic b F A L) N' J' P', nx, 0, 0), .inl v) ∧ Cl Mr ar (cpic (mpic (B v) F A L) N' J' P') nx = some ((cpic (mpic (B v) F' A' L') N' J' P', nx, 0, 0), .inl v) ∧ F' 0 = nI 0) ∨
      ∃ i e v, es[i]? = some e ∧ K v ∧ Cl Mc ac (cpic (mpic b F A L) N J P) nx = some ((cpic (mpic b F A L) N' J' P', none, 1, 6), .inr e) ∧ Cl Mr ar (cpic (mpic b F A L) N' J' P') none = some ((cpic (mpic b F' A' L') N' J' P', none, 0, 0), .inl v) ∧ F' 0 = nI (i + 1)) := by
  obtain ⟨N1, J1, P1, F1, A1, L1, hr1, h1⟩ := h b nx
  rcases h1 with ⟨v1, k1, c1, m1, f1⟩ | ⟨i1, e1, v1, s1, k1, c1, m1, f1⟩
  · obtain ⟨N2, J2, P2, F2, A2, L2, hr2, h2⟩ := h (cpic (mpic (B v1) F A L) N1 J1 P1) nx
    rcases h2 with ⟨v2, k2, c2, m2, f2⟩ | ⟨i2, e2, v2, s2, k2, c2, m2, f2⟩
    · have q := Option.some.inj (c1.symm.trans c2)
      have q1 : cpic (mpic b F A L) N1 J1 P1 = cpic (mpic b F A L) N2 J2 P2 := (Prod.mk.inj (Prod.mk.inj q).1).1
      have q2 : v1 = v2 := Sum.inl.inj (Prod.mk.inj q).2
      subst q2
      rw [cp_base (b' := mpic (B v1) F A L) q1] at m2
      rw [m_over, m_over] at m2
      exact ⟨N2, J2, P2, F2, A2, L2, hr2, Or.inl ⟨v1, k2, c2, m2, f2⟩⟩
    · have q := Option.some.inj (c1.symm.trans c2)
      cases (Prod.mk.inj q).2
  · obtain ⟨N2, J2, P2, F2, A2, L2, hr2, h2⟩ := h (cpic (mpic b F A L) N1 J1 P1) none
    rcases h2 with ⟨v2, k2, c2, m2, f2⟩ | ⟨i2, e2, v2, s2, k2, c2, m2, f2⟩
    · have q := Option.some.inj (c1.symm.trans c2)
      cases (Prod.mk.inj q).2
    · have q := Option.some.inj (c1.symm.trans c2)
      have q1 : cpic (mpic b F A L) N1 J1 P1 = cpic (mpic b F A L) N2 J2 P2 := (Prod.mk.inj (Prod.mk.inj q).1).1
      rw [q1, m_over, m_over] at m2
      exact ⟨N2, J2, P2, F2, A2, L2, hr2, Or.inr ⟨i2, e2, v2, s2, k2, c2, m2, f2⟩⟩
theorem Evr_c {M pc pc' k cc s c2 s2 : Nat} {ls ls' : List (Option Value)} {rest : List Value} {n2 : Option Nat} {xx : mn_I} {r : mn_Res} (hx : mn_all[M]? = some xx) (hk : mn_catch xx (mn_hT M) pc k ls = some (pc', ls')) : Evr true true M pc ls rest cc s (some ((p', n2, c2, s2), .inr k)) r ↔ Ev M pc' ls' [] (p', none, cc + c2, s + s2) r := by
  show (true = true ∧ ∃ x, mn_all[M]? = some x ∧ match mn_catch x (mn_hT M) pc k ls with
    | some (pc', ls') => Ev M pc' ls' [] (p', none, cc + c2, s + s2) r
    | none => False) ↔ _
  constructor
  · rintro ⟨-, x, h1, h2⟩
    rw [hx] at h1
    cases h1
    rw [hk] at h2
    exact h2
  · intro h
    refine ⟨rfl, xx, hx, ?_⟩
    rw [hk]
    exact h
theorem asl_at {q : Option Nat × Nat × Nat} (hp : p 176 = some (ou u)) : mn_asl (p, q) 176 (nI 0) w = some (mn_up p 176 (ou (vp_updL u 0 w)), q) := by
  have h := mn_asl_of (h := (p, q)) (a := 176) (n := 1) (f := u) (x := nI 0) (u := w) hp (by decide) (by decide)
  exact h
set_option maxHeartbeats 4000000 in
theorem hL_block (hi : mn_isc (p, nx, 0, 0) 3 7 = true) (hu : p' 176 = some (ou u)) (hc : Cl 69 [.ref 3] p nx = some ((p', nx, 0, 0), .inl (some (.int v)))) : Cl 137 [.ref 3, .ref 176] p nx = some ((mn_up p' 176 (ou (vp_updL u 0 v.toInt64)), nx, 0, 0), .inl (some (.int (nI 0)))) := by
  refine Cl_of (x := mnI_L_block) rfl ?_
  show Ev 137 0 [some (.ref 3), some (.ref 176), none] [] _ _
  have hs := fun (q : Option Nat × Nat × Nat) => asl_at (p := p') (u := u) (w := v.toInt64) (q := q) hu
  simp (disch := first | omega | decide) only [eL_block_0, eL_block_0n, eL_block_0t, eL_block_0s, eL_block_0c, eL_block_1, eL_block_2, eL_block_2n, eL_block_2t, eL_block_2s, eL_block_2c, eL_block_3, eL_block_6, eL_block_7, eL_block_8, eL_block_11, eL_block_11n, eL_block_11t, eL_block_11s, eL_block_11c, eL_block_12, eL_block_13, eL_block_14, eL_block_15, ↓reduceIte, Evk_some, Evh_some, Evn_some, Evr_v, Evr_n, mk_i, mk_r, mk_0, mk_n, mk_l, mc0, mc1, mc2, mc3, mc4, mi_obj, Bool.and_self, Bool.true_and, Nat.add_zero, Nat.zero_add, nI_add, pk_mul, pk_sub, Nat.add_sub_cancel, eq_self, if_true, if_false, n10, bI_t, bI_f, bI_0, Nat.reduceAdd, Nat.reduceMul, Nat.reduceSub, nI_eq, nI_ltI, nI_leI, Nat.reduceEqDiff, Nat.reduceLT, Nat.reduceDiv, Nat.reduceMod, Nat.reduceLeDiff, hi, hc, hs]
set_option maxHeartbeats 4000000 in
theorem hL_block_0 (hi : mn_isc (p, nx, 0, 0) 3 7 = true) (hc : Cl 69 [.ref 3] p nx = some ((p', none, 1, 6), .inr 0)) : Cl 137 [.ref 3, .ref 176] p nx = some ((p', none, 1, 6), .inl (some (.int (nI 1)))) := by
  refine Cl_of (x := mnI_L_block) rfl ?_
  show Ev 137 0 [some (.ref 3), some (.ref 176), none] [] _ _
  have hk : mn_catch mnI_L_block (mn_hT 137) 3 0 [some (.ref 3), some (.ref 176), none] = some (12, [some (.ref 3), some (.ref 176), none]) := rfl
  have he := fun (rest : List Value) (r : mn_Res) => Evr_c (p' := p') (cc := 0) (s := 0) (c2 := 1) (s2 := 6) (n2 := none) (rest := rest) (r := r) (show mn_all[137]? = some mnI_L_block from rfl) hk
  simp (disch := first | omega | decide) only [eL_block_0, eL_block_0n, eL_block_0t, eL_block_0s, eL_block_0c, eL_block_1, eL_block_2, eL_block_2n, eL_block_2t, eL_block_2s, eL_block_2c, eL_block_3, eL_block_6, eL_block_7, eL_block_8, eL_block_11, eL_block_11n, eL_block_11t, eL_block_11s, eL_block_11c, eL_block_12, eL_block_13, eL_block_14, eL_block_15, ↓reduceIte, Evk_some, Evh_some, Evn_some, Evr_v, Evr_n, mk_i, mk_r, mk_0, mk_n, mk_l, mc0, mc1, mc2, mc3, mc4, mi_obj, Bool.and_self, Bool.true_and, Nat.add_zero, Nat.zero_add, nI_add, pk_mul, pk_sub, Nat.add_sub_cancel, eq_self, if_true, if_false, n10, bI_t, bI_f, bI_0, Nat.reduceAdd, Nat.reduceMul, Nat.reduceSub, nI_eq, nI_ltI, nI_leI, Nat.reduceEqDiff, Nat.reduceLT, Nat.reduceDiv, Nat.reduceMod, Nat.reduceLeDiff, hi, hc, he]
set_option maxHeartbeats 4000000 in
theorem hL_add (hi : mn_isc (p, nx, 0, 0) 3 7 = true) (hu : p' 176 = some (ou u)) (hc : Cl 70 [.ref 3, .int x, .int y] p nx = some ((p', nx, 0, 0), .inl (some (.int v)))) : Cl 138 [.ref 3, .int x, .int y, .ref 176] p nx = some ((mn_up p' 176 (ou (vp_updL u 0 v.toInt64)), nx, 0, 0), .inl (some (.int (nI 0)))) := by
  refine Cl_of (x := mnI_L_add) rfl ?_
  show Ev 138 0 [some (.ref 3), some (.int x), some (.int y), some (.ref 176), none] [] _ _
  have hs := fun (q : Option Nat × Nat × Nat) => asl_at (p := p') (u := u) (w := v.toInt64) (q := q) hu
  simp (disch := first | omega | decide) only [eL_add_0, eL_add_0n, eL_add_0t, eL_add_0s, eL_add_0c, eL_add_1, eL_add_2, eL_add_2n, eL_add_2t, eL_add_2s, eL_add_2c, eL_add_3, eL_add_4, eL_add_5, eL_add_8, eL_add_9, eL_add_10, eL_add_13, eL_add_13n, eL_add_13t, eL_add_13s, eL_add_13c, eL_add_15, eL_add_16, eL_add_17, eL_add_17n, eL_add_17t, eL_add_17s, eL_add_17c, eL_add_19, eL_add_20, eL_add_21, eL_add_22, ↓reduceIte, Evk_some, Evh_some, Evn_some, Evr_v, Evr_n, mk_i, mk_r, mk_0, mk_n, mk_l, mc0, mc1, mc2, mc3, mc4, mi_obj, Bool.and_self, Bool.true_and, Nat.add_zero, Nat.zero_add, nI_add, pk_mul, pk_sub, Nat.add_sub_cancel, eq_self, if_true, if_false, n10, bI_t, bI_f, bI_0, Nat.reduceAdd, Nat.reduceMul, Nat.reduceSub, nI_eq, nI_ltI, nI_leI, Nat.reduceEqDiff, Nat.reduceLT, Nat.reduceDiv, Nat.reduceMod, Nat.reduceLeDiff, hi, hc, hs]
set_option maxHeartbeats 4000000 in
theorem hL_add_1 (hi : mn_isc (p, nx, 0, 0) 3 7 = true) (hc : Cl 70 [.ref 3, .int x, .int y] p nx = some ((p', none, 1, 6), .inr 1)) : Cl 138 [.ref 3, .int x, .int y, .ref 176] p nx = some ((p', none, 1, 6), .inl (some (.int (nI 1)))) := by
  refine Cl_of (x := mnI_L_add) rfl ?_
  show Ev 138 0 [some (.ref 3), some (.int x), some (.int y), some (.ref 176), none] [] _ _
  have hk : mn_catch mnI_L_add (mn_hT 138) 5 1 [some (.ref 3), some (.int x), some (.int y), some (.ref 176), none] = some (15, [some (.ref 3), some (.int x), some (.int y), some (.ref 176), none]) := rfl
  have he := fun (rest : List Value) (r : mn_Res) => Evr_c (p' := p') (cc := 0) (s := 0) (c2 := 1) (s2 := 6) (n2 := none) (rest := rest) (r := r) (show mn_all[138]? = some mnI_L_add from rfl) hk
  simp (disch := first | omega | decide) only [eL_add_0, eL_add_0n, eL_add_0t, eL_add_0s, eL_add_0c, eL_add_1, eL_add_2, eL_add_2n, eL_add_2t, eL_add_2s, eL_add_2c, eL_add_3, eL_add_4, eL_add_5, eL_add_8, eL_add_9, eL_add_10, eL_add_13, eL_add_13n, eL_add_13t, eL_add_13s, eL_add_13c, eL_add_15, eL_add_16, eL_add_17, eL_add_17n, eL_add_17t, eL_add_17s, eL_add_17c, eL_add_19, eL_add_20, eL_add_21, eL_add_22, ↓reduceIte, Evk_some, Evh_some, Evn_some, Evr_v, Evr_n, mk_i, mk_r, mk_0, mk_n, mk_l, mc0, mc1, mc2, mc3, mc4, mi_obj, Bool.and_self, Bool.true_and, Nat.add_zero, Nat.zero_add, nI_add, pk_mul, pk_sub, Nat.add_sub_cancel, eq_self, if_true, if_false, n10, bI_t, bI_f, bI_0, Nat.reduceAdd, Nat.reduceMul, Nat.reduceSub, nI_eq, nI_ltI, nI_leI, Nat.reduceEqDiff, Nat.reduceLT, Nat.reduceDiv, Nat.reduceMod, Nat.reduceLeDiff, hi, hc, he]
set_option maxHeartbeats 4000000 in
theorem hL_add_0 (hi : mn_isc (p, nx, 0, 0) 3 7 = true) (hc : Cl 70 [.ref 3, .int x, .int y] p nx = some ((p', none, 1, 6), .inr 0)) : Cl 138 [.ref 3, .int x, .int y, .ref 176] p nx = some ((p', none, 1, 6), .inl (some (.int (nI 2)))) := by
  refine Cl_of (x := mnI_L_add) rfl ?_
  show Ev 138 0 [some (.ref 3), some (.int x), some (.int y), some (.ref 176), none] [] _ _
  have hk : mn_catch mnI_L_add (mn_hT 138) 5 0 [some (.ref 3), some (.int x), some (.int y), some (.ref 176), none] = some (19, [some (.ref 3), some (.int x), some (.int y), some (.ref 176), none]) := rfl
  have he := fun (rest : List Value) (r : mn_Res) => Evr_c (p' := p') (cc := 0) (s := 0) (c2 := 1) (s2 := 6) (n2 := none) (rest := rest) (r := r) (show mn_all[138]? = some mnI_L_add from rfl) hk
  simp (disch := first | omega | decide) only [eL_add_0, eL_add_0n, eL_add_0t, eL_add_0s, eL_add_0c, eL_add_1, eL_add_2, eL_add_2n, eL_add_2t, eL_add_2s, eL_add_2c, eL_add_3, eL_add_4, eL_add_5, eL_add_8, eL_add_9, eL_add_10, eL_add_13, eL_add_13n, eL_add_13t, eL_add_13s, eL_add_13c, eL_add_15, eL_add_16, eL_add_17, eL_add_17n, eL_add_17t, eL_add_17s, eL_add_17c, eL_add_19, eL_add_20, eL_add_21, eL_add_22, ↓reduceIte, Evk_some, Evh_some, Evn_some, Evr_v, Evr_n, mk_i, mk_r, mk_0, mk_n, mk_l, mc0, mc1, mc2, mc3, mc4, mi_obj, Bool.and_self, Bool.true_and, Nat.add_zero, Nat.zero_add, nI_add, pk_mul, pk_sub, Nat.add_sub_cancel, eq_self, if_true, if_false, n10, bI_t, bI_f, bI_0, Nat.reduceAdd, Nat.reduceMul, Nat.reduceSub, nI_eq, nI_ltI, nI_leI, Nat.reduceEqDiff, Nat.reduceLT, Nat.reduceDiv, Nat.reduceMod, Nat.reduceLeDiff, hi, hc, he]
set_option maxHeartbeats 4000000 in
theorem hL_merge (hi : mn_isc (p, nx, 0, 0) 3 7 = true) (hu : p' 176 = some (ou u)) (hc : Cl 71 [.ref 3] p nx = some ((p', nx, 0, 0), .inl (some (.int v)))) : Cl 139 [.ref 3, .ref 176] p nx = some ((mn_up p' 176 (ou (vp_updL u 0 v.toInt64)), nx, 0, 0), .inl (some (.int (nI 0)))) := by
  refine Cl_of (x := mnI_L_merge) rfl ?_
  show Ev 139 0 [some (.ref 3), some (.ref 176), none] [] _ _
  have hs := fun (q : Option Nat × Nat × Nat) => asl_at (p := p') (u := u) (w := v.toInt64) (q := q) hu
  simp (disch := first | omega | decide) only [eL_merge_0, eL_merge_0n, eL_merge_0t, eL_merge_0s, eL_merge_0c, eL_merge_1, eL_merge_2, eL_merge_2n, eL_merge_2t, eL_merge_2s, eL_merge_2c, eL_merge_3, eL_merge_6, eL_merge_7, eL_merge_8, eL_merge_11, eL_merge_11n, eL_merge_11t, eL_merge_11s, eL_merge_11c, eL_merge_12, eL_merge_13, eL_merge_14, eL_merge_15, ↓reduceIte, Evk_some, Evh_some, Evn_some, Evr_v, Evr_n, mk_i, mk_r, mk_0, mk_n, mk_l, mc0, mc1, mc2, mc3, mc4, mi_obj, Bool.and_self, Bool.true_and, Nat.add_zero, Nat.zero_add, nI_add, pk_mul, pk_sub, Nat.add_sub_cancel, eq_self, if_true, if_false, n10, bI_t, bI_f, bI_0, Nat.reduceAdd, Nat.reduceMul, Nat.reduceSub, nI_eq, nI_ltI, nI_leI, Nat.reduceEqDiff, Nat.reduceLT, Nat.reduceDiv, Nat.reduceMod, Nat.reduceLeDiff, hi, hc, hs]
set_option maxHeartbeats 4000000 in
theorem hL_merge_0 (hi : mn_isc (p, nx, 0, 0) 3 7 = true) (hc : Cl 71 [.ref 3] p nx = some ((p', none, 1, 6), .inr 0)) : Cl 139 [.ref 3, .ref 176] p nx = some ((p', none, 1, 6), .inl (some (.int (nI 1)))) := by
  refine Cl_of (x := mnI_L_merge) rfl ?_
  show Ev 139 0 [some (.ref 3), some (.ref 176), none] [] _ _
  have hk : mn_catch mnI_L_merge (mn_hT 139) 3 0 [some (.ref 3), some (.ref 176), none] = some (12, [some (.ref 3), some (.ref 176), none]) := rfl
  have he := fun (rest : List Value) (r : mn_Res) => Evr_c (p' := p') (cc := 0) (s := 0) (c2 := 1) (s2 := 6) (n2 := none) (rest := rest) (r := r) (show mn_all[139]? = some mnI_L_merge from rfl) hk
  simp (disch := first | omega | decide) only [eL_merge_0, eL_merge_0n, eL_merge_0t, eL_merge_0s, eL_merge_0c, eL_merge_1, eL_merge_2, eL_merge_2n, eL_merge_2t, eL_merge_2s, eL_merge_2c, eL_merge_3, eL_merge_6, eL_merge_7, eL_merge_8, eL_merge_11, eL_merge_11n, eL_merge_11t, eL_merge_11s, eL_merge_11c, eL_merge_12, eL_merge_13, eL_merge_14, eL_merge_15, ↓reduceIte, Evk_some, Evh_some, Evn_some, Evr_v, Evr_n, mk_i, mk_r, mk_0, mk_n, mk_l, mc0, mc1, mc2, mc3, mc4, mi_obj, Bool.and_self, Bool.true_and, Nat.add_zero, Nat.zero_add, nI_add, pk_mul, pk_sub, Nat.add_sub_cancel, eq_self, if_true, if_false, n10, bI_t, bI_f, bI_0, Nat.reduceAdd, Nat.reduceMul, Nat.reduceSub, nI_eq, nI_ltI, nI_leI, Nat.reduceEqDiff, Nat.reduceLT, Nat.reduceDiv, Nat.reduceMod, Nat.reduceLeDiff, hi, hc, he]
set_option maxHeartbeats 4000000 in
theorem hL_step (hi : mn_isc (p, nx, 0, 0) 3 7 = true) (hu : p' 176 = some (ou u)) (hc : Cl 76 [.ref 3, .int x, .int y] p nx = some ((p', nx, 0, 0), .inl (some (.int v)))) : Cl 142 [.ref 3, .int x, .int y, .ref 176] p nx = some ((mn_up p' 176 (ou (vp_updL u 0 v.toInt64)), nx, 0, 0), .inl (some (.int (nI 0)))) := by
  refine Cl_of (x := mnI_L_step) rfl ?_
  show Ev 142 0 [some (.ref 3), some (.int x), some (.int y), some (.ref 176), none] [] _ _
  have hs := fun (q : Option Nat × Nat × Nat) => asl_at (p := p') (u := u) (w := v.toInt64) (q := q) hu
  simp (disch := first | omega | decide) only [eL_step_0, eL_step_0n, eL_step_0t, eL_step_0s, eL_step_0c, eL_step_1, eL_step_2, eL_step_2n, eL_step_2t, eL_step_2s, eL_step_2c, eL_step_3, eL_step_4, eL_step_5, eL_step_8, eL_step_9, eL_step_10, eL_step_13, eL_step_13n, eL_step_13t, eL_step_13s, eL_step_13c, eL_step_15, eL_step_16, eL_step_17, eL_step_17n, eL_step_17t, eL_step_17s, eL_step_17c, eL_step_19, eL_step_20, eL_step_21, eL_step_22, ↓reduceIte, Evk_some, Evh_some, Evn_some, Evr_v, Evr_n, mk_i, mk_r, mk_0, mk_n, mk_l, mc0, mc1, mc2, mc3, mc4, mi_obj, Bool.and_self, Bool.true_and, Nat.add_zero, Nat.zero_add, nI_add, pk_mul, pk_sub, Nat.add_sub_cancel, eq_self, if_true, if_false, n10, bI_t, bI_f, bI_0, Nat.reduceAdd, Nat.reduceMul, Nat.reduceSub, nI_eq, nI_ltI, nI_leI, Nat.reduceEqDiff, Nat.reduceLT, Nat.reduceDiv, Nat.reduceMod, Nat.reduceLeDiff, hi, hc, hs]
set_option maxHeartbeats 4000000 in
theorem hL_step_0 (hi : mn_isc (p, nx, 0, 0) 3 7 = true) (hc : Cl 76 [.ref 3, .int x, .int y] p nx = some ((p', none, 1, 6), .inr 0)) : Cl 142 [.ref 3, .int x, .int y, .ref 176] p nx = some ((p', none, 1, 6), .inl (some (.int (nI 1)))) := by
  refine Cl_of (x := mnI_L_step) rfl ?_
  show Ev 142 0 [some (.ref 3), some (.int x), some (.int y), some (.ref 176), none] [] _ _
  have hk : mn_catch mnI_L_step (mn_hT 142) 5 0 [some (.ref 3), some (.int x), some (.int y), some (.ref 176), none] = some (15, [some (.ref 3), some (.int x), some (.int y), some (.ref 176), none]) := rfl
  have he := fun (rest : List Value) (r : mn_Res) => Evr_c (p' := p') (cc := 0) (s := 0) (c2 := 1) (s2 := 6) (n2 := none) (rest := rest) (r := r) (show mn_all[142]? = some mnI_L_step from rfl) hk
  simp (disch := first | omega | decide) only [eL_step_0, eL_step_0n, eL_step_0t, eL_step_0s, eL_step_0c, eL_step_1, eL_step_2, eL_step_2n, eL_step_2t, eL_step_2s, eL_step_2c, eL_step_3, eL_step_4, eL_step_5, eL_step_8, eL_step_9, eL_step_10, eL_step_13, eL_step_13n, eL_step_13t, eL_step_13s, eL_step_13c, eL_step_15, eL_step_16, eL_step_17, eL_step_17n, eL_step_17t, eL_step_17s, eL_step_17c, eL_step_19, eL_step_20, eL_step_21, eL_step_22, ↓reduceIte, Evk_some, Evh_some, Evn_some, Evr_v, Evr_n, mk_i, mk_r, mk_0, mk_n, mk_l, mc0, mc1, mc2, mc3, mc4, mi_obj, Bool.and_self, Bool.true_and, Nat.add_zero, Nat.zero_add, nI_add, pk_mul, pk_sub, Nat.add_sub_cancel, eq_self, if_true, if_false, n10, bI_t, bI_f, bI_0, Nat.reduceAdd, Nat.reduceMul, Nat.reduceSub, nI_eq, nI_ltI, nI_leI, Nat.reduceEqDiff, Nat.reduceLT, Nat.reduceDiv, Nat.reduceMod, Nat.reduceLeDiff, hi, hc, he]
set_option maxHeartbeats 4000000 in
theorem hL_step_1 (hi : mn_isc (p, nx, 0, 0) 3 7 = true) (hc : Cl 76 [.ref 3, .int x, .int y] p nx = some ((p', none, 1, 6), .inr 1)) : Cl 142 [.ref 3, .int x, .int y, .ref 176] p nx = some ((p', none, 1, 6), .inl (some (.int (nI 2)))) := by
  refine Cl_of (x := mnI_L_step) rfl ?_
  show Ev 142 0 [some (.ref 3), some (.int x), some (.int y), some (.ref 176), none] [] _ _
  have hk : mn_catch mnI_L_step (mn_hT 142) 5 1 [some (.ref 3), some (.int x), some (.int y), some (.ref 176), none] = some (19, [some (.ref 3), some (.int x), some (.int y), some (.ref 176), none]) := rfl
  have he := fun (rest : List Value) (r : mn_Res) => Evr_c (p' := p') (cc := 0) (s := 0) (c2 := 1) (s2 := 6) (n2 := none) (rest := rest) (r := r) (show mn_all[142]? = some mnI_L_step from rfl) hk
  simp (disch := first | omega | decide) only [eL_step_0, eL_step_0n, eL_step_0t, eL_step_0s, eL_step_0c, eL_step_1, eL_step_2, eL_step_2n, eL_step_2t, eL_step_2s, eL_step_2c, eL_step_3, eL_step_4, eL_step_5, eL_step_8, eL_step_9, eL_step_10, eL_step_13, eL_step_13n, eL_step_13t, eL_step_13s, eL_step_13c, eL_step_15, eL_step_16, eL_step_17, eL_step_17n, eL_step_17t, eL_step_17s, eL_step_17c, eL_step_19, eL_step_20, eL_step_21, eL_step_22, ↓reduceIte, Evk_some, Evh_some, Evn_some, Evr_v, Evr_n, mk_i, mk_r, mk_0, mk_n, mk_l, mc0, mc1, mc2, mc3, mc4, mi_obj, Bool.and_self, Bool.true_and, Nat.add_zero, Nat.zero_add, nI_add, pk_mul, pk_sub, Nat.add_sub_cancel, eq_self, if_true, if_false, n10, bI_t, bI_f, bI_0, Nat.reduceAdd, Nat.reduceMul, Nat.reduceSub, nI_eq, nI_ltI, nI_leI, Nat.reduceEqDiff, Nat.reduceLT, Nat.reduceDiv, Nat.reduceMod, Nat.reduceLeDiff, hi, hc, he]
set_option maxHeartbeats 4000000 in
theorem hL_run (hi : mn_isc (p, nx, 0, 0) 3 7 = true) (hu : p' 176 = some (ou u)) (hc : Cl 77 [.ref 3, .int x] p nx = some ((p', nx, 0, 0), .inl (some (.int v)))) : Cl 143 [.ref 3, .int x, .ref 176] p nx = some ((mn_up p' 176 (ou (vp_updL u 0 v.toInt64)), nx, 0, 0), .inl (some (.int (nI 0)))) := by
  refine Cl_of (x := mnI_L_run) rfl ?_
  show Ev 143 0 [some (.ref 3), some (.int x), some (.ref 176), none] [] _ _
  have hs := fun (q : Option Nat × Nat × Nat) => asl_at (p := p') (u := u) (w := v.toInt64) (q := q) hu
  simp (disch := first | omega | decide) only [eL_run_0, eL_run_0n, eL_run_0t, eL_run_0s, eL_run_0c, eL_run_1, eL_run_2, eL_run_2n, eL_run_2t, eL_run_2s, eL_run_2c, eL_run_3, eL_run_4, eL_run_7, eL_run_8, eL_run_9, eL_run_12, eL_run_12n, eL_run_12t, eL_run_12s, eL_run_12c, eL_run_13, eL_run_14, eL_run_15, eL_run_16, ↓reduceIte, Evk_some, Evh_some, Evn_some, Evr_v, Evr_n, mk_i, mk_r, mk_0, mk_n, mk_l, mc0, mc1, mc2, mc3, mc4, mi_obj, Bool.and_self, Bool.true_and, Nat.add_zero, Nat.zero_add, nI_add, pk_mul, pk_sub, Nat.add_sub_cancel, eq_self, if_true, if_false, n10, bI_t, bI_f, bI_0, Nat.reduceAdd, Nat.reduceMul, Nat.reduceSub, nI_eq, nI_ltI, nI_leI, Nat.reduceEqDiff, Nat.reduceLT, Nat.reduceDiv, Nat.reduceMod, Nat.reduceLeDiff, hi, hc, hs]
set_option maxHeartbeats 4000000 in
theorem hL_run_0 (hi : mn_isc (p, nx, 0, 0) 3 7 = true) (hc : Cl 77 [.ref 3, .int x] p nx = some ((p', none, 1, 6), .inr 0)) : Cl 143 [.ref 3, .int x, .ref 176] p nx = some ((p', none, 1, 6), .inl (some (.int (nI 1)))) := by
  refine Cl_of (x := mnI_L_run) rfl ?_
  show Ev 143 0 [some (.ref 3), some (.int x), some (.ref 176), none] [] _ _
  have hk : mn_catch mnI_L_run (mn_hT 143) 4 0 [some (.ref 3), some (.int x), some (.ref 176), none] = some (13, [some (.ref 3), some (.int x), some (.ref 176), none]) := rfl
  have he := fun (rest : List Value) (r : mn_Res) => Evr_c (p' := p') (cc := 0) (s := 0) (c2 := 1) (s2 := 6) (n2 := none) (rest := rest) (r := r) (show mn_all[143]? = some mnI_L_run from rfl) hk
  simp (disch := first | omega | decide) only [eL_run_0, eL_run_0n, eL_run_0t, eL_run_0s, eL_run_0c, eL_run_1, eL_run_2, eL_run_2n, eL_run_2t, eL_run_2s, eL_run_2c, eL_run_3, eL_run_4, eL_run_7, eL_run_8, eL_run_9, eL_run_12, eL_run_12n, eL_run_12t, eL_run_12s, eL_run_12c, eL_run_13, eL_run_14, eL_run_15, eL_run_16, ↓reduceIte, Evk_some, Evh_some, Evn_some, Evr_v, Evr_n, mk_i, mk_r, mk_0, mk_n, mk_l, mc0, mc1, mc2, mc3, mc4, mi_obj, Bool.and_self, Bool.true_and, Nat.add_zero, Nat.zero_add, nI_add, pk_mul, pk_sub, Nat.add_sub_cancel, eq_self, if_true, if_false, n10, bI_t, bI_f, bI_0, Nat.reduceAdd, Nat.reduceMul, Nat.reduceSub, nI_eq, nI_ltI, nI_leI, Nat.reduceEqDiff, Nat.reduceLT, Nat.reduceDiv, Nat.reduceMod, Nat.reduceLeDiff, hi, hc, he]
set_option maxHeartbeats 4000000 in
theorem hL_task (hi : mn_isc (p, nx, 0, 0) 3 7 = true) (hu : p' 176 = some (ou u)) (hc : Cl 78 [.ref 3, .int x, .int y] p nx = some ((p', nx, 0, 0), .inl (some (.int v)))) : Cl 144 [.ref 3, .int x, .int y, .ref 176] p nx = some ((mn_up p' 176 (ou (vp_updL u 0 v.toInt64)), nx, 0, 0), .inl (some (.int (nI 0)))) := by
  refine Cl_of (x := mnI_L_task) rfl ?_
  show Ev 144 0 [some (.ref 3), some (.int x), some (.int y), some (.ref 176), none] [] _ _
  have hs := fun (q : Option Nat × Nat × Nat) => asl_at (p := p') (u := u) (w := v.toInt64) (q := q) hu
  simp (disch := first | omega | decide) only [eL_task_0, eL_task_0n, eL_task_0t, eL_task_0s, eL_task_0c, eL_task_1, eL_task_2, eL_task_2n, eL_task_2t, eL_task_2s, eL_task_2c, eL_task_3, eL_task_4, eL_task_5, eL_task_8, eL_task_9, eL_task_10, eL_task_13, eL_task_13n, eL_task_13t, eL_task_13s, eL_task_13c, eL_task_15, eL_task_16, eL_task_17, eL_task_17n, eL_task_17t, eL_task_17s, eL_task_17c, eL_task_19, eL_task_20, eL_task_21, eL_task_22, ↓reduceIte, Evk_some, Evh_some, Evn_some, Evr_v, Evr_n, mk_i, mk_r, mk_0, mk_n, mk_l, mc0, mc1, mc2, mc3, mc4, mi_obj, Bool.and_self, Bool.true_and, Nat.add_zero, Nat.zero_add, nI_add, pk_mul, pk_sub, Nat.add_sub_cancel, eq_self, if_true, if_false, n10, bI_t, bI_f, bI_0, Nat.reduceAdd, Nat.reduceMul, Nat.reduceSub, nI_eq, nI_ltI, nI_leI, Nat.reduceEqDiff, Nat.reduceLT, Nat.reduceDiv, Nat.reduceMod, Nat.reduceLeDiff, hi, hc, hs]
set_option maxHeartbeats 4000000 in
theorem hL_task_2 (hi : mn_isc (p, nx, 0, 0) 3 7 = true) (hc : Cl 78 [.ref 3, .int x, .int y] p nx = some ((p', none, 1, 6), .inr 2)) : Cl 144 [.ref 3, .int x, .int y, .ref 176] p nx = some ((p', none, 1, 6), .inl (some (.int (nI 1)))) := by
  refine Cl_of (x := mnI_L_task) rfl ?_
  show Ev 144 0 [some (.ref 3), some (.int x), some (.int y), some (.ref 176), none] [] _ _
  have hk : mn_catch mnI_L_task (mn_hT 144) 5 2 [some (.ref 3), some (.int x), some (.int y), some (.ref 176), none] = some (15, [some (.ref 3), some (.int x), some (.int y), some (.ref 176), none]) := rfl
  have he := fun (rest : List Value) (r : mn_Res) => Evr_c (p' := p') (cc := 0) (s := 0) (c2 := 1) (s2 := 6) (n2 := none) (rest := rest) (r := r) (show mn_all[144]? = some mnI_L_task from rfl) hk
  simp (disch := first | omega | decide) only [eL_task_0, eL_task_0n, eL_task_0t, eL_task_0s, eL_task_0c, eL_task_1, eL_task_2, eL_task_2n, eL_task_2t, eL_task_2s, eL_task_2c, eL_task_3, eL_task_4, eL_task_5, eL_task_8, eL_task_9, eL_task_10, eL_task_13, eL_task_13n, eL_task_13t, eL_task_13s, eL_task_13c, eL_task_15, eL_task_16, eL_task_17, eL_task_17n, eL_task_17t, eL_task_17s, eL_task_17c, eL_task_19, eL_task_20, eL_task_21, eL_task_22, ↓reduceIte, Evk_some, Evh_some, Evn_some, Evr_v, Evr_n, mk_i, mk_r, mk_0, mk_n, mk_l, mc0, mc1, mc2, mc3, mc4, mi_obj, Bool.and_self, Bool.true_and, Nat.add_zero, Nat.zero_add, nI_add, pk_mul, pk_sub, Nat.add_sub_cancel, eq_self, if_true, if_false, n10, bI_t, bI_f, bI_0, Nat.reduceAdd, Nat.reduceMul, Nat.reduceSub, nI_eq, nI_ltI, nI_leI, Nat.reduceEqDiff, Nat.reduceLT, Nat.reduceDiv, Nat.reduceMod, Nat.reduceLeDiff, hi, hc, he]
set_option maxHeartbeats 4000000 in
theorem hL_task_1 (hi : mn_isc (p, nx, 0, 0) 3 7 = true) (hc : Cl 78 [.ref 3, .int x, .int y] p nx = some ((p', none, 1, 6), .inr 1)) : Cl 144 [.ref 3, .int x, .int y, .ref 176] p nx = some ((p', none, 1, 6), .inl (some (.int (nI 2)))) := by
  refine Cl_of (x := mnI_L_task) rfl ?_
  show Ev 144 0 [some (.ref 3), some (.int x), some (.int y), some (.ref 176), none] [] _ _
  have hk : mn_catch mnI_L_task (mn_hT 144) 5 1 [some (.ref 3), some (.int x), some (.int y), some (.ref 176), none] = some (19, [some (.ref 3), some (.int x), some (.int y), some (.ref 176), none]) := rfl
  have he := fun (rest : List Value) (r : mn_Res) => Evr_c (p' := p') (cc := 0) (s := 0) (c2 := 1) (s2 := 6) (n2 := none) (rest := rest) (r := r) (show mn_all[144]? = some mnI_L_task from rfl) hk
  simp (disch := first | omega | decide) only [eL_task_0, eL_task_0n, eL_task_0t, eL_task_0s, eL_task_0c, eL_task_1, eL_task_2, eL_task_2n, eL_task_2t, eL_task_2s, eL_task_2c, eL_task_3, eL_task_4, eL_task_5, eL_task_8, eL_task_9, eL_task_10, eL_task_13, eL_task_13n, eL_task_13t, eL_task_13s, eL_task_13c, eL_task_15, eL_task_16, eL_task_17, eL_task_17n, eL_task_17t, eL_task_17s, eL_task_17c, eL_task_19, eL_task_20, eL_task_21, eL_task_22, ↓reduceIte, Evk_some, Evh_some, Evn_some, Evr_v, Evr_n, mk_i, mk_r, mk_0, mk_n, mk_l, mc0, mc1, mc2, mc3, mc4, mi_obj, Bool.and_self, Bool.true_and, Nat.add_zero, Nat.zero_add, nI_add, pk_mul, pk_sub, Nat.add_sub_cancel, eq_self, if_true, if_false, n10, bI_t, bI_f, bI_0, Nat.reduceAdd, Nat.reduceMul, Nat.reduceSub, nI_eq, nI_ltI, nI_leI, Nat.reduceEqDiff, Nat.reduceLT, Nat.reduceDiv, Nat.reduceMod, Nat.reduceLeDiff, hi, hc, he]
set_option maxHeartbeats 4000000 in
theorem hL_read (hi : mn_isc (p, nx, 0, 0) 3 7 = true) (hu : p' 176 = some (ou u)) (hc : Cl 80 [.ref 3, .int x, .int y] p nx = some ((p', nx, 0, 0), .inl (some (.long w)))) : Cl 145 [.ref 3, .int x, .int y, .ref 176] p nx = some ((mn_up p' 176 (ou (vp_updL u 0 w)), nx, 0, 0), .inl (some (.int (nI 0)))) := by
  refine Cl_of (x := mnI_L_read) rfl ?_
  show Ev 145 0 [some (.ref 3), some (.int x), some (.int y), some (.ref 176), none] [] _ _
  have hs := fun (q : Option Nat × Nat × Nat) => asl_at (p := p') (u := u) (w := w) (q := q) hu
  simp (disch := first | omega | decide) only [eL_read_0, eL_read_0n, eL_read_0t, eL_read_0s, eL_read_0c, eL_read_1, eL_read_2, eL_read_2n, eL_read_2t, eL_read_2s, eL_read_2c, eL_read_3, eL_read_4, eL_read_5, eL_read_8, eL_read_9, eL_read_12, eL_read_12n, eL_read_12t, eL_read_12s, eL_read_12c, eL_read_14, eL_read_15, eL_read_16, eL_read_16n, eL_read_16t, eL_read_16s, eL_read_16c, eL_read_18, eL_read_19, eL_read_20, eL_read_21, ↓reduceIte, Evk_some, Evh_some, Evn_some, Evr_v, Evr_n, mk_i, mk_r, mk_0, mk_n, mk_l, mc0, mc1, mc2, mc3, mc4, mi_obj, Bool.and_self, Bool.true_and, Nat.add_zero, Nat.zero_add, nI_add, pk_mul, pk_sub, Nat.add_sub_cancel, eq_self, if_true, if_false, n10, bI_t, bI_f, bI_0, Nat.reduceAdd, Nat.reduceMul, Nat.reduceSub, nI_eq, nI_ltI, nI_leI, Nat.reduceEqDiff, Nat.reduceLT, Nat.reduceDiv, Nat.reduceMod, Nat.reduceLeDiff, hi, hc, hs]
set_option maxHeartbeats 4000000 in
theorem hL_read_2 (hi : mn_isc (p, nx, 0, 0) 3 7 = true) (hc : Cl 80 [.ref 3, .int x, .int y] p nx = some ((p', none, 1, 6), .inr 2)) : Cl 145 [.ref 3, .int x, .int y, .ref 176] p nx = some ((p', none, 1, 6), .inl (some (.int (nI 1)))) := by
  refine Cl_of (x := mnI_L_read) rfl ?_
  show Ev 145 0 [some (.ref 3), some (.int x), some (.int y), some (.ref 176), none] [] _ _
  have hk : mn_catch mnI_L_read (mn_hT 145) 5 2 [some (.ref 3), some (.int x), some (.int y), some (.ref 176), none] = some (14, [some (.ref 3), some (.int x), some (.int y), some (.ref 176), none]) := rfl
  have he := fun (rest : List Value) (r : mn_Res) => Evr_c (p' := p') (cc := 0) (s := 0) (c2 := 1) (s2 := 6) (n2 := none) (rest := rest) (r := r) (show mn_all[145]? = some mnI_L_read from rfl) hk
  simp (disch := first | omega | decide) only [eL_read_0, eL_read_0n, eL_read_0t, eL_read_0s, eL_read_0c, eL_read_1, eL_read_2, eL_read_2n, eL_read_2t, eL_read_2s, eL_read_2c, eL_read_3, eL_read_4, eL_read_5, eL_read_8, eL_read_9, eL_read_12, eL_read_12n, eL_read_12t, eL_read_12s, eL_read_12c, eL_read_14, eL_read_15, eL_read_16, eL_read_16n, eL_read_16t, eL_read_16s, eL_read_16c, eL_read_18, eL_read_19, eL_read_20, eL_read_21, ↓reduceIte, Evk_some, Evh_some, Evn_some, Evr_v, Evr_n, mk_i, mk_r, mk_0, mk_n, mk_l, mc0, mc1, mc2, mc3, mc4, mi_obj, Bool.and_self, Bool.true_and, Nat.add_zero, Nat.zero_add, nI_add, pk_mul, pk_sub, Nat.add_sub_cancel, eq_self, if_true, if_false, n10, bI_t, bI_f, bI_0, Nat.reduceAdd, Nat.reduceMul, Nat.reduceSub, nI_eq, nI_ltI, nI_leI, Nat.reduceEqDiff, Nat.reduceLT, Nat.reduceDiv, Nat.reduceMod, Nat.reduceLeDiff, hi, hc, he]
set_option maxHeartbeats 4000000 in
theorem hL_read_1 (hi : mn_isc (p, nx, 0, 0) 3 7 = true) (hc : Cl 80 [.ref 3, .int x, .int y] p nx = some ((p', none, 1, 6), .inr 1)) : Cl 145 [.ref 3, .int x, .int y, .ref 176] p nx = some ((p', none, 1, 6), .inl (some (.int (nI 2)))) := by
  refine Cl_of (x := mnI_L_read) rfl ?_
  show Ev 145 0 [some (.ref 3), some (.int x), some (.int y), some (.ref 176), none] [] _ _
  have hk : mn_catch mnI_L_read (mn_hT 145) 5 1 [some (.ref 3), some (.int x), some (.int y), some (.ref 176), none] = some (18, [some (.ref 3), some (.int x), some (.int y), some (.ref 176), none]) := rfl
  have he := fun (rest : List Value) (r : mn_Res) => Evr_c (p' := p') (cc := 0) (s := 0) (c2 := 1) (s2 := 6) (n2 := none) (rest := rest) (r := r) (show mn_all[145]? = some mnI_L_read from rfl) hk
  simp (disch := first | omega | decide) only [eL_read_0, eL_read_0n, eL_read_0t, eL_read_0s, eL_read_0c, eL_read_1, eL_read_2, eL_read_2n, eL_read_2t, eL_read_2s, eL_read_2c, eL_read_3, eL_read_4, eL_read_5, eL_read_8, eL_read_9, eL_read_12, eL_read_12n, eL_read_12t, eL_read_12s, eL_read_12c, eL_read_14, eL_read_15, eL_read_16, eL_read_16n, eL_read_16t, eL_read_16s, eL_read_16c, eL_read_18, eL_read_19, eL_read_20, eL_read_21, ↓reduceIte, Evk_some, Evh_some, Evn_some, Evr_v, Evr_n, mk_i, mk_r, mk_0, mk_n, mk_l, mc0, mc1, mc2, mc3, mc4, mi_obj, Bool.and_self, Bool.true_and, Nat.add_zero, Nat.zero_add, nI_add, pk_mul, pk_sub, Nat.add_sub_cancel, eq_self, if_true, if_false, n10, bI_t, bI_f, bI_0, Nat.reduceAdd, Nat.reduceMul, Nat.reduceSub, nI_eq, nI_ltI, nI_leI, Nat.reduceEqDiff, Nat.reduceLT, Nat.reduceDiv, Nat.reduceMod, Nat.reduceLeDiff, hi, hc, he]
set_option maxHeartbeats 4000000 in
theorem hL_print (hi : mn_isc (p, nx, 0, 0) 3 7 = true) (hu : p' 176 = some (ou u)) (hc : Cl 81 [.ref 3, .int x, .int y] p nx = some ((p', nx, 0, 0), .inl (some (.long w)))) : Cl 146 [.ref 3, .int x, .int y, .ref 176] p nx = some ((mn_up p' 176 (ou (vp_updL u 0 w)), nx, 0, 0), .inl (some (.int (nI 0)))) := by
  refine Cl_of (x := mnI_L_print) rfl ?_
  show Ev 146 0 [some (.ref 3), some (.int x), some (.int y), some (.ref 176), none] [] _ _
  have hs := fun (q : Option Nat × Nat × Nat) => asl_at (p := p') (u := u) (w := w) (q := q) hu
  simp (disch := first | omega | decide) only [eL_print_0, eL_print_0n, eL_print_0t, eL_print_0s, eL_print_0c, eL_print_1, eL_print_2, eL_print_2n, eL_print_2t, eL_print_2s, eL_print_2c, eL_print_3, eL_print_4, eL_print_5, eL_print_8, eL_print_9, eL_print_12, eL_print_12n, eL_print_12t, eL_print_12s, eL_print_12c, eL_print_14, eL_print_15, eL_print_16, eL_print_17, ↓reduceIte, Evk_some, Evh_some, Evn_some, Evr_v, Evr_n, mk_i, mk_r, mk_0, mk_n, mk_l, mc0, mc1, mc2, mc3, mc4, mi_obj, Bool.and_self, Bool.true_and, Nat.add_zero, Nat.zero_add, nI_add, pk_mul, pk_sub, Nat.add_sub_cancel, eq_self, if_true, if_false, n10, bI_t, bI_f, bI_0, Nat.reduceAdd, Nat.reduceMul, Nat.reduceSub, nI_eq, nI_ltI, nI_leI, Nat.reduceEqDiff, Nat.reduceLT, Nat.reduceDiv, Nat.reduceMod, Nat.reduceLeDiff, hi, hc, hs]
set_option maxHeartbeats 4000000 in
theorem hL_print_2 (hi : mn_isc (p, nx, 0, 0) 3 7 = true) (hc : Cl 81 [.ref 3, .int x, .int y] p nx = some ((p', none, 1, 6), .inr 2)) : Cl 146 [.ref 3, .int x, .int y, .ref 176] p nx = some ((p', none, 1, 6), .inl (some (.int (nI 1)))) := by
  refine Cl_of (x := mnI_L_print) rfl ?_
  show Ev 146 0 [some (.ref 3), some (.int x), some (.int y), some (.ref 176), none] [] _ _
  have hk : mn_catch mnI_L_print (mn_hT 146) 5 2 [some (.ref 3), some (.int x), some (.int y), some (.ref 176), none] = some (14, [some (.ref 3), some (.int x), some (.int y), some (.ref 176), none]) := rfl
  have he := fun (rest : List Value) (r : mn_Res) => Evr_c (p' := p') (cc := 0) (s := 0) (c2 := 1) (s2 := 6) (n2 := none) (rest := rest) (r := r) (show mn_all[146]? = some mnI_L_print from rfl) hk
  simp (disch := first | omega | decide) only [eL_print_0, eL_print_0n, eL_print_0t, eL_print_0s, eL_print_0c, eL_print_1, eL_print_2, eL_print_2n, eL_print_2t, eL_print_2s, eL_print_2c, eL_print_3, eL_print_4, eL_print_5, eL_print_8, eL_print_9, eL_print_12, eL_print_12n, eL_print_12t, eL_print_12s, eL_print_12c, eL_print_14, eL_print_15, eL_print_16, eL_print_17, ↓reduceIte, Evk_some, Evh_some, Evn_some, Evr_v, Evr_n, mk_i, mk_r, mk_0, mk_n, mk_l, mc0, mc1, mc2, mc3, mc4, mi_obj, Bool.and_self, Bool.true_and, Nat.add_zero, Nat.zero_add, nI_add, pk_mul, pk_sub, Nat.add_sub_cancel, eq_self, if_true, if_false, n10, bI_t, bI_f, bI_0, Nat.reduceAdd, Nat.reduceMul, Nat.reduceSub, nI_eq, nI_ltI, nI_leI, Nat.reduceEqDiff, Nat.reduceLT, Nat.reduceDiv, Nat.reduceMod, Nat.reduceLeDiff, hi, hc, he]
set_option maxHeartbeats 4000000 in
theorem hL_cell (hi : mn_isc (p, nx, 0, 0) 3 7 = true) (hc : Cl 72 [.ref 3, .int x, .int y, .int z] p nx = some ((p', nx, 0, 0), .inl (none))) : Cl 140 [.ref 3, .int x, .int y, .int z] p nx = some ((p', nx, 0, 0), .inl (some (.int (nI 0)))) := by
  refine Cl_of (x := mnI_L_cell) rfl ?_
  show Ev 140 0 [some (.ref 3), some (.int x), some (.int y), some (.int z), none] [] _ _
  simp (disch := first | omega | decide) only [eL_cell_0, eL_cell_0n, eL_cell_0t, eL_cell_0s, eL_cell_0c, eL_cell_1, eL_cell_2, eL_cell_3, eL_cell_4, eL_cell_7, eL_cell_10, eL_cell_10n, eL_cell_10t, eL_cell_10s, eL_cell_10c, eL_cell_12, eL_cell_13, eL_cell_14, eL_cell_14n, eL_cell_14t, eL_cell_14s, eL_cell_14c, eL_cell_16, eL_cell_17, eL_cell_18, eL_cell_19, ↓reduceIte, Evk_some, Evh_some, Evn_some, Evr_v, Evr_n, mk_i, mk_r, mk_0, mk_n, mk_l, mc0, mc1, mc2, mc3, mc4, mi_obj, Bool.and_self, Bool.true_and, Nat.add_zero, Nat.zero_add, nI_add, pk_mul, pk_sub, Nat.add_sub_cancel, eq_self, if_true, if_false, n10, bI_t, bI_f, bI_0, Nat.reduceAdd, Nat.reduceMul, Nat.reduceSub, nI_eq, nI_ltI, nI_leI, Nat.reduceEqDiff, Nat.reduceLT, Nat.reduceDiv, Nat.reduceMod, Nat.reduceLeDiff, hi, hc]
set_option maxHeartbeats 4000000 in
theorem hL_cell_1 (hi : mn_isc (p, nx, 0, 0) 3 7 = true) (hc : Cl 72 [.ref 3, .int x, .int y, .int z] p nx = some ((p', none, 1, 6), .inr 1)) : Cl 140 [.ref 3, .int x, .int y, .int z] p nx = some ((p', none, 1, 6), .inl (some (.int (nI 1)))) := by
  refine Cl_of (x := mnI_L_cell) rfl ?_
  show Ev 140 0 [some (.ref 3), some (.int x), some (.int y), some (.int z), none] [] _ _
  have hk : mn_catch mnI_L_cell (mn_hT 140) 4 1 [some (.ref 3), some (.int x), some (.int y), some (.int z), none] = some (12, [some (.ref 3), some (.int x), some (.int y), some (.int z), none]) := rfl
  have he := fun (rest : List Value) (r : mn_Res) => Evr_c (p' := p') (cc := 0) (s := 0) (c2 := 1) (s2 := 6) (n2 := none) (rest := rest) (r := r) (show mn_all[140]? = some mnI_L_cell from rfl) hk
  simp (disch := first | omega | decide) only [eL_cell_0, eL_cell_0n, eL_cell_0t, eL_cell_0s, eL_cell_0c, eL_cell_1, eL_cell_2, eL_cell_3, eL_cell_4, eL_cell_7, eL_cell_10, eL_cell_10n, eL_cell_10t, eL_cell_10s, eL_cell_10c, eL_cell_12, eL_cell_13, eL_cell_14, eL_cell_14n, eL_cell_14t, eL_cell_14s, eL_cell_14c, eL_cell_16, eL_cell_17, eL_cell_18, eL_cell_19, ↓reduceIte, Evk_some, Evh_some, Evn_some, Evr_v, Evr_n, mk_i, mk_r, mk_0, mk_n, mk_l, mc0, mc1, mc2, mc3, mc4, mi_obj, Bool.and_self, Bool.true_and, Nat.add_zero, Nat.zero_add, nI_add, pk_mul, pk_sub, Nat.add_sub_cancel, eq_self, if_true, if_false, n10, bI_t, bI_f, bI_0, Nat.reduceAdd, Nat.reduceMul, Nat.reduceSub, nI_eq, nI_ltI, nI_leI, Nat.reduceEqDiff, Nat.reduceLT, Nat.reduceDiv, Nat.reduceMod, Nat.reduceLeDiff, hi, hc, he]
set_option maxHeartbeats 4000000 in
theorem hL_cell_0 (hi : mn_isc (p, nx, 0, 0) 3 7 = true) (hc : Cl 72 [.ref 3, .int x, .int y, .int z] p nx = some ((p', none, 1, 6), .inr 0)) : Cl 140 [.ref 3, .int x, .int y, .int z] p nx = some ((p', none, 1, 6), .inl (some (.int (nI 2)))) := by
  refine Cl_of (x := mnI_L_cell) rfl ?_
  show Ev 140 0 [some (.ref 3), some (.int x), some (.int y), some (.int z), none] [] _ _
  have hk : mn_catch mnI_L_cell (mn_hT 140) 4 0 [some (.ref 3), some (.int x), some (.int y), some (.int z), none] = some (16, [some (.ref 3), some (.int x), some (.int y), some (.int z), none]) := rfl
  have he := fun (rest : List Value) (r : mn_Res) => Evr_c (p' := p') (cc := 0) (s := 0) (c2 := 1) (s2 := 6) (n2 := none) (rest := rest) (r := r) (show mn_all[140]? = some mnI_L_cell from rfl) hk
  simp (disch := first | omega | decide) only [eL_cell_0, eL_cell_0n, eL_cell_0t, eL_cell_0s, eL_cell_0c, eL_cell_1, eL_cell_2, eL_cell_3, eL_cell_4, eL_cell_7, eL_cell_10, eL_cell_10n, eL_cell_10t, eL_cell_10s, eL_cell_10c, eL_cell_12, eL_cell_13, eL_cell_14, eL_cell_14n, eL_cell_14t, eL_cell_14s, eL_cell_14c, eL_cell_16, eL_cell_17, eL_cell_18, eL_cell_19, ↓reduceIte, Evk_some, Evh_some, Evn_some, Evr_v, Evr_n, mk_i, mk_r, mk_0, mk_n, mk_l, mc0, mc1, mc2, mc3, mc4, mi_obj, Bool.and_self, Bool.true_and, Nat.add_zero, Nat.zero_add, nI_add, pk_mul, pk_sub, Nat.add_sub_cancel, eq_self, if_true, if_false, n10, bI_t, bI_f, bI_0, Nat.reduceAdd, Nat.reduceMul, Nat.reduceSub, nI_eq, nI_ltI, nI_leI, Nat.reduceEqDiff, Nat.reduceLT, Nat.reduceDiv, Nat.reduceMod, Nat.reduceLeDiff, hi, hc, he]
set_option maxHeartbeats 4000000 in
theorem hL_start (hi : mn_isc (p, nx, 0, 0) 3 7 = true) (hc : Cl 73 [.ref 3] p nx = some ((p', nx, 0, 0), .inl (none))) : Cl 141 [.ref 3] p nx = some ((p', nx, 0, 0), .inl (some (.int (nI 0)))) := by
  refine Cl_of (x := mnI_L_start) rfl ?_
  show Ev 141 0 [some (.ref 3), none] [] _ _
  simp (disch := first | omega | decide) only [eL_start_0, eL_start_0n, eL_start_0t, eL_start_0s, eL_start_0c, eL_start_1, eL_start_4, eL_start_7, eL_start_7n, eL_start_7t, eL_start_7s, eL_start_7c, eL_start_8, eL_start_9, eL_start_10, eL_start_11, ↓reduceIte, Evk_some, Evh_some, Evn_some, Evr_v, Evr_n, mk_i, mk_r, mk_0, mk_n, mk_l, mc0, mc1, mc2, mc3, mc4, mi_obj, Bool.and_self, Bool.true_and, Nat.add_zero, Nat.zero_add, nI_add, pk_mul, pk_sub, Nat.add_sub_cancel, eq_self, if_true, if_false, n10, bI_t, bI_f, bI_0, Nat.reduceAdd, Nat.reduceMul, Nat.reduceSub, nI_eq, nI_ltI, nI_leI, Nat.reduceEqDiff, Nat.reduceLT, Nat.reduceDiv, Nat.reduceMod, Nat.reduceLeDiff, hi, hc]
set_option maxHeartbeats 4000000 in
theorem hL_start_1 (hi : mn_isc (p, nx, 0, 0) 3 7 = true) (hc : Cl 73 [.ref 3] p nx = some ((p', none, 1, 6), .inr 1)) : Cl 141 [.ref 3] p nx = some ((p', none, 1, 6), .inl (some (.int (nI 1)))) := by
  refine Cl_of (x := mnI_L_start) rfl ?_
  show Ev 141 0 [some (.ref 3), none] [] _ _
  have hk : mn_catch mnI_L_start (mn_hT 141) 1 1 [some (.ref 3), none] = some (8, [some (.ref 3), none]) := rfl
  have he := fun (rest : List Value) (r : mn_Res) => Evr_c (p' := p') (cc := 0) (s := 0) (c2 := 1) (s2 := 6) (n2 := none) (rest := rest) (r := r) (show mn_all[141]? = some mnI_L_start from rfl) hk
  simp (disch := first | omega | decide) only [eL_start_0, eL_start_0n, eL_start_0t, eL_start_0s, eL_start_0c, eL_start_1, eL_start_4, eL_start_7, eL_start_7n, eL_start_7t, eL_start_7s, eL_start_7c, eL_start_8, eL_start_9, eL_start_10, eL_start_11, ↓reduceIte, Evk_some, Evh_some, Evn_some, Evr_v, Evr_n, mk_i, mk_r, mk_0, mk_n, mk_l, mc0, mc1, mc2, mc3, mc4, mi_obj, Bool.and_self, Bool.true_and, Nat.add_zero, Nat.zero_add, nI_add, pk_mul, pk_sub, Nat.add_sub_cancel, eq_self, if_true, if_false, n10, bI_t, bI_f, bI_0, Nat.reduceAdd, Nat.reduceMul, Nat.reduceSub, nI_eq, nI_ltI, nI_leI, Nat.reduceEqDiff, Nat.reduceLT, Nat.reduceDiv, Nat.reduceMod, Nat.reduceLeDiff, hi, hc, he]
end SE
