/-! the class: begin, fork -/
section KH
variable {b : Nat → Option va_E} {N : cN} {J : cJ} {P : cP} {nx : Option Nat} {r : mn_Res}
def tbN (N : cN) (t : Nat) : cN := up3 (up3 (up3 (up3 N 15 t 0 (nI 0)) 16 t 0 (nI 0)) 17 t 0 (nI 0)) 18 t 0 (nI 0)
def tbP (P : cP) (t : Nat) (o1 o2 : Option Nat) (s : Nat) : cP := upP (upP (upP (upP P 1 t o1) 3 t o2) 4 t (some s)) 2 t none
def fbN (N : cN) (f : Nat) : cN := up3 (up3 N 19 f 0 (nI 0)) 20 f 0 (nI 0)
def fbJ (J : cJ) (f : Nat) (u : Int64) : cJ := up3 (up3 (up3 (up3 J 1 f 1 0) 1 f 2 0) 1 f 3 0) 1 f 0 u
theorem kl_tbegin2 {t : Nat} (ht : t < 12) {o1 o2 : Option Nat} {s : Nat} {v1 v2 : Value} (h1 : tkv o1 = v1) (h2 : sgv o2 = v2) : Cl 41 [.ref (43 + 5 * t), v1, v2, .ref (103 + 2 * s)] (cpic b N J P) nx = some ((cpic b (tbN N t) (up3 J 3 t 0 0) (tbP P t o1 o2 s), nx, 0, 0), .inl none) := by
  subst h1 h2
  exact kl_tbegin ht
theorem kl_fbegin2 {f j : Nat} (hf : f < 13) {u : Int64} : Cl 12 [.ref (fr f), .ref (12 + 3 * j), .long u] (cpic b N J P) nx = some ((cpic b (fbN N f) (fbJ J f u) (upP P 5 f (some j)), nx, 0, 0), .inl none) := kl_fbegin hf
theorem kl_openSegment2 {m : Nat} (hm : N 12 0 0 = nI m) (hm2 : m < 23) {o : Option Nat} {v : Value} (hv : sgv o = v) : Cl 51 [.ref 36, v] (cpic b N J P) nx = some ((cpic b (osN N m) J (upP P 6 m o), nx, 0, 0), .inl (some (.ref (103 + 2 * m)))) := by
  subst hv
  exact kl_openSegment hm hm2
def bgN (N : cN) : cN := up3 (fbN (tbN (osN (fgN N) 0) 0) 0) 11 0 0 (nI 1)
def bgJ (J : cJ) : cJ := fbJ (up3 J 3 0 0 0) 0 0
def bgP (P : cP) : cP := upP (tbP (upP P 6 0 none) 0 none none 0) 5 0 (some 0)
set_option maxHeartbeats 4000000 in
theorem kl_begin {nb : Nat} (hnb : nb ≤ 6) (h0 : 0 < nb) (hN : N 0 0 0 = nI nb) : Cl 50 [.ref (36)] (cpic b N J P) nx = some ((cpic b (bgN N) (bgJ J) (bgP P), nx, 0, 0), .inl (none)) := by
  refine Cl_of (x := mnI_X6_begin) rfl ?_
  show Ev 50 0 [some (.ref (36))] [] _ _
  have e1 : fgN N 12 0 0 = nI 0 := rfl
  have e2 : tbN (osN (fgN N) 0) 0 0 0 0 = nI nb := hN
  have kb := kl_tbegin2 (b := b) (N := osN (fgN N) 0) (J := J) (P := upP P 6 0 none) (nx := nx) (show 0 < 12 by omega) (s := 0) tkv_n sgv_n
  have kc := kl_fbegin2 (b := b) (N := tbN (osN (fgN N) 0) 0) (J := up3 J 3 0 0 0) (P := tbP (upP P 6 0 none) 0 none none 0) (nx := nx) (f := 0) (j := 0) (show 0 < 13 by omega) (u := 0)
  have kd := kl_blockAt (b := b) (N := tbN (osN (fgN N) 0) 0) (J := up3 J 3 0 0 0) (P := tbP (upP P 6 0 none) 0 none none 0) (nx := nx) (x := 0) hnb e2 h0
  have t0 : 43 + 5 * 0 = 43 := rfl
  simp (disch := first | omega | (simp only [cat_i, cat_r, ri_r, ri_0, tkv_r, sgv_r, cdv_r]; done)) only [eX6_begin_0, eX6_begin_1, eX6_begin_4, eX6_begin_5, eX6_begin_8, eX6_begin_9, eX6_begin_10, eX6_begin_11, eX6_begin_12, eX6_begin_13, eX6_begin_14, eX6_begin_17, eX6_begin_20, eX6_begin_21, eX6_begin_24, eX6_begin_25, eX6_begin_26, eX6_begin_29, eX6_begin_30, eX6_begin_33, eX6_begin_34, eX6_begin_37, eX6_begin_38, eX6_begin_41, eX6_begin_42, eX6_begin_43, eX6_begin_46, ↓reduceIte, Evk_some, Evh_some, Evn_some, Evr_v, Evr_n, mk_i, mk_r, mk_0, mk_n, mk_l, mc0, mc1, mc2, mc3, mc4, mi_obj, Bool.and_self, Bool.true_and, Nat.add_zero, Nat.zero_add, nI_add, pk_mul, pk_sub, Nat.add_sub_cancel, eq_self, if_true, if_false, n10, bI_t, bI_f, bI_0, Nat.reduceAdd, Nat.reduceMul, Nat.reduceSub, nI_eq, nI_ltI, nI_leI, Nat.reduceEqDiff, Nat.reduceLT, Nat.reduceDiv, Nat.reduceMod, Nat.reduceLeDiff, ci_Code, ci_Frame, ci_Task, ci_Segment, ci_Main, ci_Program, ci_Checker, ci_World, tkv_s, sgv_s, cdv_s, tkv_n, sgv_n, cdv_n, tkv_k, sgv_k, cdv_k, kl_forget, cg_World_tasks, cq_tasks (show 0 < 12 by omega)]
  refine (EgX6_begin_14 ri_0).mpr ?_
  simp (disch := first | omega | (simp only [cat_i, cat_r, ri_r, ri_0, tkv_r, sgv_r, cdv_r]; done)) only [eX6_begin_0, eX6_begin_1, eX6_begin_4, eX6_begin_5, eX6_begin_8, eX6_begin_9, eX6_begin_10, eX6_begin_11, eX6_begin_12, eX6_begin_13, eX6_begin_14, eX6_begin_17, eX6_begin_20, eX6_begin_21, eX6_begin_24, eX6_begin_25, eX6_begin_26, eX6_begin_29, eX6_begin_30, eX6_begin_33, eX6_begin_34, eX6_begin_37, eX6_begin_38, eX6_begin_41, eX6_begin_42, eX6_begin_43, eX6_begin_46, ↓reduceIte, Evk_some, Evh_some, Evn_some, Evr_v, Evr_n, mk_i, mk_r, mk_0, mk_n, mk_l, mc0, mc1, mc2, mc3, mc4, mi_obj, Bool.and_self, Bool.true_and, Nat.add_zero, Nat.zero_add, nI_add, pk_mul, pk_sub, Nat.add_sub_cancel, eq_self, if_true, if_false, n10, bI_t, bI_f, bI_0, Nat.reduceAdd, Nat.reduceMul, Nat.reduceSub, nI_eq, nI_ltI, nI_leI, Nat.reduceEqDiff, Nat.reduceLT, Nat.reduceDiv, Nat.reduceMod, Nat.reduceLeDiff, ci_Code, ci_Frame, ci_Task, ci_Segment, ci_Main, ci_Program, ci_Checker, ci_World, tkv_s, sgv_s, cdv_s, tkv_n, sgv_n, cdv_n, tkv_k, sgv_k, cdv_k, kl_openSegment2 e1 (show 0 < 23 by omega) sgv_n]
  refine (EgX6_begin_17 ri_0 ri_0 rfl).mpr ?_
  have ci0 : ∀ {N : cN} {J : cJ} {P : cP} {q : Option Nat × Nat × Nat}, mn_isc (cpic b N J P, q) 43 5 = true := fun {N J P q} => ci_Task (i := 0) (by decide)
  have cf0 : ∀ {N : cN} {J : cJ} {P : cP} {q : Option Nat × Nat × Nat}, mn_isc (cpic b N J P, q) (fr 0) 2 = true := fun {N J P q} => ci_Frame (i := 0) (by decide)
  have cg0 : ∀ {N : cN} {J : cJ} {P : cP} {q : Option Nat × Nat × Nat}, mn_gf (cpic b N J P, q) 43 5 1 = some (.ref (fr 0)) := fun {N J P q} => cg_Task_frame (i := 0) (by decide)
  simp only [Nat.reduceMul, Nat.reduceAdd] at kb kc kd
  simp (disch := first | omega | (simp only [cat_i, cat_r, ri_r, ri_0, tkv_r, sgv_r, cdv_r]; done)) only [eX6_begin_0, eX6_begin_1, eX6_begin_4, eX6_begin_5, eX6_begin_8, eX6_begin_9, eX6_begin_10, eX6_begin_11, eX6_begin_12, eX6_begin_13, eX6_begin_14, eX6_begin_17, eX6_begin_20, eX6_begin_21, eX6_begin_24, eX6_begin_25, eX6_begin_26, eX6_begin_29, eX6_begin_30, eX6_begin_33, eX6_begin_34, eX6_begin_37, eX6_begin_38, eX6_begin_41, eX6_begin_42, eX6_begin_43, eX6_begin_46, ↓reduceIte, Evk_some, Evh_some, Evn_some, Evr_v, Evr_n, mk_i, mk_r, mk_0, mk_n, mk_l, mc0, mc1, mc2, mc3, mc4, mi_obj, Bool.and_self, Bool.true_and, Nat.add_zero, Nat.zero_add, nI_add, pk_mul, pk_sub, Nat.add_sub_cancel, eq_self, if_true, if_false, n10, bI_t, bI_f, bI_0, Nat.reduceAdd, Nat.reduceMul, Nat.reduceSub, nI_eq, nI_ltI, nI_leI, Nat.reduceEqDiff, Nat.reduceLT, Nat.reduceDiv, Nat.reduceMod, Nat.reduceLeDiff, ci_Code, ci_Frame, ci_Task, ci_Segment, ci_Main, ci_Program, ci_Checker, ci_World, tkv_s, sgv_s, cdv_s, tkv_n, sgv_n, cdv_n, tkv_k, sgv_k, cdv_k, ci0, cf0, cg0, kb, kc, kd, cg_World_tasks, cq_tasks (show 0 < 12 by omega), cg_World_program, cp_World_taskCount, bgN, bgJ, bgP]
def f3N (N : cN) (n m : Nat) : cN := tbN (osN (up3 N 11 0 0 (nI (n + 1))) m) n
def f3P (P : cP) (t n m s : Nat) : cP := tbP (upP P 6 m (some s)) n (some t) (some s) m
def fkN (N : cN) (t n m h p : Nat) : cN := up3 (up3 (osN (fbN (up3 (f3N N n m) 20 t 0 (nI h)) n) (m + 1)) 20 t 0 (nI (h + 1))) 19 t 0 (nI (p + 1))
def fkJ (J : cJ) (t n h : Nat) : cJ := up3 (fbJ (up3 J 3 n 0 0) n (J 0 t h)) 0 t h (nI n).toInt64
def fkP (P : cP) (t n m s a : Nat) : cP := upP (upP (upP (f3P P t n m s) 5 n (some a)) 6 (m + 1) (some s)) 4 t (some (m + 1))
set_option maxHeartbeats 4000000 in
theorem kl_fork3 {t : Nat} (ht : t < 12) (hN : N 11 0 0 = nI 12) : Cl 56 [.ref (36), .ref (43 + 5 * t)] (cpic b N J P) nx = some ((cpic b (up3 (up3 N 17 t 0 (nI 3)) 16 t 0 (nI 2)) J P, nx, 0, 0), .inl (none)) := by
  refine Cl_of (x := mnI_X6_fork) rfl ?_
  show Ev 56 0 [some (.ref (36)), some (.ref (43 + 5 * t)), none, none] [] _ _
  simp (disch := first | omega | (simp only [cat_i, cat_r, ri_r, ri_0, tkv_r, sgv_r, cdv_r]; done)) only [eX6_fork_0, eX6_fork_1, eX6_fork_4, eX6_fork_6, eX6_fork_9, eX6_fork_9n, eX6_fork_9t, eX6_fork_9s, eX6_fork_9c, eX6_fork_10, eX6_fork_11, eX6_fork_14, eX6_fork_15, eX6_fork_16, eX6_fork_19, eX6_fork_20, eX6_fork_23, eX6_fork_24, eX6_fork_24n, eX6_fork_24t, eX6_fork_24s, eX6_fork_24c, eX6_fork_25, eX6_fork_26, eX6_fork_27, eX6_fork_30, eX6_fork_31, eX6_fork_32, eX6_fork_35, eX6_fork_35n, eX6_fork_35t, eX6_fork_35s, eX6_fork_35c, eX6_fork_36, eX6_fork_39, eX6_fork_39n, eX6_fork_39t, eX6_fork_39s, eX6_fork_39c, eX6_fork_40, eX6_fork_40n, eX6_fork_40t, eX6_fork_40s, eX6_fork_40c, eX6_fork_41, eX6_fork_41n, eX6_fork_41t, eX6_fork_41s, eX6_fork_41c, eX6_fork_42, eX6_fork_42n, eX6_fork_42t, eX6_fork_42s, eX6_fork_42c, eX6_fork_43, eX6_fork_44, eX6_fork_44n, eX6_fork_44t, eX6_fork_44s, eX6_fork_44c, eX6_fork_45, eX6_fork_48, eX6_fork_51, eX6_fork_51n, eX6_fork_51t, eX6_fork_51s, eX6_fork_51c, eX6_fork_52, eX6_fork_55, eX6_fork_56, eX6_fork_59, eX6_fork_59n, eX6_fork_59t, eX6_fork_59s, eX6_fork_59c, eX6_fork_60, eX6_fork_63, eX6_fork_66, eX6_fork_69, eX6_fork_69n, eX6_fork_69t, eX6_fork_69s, eX6_fork_69c, eX6_fork_70, eX6_fork_73, eX6_fork_76, eX6_fork_79, eX6_fork_79n, eX6_fork_79t, eX6_fork_79s, eX6_fork_79c, eX6_fork_80, eX6_fork_81, eX6_fork_81n, eX6_fork_81t, eX6_fork_81s, eX6_fork_81c, eX6_fork_82, eX6_fork_85, eX6_fork_88, eX6_fork_88n, eX6_fork_88t, eX6_fork_88s, eX6_fork_88c, eX6_fork_89, eX6_fork_92, eX6_fork_92n, eX6_fork_92t, eX6_fork_92s, eX6_fork_92c, eX6_fork_93, eX6_fork_96, eX6_fork_97, eX6_fork_100, eX6_fork_100n, eX6_fork_100t, eX6_fork_100s, eX6_fork_100c, eX6_fork_101, eX6_fork_104, eX6_fork_107, eX6_fork_108, eX6_fork_111, ↓reduceIte, Evk_some, Evh_some, Evn_some, Evr_v, Evr_n, mk_i, mk_r, mk_0, mk_n, mk_l, mc0, mc1, mc2, mc3, mc4, mi_obj, Bool.and_self, Bool.true_and, Nat.add_zero, Nat.zero_add, nI_add, pk_mul, pk_sub, Nat.add_sub_cancel, eq_self, if_true, if_false, n10, bI_t, bI_f, bI_0, Nat.reduceAdd, Nat.reduceMul, Nat.reduceSub, nI_eq, nI_ltI, nI_leI, Nat.reduceEqDiff, Nat.reduceLT, Nat.reduceDiv, Nat.reduceMod, Nat.reduceLeDiff, ci_Code, ci_Frame, ci_Task, ci_Segment, ci_Main, ci_Program, ci_Checker, ci_World, tkv_s, sgv_s, cdv_s, tkv_n, sgv_n, cdv_n, tkv_k, sgv_k, cdv_k, cg_World_taskCount, hN, kl_tfail ht]
set_option maxHeartbeats 8000000 in
theorem kl_fork {t n m s h p j a ln nb : Nat} {N' : cN} {J' : cJ} {P' : cP} (ht : t < n) (hn : n < 12) (hN : N 11 0 0 = nI n) (hm : N 12 0 0 = nI m) (hm2 : m + 1 < 23) (hs : P 4 t = some s) (hf : fat N P t j ln p) (h4 : N 4 j p = nI a) (hnb : nb ≤ 6) (hb : N 0 0 0 = nI nb) (ha : a < nb) (hh : N 20 t 0 = nI (h + 1)) (h7 : h < 7)
    (htd : Cl 63 [.ref 36] (cpic b (fkN N t n m h p) (fkJ J t n h) (fkP P t n m s a)) nx = some ((cpic b N' J' P', nx, 0, 0), .inl none)) : Cl 56 [.ref 36, .ref (43 + 5 * t)] (cpic b N J P) nx = some ((cpic b N' J' P', nx, 0, 0), .inl none) := by
  refine Cl_of (x := mnI_X6_fork) rfl ?_
  show Ev 56 0 [some (.ref (36)), some (.ref (43 + 5 * t)), none, none] [] _ _
  obtain ⟨hf13, hj, hc, hl, hln, hpl, hp⟩ := hf
  have hcap := cap_le j
  have hn12 : ¬ 12 ≤ n := by omega
  have ht12 : t < 12 := by omega
  have htn : t ≠ n := by omega
  have e1 : up3 N 11 0 0 (nI (n + 1)) 12 0 0 = nI m := hm
  have k1 := kl_openSegment2 (b := b) (J := J) (P := P) (nx := nx) (o := some s) e1 (show m < 23 by omega) sgv_s
  have k2 := kl_tbegin2 (b := b) (N := osN (up3 N 11 0 0 (nI (n + 1))) m) (J := J) (P := upP P 6 m (some s)) (nx := nx) (s := m) (show n < 12 by omega) (o1 := some t) (o2 := some s) tkv_s sgv_s
  have k3 := kl_argument (b := b) (N := f3N N n m) (J := up3 J 3 n 0 0) (P := f3P P t n m s) (nx := nx) hf13 hj hc hl hln hpl (show p < 2 ^ 31 by omega)
  have e4 : f3N N n m 4 j p = nI a := h4
  rw [if_pos hp, e4] at k3
  have k4 := kl_blockAt (b := b) (N := f3N N n m) (J := up3 J 3 n 0 0) (P := f3P P t n m s) (nx := nx) (x := a) hnb hb ha
  have k5 := kl_pop (b := b) (N := f3N N n m) (J := up3 J 3 n 0 0) (P := f3P P t n m s) (nx := nx) hf13 hh h7
  have e5 : up3 J 3 n 0 0 0 t h = J 0 t h := rfl
  rw [e5] at k5
  have k6 := kl_fbegin2 (b := b) (N := up3 (f3N N n m) 20 t 0 (nI h)) (J := up3 J 3 n 0 0) (P := f3P P t n m s) (nx := nx) (f := n) (j := a) (show n < 13 by omega) (u := J 0 t h)
  have k7 := kl_openSegment2 (b := b) (N := fbN (up3 (f3N N n m) 20 t 0 (nI h)) n) (J := fbJ (up3 J 3 n 0 0) n (J 0 t h)) (P := upP (f3P P t n m s) 5 n (some a)) (nx := nx) (m := m + 1) (o := some s) rfl hm2 sgv_s
  have e8 : osN (fbN (up3 (f3N N n m) 20 t 0 (nI h)) n) (m + 1) 20 t 0 = nI h := by
    show up3 (up3 (up3 (f3N N n m) 20 t 0 (nI h)) 19 n 0 (nI 0)) 20 n 0 (nI 0) 20 t 0 = nI h
    rw [up3_n htn, up3_k (by decide), up3_s]
  have k8 := kl_push (b := b) (N := osN (fbN (up3 (f3N N n m) 20 t 0 (nI h)) n) (m + 1)) (J := fbJ (up3 J 3 n 0 0) n (J 0 t h)) (P := fkP P t n m s a) (nx := nx) hf13 e8 h7 (u := (nI n).toInt64)
  have e9 : up3 (osN (fbN (up3 (f3N N n m) 20 t 0 (nI h)) n) (m + 1)) 20 t 0 (nI (h + 1)) 19 t 0 = nI p := by
    show up3 (up3 (f3N N n m) 20 t 0 (nI h)) 19 n 0 (nI 0) 19 t 0 = nI p
    rw [up3_n htn, up3_k (by decide)]
    exact hpl
  have k9 := kl_moveOn (b := b) (N := up3 (osN (fbN (up3 (f3N N n m) 20 t 0 (nI h)) n) (m + 1)) 20 t 0 (nI (h + 1))) (J := fkJ J t n h) (P := fkP P t n m s a) (nx := nx) hf13 e9
  simp only [f3N, f3P, fkN, fkJ, fkP] at k3 k4 k5 k6 k7 k8 k9 htd
  simp (disch := first | omega | (simp only [cat_i, cat_r, ri_r, ri_0, tkv_r, sgv_r, cdv_r]; done)) only [eX6_fork_0, eX6_fork_1, eX6_fork_4, eX6_fork_6, eX6_fork_9, eX6_fork_9n, eX6_fork_9t, eX6_fork_9s, eX6_fork_9c, eX6_fork_10, eX6_fork_11, eX6_fork_14, eX6_fork_15, eX6_fork_16, eX6_fork_19, eX6_fork_20, eX6_fork_23, eX6_fork_24, eX6_fork_24n, eX6_fork_24t, eX6_fork_24s, eX6_fork_24c, eX6_fork_25, eX6_fork_26, eX6_fork_27, eX6_fork_30, eX6_fork_31, eX6_fork_32, eX6_fork_35, eX6_fork_35n, eX6_fork_35t, eX6_fork_35s, eX6_fork_35c, eX6_fork_36, eX6_fork_39, eX6_fork_39n, eX6_fork_39t, eX6_fork_39s, eX6_fork_39c, eX6_fork_40, eX6_fork_40n, eX6_fork_40t, eX6_fork_40s, eX6_fork_40c, eX6_fork_41, eX6_fork_41n, eX6_fork_41t, eX6_fork_41s, eX6_fork_41c, eX6_fork_42, eX6_fork_42n, eX6_fork_42t, eX6_fork_42s, eX6_fork_42c, eX6_fork_43, eX6_fork_44, eX6_fork_44n, eX6_fork_44t, eX6_fork_44s, eX6_fork_44c, eX6_fork_45, eX6_fork_48, eX6_fork_51, eX6_fork_51n, eX6_fork_51t, eX6_fork_51s, eX6_fork_51c, eX6_fork_52, eX6_fork_55, eX6_fork_56, eX6_fork_59, eX6_fork_59n, eX6_fork_59t, eX6_fork_59s, eX6_fork_59c, eX6_fork_60, eX6_fork_63, eX6_fork_66, eX6_fork_69, eX6_fork_69n, eX6_fork_69t, eX6_fork_69s, eX6_fork_69c, eX6_fork_70, eX6_fork_73, eX6_fork_76, eX6_fork_79, eX6_fork_79n, eX6_fork_79t, eX6_fork_79s, eX6_fork_79c, eX6_fork_80, eX6_fork_81, eX6_fork_81n, eX6_fork_81t, eX6_fork_81s, eX6_fork_81c, eX6_fork_82, eX6_fork_85, eX6_fork_88, eX6_fork_88n, eX6_fork_88t, eX6_fork_88s, eX6_fork_88c, eX6_fork_89, eX6_fork_92, eX6_fork_92n, eX6_fork_92t, eX6_fork_92s, eX6_fork_92c, eX6_fork_93, eX6_fork_96, eX6_fork_97, eX6_fork_100, eX6_fork_100n, eX6_fork_100t, eX6_fork_100s, eX6_fork_100c, eX6_fork_101, eX6_fork_104, eX6_fork_107, eX6_fork_108, eX6_fork_111, ↓reduceIte, Evk_some, Evh_some, Evn_some, Evr_v, Evr_n, mk_i, mk_r, mk_0, mk_n, mk_l, mc0, mc1, mc2, mc3, mc4, mi_obj, Bool.and_self, Bool.true_and, Nat.add_zero, Nat.zero_add, nI_add, pk_mul, pk_sub, Nat.add_sub_cancel, eq_self, if_true, if_false, n10, bI_t, bI_f, bI_0, Nat.reduceAdd, Nat.reduceMul, Nat.reduceSub, nI_eq, nI_ltI, nI_leI, Nat.reduceEqDiff, Nat.reduceLT, Nat.reduceDiv, Nat.reduceMod, Nat.reduceLeDiff, ci_Code, ci_Frame, ci_Task, ci_Segment, ci_Main, ci_Program, ci_Checker, ci_World, tkv_s, sgv_s, cdv_s, tkv_n, sgv_n, cdv_n, tkv_k, sgv_k, cdv_k, cg_World_taskCount, hN, hn, hn12, cg_World_tasks, cq_tasks, cp_World_taskCount, cg_Task_segment, hs, k1, k2, cg_Task_frame, cg_World_program, k3, k4, k5, k6, k7, cp_Task_segment_r, cg_Task_number, k8, k9, htd]
end KH
