/-! the class: bringing cells, joining -/
section KI
variable {b : Nat → Option va_E} {N : cN} {J : cJ} {P : cP} {nx : Option Nat} {r : mn_Res}
theorem rdC_congr {N' : cN} {J' : cJ} {c : Nat} : ∀ (l : List Nat), (∀ s ∈ l, bt (N' 21 s 0) c = bt (N 21 s 0) c ∧ (bt (N 21 s 0) c = true → J' 4 s c = J 4 s c)) → rdC N' J' c l = rdC N J c l := by
  intro l
  induction l with
  | nil => intro _; rfl
  | cons s l ih =>
    intro h
    obtain ⟨h1, h2⟩ := h s List.mem_cons_self
    unfold rdC
    rw [h1, ih (fun x hx => h x (List.mem_cons_of_mem _ hx))]
    by_cases hb : bt (N 21 s 0) c = true
    · rw [if_pos hb, if_pos hb, h2 hb]
    · rw [if_neg hb, if_neg hb]
/-- what has been brought up to cell c, in the class -/
def brC (N N1 : cN) (J J1 : cJ) (P P1 : cP) (st w0 w1 cm br c : Nat) (v : Nat → Int64) : Prop :=
  (∀ k i, k ≠ 14 → ¬ (k = 21 ∧ i = st) → ¬ ((k = 19 ∨ k = 20) ∧ i = 12) → N1 k i = N k i) ∧ N1 14 0 0 = nI (br + cntB cm c) ∧ N1 21 st 0 = nI w1 ∧ w1 < 4096 ∧ (∀ d, w1.testBit d = (w0.testBit d || (decide (d < c) && cm.testBit d))) ∧ (∀ k i, ¬ (k = 4 ∧ i = st) → ¬ ((k = 0 ∨ k = 1) ∧ i = 12) → J1 k i = J k i) ∧ (∀ d, d < 12 → J1 4 st d = if d < c ∧ cm.testBit d = true then v d else J 4 st d) ∧ (∀ k i, ¬ (k = 5 ∧ i = 12) → P1 k i = P k i)
/-- what a brought cell gets, in the class -/
def vlC (N : cN) (c : Nat) (x y z v : Int64) : Prop := (∃ k, k < 3 ∧ N 5 0 c = nI k ∧ v = tog k x y z) ∨ (N 5 0 c = nI 3 ∧ ∃ m n fuel, m < 2 ∧ N 6 0 c = nI m ∧ N 2 (6 + m) 0 = nI n ∧ n ≤ cap (6 + m) ∧ 0 < n ∧ fwd N (6 + m) n ∧ mrn (N 3 (6 + m)) (N 4 (6 + m)) x y z fuel 0 [] = some v)
theorem ci_mg {q : Option Nat × Nat × Nat} : mn_isc (cpic b N J P, q) 40 2 = true := ci_Frame (i := 12) (by decide)
set_option maxHeartbeats 16000000 in
theorem kv_bring {t o st so sb w0 cm br : Nat} {v : Nat → Int64} {lb lt lo : List Nat} (ht : t < 12) (ho : o < 12) (hst : st < 23) (h4 : P 4 t = some st) (h4o : P 4 o = some so) (h3 : P 3 o = some sb) (hso : so < 23) (hsb : sb < 23) (hw0 : N 21 st 0 = nI w0) (hw02 : w0 < 4096) (hcm : cm < 4096)
    (cb : chn (P 6) (some sb) lb) (ct : chn (P 6) (some st) lt) (co : chn (P 6) (some so) lo) (hl : ∀ s, s ∈ lb ∨ s ∈ lt ∨ s ∈ lo → s < 23)
    (hV : ∀ c, c < 12 → cm.testBit c = true → vlC N c (rdC N J c lb) (rdC N J c lt) (rdC N J c lo) (v c)) :
    ∀ (j c : Nat), c + j = 12 → ∀ (N1 : cN) (J1 : cJ) (P1 : cP) (w1 : Nat) (c5 c6 c7 c8 c9 c10 c11 c12 : Option Value), brC N N1 J J1 P P1 st w0 w1 cm br c v →
      ∃ N' J' P' w', brC N N' J J' P P' st w0 w' cm br 12 v ∧ Ev 61 15 [some (.ref 36), some (.ref (43 + 5 * t)), some (.ref (43 + 5 * o)), some (.int (nI cm)), some (.int (nI c)), c5, c6, c7, c8, c9, c10, c11, c12] [] (cpic b N1 J1 P1, nx, 0, 0) ((cpic b N' J' P', nx, 0, 0), .inl none) := by
  intro j
  induction j with
  | zero =>
    intro c hc N1 J1 P1 w1 c5 c6 c7 c8 c9 c10 c11 c12 hi
    have hc : c = 12 := by omega
    subst hc
    refine ⟨N1, J1, P1, w1, hi, ?_⟩
    refine eX6_bringCells_15.mpr ?_
    simp (disch := first | omega | (simp only [cat_i, cat_r, ri_r, ri_0, tkv_r, sgv_r, cdv_r]; done)) only [eX6_bringCells_17, eX6_bringCells_19, eX6_bringCells_151, ↓reduceIte, Evk_some, Evh_some, Evn_some, Evr_v, Evr_n, mk_i, mk_r, mk_0, mk_n, mk_l, mc0, mc1, mc2, mc3, mc4, mi_obj, Bool.and_self, Bool.true_and, Nat.add_zero, Nat.zero_add, nI_add, pk_mul, pk_sub, Nat.add_sub_cancel, eq_self, if_true, if_false, n10, bI_t, bI_f, bI_0, Nat.reduceAdd, Nat.reduceMul, Nat.reduceSub, nI_eq, nI_ltI, nI_leI, Nat.reduceEqDiff, Nat.reduceLT, Nat.reduceDiv, Nat.reduceMod, Nat.reduceLeDiff, ci_Code, ci_Frame, ci_Task, ci_Segment, ci_Main, ci_Program, ci_Checker, ci_World, tkv_s, sgv_s, cdv_s, tkv_n, sgv_n, cdv_n, tkv_k, sgv_k, cdv_k]
  | succ j ih =>
    intro c hc N1 J1 P1 w1 c5 c6 c7 c8 c9 c10 c11 c12 hi
    have hi' := hi
    obtain ⟨i1, i2, i3, i4, i5, i6, i7, i8⟩ := hi
    have h12 : ¬ 12 ≤ c := by omega
    have hc12 : c < 12 := by omega
    have hb : bt (nI cm) c = cm.testBit c := bt_nI (by omega) (by omega)
    cases hbit : cm.testBit c with
    | false =>
      rw [hbit] at hb
      obtain ⟨N', J', P', w', q1, q2⟩ := ih (c + 1) (by omega) N1 J1 P1 w1 c5 c6 c7 c8 c9 c10 c11 c12 ⟨i1, by rw [cntB_succ, hbit]; exact i2, i3, i4, fun d => by
        rw [i5 d]
        by_cases h : d = c
        · subst h; simp [hbit]
        · have : decide (d < c + 1) = decide (d < c) := by
            by_cases h2 : d < c
            · simp [h2]; omega
            · simp [h2]; omega
          rw [this], i6, fun d hd => by
        rw [i7 d hd]
        by_cases h : d = c
        · subst h; simp [hbit]
        · have : (d < c + 1 ∧ cm.testBit d = true) ↔ (d < c ∧ cm.testBit d = true) := by
            constructor
            · rintro ⟨a, e⟩; exact ⟨by omega, e⟩
            · rintro ⟨a, e⟩; exact ⟨by omega, e⟩
          simp only [this], i8⟩
      refine ⟨N', J', P', w', q1, ?_⟩
      refine eX6_bringCells_15.mpr ?_
      simp (disch := first | omega | (simp only [cat_i, cat_r, ri_r, ri_0, tkv_r, sgv_r, cdv_r]; done)) only [eX6_bringCells_17, eX6_bringCells_19, eX6_bringCells_22, eX6_bringCells_23, eX6_bringCells_25, eX6_bringCells_26, eX6_bringCells_27, eX6_bringCells_28, eX6_bringCells_31, eX6_bringCells_31n, eX6_bringCells_31t, eX6_bringCells_31s, eX6_bringCells_31c, eX6_bringCells_32, eX6_bringCells_35, eX6_bringCells_37, eX6_bringCells_40, eX6_bringCells_42, eX6_bringCells_42n, eX6_bringCells_42t, eX6_bringCells_42s, eX6_bringCells_42c, eX6_bringCells_43, eX6_bringCells_46, eX6_bringCells_48, eX6_bringCells_51, eX6_bringCells_53, eX6_bringCells_53n, eX6_bringCells_53t, eX6_bringCells_53s, eX6_bringCells_53c, eX6_bringCells_54, eX6_bringCells_57, eX6_bringCells_59, eX6_bringCells_62, eX6_bringCells_64, eX6_bringCells_65, eX6_bringCells_68, eX6_bringCells_71, eX6_bringCells_73, eX6_bringCells_74, eX6_bringCells_75, eX6_bringCells_78, eX6_bringCells_79, eX6_bringCells_82, eX6_bringCells_83, eX6_bringCells_86, eX6_bringCells_88, eX6_bringCells_91, eX6_bringCells_93, eX6_bringCells_95, eX6_bringCells_97, eX6_bringCells_100, eX6_bringCells_103, eX6_bringCells_104, eX6_bringCells_107, eX6_bringCells_110, eX6_bringCells_112, eX6_bringCells_113, eX6_bringCells_115, eX6_bringCells_117, eX6_bringCells_119, eX6_bringCells_122, eX6_bringCells_124, eX6_bringCells_124n, eX6_bringCells_124t, eX6_bringCells_124s, eX6_bringCells_124c, eX6_bringCells_125, eX6_bringCells_128, eX6_bringCells_130, eX6_bringCells_132, eX6_bringCells_135, eX6_bringCells_136, eX6_bringCells_137, eX6_bringCells_140, eX6_bringCells_141, eX6_bringCells_142, eX6_bringCells_145, eX6_bringCells_148, ↓reduceIte, Evk_some, Evh_some, Evn_some, Evr_v, Evr_n, mk_i, mk_r, mk_0, mk_n, mk_l, mc0, mc1, mc2, mc3, mc4, mi_obj, Bool.and_self, Bool.true_and, Nat.add_zero, Nat.zero_add, nI_add, pk_mul, pk_sub, Nat.add_sub_cancel, eq_self, if_true, if_false, n10, bI_t, bI_f, bI_0, Nat.reduceAdd, Nat.reduceMul, Nat.reduceSub, nI_eq, nI_ltI, nI_leI, Nat.reduceEqDiff, Nat.reduceLT, Nat.reduceDiv, Nat.reduceMod, Nat.reduceLeDiff, ci_Code, ci_Frame, ci_Task, ci_Segment, ci_Main, ci_Program, ci_Checker, ci_World, tkv_s, sgv_s, cdv_s, tkv_n, sgv_n, cdv_n, tkv_k, sgv_k, cdv_k, h12, bt_0, hb]
      exact q2
    | true =>
      rw [hbit] at hb
      have p6 : P1 6 = P 6 := funext fun i => i8 6 i (by omega)
      have cg : ∀ s, bt (N1 21 s 0) c = bt (N 21 s 0) c ∧ (bt (N 21 s 0) c = true → J1 4 s c = J 4 s c) := by
        intro s
        by_cases hs : s = st
        · subst hs
          rw [i3, hw0, bt_nI (by omega) (by omega), bt_nI (by omega) (by omega), i5 c]
          refine ⟨by simp, fun _ => ?_⟩
          rw [i7 c hc12, if_neg (fun q => absurd q.1 (Nat.lt_irrefl _))]
        · rw [i1 21 s (by decide) (by omega) (by omega), i6 4 s (by omega) (by omega)]
          exact ⟨rfl, fun _ => rfl⟩
      have lk : ∀ (s : Nat) (l : List Nat), chn (P 6) (some s) l → (∀ x ∈ l, x < 23) → Cl 36 [.ref (103 + 2 * s), .int (nI c)] (cpic b N1 J1 P1) nx = some ((cpic b N1 J1 P1, nx, 0, 0), .inl (some (.long (rdC N J c l)))) := by
        intro s l h1 h2
        rw [kl_lookUp hc12 (P := P1) (by rw [p6]; exact h1) h2, rdC_congr l (fun x _ => cg x)]
      have l1 := lk sb lb cb (fun x hx => hl x (Or.inl hx))
      have l2 := lk st lt ct (fun x hx => hl x (Or.inr (Or.inl hx)))
      have l3 := lk so lo co (fun x hx => hl x (Or.inr (Or.inr hx)))
      have e4 : P1 4 t = some st := by rw [i8 4 t (by omega)]; exact h4
      have e4o : P1 4 o = some so := by rw [i8 4 o (by omega)]; exact h4o
      have e3 : P1 3 o = some sb := by rw [i8 3 o (by omega)]; exact h3
      -- what is common: once the value is there
      have fin : ∀ (N2 : cN) (J2 : cJ) (P2 : cP), frM N1 N2 J1 J2 P1 P2 →
          ∃ N' J' P' w', brC N N' J J' P P' st w0 w' cm br 12 v ∧ Ev 61 122 [some (.ref 36), some (.ref (43 + 5 * t)), some (.ref (43 + 5 * o)), some (.int (nI cm)), some (.int (nI c)), some (.long (rdC N J c lb)), none, some (.long (rdC N J c lt)), none, some (.long (rdC N J c lo)), none, c11, c12] [.long (v c)] (cpic b N2 J2 P2, nx, 0, 0) ((cpic b N' J' P', nx, 0, 0), .inl none) := by
        intro N2 J2 P2 hfr
        obtain ⟨f1, f2, f3⟩ := hfr
        have n21 : ∀ i, N2 21 i = N1 21 i := fun i => f1 21 i (by omega)
        have hw2 : w1 ||| 2 ^ c < 4096 := Nat.or_lt_two_pow (n := 12) i4 (Nat.pow_lt_pow_right (by decide) hc12)
        have x4 : P2 4 t = some st := by rw [f3 4 t (by omega)]; exact e4
        have xw : N2 21 st 0 = nI w1 := by rw [n21]; exact i3
        have xb : N2 14 0 0 = nI (br + cntB cm c) := by rw [f1 14 0 (by omega)]; exact i2
        obtain ⟨N', J', P', w', q1, q2⟩ := ih (c + 1) (by omega) (up3 (up3 N2 21 st 0 (nI (w1 ||| 2 ^ c))) 14 0 0 (nI (br + cntB cm c + 1))) (up3 J2 4 st c (v c)) P2 (w1 ||| 2 ^ c) (some (.long (rdC N J c lb))) none (some (.long (rdC N J c lt))) none (some (.long (rdC N J c lo))) none (some (.long (v c))) none ⟨fun k i a1 a2 a3 => by
            rw [up3_k a1, up3_q a2, f1 k i a3]
            exact i1 k i a1 a2 a3, by rw [up3_s, cntB_succ, hbit]; rfl, by rw [up3_k (by decide)]; exact up3_s, hw2, fun d => by
            rw [Nat.testBit_or, Nat.testBit_two_pow, i5 d]
            by_cases h : c = d
            · subst h; simp [hbit]
            · have : decide (d < c + 1) = decide (d < c) := by
                by_cases h2 : d < c
                · simp [h2]; omega
                · simp [h2]; omega
              rw [this]; simp [h], fun k i a1 a2 => by
            rw [up3_q a1, f2 k i a2]
            exact i6 k i a1 a2, fun d hd => by
            by_cases h : d = c
            · subst h
              rw [up3_s, if_pos ⟨by omega, hbit⟩]
            · rw [up3_p h, f2 4 st (by omega), i7 d hd]
              have : (d < c + 1 ∧ cm.testBit d = true) ↔ (d < c ∧ cm.testBit d = true) := by
                constructor
                · rintro ⟨a, e⟩; exact ⟨by omega, e⟩
                · rintro ⟨a, e⟩; exact ⟨by omega, e⟩
              simp only [this], fun k i a1 => by rw [f3 k i a1]; exact i8 k i a1⟩
        refine ⟨N', J', P', w', q1, ?_⟩
        have xb2 : up3 N2 21 st 0 (nI (w1 ||| 2 ^ c)) 14 0 0 = nI (br + cntB cm c) := xb
        simp (disch := first | omega | (simp only [cat_i, cat_r, ri_r, ri_0, tkv_r, sgv_r, cdv_r]; done)) only [eX6_bringCells_122, eX6_bringCells_124, eX6_bringCells_124n, eX6_bringCells_124t, eX6_bringCells_124s, eX6_bringCells_124c, eX6_bringCells_125, eX6_bringCells_128, eX6_bringCells_130, eX6_bringCells_132, eX6_bringCells_135, eX6_bringCells_136, eX6_bringCells_137, eX6_bringCells_140, eX6_bringCells_141, eX6_bringCells_142, eX6_bringCells_145, eX6_bringCells_148, ↓reduceIte, Evk_some, Evh_some, Evn_some, Evr_v, Evr_n, mk_i, mk_r, mk_0, mk_n, mk_l, mc0, mc1, mc2, mc3, mc4, mi_obj, Bool.and_self, Bool.true_and, Nat.add_zero, Nat.zero_add, nI_add, pk_mul, pk_sub, Nat.add_sub_cancel, eq_self, if_true, if_false, n10, bI_t, bI_f, bI_0, Nat.reduceAdd, Nat.reduceMul, Nat.reduceSub, nI_eq, nI_ltI, nI_leI, Nat.reduceEqDiff, Nat.reduceLT, Nat.reduceDiv, Nat.reduceMod, Nat.reduceLeDiff, ci_Code, ci_Frame, ci_Task, ci_Segment, ci_Main, ci_Program, ci_Checker, ci_World, tkv_s, sgv_s, cdv_s, tkv_n, sgv_n, cdv_n, tkv_k, sgv_k, cdv_k, cg_Task_segment, x4, kl_put hst hc12 xw i4, cg_World_brought, xb2, cp_World_brought]
        exact q2
      rcases hV c hc12 hbit with ⟨k, hk, hk5, hv⟩ | ⟨hk5, m, n, fuel, m1, m2, m3, m4, m5, m6, m7⟩
      · have e5 : N1 5 0 c = nI k := by rw [i1 5 0 (by omega) (by omega) (by omega)]; exact hk5
        have hk3 : ¬ k = 3 := by omega
        obtain ⟨N', J', P', w', q1, q2⟩ := fin N1 J1 P1 frM.refl
        refine ⟨N', J', P', w', q1, ?_⟩
        rw [hv] at q2
        refine eX6_bringCells_15.mpr ?_
        simp (disch := first | omega | (simp only [cat_i, cat_r, ri_r, ri_0, tkv_r, sgv_r, cdv_r]; done)) only [eX6_bringCells_17, eX6_bringCells_19, eX6_bringCells_22, eX6_bringCells_23, eX6_bringCells_25, eX6_bringCells_26, eX6_bringCells_27, eX6_bringCells_28, eX6_bringCells_31, eX6_bringCells_31n, eX6_bringCells_31t, eX6_bringCells_31s, eX6_bringCells_31c, eX6_bringCells_32, eX6_bringCells_35, eX6_bringCells_37, eX6_bringCells_40, eX6_bringCells_42, eX6_bringCells_42n, eX6_bringCells_42t, eX6_bringCells_42s, eX6_bringCells_42c, eX6_bringCells_43, eX6_bringCells_46, eX6_bringCells_48, eX6_bringCells_51, eX6_bringCells_53, eX6_bringCells_53n, eX6_bringCells_53t, eX6_bringCells_53s, eX6_bringCells_53c, eX6_bringCells_54, eX6_bringCells_57, eX6_bringCells_59, eX6_bringCells_62, eX6_bringCells_64, eX6_bringCells_65, eX6_bringCells_68, eX6_bringCells_71, eX6_bringCells_73, eX6_bringCells_74, eX6_bringCells_75, eX6_bringCells_78, eX6_bringCells_79, eX6_bringCells_82, eX6_bringCells_83, eX6_bringCells_86, eX6_bringCells_88, eX6_bringCells_91, eX6_bringCells_93, eX6_bringCells_95, eX6_bringCells_97, eX6_bringCells_100, eX6_bringCells_103, eX6_bringCells_104, eX6_bringCells_107, eX6_bringCells_110, eX6_bringCells_112, eX6_bringCells_113, eX6_bringCells_115, eX6_bringCells_117, eX6_bringCells_119, ↓reduceIte, Evk_some, Evh_some, Evn_some, Evr_v, Evr_n, mk_i, mk_r, mk_0, mk_n, mk_l, mc0, mc1, mc2, mc3, mc4, mi_obj, Bool.and_self, Bool.true_and, Nat.add_zero, Nat.zero_add, nI_add, pk_mul, pk_sub, Nat.add_sub_cancel, eq_self, if_true, if_false, n10, bI_t, bI_f, bI_0, Nat.reduceAdd, Nat.reduceMul, Nat.reduceSub, nI_eq, nI_ltI, nI_leI, Nat.reduceEqDiff, Nat.reduceLT, Nat.reduceDiv, Nat.reduceMod, Nat.reduceLeDiff, ci_Code, ci_Frame, ci_Task, ci_Segment, ci_Main, ci_Program, ci_Checker, ci_World, tkv_s, sgv_s, cdv_s, tkv_n, sgv_n, cdv_n, tkv_k, sgv_k, cdv_k, h12, bt_0, hb, Bool.true_eq_false, cg_Task_forkedIn, cg_Task_segment, e4, e4o, e3, l1, l2, l3, cg_World_program, cg_Program_kinds, ca_kinds, e5, hk3, kl_together hk]
        exact q2
      · have e5 : N1 5 0 c = nI 3 := by rw [i1 5 0 (by omega) (by omega) (by omega)]; exact hk5
        have e6 : N1 6 0 c = nI m := by rw [i1 6 0 (by omega) (by omega) (by omega)]; exact m2
        have n2 : N1 2 (6 + m) = N 2 (6 + m) := i1 2 (6 + m) (by omega) (by omega) (by omega)
        have n3 : N1 3 (6 + m) = N 3 (6 + m) := i1 3 (6 + m) (by omega) (by omega) (by omega)
        have n4 : N1 4 (6 + m) = N 4 (6 + m) := i1 4 (6 + m) (by omega) (by omega) (by omega)
        obtain ⟨N2, J2, P2, g1, g2⟩ := kl_outcome (b := b) (N := N1) (J := J1) (P := P1) (nx := nx) (j := 6 + m) (n := n) (by omega) (by rw [n2]; exact m3) m4 m5 (by unfold fwd; rw [n3, n4]; exact m6) (by rw [n3, n4]; exact m7)
        have g2 : Cl 21 [.ref 40, .ref (12 + 3 * (6 + m)), .long (rdC N J c lb), .long (rdC N J c lt), .long (rdC N J c lo)] (cpic b N1 J1 P1) nx = some ((cpic b N2 J2 P2, nx, 0, 0), .inl (some (.long (v c)))) := g2
        obtain ⟨N', J', P', w', q1, q2⟩ := fin N2 J2 P2 g1
        refine ⟨N', J', P', w', q1, ?_⟩
        refine eX6_bringCells_15.mpr ?_
        simp (disch := first | omega | (simp only [cat_i, cat_r, ri_r, ri_0, tkv_r, sgv_r, cdv_r]; done)) only [eX6_bringCells_17, eX6_bringCells_19, eX6_bringCells_22, eX6_bringCells_23, eX6_bringCells_25, eX6_bringCells_26, eX6_bringCells_27, eX6_bringCells_28, eX6_bringCells_31, eX6_bringCells_31n, eX6_bringCells_31t, eX6_bringCells_31s, eX6_bringCells_31c, eX6_bringCells_32, eX6_bringCells_35, eX6_bringCells_37, eX6_bringCells_40, eX6_bringCells_42, eX6_bringCells_42n, eX6_bringCells_42t, eX6_bringCells_42s, eX6_bringCells_42c, eX6_bringCells_43, eX6_bringCells_46, eX6_bringCells_48, eX6_bringCells_51, eX6_bringCells_53, eX6_bringCells_53n, eX6_bringCells_53t, eX6_bringCells_53s, eX6_bringCells_53c, eX6_bringCells_54, eX6_bringCells_57, eX6_bringCells_59, eX6_bringCells_62, eX6_bringCells_64, eX6_bringCells_65, eX6_bringCells_68, eX6_bringCells_71, eX6_bringCells_73, eX6_bringCells_74, eX6_bringCells_75, eX6_bringCells_78, eX6_bringCells_79, eX6_bringCells_82, eX6_bringCells_83, eX6_bringCells_86, eX6_bringCells_88, eX6_bringCells_91, eX6_bringCells_93, eX6_bringCells_95, eX6_bringCells_97, eX6_bringCells_100, eX6_bringCells_103, eX6_bringCells_104, eX6_bringCells_107, eX6_bringCells_110, eX6_bringCells_112, eX6_bringCells_113, eX6_bringCells_115, eX6_bringCells_117, eX6_bringCells_119, ↓reduceIte, Evk_some, Evh_some, Evn_some, Evr_v, Evr_n, mk_i, mk_r, mk_0, mk_n, mk_l, mc0, mc1, mc2, mc3, mc4, mi_obj, Bool.and_self, Bool.true_and, Nat.add_zero, Nat.zero_add, nI_add, pk_mul, pk_sub, Nat.add_sub_cancel, eq_self, if_true, if_false, n10, bI_t, bI_f, bI_0, Nat.reduceAdd, Nat.reduceMul, Nat.reduceSub, nI_eq, nI_ltI, nI_leI, Nat.reduceEqDiff, Nat.reduceLT, Nat.reduceDiv, Nat.reduceMod, Nat.reduceLeDiff, ci_Code, ci_Frame, ci_Task, ci_Segment, ci_Main, ci_Program, ci_Checker, ci_World, tkv_s, sgv_s, cdv_s, tkv_n, sgv_n, cdv_n, tkv_k, sgv_k, cdv_k, ci_mg, h12, bt_0, hb, Bool.true_eq_false, cg_Task_forkedIn, cg_Task_segment, e4, e4o, e3, l1, l2, l3, cg_World_program, cg_World_merger, cg_Program_kinds, ca_kinds, e5, kl_mergeOf hc12 e6 m1, g2]
        exact q2
theorem orL_lt {w : Nat → Nat} : ∀ (l : List Nat) (m : Nat), m < 4096 → (∀ s ∈ l, w s < 4096) → orL w l m < 4096 := by
  intro l
  induction l with
  | nil => intro m hm _; exact hm
  | cons s l ih => intro m hm h; exact ih _ (orN hm (h s List.mem_cons_self)).2 (fun x hx => h x (List.mem_cons_of_mem _ hx))
theorem kl_bringCells {t o st so sb w0 br : Nat} {w : Nat → Nat} {v : Nat → Int64} {lb lt lo lp : List Nat} (ht : t < 12) (ho : o < 12) (hst : st < 23) (h4 : P 4 t = some st) (h4o : P 4 o = some so) (h3 : P 3 o = some sb) (hso : so < 23) (hsb : sb < 23) (hw0 : N 21 st 0 = nI w0) (hw02 : w0 < 4096) (hbr : N 14 0 0 = nI br)
    (hp : pth (P 6) (some so) lp (some sb)) (hpl : ∀ s ∈ lp, s < 23 ∧ N 21 s 0 = nI (w s) ∧ w s < 4096)
    (cb : chn (P 6) (some sb) lb) (ct : chn (P 6) (some st) lt) (co : chn (P 6) (some so) lo) (hl : ∀ s, s ∈ lb ∨ s ∈ lt ∨ s ∈ lo → s < 23)
    (hV : ∀ c, c < 12 → (orL w lp 0).testBit c = true → vlC N c (rdC N J c lb) (rdC N J c lt) (rdC N J c lo) (v c)) :
    ∃ N' J' P' w', brC N N' J J' P P' st w0 w' (orL w lp 0) br 12 v ∧ Cl 61 [.ref 36, .ref (43 + 5 * t), .ref (43 + 5 * o)] (cpic b N J P) nx = some ((cpic b N' J' P', nx, 0, 0), .inl none) := by
  have hcm := orL_lt (w := w) lp 0 (by decide) (fun s hs => (hpl s hs).2.2)
  obtain ⟨N', J', P', w', q1, q2⟩ := kv_bring (b := b) (nx := nx) (br := br) ht ho hst h4 h4o h3 hso hsb hw0 hw02 hcm cb ct co hl hV 12 0 (by omega) N J P w0 none none none none none none none none ⟨fun _ _ _ _ _ => rfl, by rw [hbr]; rfl, hw0, hw02, fun d => by simp, fun _ _ _ _ => rfl, fun d hd => by rw [if_neg (by omega)], fun _ _ _ => rfl⟩
  refine ⟨N', J', P', w', q1, Cl_of (x := mnI_X6_bringCells) rfl ?_⟩
  show Ev 61 0 [some (.ref (36)), some (.ref (43 + 5 * t)), some (.ref (43 + 5 * o)), none, none, none, none, none, none, none, none, none, none] [] _ _
  simp (disch := first | omega | (simp only [cat_i, cat_r, ri_r, ri_0, tkv_r, sgv_r, cdv_r]; done)) only [eX6_bringCells_0, eX6_bringCells_0n, eX6_bringCells_0t, eX6_bringCells_0s, eX6_bringCells_0c, eX6_bringCells_1, eX6_bringCells_4, eX6_bringCells_4n, eX6_bringCells_4t, eX6_bringCells_4s, eX6_bringCells_4c, eX6_bringCells_5, eX6_bringCells_8, eX6_bringCells_11, eX6_bringCells_12, eX6_bringCells_13, ↓reduceIte, Evk_some, Evh_some, Evn_some, Evr_v, Evr_n, mk_i, mk_r, mk_0, mk_n, mk_l, mc0, mc1, mc2, mc3, mc4, mi_obj, Bool.and_self, Bool.true_and, Nat.add_zero, Nat.zero_add, nI_add, pk_mul, pk_sub, Nat.add_sub_cancel, eq_self, if_true, if_false, n10, bI_t, bI_f, bI_0, Nat.reduceAdd, Nat.reduceMul, Nat.reduceSub, nI_eq, nI_ltI, nI_leI, Nat.reduceEqDiff, Nat.reduceLT, Nat.reduceDiv, Nat.reduceMod, Nat.reduceLeDiff, ci_Code, ci_Frame, ci_Task, ci_Segment, ci_Main, ci_Program, ci_Checker, ci_World, tkv_s, sgv_s, cdv_s, tkv_n, sgv_n, cdv_n, tkv_k, sgv_k, cdv_k, cg_Task_segment, cg_Task_forkedIn, h4o, h3, kl_writtenAbove hp hpl]
  exact q2
/-- prints of o put behind those of t -/
def ptJ (J : cJ) (t o nt k : Nat) : cJ := fun q i p => if q = 2 ∧ i = t ∧ nt ≤ p ∧ p < nt + k then J 2 o (p - nt) else J q i p
theorem ptJ_0 {t o nt : Nat} : ptJ J t o nt 0 = J := by
  funext q i p
  unfold ptJ
  rw [if_neg (by omega)]
theorem ptJ_s {t o nt k : Nat} : up3 (ptJ J t o nt k) 2 t (nt + k) (J 2 o k) = ptJ J t o nt (k + 1) := by
  funext q i p
  unfold up3 ptJ
  by_cases h1 : q = 2
  · subst h1
    by_cases h2 : i = t
    · subst h2
      by_cases h3 : p = nt + k
      · subst h3
        have e : nt + k - nt = k := by omega
        simp [e]
      · have : (nt ≤ p ∧ p < nt + k) ↔ (nt ≤ p ∧ p < nt + (k + 1)) := by omega
        simp [h3, this]
    · simp [h2]
  · simp [h1]
theorem up3_2 {α : Type} {N : Nat → Nat → Nat → α} {k i p : Nat} {x y : α} : up3 (up3 N k i p x) k i p y = up3 N k i p y := by
  funext k' i' p'
  unfold up3
  by_cases h1 : k' = k <;> by_cases h2 : i' = i <;> by_cases h3 : p' = p <;> simp [h1, h2, h3]
theorem up3_id {α : Type} {N : Nat → Nat → Nat → α} {k i p : Nat} {x : α} (h : N k i p = x) : up3 N k i p x = N := by
  subst h
  funext k' i' p'
  unfold up3
  by_cases h1 : k' = k
  · subst h1
    by_cases h2 : i' = i
    · subst h2
      by_cases h3 : p' = p
      · subst h3; simp
      · simp [h3]
    · simp [h2]
  · simp [h1]
set_option maxHeartbeats 4000000 in
theorem kv_prints {t o nt no : Nat} {c2 : Option Value} (ht : t < 12) (ho : o < 12) (hto : t ≠ o) (h2 : N 15 o 0 = nI no) (h30 : nt + no ≤ 30) : ∀ (j k : Nat), k + j = no → ∀ r : mn_Res, Ev 57 41 [some (.ref 36), some (.ref (43 + 5 * t)), c2, some (.ref (43 + 5 * o)), some (.int (nI k))] [] (cpic b (up3 N 15 t 0 (nI (nt + k))) (ptJ J t o nt k) P, nx, 0, 0) r ↔ Ev 57 67 [some (.ref 36), some (.ref (43 + 5 * t)), c2, some (.ref (43 + 5 * o)), some (.int (nI no))] [] (cpic b (up3 N 15 t 0 (nI (nt + no))) (ptJ J t o nt no) P, nx, 0, 0) r := by
  intro j
  induction j with
  | zero =>
    intro k hk r
    have hk : k = no := by omega
    subst hk
    have e : up3 N 15 t 0 (nI (nt + k)) 15 o 0 = nI k := by rw [up3_n (Ne.symm hto)]; exact h2
    refine eX6_join_41.trans ?_
    simp (disch := first | omega | (simp only [cat_i, cat_r, ri_r, ri_0, tkv_r, sgv_r, cdv_r]; done)) only [eX6_join_43, eX6_join_43n, eX6_join_43t, eX6_join_43s, eX6_join_43c, eX6_join_44, eX6_join_47, ↓reduceIte, Evk_some, Evh_some, Evn_some, Evr_v, Evr_n, mk_i, mk_r, mk_0, mk_n, mk_l, mc0, mc1, mc2, mc3, mc4, mi_obj, Bool.and_self, Bool.true_and, Nat.add_zero, Nat.zero_add, nI_add, pk_mul, pk_sub, Nat.add_sub_cancel, eq_self, if_true, if_false, n10, bI_t, bI_f, bI_0, Nat.reduceAdd, Nat.reduceMul, Nat.reduceSub, nI_eq, nI_ltI, nI_leI, Nat.reduceEqDiff, Nat.reduceLT, Nat.reduceDiv, Nat.reduceMod, Nat.reduceLeDiff, ci_Code, ci_Frame, ci_Task, ci_Segment, ci_Main, ci_Program, ci_Checker, ci_World, tkv_s, sgv_s, cdv_s, tkv_n, sgv_n, cdv_n, tkv_k, sgv_k, cdv_k, cg_Task_printCount, e, Nat.le_refl]
  | succ j ih =>
    intro k hk r
    refine Iff.trans ?_ (ih (k + 1) (by omega) r)
    have e : up3 N 15 t 0 (nI (nt + k)) 15 o 0 = nI no := by rw [up3_n (Ne.symm hto)]; exact h2
    have h3 : ¬ no ≤ k := by omega
    have ka := kl_appendPrint (b := b) (N := up3 N 15 t 0 (nI (nt + k))) (J := ptJ J t o nt k) (P := P) (nx := nx) (n := nt + k) ht up3_s (by omega) (u := J 2 o k)
    rw [up3_2, ptJ_s] at ka
    have ev : ptJ J t o nt k 2 o k = J 2 o k := by
      unfold ptJ
      rw [if_neg (fun q => hto q.2.1.symm)]
    refine eX6_join_41.trans ?_
    simp (disch := first | omega | (simp only [cat_i, cat_r, ri_r, ri_0, tkv_r, sgv_r, cdv_r]; done)) only [eX6_join_43, eX6_join_43n, eX6_join_43t, eX6_join_43s, eX6_join_43c, eX6_join_44, eX6_join_47, eX6_join_50, eX6_join_50n, eX6_join_50t, eX6_join_50s, eX6_join_50c, eX6_join_51, eX6_join_51n, eX6_join_51t, eX6_join_51s, eX6_join_51c, eX6_join_52, eX6_join_55, eX6_join_57, eX6_join_58, eX6_join_61, eX6_join_64, ↓reduceIte, Evk_some, Evh_some, Evn_some, Evr_v, Evr_n, mk_i, mk_r, mk_0, mk_n, mk_l, mc0, mc1, mc2, mc3, mc4, mi_obj, Bool.and_self, Bool.true_and, Nat.add_zero, Nat.zero_add, nI_add, pk_mul, pk_sub, Nat.add_sub_cancel, eq_self, if_true, if_false, n10, bI_t, bI_f, bI_0, Nat.reduceAdd, Nat.reduceMul, Nat.reduceSub, nI_eq, nI_ltI, nI_leI, Nat.reduceEqDiff, Nat.reduceLT, Nat.reduceDiv, Nat.reduceMod, Nat.reduceLeDiff, ci_Code, ci_Frame, ci_Task, ci_Segment, ci_Main, ci_Program, ci_Checker, ci_World, tkv_s, sgv_s, cdv_s, tkv_n, sgv_n, cdv_n, tkv_k, sgv_k, cdv_k, cg_Task_printCount, cg_Task_prints, ca_prints, e, h3, ev, ka]
    rfl
def jnN (N : cN) (t o h p k : Nat) : cN := up3 (up3 (up3 (up3 (up3 N 15 t 0 (nI k)) 16 o 0 (nI 3)) 20 t 0 (nI h)) 20 t 0 (nI (h + 1))) 19 t 0 (nI (p + 1))
def jnJ (J : cJ) (t o h nt no : Nat) : cJ := up3 (ptJ J t o nt no) 0 t h (J 3 o 0)
set_option maxHeartbeats 4000000 in
theorem kl_join_w {t : Nat} (h : Cl 58 [.ref 36, .ref (43 + 5 * t)] (cpic b N J P) nx = some ((cpic b N J P, nx, 0, 0), .inl (some (.int (-1))))) : Cl 57 [.ref 36, .ref (43 + 5 * t)] (cpic b N J P) nx = some ((cpic b N J P, nx, 0, 0), .inl none) := by
  refine Cl_of (x := mnI_X6_join) rfl ?_
  show Ev 57 0 [some (.ref (36)), some (.ref (43 + 5 * t)), none, none, none] [] _ _
  simp (disch := first | omega | (simp only [cat_i, cat_r, ri_r, ri_0, tkv_r, sgv_r, cdv_r]; done)) only [eX6_join_0, eX6_join_1, eX6_join_1n, eX6_join_1t, eX6_join_1s, eX6_join_1c, eX6_join_2, eX6_join_5, eX6_join_6, eX6_join_7, eX6_join_8, eX6_join_11, eX6_join_12, eX6_join_13, eX6_join_13n, eX6_join_13t, eX6_join_13s, eX6_join_13c, eX6_join_14, eX6_join_17, eX6_join_17n, eX6_join_17t, eX6_join_17s, eX6_join_17c, eX6_join_18, eX6_join_19, eX6_join_22, eX6_join_22n, eX6_join_22t, eX6_join_22s, eX6_join_22c, eX6_join_23, eX6_join_23r, eX6_join_23n, eX6_join_26, eX6_join_26n, eX6_join_26t, eX6_join_26s, eX6_join_26c, eX6_join_27, eX6_join_28, eX6_join_31, eX6_join_32, eX6_join_33, eX6_join_33n, eX6_join_33t, eX6_join_33s, eX6_join_33c, eX6_join_34, eX6_join_34n, eX6_join_34t, eX6_join_34s, eX6_join_34c, eX6_join_35, eX6_join_38, eX6_join_39, eX6_join_41, eX6_join_43, eX6_join_43n, eX6_join_43t, eX6_join_43s, eX6_join_43c, eX6_join_44, eX6_join_47, eX6_join_50, eX6_join_50n, eX6_join_50t, eX6_join_50s, eX6_join_50c, eX6_join_51, eX6_join_51n, eX6_join_51t, eX6_join_51s, eX6_join_51c, eX6_join_52, eX6_join_55, eX6_join_57, eX6_join_58, eX6_join_61, eX6_join_64, eX6_join_67, eX6_join_67n, eX6_join_67t, eX6_join_67s, eX6_join_67c, eX6_join_68, eX6_join_69, eX6_join_72, eX6_join_72n, eX6_join_72t, eX6_join_72s, eX6_join_72c, eX6_join_73, eX6_join_73n, eX6_join_73t, eX6_join_73s, eX6_join_73c, eX6_join_74, eX6_join_77, eX6_join_77n, eX6_join_77t, eX6_join_77s, eX6_join_77c, eX6_join_78, eX6_join_81, eX6_join_84, eX6_join_85, eX6_join_85n, eX6_join_85t, eX6_join_85s, eX6_join_85c, eX6_join_86, eX6_join_89, eX6_join_89n, eX6_join_89t, eX6_join_89s, eX6_join_89c, eX6_join_90, eX6_join_93, eX6_join_96, eX6_join_96n, eX6_join_96t, eX6_join_96s, eX6_join_96c, eX6_join_97, eX6_join_100, eX6_join_103, eX6_join_104, eX6_join_107, ↓reduceIte, Evk_some, Evh_some, Evn_some, Evr_v, Evr_n, mk_i, mk_r, mk_0, mk_n, mk_l, mc0, mc1, mc2, mc3, mc4, mi_obj, Bool.and_self, Bool.true_and, Nat.add_zero, Nat.zero_add, nI_add, pk_mul, pk_sub, Nat.add_sub_cancel, eq_self, if_true, if_false, n10, bI_t, bI_f, bI_0, Nat.reduceAdd, Nat.reduceMul, Nat.reduceSub, nI_eq, nI_ltI, nI_leI, Nat.reduceEqDiff, Nat.reduceLT, Nat.reduceDiv, Nat.reduceMod, Nat.reduceLeDiff, ci_Code, ci_Frame, ci_Task, ci_Segment, ci_Main, ci_Program, ci_Checker, ci_World, tkv_s, sgv_s, cdv_s, tkv_n, sgv_n, cdv_n, tkv_k, sgv_k, cdv_k, h]
set_option maxHeartbeats 4000000 in
theorem kl_join_f {t : Nat} {x : Int32} {o : Option Nat} (ht : t < 12) (h : Cl 58 [.ref 36, .ref (43 + 5 * t)] (cpic b N J P) nx = some ((cpic b N J P, nx, 0, 0), .inl (some (.int x)))) (h2 : Cl 59 [.ref 36, .ref (43 + 5 * t)] (cpic b N J P) nx = some ((cpic b N J P, nx, 0, 0), .inl (some (tkv o)))) (h1 : x ≠ -1) (h0 : x ≠ nI 0) : Cl 57 [.ref 36, .ref (43 + 5 * t)] (cpic b N J P) nx = some ((cpic b (up3 (up3 N 17 t 0 x) 16 t 0 (nI 2)) J P, nx, 0, 0), .inl none) := by
  refine Cl_of (x := mnI_X6_join) rfl ?_
  show Ev 57 0 [some (.ref (36)), some (.ref (43 + 5 * t)), none, none, none] [] _ _
  simp (disch := first | omega | (simp only [cat_i, cat_r, ri_r, ri_0, tkv_r, sgv_r, cdv_r]; done)) only [eX6_join_0, eX6_join_1, eX6_join_1n, eX6_join_1t, eX6_join_1s, eX6_join_1c, eX6_join_2, eX6_join_5, eX6_join_6, eX6_join_7, eX6_join_8, eX6_join_11, eX6_join_12, eX6_join_13, eX6_join_13n, eX6_join_13t, eX6_join_13s, eX6_join_13c, eX6_join_14, eX6_join_17, eX6_join_17n, eX6_join_17t, eX6_join_17s, eX6_join_17c, eX6_join_18, eX6_join_19, eX6_join_22, eX6_join_22n, eX6_join_22t, eX6_join_22s, eX6_join_22c, eX6_join_23, eX6_join_23r, eX6_join_23n, eX6_join_26, eX6_join_26n, eX6_join_26t, eX6_join_26s, eX6_join_26c, eX6_join_27, eX6_join_28, eX6_join_31, eX6_join_32, eX6_join_33, eX6_join_33n, eX6_join_33t, eX6_join_33s, eX6_join_33c, eX6_join_34, eX6_join_34n, eX6_join_34t, eX6_join_34s, eX6_join_34c, eX6_join_35, eX6_join_38, eX6_join_39, eX6_join_41, eX6_join_43, eX6_join_43n, eX6_join_43t, eX6_join_43s, eX6_join_43c, eX6_join_44, eX6_join_47, eX6_join_50, eX6_join_50n, eX6_join_50t, eX6_join_50s, eX6_join_50c, eX6_join_51, eX6_join_51n, eX6_join_51t, eX6_join_51s, eX6_join_51c, eX6_join_52, eX6_join_55, eX6_join_57, eX6_join_58, eX6_join_61, eX6_join_64, eX6_join_67, eX6_join_67n, eX6_join_67t, eX6_join_67s, eX6_join_67c, eX6_join_68, eX6_join_69, eX6_join_72, eX6_join_72n, eX6_join_72t, eX6_join_72s, eX6_join_72c, eX6_join_73, eX6_join_73n, eX6_join_73t, eX6_join_73s, eX6_join_73c, eX6_join_74, eX6_join_77, eX6_join_77n, eX6_join_77t, eX6_join_77s, eX6_join_77c, eX6_join_78, eX6_join_81, eX6_join_84, eX6_join_85, eX6_join_85n, eX6_join_85t, eX6_join_85s, eX6_join_85c, eX6_join_86, eX6_join_89, eX6_join_89n, eX6_join_89t, eX6_join_89s, eX6_join_89c, eX6_join_90, eX6_join_93, eX6_join_96, eX6_join_96n, eX6_join_96t, eX6_join_96s, eX6_join_96c, eX6_join_97, eX6_join_100, eX6_join_103, eX6_join_104, eX6_join_107, ↓reduceIte, Evk_some, Evh_some, Evn_some, Evr_v, Evr_n, mk_i, mk_r, mk_0, mk_n, mk_l, mc0, mc1, mc2, mc3, mc4, mi_obj, Bool.and_self, Bool.true_and, Nat.add_zero, Nat.zero_add, nI_add, pk_mul, pk_sub, Nat.add_sub_cancel, eq_self, if_true, if_false, n10, bI_t, bI_f, bI_0, Nat.reduceAdd, Nat.reduceMul, Nat.reduceSub, nI_eq, nI_ltI, nI_leI, Nat.reduceEqDiff, Nat.reduceLT, Nat.reduceDiv, Nat.reduceMod, Nat.reduceLeDiff, ci_World, ci_Task, tkv_k, h, h1, h2, h0, kl_tfail ht]
set_option maxHeartbeats 8000000 in
theorem kl_join_b {t o h p nt no : Nat} {N1 N' : cN} {J1 J' : cJ} {P1 P' : cP} (ht : t < 12) (ho : o < 12) (hto : t ≠ o) (hh : Cl 58 [.ref 36, .ref (43 + 5 * t)] (cpic b N J P) nx = some ((cpic b N J P, nx, 0, 0), .inl (some (.int (nI 0))))) (h2 : Cl 59 [.ref 36, .ref (43 + 5 * t)] (cpic b N J P) nx = some ((cpic b N J P, nx, 0, 0), .inl (some (.ref (43 + 5 * o))))) (h3 : Cl 61 [.ref 36, .ref (43 + 5 * t), .ref (43 + 5 * o)] (cpic b N J P) nx = some ((cpic b N1 J1 P1, nx, 0, 0), .inl none))
    (e1 : N1 15 t 0 = nI nt) (e2 : N1 15 o 0 = nI no) (h30 : nt + no ≤ 30) (e3 : N1 20 t 0 = nI (h + 1)) (h7 : h < 7) (e4 : N1 19 t 0 = nI p)
    (hl : Cl 63 [.ref 36] (cpic b (jnN N1 t o h p (nt + no)) (jnJ J1 t o h nt no) (upP P1 2 o (some t))) nx = some ((cpic b N' J' P', nx, 0, 0), .inl none)) : Cl 57 [.ref 36, .ref (43 + 5 * t)] (cpic b N J P) nx = some ((cpic b N' J' P', nx, 0, 0), .inl none) := by
  refine Cl_of (x := mnI_X6_join) rfl ?_
  show Ev 57 0 [some (.ref (36)), some (.ref (43 + 5 * t)), none, none, none] [] _ _
  have m1 : ¬ nI 0 = (-1 : Int32) := by decide
  simp (disch := first | omega | (simp only [cat_i, cat_r, ri_r, ri_0, tkv_r, sgv_r, cdv_r]; done)) only [eX6_join_0, eX6_join_1, eX6_join_1n, eX6_join_1t, eX6_join_1s, eX6_join_1c, eX6_join_2, eX6_join_5, eX6_join_6, eX6_join_7, eX6_join_8, eX6_join_11, eX6_join_12, eX6_join_13, eX6_join_13n, eX6_join_13t, eX6_join_13s, eX6_join_13c, eX6_join_14, eX6_join_17, eX6_join_17n, eX6_join_17t, eX6_join_17s, eX6_join_17c, eX6_join_18, eX6_join_19, eX6_join_22, eX6_join_22n, eX6_join_22t, eX6_join_22s, eX6_join_22c, eX6_join_23, eX6_join_23r, eX6_join_23n, eX6_join_26, eX6_join_26n, eX6_join_26t, eX6_join_26s, eX6_join_26c, eX6_join_27, eX6_join_28, eX6_join_31, eX6_join_32, eX6_join_33, eX6_join_33n, eX6_join_33t, eX6_join_33s, eX6_join_33c, eX6_join_34, eX6_join_34n, eX6_join_34t, eX6_join_34s, eX6_join_34c, eX6_join_35, eX6_join_38, eX6_join_39, ↓reduceIte, Evk_some, Evh_some, Evn_some, Evr_v, Evr_n, mk_i, mk_r, mk_0, mk_n, mk_l, mc0, mc1, mc2, mc3, mc4, mi_obj, Bool.and_self, Bool.true_and, Nat.add_zero, Nat.zero_add, nI_add, pk_mul, pk_sub, Nat.add_sub_cancel, eq_self, if_true, if_false, n10, bI_t, bI_f, bI_0, Nat.reduceAdd, Nat.reduceMul, Nat.reduceSub, nI_eq, nI_ltI, nI_leI, Nat.reduceEqDiff, Nat.reduceLT, Nat.reduceDiv, Nat.reduceMod, Nat.reduceLeDiff, ci_Code, ci_Frame, ci_Task, ci_Segment, ci_Main, ci_Program, ci_Checker, ci_World, tkv_s, sgv_s, cdv_s, tkv_n, sgv_n, cdv_n, tkv_k, sgv_k, cdv_k, hh, m1, h2, h3]
  have kp := kv_prints (b := b) (N := N1) (J := J1) (P := P1) (nx := nx) (c2 := some (.int (nI 0))) ht ho hto e2 h30 no 0 (by omega) ((cpic b N' J' P', nx, 0, 0), .inl none)
  rw [Nat.add_zero, up3_id e1, ptJ_0] at kp
  refine kp.mpr ?_
  have q1 := kl_pop (b := b) (N := up3 (up3 N1 15 t 0 (nI (nt + no))) 16 o 0 (nI 3)) (J := ptJ J1 t o nt no) (P := upP P1 2 o (some t)) (nx := nx) (show t < 13 by omega) e3 h7
  have er : ptJ J1 t o nt no 3 o 0 = J1 3 o 0 := by
    unfold ptJ
    rw [if_neg (fun q => absurd q.1 (by decide))]
  have q2 := kl_push (b := b) (N := up3 (up3 (up3 N1 15 t 0 (nI (nt + no))) 16 o 0 (nI 3)) 20 t 0 (nI h)) (J := ptJ J1 t o nt no) (P := upP P1 2 o (some t)) (nx := nx) (show t < 13 by omega) up3_s h7 (u := J1 3 o 0)
  have q3 := kl_moveOn (b := b) (N := up3 (up3 (up3 (up3 N1 15 t 0 (nI (nt + no))) 16 o 0 (nI 3)) 20 t 0 (nI h)) 20 t 0 (nI (h + 1))) (J := up3 (ptJ J1 t o nt no) 0 t h (J1 3 o 0)) (P := upP P1 2 o (some t)) (nx := nx) (show t < 13 by omega) e4
  simp only [jnN, jnJ] at hl
  simp (disch := first | omega | (simp only [cat_i, cat_r, ri_r, ri_0, tkv_r, sgv_r, cdv_r]; done)) only [eX6_join_67, eX6_join_67n, eX6_join_67t, eX6_join_67s, eX6_join_67c, eX6_join_68, eX6_join_69, eX6_join_72, eX6_join_72n, eX6_join_72t, eX6_join_72s, eX6_join_72c, eX6_join_73, eX6_join_73n, eX6_join_73t, eX6_join_73s, eX6_join_73c, eX6_join_74, eX6_join_77, eX6_join_77n, eX6_join_77t, eX6_join_77s, eX6_join_77c, eX6_join_78, eX6_join_81, eX6_join_84, eX6_join_85, eX6_join_85n, eX6_join_85t, eX6_join_85s, eX6_join_85c, eX6_join_86, eX6_join_89, eX6_join_89n, eX6_join_89t, eX6_join_89s, eX6_join_89c, eX6_join_90, eX6_join_93, eX6_join_96, eX6_join_96n, eX6_join_96t, eX6_join_96s, eX6_join_96c, eX6_join_97, eX6_join_100, eX6_join_103, eX6_join_104, eX6_join_107, ↓reduceIte, Evk_some, Evh_some, Evn_some, Evr_v, Evr_n, mk_i, mk_r, mk_0, mk_n, mk_l, mc0, mc1, mc2, mc3, mc4, mi_obj, Bool.and_self, Bool.true_and, Nat.add_zero, Nat.zero_add, nI_add, pk_mul, pk_sub, Nat.add_sub_cancel, eq_self, if_true, if_false, n10, bI_t, bI_f, bI_0, Nat.reduceAdd, Nat.reduceMul, Nat.reduceSub, nI_eq, nI_ltI, nI_leI, Nat.reduceEqDiff, Nat.reduceLT, Nat.reduceDiv, Nat.reduceMod, Nat.reduceLeDiff, ci_Code, ci_Frame, ci_Task, ci_Segment, ci_Main, ci_Program, ci_Checker, ci_World, tkv_s, sgv_s, cdv_s, tkv_n, sgv_n, cdv_n, tkv_k, sgv_k, cdv_k, cp_Task_status, cp_Task_joiner_r, cg_Task_frame, q1, cg_Task_result, er, q2, q3, hl]
end KI
