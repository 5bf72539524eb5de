/-! the reference: the fault of a program, start -/
section MP2
variable {b : Nat → Option va_E} {F : Nat → Int32} {A : Nat → Nat → Int32} {L : Nat → Nat → Int64} {nx : Option Nat} {r : mn_Res} {op ar : Nat → Nat}
/-- the reference's codes: lengths, operations, arguments -/
def cdS (A : Nat → Nat → Int32) (sz : Nat → Nat) (op : Nat → Nat → Nat) (ai : Nat → Nat → Int32) : Prop := ∀ c, c < 8 → A 4 c = nI (sz c) ∧ sz c ≤ 24 ∧ ∀ p, p < sz c → A 5 (24 * c + p) = nI (op c p) ∧ op c p < 19 ∧ A 6 (24 * c + p) = ai c p
theorem cdS.fr {A A' : Nat → Nat → Int32} {sz : Nat → Nat} {op : Nat → Nat → Nat} {ai : Nat → Nat → Int32} (h : cdS A sz op ai) (hf : fr10 A A') : cdS A' sz op ai := by
  intro c hc
  obtain ⟨h1, h2, h3⟩ := h c hc
  rw [hf 4 (by decide), hf 5 (by decide), hf 6 (by decide)]
  exact ⟨h1, h2, h3⟩
set_option maxHeartbeats 4000000 in
theorem ev_fo1 {c n nb : Nat} {op : Nat → Nat} {ai : Nat → Int32} (hc : c < 8) (hn : n ≤ 24) (hnb : nb ≤ 6) (h0 : c < 6 → 0 < nb) (h4 : A 4 c = nI n) (hF : F 1 = nI nb) (h5 : ∀ p, p < n → A 5 (24 * c + p) = nI (op p) ∧ op p < 19 ∧ A 6 (24 * c + p) = ai p) : ∀ (j k : Nat), k + j = n → (∀ q, q < k → okA (decide (6 ≤ c)) (op q) (ai q) q n nb = true) →
    (∃ q, q < n ∧ okA (decide (6 ≤ c)) (op q) (ai q) q n nb = false ∧ (∀ x, x < q → okA (decide (6 ≤ c)) (op x) (ai x) x n nb = true) ∧ Ev 98 9 [some (.ref 149), some (.int (nI c)), some (.int (nI n)), some (.int (nI k))] [] (mpic b F A L, nx, 0, 0) ((mpic b F A L, nx, 0, 0), .inl (some (.int (nI q))))) ∨
    ((∀ q, q < n → okA (decide (6 ≤ c)) (op q) (ai q) q n nb = true) ∧ ∀ r : mn_Res, Ev 98 9 [some (.ref 149), some (.int (nI c)), some (.int (nI n)), some (.int (nI k))] [] (mpic b F A L, nx, 0, 0) r ↔ Ev 98 31 [some (.ref 149), some (.int (nI c)), some (.int (nI n)), some (.int (nI n))] [] (mpic b F A L, nx, 0, 0) r) := by
  intro j
  induction j with
  | zero =>
    intro k hk hq
    have hk : k = n := by omega
    subst hk
    refine Or.inr ⟨hq, fun r => ?_⟩
    refine eX8_faultOf_9.trans ?_
    simp (disch := first | omega | (simp only [cat_i, cat_r, ri_r, ri_0]; done)) only [eX8_faultOf_10, eX8_faultOf_11, ↓reduceIte, Evk_some, Evh_some, Evn_some, Evr_v, Evr_n, mk_i, mk_r, mk_0, mk_n, mk_l, mc0, mc1, mc2, mc3, mc4, mi_obj, Bool.and_self, Bool.true_and, Nat.add_zero, Nat.zero_add, nI_add, pk_mul, pk_sub, Nat.add_sub_cancel, eq_self, if_true, if_false, n10, bI_t, bI_f, bI_0, Nat.reduceAdd, Nat.reduceMul, Nat.reduceSub, nI_eq, nI_ltI, nI_leI, Nat.reduceEqDiff, Nat.reduceLT, Nat.reduceDiv, Nat.reduceMod, Nat.reduceLeDiff, Nat.le_refl]
  | succ j ih =>
    intro k hk hq
    have hkn : k < n := by omega
    have hkn' : ¬ n ≤ k := by omega
    obtain ⟨g1, g2, g3⟩ := h5 k hkn
    have ca := cl_isArgument (b := b) (F := F) (A := A) (L := L) (nx := nx) hc hkn hn hnb h0 g1 g2 g3 h4 hF
    cases ho : okA (decide (6 ≤ c)) (op k) (ai k) k n nb with
    | false =>
      rw [ho] at ca
      refine Or.inl ⟨k, hkn, ho, hq, ?_⟩
      refine eX8_faultOf_9.mpr ?_
      simp (disch := first | omega | (simp only [cat_i, cat_r, ri_r, ri_0]; done)) only [eX8_faultOf_10, eX8_faultOf_11, eX8_faultOf_14, eX8_faultOf_15, eX8_faultOf_16, eX8_faultOf_17, eX8_faultOf_20, eX8_faultOf_23, eX8_faultOf_24, eX8_faultOf_25, eX8_faultOf_28, ↓reduceIte, Evk_some, Evh_some, Evn_some, Evr_v, Evr_n, mk_i, mk_r, mk_0, mk_n, mk_l, mc0, mc1, mc2, mc3, mc4, mi_obj, Bool.and_self, Bool.true_and, Nat.add_zero, Nat.zero_add, nI_add, pk_mul, pk_sub, Nat.add_sub_cancel, eq_self, if_true, if_false, n10, bI_t, bI_f, bI_0, Nat.reduceAdd, Nat.reduceMul, Nat.reduceSub, nI_eq, nI_ltI, nI_leI, Nat.reduceEqDiff, Nat.reduceLT, Nat.reduceDiv, Nat.reduceMod, Nat.reduceLeDiff, hkn', ca]
    | true =>
      rw [ho] at ca
      have st : ∀ r : mn_Res, Ev 98 9 [some (.ref 149), some (.int (nI c)), some (.int (nI n)), some (.int (nI k))] [] (mpic b F A L, nx, 0, 0) r ↔ Ev 98 9 [some (.ref 149), some (.int (nI c)), some (.int (nI n)), some (.int (nI (k + 1)))] [] (mpic b F A L, nx, 0, 0) r := by
        intro r
        refine eX8_faultOf_9.trans ?_
        simp (disch := first | omega | (simp only [cat_i, cat_r, ri_r, ri_0]; done)) only [eX8_faultOf_10, eX8_faultOf_11, eX8_faultOf_14, eX8_faultOf_15, eX8_faultOf_16, eX8_faultOf_17, eX8_faultOf_20, eX8_faultOf_23, eX8_faultOf_24, eX8_faultOf_25, eX8_faultOf_28, ↓reduceIte, Evk_some, Evh_some, Evn_some, Evr_v, Evr_n, mk_i, mk_r, mk_0, mk_n, mk_l, mc0, mc1, mc2, mc3, mc4, mi_obj, Bool.and_self, Bool.true_and, Nat.add_zero, Nat.zero_add, nI_add, pk_mul, pk_sub, Nat.add_sub_cancel, eq_self, if_true, if_false, n10, bI_t, bI_f, bI_0, Nat.reduceAdd, Nat.reduceMul, Nat.reduceSub, nI_eq, nI_ltI, nI_leI, Nat.reduceEqDiff, Nat.reduceLT, Nat.reduceDiv, Nat.reduceMod, Nat.reduceLeDiff, hkn', ca, Bool.true_eq_false]
      rcases ih (k + 1) (by omega) (fun q hq2 => by
        by_cases h : q = k
        · subst h; exact ho
        · exact hq q (by omega)) with ⟨q, q1, q2, q3, q4⟩ | ⟨q1, q2⟩
      · exact Or.inl ⟨q, q1, q2, q3, (st _).mpr q4⟩
      · exact Or.inr ⟨q1, fun r => (st r).trans (q2 r)⟩
set_option maxHeartbeats 4000000 in
theorem cl_faultOf {c n nb : Nat} {op : Nat → Nat} {ai : Nat → Int32} (hc : c < 8) (hn : n ≤ 24) (hnb : nb ≤ 6) (h0 : c < 6 → 0 < nb) (h4 : A 4 c = nI n) (hF : F 1 = nI nb) (h5 : ∀ p, p < n → A 5 (24 * c + p) = nI (op p) ∧ op p < 19 ∧ A 6 (24 * c + p) = ai p) :
    ∃ A', fr10 A A' ∧ Cl 98 [.ref 149, .int (nI c)] (mpic b F A L) nx = some ((mpic b F A' L, nx, 0, 0), .inl (some (.int (oI (foF (decide (6 ≤ c)) op ai n nb))))) ∧ FoR (decide (6 ≤ c)) op ai n nb (foF (decide (6 ≤ c)) op ai n nb) := by
  have start : ∀ r : mn_Res, Ev 98 0 [some (.ref 149), some (.int (nI c)), none, none] [] (mpic b F A L, nx, 0, 0) r ↔ Ev 98 9 [some (.ref 149), some (.int (nI c)), some (.int (nI n)), some (.int (nI 0))] [] (mpic b F A L, nx, 0, 0) r := by
    intro r
    simp (disch := first | omega | (simp only [cat_i, cat_r, ri_r, ri_0]; done)) only [eX8_faultOf_0, eX8_faultOf_1, eX8_faultOf_4, eX8_faultOf_5, eX8_faultOf_6, eX8_faultOf_7, eX8_faultOf_8, ↓reduceIte, Evk_some, Evh_some, Evn_some, Evr_v, Evr_n, mk_i, mk_r, mk_0, mk_n, mk_l, mc0, mc1, mc2, mc3, mc4, mi_obj, Bool.and_self, Bool.true_and, Nat.add_zero, Nat.zero_add, nI_add, pk_mul, pk_sub, Nat.add_sub_cancel, eq_self, if_true, if_false, n10, bI_t, bI_f, bI_0, Nat.reduceAdd, Nat.reduceMul, Nat.reduceSub, nI_eq, nI_ltI, nI_leI, Nat.reduceEqDiff, Nat.reduceLT, Nat.reduceDiv, Nat.reduceMod, Nat.reduceLeDiff, mg_size, ml_size, h4]
  rcases ev_fo1 (b := b) (L := L) (nx := nx) hc hn hnb h0 h4 hF h5 n 0 (by omega) (fun q hq => by omega) with ⟨q, q1, q2, q3, q4⟩ | ⟨q1, q2⟩
  · have hfo : FoR (decide (6 ≤ c)) op ai n nb (some q) := Or.inl ⟨q, rfl, q1, q2, q3⟩
    rw [foF_eq hfo]
    exact ⟨A, fun _ _ => rfl, Cl_of (x := mnI_X8_faultOf) rfl ((start _).mpr q4), hfo⟩
  · by_cases hn0 : n = 0
    · subst hn0
      have hfo : FoR (decide (6 ≤ c)) op ai 0 nb (some 0) := Or.inr ⟨q1, Or.inl ⟨rfl, rfl⟩⟩
      rw [foF_eq hfo]
      refine ⟨A, fun _ _ => rfl, Cl_of (x := mnI_X8_faultOf) rfl ((start _).mpr ((q2 _).mpr ?_)), hfo⟩
      simp (disch := first | omega | (simp only [cat_i, cat_r, ri_r, ri_0]; done)) only [eX8_faultOf_31, eX8_faultOf_32, eX8_faultOf_35, eX8_faultOf_36, ↓reduceIte, Evk_some, Evh_some, Evn_some, Evr_v, Evr_n, mk_i, mk_r, mk_0, mk_n, mk_l, mc0, mc1, mc2, mc3, mc4, mi_obj, Bool.and_self, Bool.true_and, Nat.add_zero, Nat.zero_add, nI_add, pk_mul, pk_sub, Nat.add_sub_cancel, eq_self, if_true, if_false, n10, bI_t, bI_f, bI_0, Nat.reduceAdd, Nat.reduceMul, Nat.reduceSub, nI_eq, nI_ltI, nI_leI, Nat.reduceEqDiff, Nat.reduceLT, Nat.reduceDiv, Nat.reduceMod, Nat.reduceLeDiff, oI_s]
    · have g := h5 (n - 1) (by omega)
      have e1 : 24 * c + n - 1 = 24 * c + (n - 1) := by omega
      by_cases hb : op (n - 1) ≠ 16 ∧ (decide (6 ≤ c) = true ∨ op (n - 1) ≠ 11)
      · have hfo : FoR (decide (6 ≤ c)) op ai n nb (some (n - 1)) := Or.inr ⟨q1, Or.inr (Or.inl ⟨by omega, hb, rfl⟩)⟩
        rw [foF_eq hfo]
        refine ⟨A, fun _ _ => rfl, Cl_of (x := mnI_X8_faultOf) rfl ((start _).mpr ((q2 _).mpr ?_)), hfo⟩
        obtain ⟨b1, b2⟩ := hb
        have g2 := g.2.1
        by_cases h6 : 6 ≤ c
        · simp (disch := first | omega | (simp only [cat_i, cat_r, ri_r, ri_0]; done)) only [eX8_faultOf_31, eX8_faultOf_32, eX8_faultOf_35, eX8_faultOf_36, eX8_faultOf_37, eX8_faultOf_38, eX8_faultOf_41, eX8_faultOf_43, eX8_faultOf_44, eX8_faultOf_45, eX8_faultOf_46, eX8_faultOf_47, eX8_faultOf_48, eX8_faultOf_49, eX8_faultOf_50, eX8_faultOf_51, eX8_faultOf_52, eX8_faultOf_54, eX8_faultOf_57, eX8_faultOf_58, eX8_faultOf_60, eX8_faultOf_63, eX8_faultOf_64, eX8_faultOf_66, eX8_faultOf_69, eX8_faultOf_70, eX8_faultOf_71, eX8_faultOf_72, ↓reduceIte, Evk_some, Evh_some, Evn_some, Evr_v, Evr_n, mk_i, mk_r, mk_0, mk_n, mk_l, mc0, mc1, mc2, mc3, mc4, mi_obj, Bool.and_self, Bool.true_and, Nat.add_zero, Nat.zero_add, nI_add, pk_mul, pk_sub, Nat.add_sub_cancel, eq_self, if_true, if_false, n10, bI_t, bI_f, bI_0, Nat.reduceAdd, Nat.reduceMul, Nat.reduceSub, nI_eq, nI_ltI, nI_leI, Nat.reduceEqDiff, Nat.reduceLT, Nat.reduceDiv, Nat.reduceMod, Nat.reduceLeDiff, hn0, mg_operation, ml_operation, e1, g.1, b1, h6, oI_s]
        · have b3 : op (n - 1) ≠ 11 := b2.resolve_left (by simp [h6])
          simp (disch := first | omega | (simp only [cat_i, cat_r, ri_r, ri_0]; done)) only [eX8_faultOf_31, eX8_faultOf_32, eX8_faultOf_35, eX8_faultOf_36, eX8_faultOf_37, eX8_faultOf_38, eX8_faultOf_41, eX8_faultOf_43, eX8_faultOf_44, eX8_faultOf_45, eX8_faultOf_46, eX8_faultOf_47, eX8_faultOf_48, eX8_faultOf_49, eX8_faultOf_50, eX8_faultOf_51, eX8_faultOf_52, eX8_faultOf_54, eX8_faultOf_57, eX8_faultOf_58, eX8_faultOf_60, eX8_faultOf_63, eX8_faultOf_64, eX8_faultOf_66, eX8_faultOf_69, eX8_faultOf_70, eX8_faultOf_71, eX8_faultOf_72, ↓reduceIte, Evk_some, Evh_some, Evn_some, Evr_v, Evr_n, mk_i, mk_r, mk_0, mk_n, mk_l, mc0, mc1, mc2, mc3, mc4, mi_obj, Bool.and_self, Bool.true_and, Nat.add_zero, Nat.zero_add, nI_add, pk_mul, pk_sub, Nat.add_sub_cancel, eq_self, if_true, if_false, n10, bI_t, bI_f, bI_0, Nat.reduceAdd, Nat.reduceMul, Nat.reduceSub, nI_eq, nI_ltI, nI_leI, Nat.reduceEqDiff, Nat.reduceLT, Nat.reduceDiv, Nat.reduceMod, Nat.reduceLeDiff, hn0, mg_operation, ml_operation, e1, g.1, b1, b3, h6, oI_s]
      · obtain ⟨w1, w2⟩ := wf_of (m := decide (6 ≤ c)) (ai := ai) (nb := nb) hn (fun p hp => (h5 p hp).2.1) q1 (by omega) hb
        obtain ⟨A', o, k1, k2, k3⟩ := cl_stackFault (b := b) (F := F) (L := L) (nx := nx) (A := A) hc w1 ⟨h4, fun p hp => ⟨(h5 p hp).1, fun hq => by rw [(h5 p hp).2.2]; exact w2 p hp hq⟩⟩
        have hfo : FoR (decide (6 ≤ c)) op ai n nb o := Or.inr ⟨q1, Or.inr (Or.inr ⟨by omega, hb, k2⟩)⟩
        rw [foF_eq hfo]
        refine ⟨A', k1, Cl_of (x := mnI_X8_faultOf) rfl ((start _).mpr ((q2 _).mpr ?_)), hfo⟩
        have g2 := g.2.1
        by_cases b1 : op (n - 1) = 16
        · have b1t : (op (n - 1) = 16) = True := eq_true b1
          simp (disch := first | omega | (simp only [cat_i, cat_r, ri_r, ri_0]; done)) only [eX8_faultOf_31, eX8_faultOf_32, eX8_faultOf_35, eX8_faultOf_36, eX8_faultOf_37, eX8_faultOf_38, eX8_faultOf_41, eX8_faultOf_43, eX8_faultOf_44, eX8_faultOf_45, eX8_faultOf_46, eX8_faultOf_47, eX8_faultOf_48, eX8_faultOf_49, eX8_faultOf_50, eX8_faultOf_51, eX8_faultOf_52, eX8_faultOf_54, eX8_faultOf_57, eX8_faultOf_58, eX8_faultOf_60, eX8_faultOf_63, eX8_faultOf_64, eX8_faultOf_66, eX8_faultOf_69, eX8_faultOf_70, eX8_faultOf_71, eX8_faultOf_72, eX8_faultOf_73, eX8_faultOf_74, eX8_faultOf_75, eX8_faultOf_78, ↓reduceIte, Evk_some, Evh_some, Evn_some, Evr_v, Evr_n, mk_i, mk_r, mk_0, mk_n, mk_l, mc0, mc1, mc2, mc3, mc4, mi_obj, Bool.and_self, Bool.true_and, Nat.add_zero, Nat.zero_add, nI_add, pk_mul, pk_sub, Nat.add_sub_cancel, eq_self, if_true, if_false, n10, bI_t, bI_f, bI_0, Nat.reduceAdd, Nat.reduceMul, Nat.reduceSub, nI_eq, nI_ltI, nI_leI, Nat.reduceEqDiff, Nat.reduceLT, Nat.reduceDiv, Nat.reduceMod, Nat.reduceLeDiff, hn0, mg_operation, ml_operation, e1, g.1, b1t, k3]
        · have b1t : (op (n - 1) = 16) = False := eq_false b1
          have h6 : ¬ 6 ≤ c := fun q => hb ⟨b1, Or.inl (by simp [q])⟩
          have b3 : op (n - 1) = 11 := Classical.byContradiction (fun q => hb ⟨b1, Or.inr q⟩)
          have b3t : (op (n - 1) = 11) = True := eq_true b3
          simp (disch := first | omega | (simp only [cat_i, cat_r, ri_r, ri_0]; done)) only [eX8_faultOf_31, eX8_faultOf_32, eX8_faultOf_35, eX8_faultOf_36, eX8_faultOf_37, eX8_faultOf_38, eX8_faultOf_41, eX8_faultOf_43, eX8_faultOf_44, eX8_faultOf_45, eX8_faultOf_46, eX8_faultOf_47, eX8_faultOf_48, eX8_faultOf_49, eX8_faultOf_50, eX8_faultOf_51, eX8_faultOf_52, eX8_faultOf_54, eX8_faultOf_57, eX8_faultOf_58, eX8_faultOf_60, eX8_faultOf_63, eX8_faultOf_64, eX8_faultOf_66, eX8_faultOf_69, eX8_faultOf_70, eX8_faultOf_71, eX8_faultOf_72, eX8_faultOf_73, eX8_faultOf_74, eX8_faultOf_75, eX8_faultOf_78, ↓reduceIte, Evk_some, Evh_some, Evn_some, Evr_v, Evr_n, mk_i, mk_r, mk_0, mk_n, mk_l, mc0, mc1, mc2, mc3, mc4, mi_obj, Bool.and_self, Bool.true_and, Nat.add_zero, Nat.zero_add, nI_add, pk_mul, pk_sub, Nat.add_sub_cancel, eq_self, if_true, if_false, n10, bI_t, bI_f, bI_0, Nat.reduceAdd, Nat.reduceMul, Nat.reduceSub, nI_eq, nI_ltI, nI_leI, Nat.reduceEqDiff, Nat.reduceLT, Nat.reduceDiv, Nat.reduceMod, Nat.reduceLeDiff, hn0, mg_operation, ml_operation, e1, g.1, b1t, b3t, h6, k3]
/-- which codes there are -/
def vld (nb nm c : Nat) : Bool := if c < 6 then decide (c < nb) else decide (c - 6 < nm)
def vlc (c k : Nat) : Int32 := if c < 6 then nI (100 * c + k) else nI (1000 + 100 * (c - 6) + k)
/-- the first fault -/
def pfF (fo : Nat → Option Nat) (nb nm : Nat) : List Nat → Int32
  | [] => -1
  | c :: l => if vld nb nm c = true then (match fo c with
    | some k => vlc c k
    | none => pfF fo nb nm l) else pfF fo nb nm l
set_option maxHeartbeats 4000000 in
theorem ev_pf {nb nm : Nat} {sz : Nat → Nat} {op : Nat → Nat → Nat} {ai : Nat → Nat → Int32} (hnb : nb ≤ 6) (hnm : nm ≤ 2) (h1 : F 1 = nI nb) (h2 : F 2 = nI nm) : ∀ (j k : Nat), k + j = 8 → ∀ (A : Nat → Nat → Int32) (c2 : Option Value), cdS A sz op ai → ∃ A', fr10 A A' ∧ Ev 99 2 [some (.ref 149), some (.int (nI k)), c2] [] (mpic b F A L, nx, 0, 0) ((mpic b F A' L, nx, 0, 0), .inl (some (.int (pfF (fun c => foF (decide (6 ≤ c)) (op c) (ai c) (sz c) nb) nb nm (List.range' k j))))) := by
  intro j
  induction j with
  | zero =>
    intro k hk A c2 hcd
    have hk : k = 8 := by omega
    subst hk
    refine ⟨A, fun _ _ => rfl, ?_⟩
    refine eX8_programFault_2.mpr ?_
    simp (disch := first | omega | (simp only [cat_i, cat_r, ri_r, ri_0]; done)) only [eX8_programFault_0, eX8_programFault_1, eX8_programFault_3, eX8_programFault_5, eX8_programFault_8, eX8_programFault_9, eX8_programFault_11, eX8_programFault_14, eX8_programFault_15, eX8_programFault_16, eX8_programFault_19, eX8_programFault_22, eX8_programFault_25, eX8_programFault_26, eX8_programFault_28, eX8_programFault_29, eX8_programFault_30, eX8_programFault_33, eX8_programFault_36, eX8_programFault_39, eX8_programFault_40, eX8_programFault_41, eX8_programFault_44, eX8_programFault_45, eX8_programFault_46, eX8_programFault_47, eX8_programFault_50, eX8_programFault_51, eX8_programFault_53, eX8_programFault_56, eX8_programFault_58, eX8_programFault_59, eX8_programFault_60, eX8_programFault_63, eX8_programFault_66, eX8_programFault_68, eX8_programFault_69, eX8_programFault_71, eX8_programFault_72, eX8_programFault_73, eX8_programFault_74, eX8_programFault_75, eX8_programFault_76, eX8_programFault_77, eX8_programFault_80, eX8_programFault_83, eX8_programFault_84, ↓reduceIte, Evk_some, Evh_some, Evn_some, Evr_v, Evr_n, mk_i, mk_r, mk_0, mk_n, mk_l, mc0, mc1, mc2, mc3, mc4, mi_obj, Bool.and_self, Bool.true_and, Nat.add_zero, Nat.zero_add, nI_add, pk_mul, pk_sub, Nat.add_sub_cancel, eq_self, if_true, if_false, n10, bI_t, bI_f, bI_0, Nat.reduceAdd, Nat.reduceMul, Nat.reduceSub, nI_eq, nI_ltI, nI_leI, Nat.reduceEqDiff, Nat.reduceLT, Nat.reduceDiv, Nat.reduceMod, Nat.reduceLeDiff, List.range'_zero, pfF]
  | succ j ih =>
    intro k hk A c2 hcd
    have hk8 : ¬ 8 ≤ k := by omega
    rw [List.range'_succ]
    unfold pfF
    cases hv : vld nb nm k with
    | false =>
      obtain ⟨A', i1, i2⟩ := ih (k + 1) (by omega) A c2 hcd
      refine ⟨A', i1, ?_⟩
      refine eX8_programFault_2.mpr ?_
      unfold vld at hv
      by_cases h6 : 6 ≤ k
      · have h6' : ¬ k < 6 := by omega
        rw [if_neg h6'] at hv
        have hq : ¬ k - 6 < nm := of_decide_eq_false hv
        simp (disch := first | omega | (simp only [cat_i, cat_r, ri_r, ri_0]; done)) only [eX8_programFault_0, eX8_programFault_1, eX8_programFault_3, eX8_programFault_5, eX8_programFault_8, eX8_programFault_9, eX8_programFault_11, eX8_programFault_14, eX8_programFault_15, eX8_programFault_16, eX8_programFault_19, eX8_programFault_22, eX8_programFault_25, eX8_programFault_26, eX8_programFault_28, eX8_programFault_29, eX8_programFault_30, eX8_programFault_33, eX8_programFault_36, eX8_programFault_39, eX8_programFault_40, eX8_programFault_41, eX8_programFault_44, eX8_programFault_45, eX8_programFault_46, eX8_programFault_47, eX8_programFault_50, eX8_programFault_51, eX8_programFault_53, eX8_programFault_56, eX8_programFault_58, eX8_programFault_59, eX8_programFault_60, eX8_programFault_63, eX8_programFault_66, eX8_programFault_68, eX8_programFault_69, eX8_programFault_71, eX8_programFault_72, eX8_programFault_73, eX8_programFault_74, eX8_programFault_75, eX8_programFault_76, eX8_programFault_77, eX8_programFault_80, eX8_programFault_83, eX8_programFault_84, ↓reduceIte, Evk_some, Evh_some, Evn_some, Evr_v, Evr_n, mk_i, mk_r, mk_0, mk_n, mk_l, mc0, mc1, mc2, mc3, mc4, mi_obj, Bool.and_self, Bool.true_and, Nat.add_zero, Nat.zero_add, nI_add, pk_mul, pk_sub, Nat.add_sub_cancel, eq_self, if_true, if_false, n10, bI_t, bI_f, bI_0, Nat.reduceAdd, Nat.reduceMul, Nat.reduceSub, nI_eq, nI_ltI, nI_leI, Nat.reduceEqDiff, Nat.reduceLT, Nat.reduceDiv, Nat.reduceMod, Nat.reduceLeDiff, hk8, h6, mg_merges, h2, hq, Bool.false_eq_true]
        exact i2
      · have h6' : k < 6 := by omega
        rw [if_pos h6'] at hv
        have hq : ¬ k < nb := of_decide_eq_false hv
        simp (disch := first | omega | (simp only [cat_i, cat_r, ri_r, ri_0]; done)) only [eX8_programFault_0, eX8_programFault_1, eX8_programFault_3, eX8_programFault_5, eX8_programFault_8, eX8_programFault_9, eX8_programFault_11, eX8_programFault_14, eX8_programFault_15, eX8_programFault_16, eX8_programFault_19, eX8_programFault_22, eX8_programFault_25, eX8_programFault_26, eX8_programFault_28, eX8_programFault_29, eX8_programFault_30, eX8_programFault_33, eX8_programFault_36, eX8_programFault_39, eX8_programFault_40, eX8_programFault_41, eX8_programFault_44, eX8_programFault_45, eX8_programFault_46, eX8_programFault_47, eX8_programFault_50, eX8_programFault_51, eX8_programFault_53, eX8_programFault_56, eX8_programFault_58, eX8_programFault_59, eX8_programFault_60, eX8_programFault_63, eX8_programFault_66, eX8_programFault_68, eX8_programFault_69, eX8_programFault_71, eX8_programFault_72, eX8_programFault_73, eX8_programFault_74, eX8_programFault_75, eX8_programFault_76, eX8_programFault_77, eX8_programFault_80, eX8_programFault_83, eX8_programFault_84, ↓reduceIte, Evk_some, Evh_some, Evn_some, Evr_v, Evr_n, mk_i, mk_r, mk_0, mk_n, mk_l, mc0, mc1, mc2, mc3, mc4, mi_obj, Bool.and_self, Bool.true_and, Nat.add_zero, Nat.zero_add, nI_add, pk_mul, pk_sub, Nat.add_sub_cancel, eq_self, if_true, if_false, n10, bI_t, bI_f, bI_0, Nat.reduceAdd, Nat.reduceMul, Nat.reduceSub, nI_eq, nI_ltI, nI_leI, Nat.reduceEqDiff, Nat.reduceLT, Nat.reduceDiv, Nat.reduceMod, Nat.reduceLeDiff, hk8, h6, mg_blocks, h1, hq, Bool.false_eq_true]
        exact i2
    | true =>
      obtain ⟨g1, g2, g3⟩ := hcd k (by omega)
      have hv' := hv
      unfold vld at hv'
      obtain ⟨A1, f1, f2, f3⟩ := cl_faultOf (b := b) (F := F) (L := L) (nx := nx) (op := op k) (ai := ai k) (show k < 8 by omega) g2 hnb (fun h6 => by rw [if_pos h6] at hv'; have := of_decide_eq_true hv'; omega) g1 h1 g3
      obtain ⟨A', i1, i2⟩ := ih (k + 1) (by omega) A1 (some (.int (-1))) (hcd.fr f1)
      have hbound : ∀ q, foF (decide (6 ≤ k)) (op k) (ai k) (sz k) nb = some q → q ≤ 24 := by
        intro q hq
        rw [hq] at f3
        rcases f3 with ⟨q', e1, e2, -, -⟩ | ⟨-, ⟨e1, e2⟩ | ⟨-, -, e2⟩ | ⟨-, -, ⟨q', e1, e2, -, -⟩ | ⟨e1, -⟩⟩⟩
        · cases e1; omega
        · cases e2; omega
        · cases e2; omega
        · cases e1; omega
        · cases e1
      rw [if_pos rfl]
      cases hf : foF (decide (6 ≤ k)) (op k) (ai k) (sz k) nb with
      | none =>
        rw [hf, oI_n] at f2
        refine ⟨A', f1.trans i1, ?_⟩
        refine eX8_programFault_2.mpr ?_
        by_cases h6 : 6 ≤ k
        · have h6' : ¬ k < 6 := by omega
          rw [if_neg h6'] at hv'
          have hq : k - 6 < nm := of_decide_eq_true hv'
          simp (disch := first | omega | (simp only [cat_i, cat_r, ri_r, ri_0]; done)) only [eX8_programFault_0, eX8_programFault_1, eX8_programFault_3, eX8_programFault_5, eX8_programFault_8, eX8_programFault_9, eX8_programFault_11, eX8_programFault_14, eX8_programFault_15, eX8_programFault_16, eX8_programFault_19, eX8_programFault_22, eX8_programFault_25, eX8_programFault_26, eX8_programFault_28, eX8_programFault_29, eX8_programFault_30, eX8_programFault_33, eX8_programFault_36, eX8_programFault_39, eX8_programFault_40, eX8_programFault_41, eX8_programFault_44, eX8_programFault_45, eX8_programFault_46, eX8_programFault_47, eX8_programFault_50, eX8_programFault_51, eX8_programFault_53, eX8_programFault_56, eX8_programFault_58, eX8_programFault_59, eX8_programFault_60, eX8_programFault_63, eX8_programFault_66, eX8_programFault_68, eX8_programFault_69, eX8_programFault_71, eX8_programFault_72, eX8_programFault_73, eX8_programFault_74, eX8_programFault_75, eX8_programFault_76, eX8_programFault_77, eX8_programFault_80, eX8_programFault_83, eX8_programFault_84, ↓reduceIte, Evk_some, Evh_some, Evn_some, Evr_v, Evr_n, mk_i, mk_r, mk_0, mk_n, mk_l, mc0, mc1, mc2, mc3, mc4, mi_obj, Bool.and_self, Bool.true_and, Nat.add_zero, Nat.zero_add, nI_add, pk_mul, pk_sub, Nat.add_sub_cancel, eq_self, if_true, if_false, n10, bI_t, bI_f, bI_0, Nat.reduceAdd, Nat.reduceMul, Nat.reduceSub, nI_eq, nI_ltI, nI_leI, Nat.reduceEqDiff, Nat.reduceLT, Nat.reduceDiv, Nat.reduceMod, Nat.reduceLeDiff, hk8, h6, mg_merges, h2, hq, f2]
          exact i2
        · have h6' : k < 6 := by omega
          rw [if_pos h6'] at hv'
          have hq : k < nb := of_decide_eq_true hv'
          simp (disch := first | omega | (simp only [cat_i, cat_r, ri_r, ri_0]; done)) only [eX8_programFault_0, eX8_programFault_1, eX8_programFault_3, eX8_programFault_5, eX8_programFault_8, eX8_programFault_9, eX8_programFault_11, eX8_programFault_14, eX8_programFault_15, eX8_programFault_16, eX8_programFault_19, eX8_programFault_22, eX8_programFault_25, eX8_programFault_26, eX8_programFault_28, eX8_programFault_29, eX8_programFault_30, eX8_programFault_33, eX8_programFault_36, eX8_programFault_39, eX8_programFault_40, eX8_programFault_41, eX8_programFault_44, eX8_programFault_45, eX8_programFault_46, eX8_programFault_47, eX8_programFault_50, eX8_programFault_51, eX8_programFault_53, eX8_programFault_56, eX8_programFault_58, eX8_programFault_59, eX8_programFault_60, eX8_programFault_63, eX8_programFault_66, eX8_programFault_68, eX8_programFault_69, eX8_programFault_71, eX8_programFault_72, eX8_programFault_73, eX8_programFault_74, eX8_programFault_75, eX8_programFault_76, eX8_programFault_77, eX8_programFault_80, eX8_programFault_83, eX8_programFault_84, ↓reduceIte, Evk_some, Evh_some, Evn_some, Evr_v, Evr_n, mk_i, mk_r, mk_0, mk_n, mk_l, mc0, mc1, mc2, mc3, mc4, mi_obj, Bool.and_self, Bool.true_and, Nat.add_zero, Nat.zero_add, nI_add, pk_mul, pk_sub, Nat.add_sub_cancel, eq_self, if_true, if_false, n10, bI_t, bI_f, bI_0, Nat.reduceAdd, Nat.reduceMul, Nat.reduceSub, nI_eq, nI_ltI, nI_leI, Nat.reduceEqDiff, Nat.reduceLT, Nat.reduceDiv, Nat.reduceMod, Nat.reduceLeDiff, hk8, h6, mg_blocks, h1, hq, f2]
          exact i2
      | some q =>
        have hq24 := hbound q hf
        rw [hf, oI_s] at f2
        refine ⟨A1, f1, ?_⟩
        refine eX8_programFault_2.mpr ?_
        by_cases h6 : 6 ≤ k
        · have h6' : ¬ k < 6 := by omega
          rw [if_neg h6'] at hv'
          have hq : k - 6 < nm := of_decide_eq_true hv'
          simp (disch := first | omega | (simp only [cat_i, cat_r, ri_r, ri_0]; done)) only [eX8_programFault_0, eX8_programFault_1, eX8_programFault_3, eX8_programFault_5, eX8_programFault_8, eX8_programFault_9, eX8_programFault_11, eX8_programFault_14, eX8_programFault_15, eX8_programFault_16, eX8_programFault_19, eX8_programFault_22, eX8_programFault_25, eX8_programFault_26, eX8_programFault_28, eX8_programFault_29, eX8_programFault_30, eX8_programFault_33, eX8_programFault_36, eX8_programFault_39, eX8_programFault_40, eX8_programFault_41, eX8_programFault_44, eX8_programFault_45, eX8_programFault_46, eX8_programFault_47, eX8_programFault_50, eX8_programFault_51, eX8_programFault_53, eX8_programFault_56, eX8_programFault_58, eX8_programFault_59, eX8_programFault_60, eX8_programFault_63, eX8_programFault_66, eX8_programFault_68, eX8_programFault_69, eX8_programFault_71, eX8_programFault_72, eX8_programFault_73, eX8_programFault_74, eX8_programFault_75, eX8_programFault_76, eX8_programFault_77, eX8_programFault_80, eX8_programFault_83, eX8_programFault_84, ↓reduceIte, Evk_some, Evh_some, Evn_some, Evr_v, Evr_n, mk_i, mk_r, mk_0, mk_n, mk_l, mc0, mc1, mc2, mc3, mc4, mi_obj, Bool.and_self, Bool.true_and, Nat.add_zero, Nat.zero_add, nI_add, pk_mul, pk_sub, Nat.add_sub_cancel, eq_self, if_true, if_false, n10, bI_t, bI_f, bI_0, Nat.reduceAdd, Nat.reduceMul, Nat.reduceSub, nI_eq, nI_ltI, nI_leI, Nat.reduceEqDiff, Nat.reduceLT, Nat.reduceDiv, Nat.reduceMod, Nat.reduceLeDiff, hk8, h6, mg_merges, h2, hq, f2, nI_m1, vlc, h6']
        · have h6' : k < 6 := by omega
          rw [if_pos h6'] at hv'
          have hq : k < nb := of_decide_eq_true hv'
          simp (disch := first | omega | (simp only [cat_i, cat_r, ri_r, ri_0]; done)) only [eX8_programFault_0, eX8_programFault_1, eX8_programFault_3, eX8_programFault_5, eX8_programFault_8, eX8_programFault_9, eX8_programFault_11, eX8_programFault_14, eX8_programFault_15, eX8_programFault_16, eX8_programFault_19, eX8_programFault_22, eX8_programFault_25, eX8_programFault_26, eX8_programFault_28, eX8_programFault_29, eX8_programFault_30, eX8_programFault_33, eX8_programFault_36, eX8_programFault_39, eX8_programFault_40, eX8_programFault_41, eX8_programFault_44, eX8_programFault_45, eX8_programFault_46, eX8_programFault_47, eX8_programFault_50, eX8_programFault_51, eX8_programFault_53, eX8_programFault_56, eX8_programFault_58, eX8_programFault_59, eX8_programFault_60, eX8_programFault_63, eX8_programFault_66, eX8_programFault_68, eX8_programFault_69, eX8_programFault_71, eX8_programFault_72, eX8_programFault_73, eX8_programFault_74, eX8_programFault_75, eX8_programFault_76, eX8_programFault_77, eX8_programFault_80, eX8_programFault_83, eX8_programFault_84, ↓reduceIte, Evk_some, Evh_some, Evn_some, Evr_v, Evr_n, mk_i, mk_r, mk_0, mk_n, mk_l, mc0, mc1, mc2, mc3, mc4, mi_obj, Bool.and_self, Bool.true_and, Nat.add_zero, Nat.zero_add, nI_add, pk_mul, pk_sub, Nat.add_sub_cancel, eq_self, if_true, if_false, n10, bI_t, bI_f, bI_0, Nat.reduceAdd, Nat.reduceMul, Nat.reduceSub, nI_eq, nI_ltI, nI_leI, Nat.reduceEqDiff, Nat.reduceLT, Nat.reduceDiv, Nat.reduceMod, Nat.reduceLeDiff, hk8, h6, mg_blocks, h1, hq, f2, nI_m1, vlc, h6']
/-- the first fault of the program -/
noncomputable def pfP (sz : Nat → Nat) (op : Nat → Nat → Nat) (ai : Nat → Nat → Int32) (nb nm : Nat) : Int32 := pfF (fun c => foF (decide (6 ≤ c)) (op c) (ai c) (sz c) nb) nb nm (List.range' 0 8)
theorem cl_programFault {nb nm : Nat} {sz : Nat → Nat} {op : Nat → Nat → Nat} {ai : Nat → Nat → Int32} (hnb : nb ≤ 6) (hnm : nm ≤ 2) (h1 : F 1 = nI nb) (h2 : F 2 = nI nm) (hcd : cdS A sz op ai) : ∃ A', fr10 A A' ∧ Cl 99 [.ref 149] (mpic b F A L) nx = some ((mpic b F A' L, nx, 0, 0), .inl (some (.int (pfP sz op ai nb nm)))) := by
  obtain ⟨A', k1, k2⟩ := ev_pf (b := b) (F := F) (L := L) (nx := nx) (sz := sz) (op := op) (ai := ai) hnb hnm h1 h2 8 0 (by omega) A none hcd
  refine ⟨A', k1, Cl_of (x := mnI_X8_programFault) rfl ?_⟩
  show Ev 99 0 [some (.ref 149), none, none] [] _ _
  rw [eX8_programFault_0, eX8_programFault_1]
  exact k2
theorem cl_fault {nb nm : Nat} {sz : Nat → Nat} {op : Nat → Nat → Nat} {ai : Nat → Nat → Int32} (hnb : nb ≤ 6) (hnm : nm ≤ 2) (h1 : F 1 = nI nb) (h2 : F 2 = nI nm) (hcd : cdS A sz op ai) : ∃ A', fr10 A A' ∧ Cl 100 [.ref 149] (mpic b F A L) nx = some ((mpic b (up1 F 0 (nI 0)) A' L, nx, 0, 0), .inl (some (.int (pfP sz op ai nb nm)))) := by
  obtain ⟨A', k1, k2⟩ := cl_programFault (b := b) (F := up1 F 0 (nI 0)) (L := L) (nx := nx) hnb hnm h1 h2 hcd
  refine ⟨A', k1, Cl_of (x := mnI_X8_fault) rfl ?_⟩
  show Ev 100 0 [some (.ref 149)] [] _ _
  simp (disch := first | omega | (simp only [cat_i, cat_r, ri_r, ri_0]; done)) only [eX8_fault_0, eX8_fault_1, eX8_fault_2, eX8_fault_5, eX8_fault_6, eX8_fault_9, ↓reduceIte, Evk_some, Evh_some, Evn_some, Evr_v, Evr_n, mk_i, mk_r, mk_0, mk_n, mk_l, mc0, mc1, mc2, mc3, mc4, mi_obj, Bool.and_self, Bool.true_and, Nat.add_zero, Nat.zero_add, nI_add, pk_mul, pk_sub, Nat.add_sub_cancel, eq_self, if_true, if_false, n10, bI_t, bI_f, bI_0, Nat.reduceAdd, Nat.reduceMul, Nat.reduceSub, nI_eq, nI_ltI, nI_leI, Nat.reduceEqDiff, Nat.reduceLT, Nat.reduceDiv, Nat.reduceMod, Nat.reduceLeDiff, mp_code, k2]
/-- may every cell be brought -/
def gdB (A : Nat → Nat → Int32) (nm c : Nat) : Bool := !decide (A 7 c = nI 3) || decide (A 8 c < nI nm)
set_option maxHeartbeats 4000000 in
theorem ev_start1 {nm : Nat} (h2 : F 2 = nI nm) : ∀ (j k : Nat) (g : Bool), k + j = 12 → ∀ r : mn_Res, Ev 101 23 [some (.ref 149), some (.int (bI g)), some (.int (nI k))] [] (mpic b F A L, nx, 0, 0) r ↔ Ev 101 68 [some (.ref 149), some (.int (bI (g && (List.range' k j).all (gdB A nm)))), some (.int (nI 12))] [] (mpic b F A L, nx, 0, 0) r := by
  intro j
  induction j with
  | zero =>
    intro k g hk r
    have hk : k = 12 := by omega
    subst hk
    refine eX8_start_23.trans ?_
    simp (disch := first | omega | (simp only [cat_i, cat_r, ri_r, ri_0]; done)) only [eX8_start_24, eX8_start_26, ↓reduceIte, Evk_some, Evh_some, Evn_some, Evr_v, Evr_n, mk_i, mk_r, mk_0, mk_n, mk_l, mc0, mc1, mc2, mc3, mc4, mi_obj, Bool.and_self, Bool.true_and, Nat.add_zero, Nat.zero_add, nI_add, pk_mul, pk_sub, Nat.add_sub_cancel, eq_self, if_true, if_false, n10, bI_t, bI_f, bI_0, Nat.reduceAdd, Nat.reduceMul, Nat.reduceSub, nI_eq, nI_ltI, nI_leI, Nat.reduceEqDiff, Nat.reduceLT, Nat.reduceDiv, Nat.reduceMod, Nat.reduceLeDiff, List.range'_zero, List.all_nil, Bool.and_true]
  | succ j ih =>
    intro k g hk r
    have hq : ¬ 12 ≤ k := by omega
    rw [List.range'_succ, List.all_cons, ← Bool.and_assoc]
    refine Iff.trans ?_ (ih (k + 1) (g && gdB A nm k) (by omega) r)
    refine eX8_start_23.trans ?_
    cases g with
    | false => simp (disch := first | omega | (simp only [cat_i, cat_r, ri_r, ri_0]; done)) only [eX8_start_24, eX8_start_26, eX8_start_29, eX8_start_30, eX8_start_33, eX8_start_34, eX8_start_37, eX8_start_38, eX8_start_39, eX8_start_40, eX8_start_43, eX8_start_44, eX8_start_47, eX8_start_48, eX8_start_49, eX8_start_50, eX8_start_53, eX8_start_56, eX8_start_57, eX8_start_60, eX8_start_61, eX8_start_62, eX8_start_65, ↓reduceIte, Evk_some, Evh_some, Evn_some, Evr_v, Evr_n, mk_i, mk_r, mk_0, mk_n, mk_l, mc0, mc1, mc2, mc3, mc4, mi_obj, Bool.and_self, Bool.true_and, Nat.add_zero, Nat.zero_add, nI_add, pk_mul, pk_sub, Nat.add_sub_cancel, eq_self, if_true, if_false, n10, bI_t, bI_f, bI_0, Nat.reduceAdd, Nat.reduceMul, Nat.reduceSub, nI_eq, nI_ltI, nI_leI, Nat.reduceEqDiff, Nat.reduceLT, Nat.reduceDiv, Nat.reduceMod, Nat.reduceLeDiff, hq, Bool.false_and]
    | true =>
      by_cases h3 : A 7 k = nI 3
      · by_cases h4 : A 8 k < nI nm
        · have h4' : ¬ nI nm ≤ A 8 k := Int32.not_le.mpr h4
          simp (disch := first | omega | (simp only [cat_i, cat_r, ri_r, ri_0]; done)) only [eX8_start_24, eX8_start_26, eX8_start_29, eX8_start_30, eX8_start_33, eX8_start_34, eX8_start_37, eX8_start_38, eX8_start_39, eX8_start_40, eX8_start_43, eX8_start_44, eX8_start_47, eX8_start_48, eX8_start_49, eX8_start_50, eX8_start_53, eX8_start_56, eX8_start_57, eX8_start_60, eX8_start_61, eX8_start_62, eX8_start_65, ↓reduceIte, Evk_some, Evh_some, Evn_some, Evr_v, Evr_n, mk_i, mk_r, mk_0, mk_n, mk_l, mc0, mc1, mc2, mc3, mc4, mi_obj, Bool.and_self, Bool.true_and, Nat.add_zero, Nat.zero_add, nI_add, pk_mul, pk_sub, Nat.add_sub_cancel, eq_self, if_true, if_false, n10, bI_t, bI_f, bI_0, Nat.reduceAdd, Nat.reduceMul, Nat.reduceSub, nI_eq, Nat.reduceEqDiff, Nat.reduceLT, Nat.reduceDiv, Nat.reduceMod, Nat.reduceLeDiff, hq, nI_leI (show 12 < 2 ^ 31 by omega) (show k < 2 ^ 31 by omega), mg_kind, ml_kind, mg_mergeOf, ml_mergeOf, mg_merges, h2, h3, h4, h4', gdB, decide_true, Bool.not_true, Bool.or_true, Bool.true_eq_false]
        · have h4' : nI nm ≤ A 8 k := Int32.not_lt.mp h4
          simp (disch := first | omega | (simp only [cat_i, cat_r, ri_r, ri_0]; done)) only [eX8_start_24, eX8_start_26, eX8_start_29, eX8_start_30, eX8_start_33, eX8_start_34, eX8_start_37, eX8_start_38, eX8_start_39, eX8_start_40, eX8_start_43, eX8_start_44, eX8_start_47, eX8_start_48, eX8_start_49, eX8_start_50, eX8_start_53, eX8_start_56, eX8_start_57, eX8_start_60, eX8_start_61, eX8_start_62, eX8_start_65, ↓reduceIte, Evk_some, Evh_some, Evn_some, Evr_v, Evr_n, mk_i, mk_r, mk_0, mk_n, mk_l, mc0, mc1, mc2, mc3, mc4, mi_obj, Bool.and_self, Bool.true_and, Nat.add_zero, Nat.zero_add, nI_add, pk_mul, pk_sub, Nat.add_sub_cancel, eq_self, if_true, if_false, n10, bI_t, bI_f, bI_0, Nat.reduceAdd, Nat.reduceMul, Nat.reduceSub, nI_eq, Nat.reduceEqDiff, Nat.reduceLT, Nat.reduceDiv, Nat.reduceMod, Nat.reduceLeDiff, hq, nI_leI (show 12 < 2 ^ 31 by omega) (show k < 2 ^ 31 by omega), mg_kind, ml_kind, mg_mergeOf, ml_mergeOf, mg_merges, h2, h3, h4, h4', gdB, decide_true, decide_false, Bool.not_true, Bool.or_false, Bool.and_false, Bool.true_eq_false]
      · simp (disch := first | omega | (simp only [cat_i, cat_r, ri_r, ri_0]; done)) only [eX8_start_24, eX8_start_26, eX8_start_29, eX8_start_30, eX8_start_33, eX8_start_34, eX8_start_37, eX8_start_38, eX8_start_39, eX8_start_40, eX8_start_43, eX8_start_44, eX8_start_47, eX8_start_48, eX8_start_49, eX8_start_50, eX8_start_53, eX8_start_56, eX8_start_57, eX8_start_60, eX8_start_61, eX8_start_62, eX8_start_65, ↓reduceIte, Evk_some, Evh_some, Evn_some, Evr_v, Evr_n, mk_i, mk_r, mk_0, mk_n, mk_l, mc0, mc1, mc2, mc3, mc4, mi_obj, Bool.and_self, Bool.true_and, Nat.add_zero, Nat.zero_add, nI_add, pk_mul, pk_sub, Nat.add_sub_cancel, eq_self, if_true, if_false, n10, bI_t, bI_f, bI_0, Nat.reduceAdd, Nat.reduceMul, Nat.reduceSub, nI_eq, nI_ltI, nI_leI, Nat.reduceEqDiff, Nat.reduceLT, Nat.reduceDiv, Nat.reduceMod, Nat.reduceLeDiff, hq, mg_kind, ml_kind, h3, gdB, decide_false, Bool.not_false, Bool.true_or, Bool.true_eq_false]
def zrU (A : Nat → Nat → Int32) (k : Nat) : Nat → Nat → Int32 := fun q => if q = 29 then (fun i => if i < k then nI 0 else A 29 i) else A q
theorem zrU_0 : zrU A 0 = A := by
  funext q
  unfold zrU
  by_cases h : q = 29
  · subst h
    rw [if_pos rfl]
    funext i
    rw [if_neg (by omega)]
  · rw [if_neg h]
theorem zrU_s {k : Nat} : up2 (zrU A k) 29 k (nI 0) = zrU A (k + 1) := by
  funext q i
  by_cases h : q = 29
  · subst h
    by_cases hi : i = k
    · subst hi
      rw [up2_s]
      show nI 0 = if i < i + 1 then nI 0 else A 29 i
      rw [if_pos (by omega)]
    · rw [up2_o hi]
      show (if i < k then nI 0 else A 29 i) = if i < k + 1 then nI 0 else A 29 i
      by_cases h2 : i < k
      · rw [if_pos h2, if_pos (by omega)]
      · rw [if_neg h2, if_neg (by omega)]
  · rw [up2_n h]
    show (if q = 29 then _ else A q) i = (if q = 29 then _ else A q) i
    rw [if_neg h, if_neg h]
set_option maxHeartbeats 4000000 in
theorem ev_start2 {g : Int32} : ∀ (j k : Nat), k + j = 40 → ∀ r : mn_Res, Ev 101 111 [some (.ref 149), some (.int g), some (.int (nI k))] [] (mpic b F (zrU A k) L, nx, 0, 0) r ↔ Ev 101 130 [some (.ref 149), some (.int g), some (.int (nI 40))] [] (mpic b F (zrU A 40) L, nx, 0, 0) r := by
  intro j
  induction j with
  | zero =>
    intro k hk r
    have hk : k = 40 := by omega
    subst hk
    refine eX8_start_111.trans ?_
    simp (disch := first | omega | (simp only [cat_i, cat_r, ri_r, ri_0]; done)) only [eX8_start_112, eX8_start_114, ↓reduceIte, Evk_some, Evh_some, Evn_some, Evr_v, Evr_n, mk_i, mk_r, mk_0, mk_n, mk_l, mc0, mc1, mc2, mc3, mc4, mi_obj, Bool.and_self, Bool.true_and, Nat.add_zero, Nat.zero_add, nI_add, pk_mul, pk_sub, Nat.add_sub_cancel, eq_self, if_true, if_false, n10, bI_t, bI_f, bI_0, Nat.reduceAdd, Nat.reduceMul, Nat.reduceSub, nI_eq, nI_ltI, nI_leI, Nat.reduceEqDiff, Nat.reduceLT, Nat.reduceDiv, Nat.reduceMod, Nat.reduceLeDiff]
  | succ j ih =>
    intro k hk r
    have hq : ¬ 40 ≤ k := by omega
    refine Iff.trans ?_ (ih (k + 1) (by omega) r)
    refine eX8_start_111.trans ?_
    simp (disch := first | omega | (simp only [cat_i, cat_r, ri_r, ri_0]; done)) only [eX8_start_112, eX8_start_114, eX8_start_117, eX8_start_118, eX8_start_121, eX8_start_122, eX8_start_123, eX8_start_124, eX8_start_127, ↓reduceIte, Evk_some, Evh_some, Evn_some, Evr_v, Evr_n, mk_i, mk_r, mk_0, mk_n, mk_l, mc0, mc1, mc2, mc3, mc4, mi_obj, Bool.and_self, Bool.true_and, Nat.add_zero, Nat.zero_add, nI_add, pk_mul, pk_sub, Nat.add_sub_cancel, eq_self, if_true, if_false, n10, bI_t, bI_f, bI_0, Nat.reduceAdd, Nat.reduceMul, Nat.reduceSub, nI_eq, nI_ltI, nI_leI, Nat.reduceEqDiff, Nat.reduceLT, Nat.reduceDiv, Nat.reduceMod, Nat.reduceLeDiff, hq, mg_used, ms_used0, zrU_s]
/-- may it start -/
noncomputable def stB (A : Nat → Nat → Int32) (sz : Nat → Nat) (op : Nat → Nat → Nat) (ai : Nat → Nat → Int32) (nb nm : Nat) : Bool := decide (0 < nb) && decide (pfP sz op ai nb nm = -1) && (List.range' 0 12).all (gdB A nm)
set_option maxHeartbeats 4000000 in
theorem cl_start_pre {nb nm : Nat} {sz : Nat → Nat} {op : Nat → Nat → Nat} {ai : Nat → Nat → Int32} (hnb : nb ≤ 6) (hnm : nm ≤ 2) (h1 : F 1 = nI nb) (h2 : F 2 = nI nm) (hcd : cdS A sz op ai) : ∃ A', fr10 A A' ∧ ∀ r : mn_Res, Ev 101 0 [some (.ref 149), none, none] [] (mpic b F A L, nx, 0, 0) r ↔ Ev 101 68 [some (.ref 149), some (.int (bI (stB A sz op ai nb nm))), some (.int (nI 12))] [] (mpic b F A' L, nx, 0, 0) r := by
  by_cases h0 : 0 < nb
  · obtain ⟨A', k1, k2⟩ := cl_programFault (b := b) (F := F) (L := L) (nx := nx) hnb hnm h1 h2 hcd
    have hg : ∀ c, gdB A' nm c = gdB A nm c := fun c => by unfold gdB; rw [k1 7 (by decide), k1 8 (by decide)]
    have h0' : ¬ nb ≤ 0 := by omega
    refine ⟨A', k1, fun r => ?_⟩
    have e := ev_start1 (b := b) (F := F) (A := A') (L := L) (nx := nx) h2 12 0 (decide (pfP sz op ai nb nm = -1)) (by omega) r
    rw [show gdB A' nm = gdB A nm from funext hg] at e
    unfold stB
    simp only [h0, decide_true, Bool.true_and]
    refine Iff.trans ?_ e
    by_cases hp : pfP sz op ai nb nm = -1
    · simp (disch := first | omega | (simp only [cat_i, cat_r, ri_r, ri_0]; done)) only [eX8_start_0, eX8_start_1, eX8_start_4, eX8_start_7, eX8_start_8, eX8_start_11, eX8_start_12, eX8_start_15, eX8_start_16, eX8_start_19, eX8_start_20, eX8_start_21, eX8_start_22, ↓reduceIte, Evk_some, Evh_some, Evn_some, Evr_v, Evr_n, mk_i, mk_r, mk_0, mk_n, mk_l, mc0, mc1, mc2, mc3, mc4, mi_obj, Bool.and_self, Bool.true_and, Nat.add_zero, Nat.zero_add, nI_add, pk_mul, pk_sub, Nat.add_sub_cancel, eq_self, if_true, if_false, n10, bI_t, bI_f, bI_0, Nat.reduceAdd, Nat.reduceMul, Nat.reduceSub, nI_eq, nI_ltI, nI_leI, Nat.reduceEqDiff, Nat.reduceLT, Nat.reduceDiv, Nat.reduceMod, Nat.reduceLeDiff, mg_blocks, h1, h0', k2, hp, decide_true]
    · simp (disch := first | omega | (simp only [cat_i, cat_r, ri_r, ri_0]; done)) only [eX8_start_0, eX8_start_1, eX8_start_4, eX8_start_7, eX8_start_8, eX8_start_11, eX8_start_12, eX8_start_15, eX8_start_16, eX8_start_19, eX8_start_20, eX8_start_21, eX8_start_22, ↓reduceIte, Evk_some, Evh_some, Evn_some, Evr_v, Evr_n, mk_i, mk_r, mk_0, mk_n, mk_l, mc0, mc1, mc2, mc3, mc4, mi_obj, Bool.and_self, Bool.true_and, Nat.add_zero, Nat.zero_add, nI_add, pk_mul, pk_sub, Nat.add_sub_cancel, eq_self, if_true, if_false, n10, bI_t, bI_f, bI_0, Nat.reduceAdd, Nat.reduceMul, Nat.reduceSub, nI_eq, nI_ltI, nI_leI, Nat.reduceEqDiff, Nat.reduceLT, Nat.reduceDiv, Nat.reduceMod, Nat.reduceLeDiff, mg_blocks, h1, h0', k2, hp, decide_false]
  · have hnb0 : nb = 0 := by omega
    subst hnb0
    refine ⟨A, fun _ _ => rfl, fun r => ?_⟩
    have e := ev_start1 (b := b) (F := F) (A := A) (L := L) (nx := nx) h2 12 0 false (by omega) r
    unfold stB
    simp only [Nat.lt_irrefl, decide_false, Bool.false_and] at e ⊢
    refine Iff.trans ?_ e
    simp (disch := first | omega | (simp only [cat_i, cat_r, ri_r, ri_0]; done)) only [eX8_start_0, eX8_start_1, eX8_start_4, eX8_start_7, eX8_start_8, eX8_start_11, eX8_start_12, eX8_start_15, eX8_start_16, eX8_start_19, eX8_start_20, eX8_start_21, eX8_start_22, ↓reduceIte, Evk_some, Evh_some, Evn_some, Evr_v, Evr_n, mk_i, mk_r, mk_0, mk_n, mk_l, mc0, mc1, mc2, mc3, mc4, mi_obj, Bool.and_self, Bool.true_and, Nat.add_zero, Nat.zero_add, nI_add, pk_mul, pk_sub, Nat.add_sub_cancel, eq_self, if_true, if_false, n10, bI_t, bI_f, bI_0, Nat.reduceAdd, Nat.reduceMul, Nat.reduceSub, nI_eq, nI_ltI, nI_leI, Nat.reduceEqDiff, Nat.reduceLT, Nat.reduceDiv, Nat.reduceMod, Nat.reduceLeDiff, mg_blocks, h1, Nat.le_refl]
theorem cl_start_no {nb nm : Nat} {sz : Nat → Nat} {op : Nat → Nat → Nat} {ai : Nat → Nat → Int32} (hnb : nb ≤ 6) (hnm : nm ≤ 2) (h1 : F 1 = nI nb) (h2 : F 2 = nI nm) (hcd : cdS A sz op ai) (hs : stB A sz op ai nb nm = false) : ∃ A', fr10 A A' ∧ Cl 101 [.ref 149] (mpic b F A L) nx = some ((mpic b (up1 F 0 (nI 1)) A' L, nx, 0, 0), .inl none) := by
  obtain ⟨A', k1, k2⟩ := cl_start_pre (b := b) (L := L) (nx := nx) hnb hnm h1 h2 hcd
  refine ⟨A', k1, Cl_of (x := mnI_X8_start) rfl ((k2 _).mpr ?_)⟩
  have h0 : ¬ nI 1 ≤ nI 0 := by decide
  have c1 : up1 F 0 (nI 1) 0 = nI 1 := rfl
  simp (disch := first | omega | (simp only [cat_i, cat_r, ri_r, ri_0]; done)) only [eX8_start_68, eX8_start_69, eX8_start_70, eX8_start_73, eX8_start_74, eX8_start_77, eX8_start_78, eX8_start_81, eX8_start_82, eX8_start_85, eX8_start_88, ↓reduceIte, Evk_some, Evh_some, Evn_some, Evr_v, Evr_n, mk_i, mk_r, mk_0, mk_n, mk_l, mc0, mc1, mc2, mc3, mc4, mi_obj, Bool.and_self, Bool.true_and, Nat.add_zero, Nat.zero_add, nI_add, pk_mul, pk_sub, Nat.add_sub_cancel, eq_self, if_true, if_false, n10, bI_t, bI_f, bI_0, Nat.reduceAdd, Nat.reduceMul, Nat.reduceSub, nI_eq, nI_ltI, Nat.reduceEqDiff, Nat.reduceLT, Nat.reduceDiv, Nat.reduceMod, Nat.reduceLeDiff, hs, mp_code, mg_code, c1, h0]
def stF (F : Nat → Int32) : Nat → Int32 := up1 (up1 (up1 (up1 (up1 (up1 F 0 (nI 0)) 9 (nI 1)) 11 (nI 0)) 12 (nI 0)) 13 (nI 0)) 11 (nI 1)
def stA (A : Nat → Nat → Int32) : Nat → Nat → Int32 := bgA (opA (zrU A 40) 0 (-1)) 0 (nI 0) (-1) (nI 0) (-1)
theorem cl_start_ok {nb nm : Nat} {sz : Nat → Nat} {op : Nat → Nat → Nat} {ai : Nat → Nat → Int32} (hnb : nb ≤ 6) (hnm : nm ≤ 2) (h1 : F 1 = nI nb) (h2 : F 2 = nI nm) (hcd : cdS A sz op ai) (hs : stB A sz op ai nb nm = true) : ∃ A', fr10 A A' ∧ Cl 101 [.ref 149] (mpic b F A L) nx = some ((mpic b (stF F) (stA A') (bgL L 0 0), nx, 0, 0), .inl none) := by
  obtain ⟨A', k1, k2⟩ := cl_start_pre (b := b) (L := L) (nx := nx) hnb hnm h1 h2 hcd
  refine ⟨A', k1, Cl_of (x := mnI_X8_start) rfl ((k2 _).mpr ?_)⟩
  have h0 : nI 0 ≤ nI 0 := by decide
  have c1 : up1 F 0 (nI 0) 0 = nI 0 := rfl
  have e := ev_start2 (b := b) (F := up1 (up1 (up1 (up1 (up1 F 0 (nI 0)) 9 (nI 1)) 11 (nI 0)) 12 (nI 0)) 13 (nI 0)) (A := A') (L := L) (nx := nx) (g := nI 1) 40 0 (by omega)
  rw [zrU_0] at e
  have hz : zrU A' 40 29 0 = nI 0 := by
    show (if 0 < 40 then nI 0 else A' 29 0) = nI 0
    rw [if_pos (by omega)]
  have o1 := cl_open (b := b) (F := up1 (up1 (up1 (up1 (up1 F 0 (nI 0)) 9 (nI 1)) 11 (nI 0)) 12 (nI 0)) 13 (nI 0)) (A := zrU A' 40) (L := L) (nx := nx) (s := 0) (by omega) hz (fun i hi => by omega) (u := -1)
  change Cl 103 _ _ _ = some ((mpic b _ (opA _ 0 (-1)) L, nx, 0, 0), _) at o1
  have b1 := cl_beginTask (b := b) (F := up1 (up1 (up1 (up1 (up1 F 0 (nI 0)) 9 (nI 1)) 11 (nI 0)) 12 (nI 0)) 13 (nI 0)) (A := opA (zrU A' 40) 0 (-1)) (L := L) (nx := nx) (n := 0) (by omega) rfl (b0 := nI 0) (by0 := -1) (s0 := nI 0) (u0 := -1) (v := 0)
  change Cl 108 _ _ _ = some ((mpic b (stF F) (stA A') (bgL L 0 0), nx, 0, 0), _) at b1
  simp (disch := first | omega | (simp only [cat_i, cat_r, ri_r, ri_0]; done)) only [eX8_start_68, eX8_start_69, eX8_start_70, eX8_start_73, eX8_start_74, eX8_start_77, eX8_start_78, eX8_start_81, eX8_start_82, eX8_start_85, eX8_start_88, eX8_start_89, eX8_start_90, eX8_start_91, eX8_start_94, eX8_start_95, eX8_start_96, eX8_start_99, eX8_start_100, eX8_start_101, eX8_start_104, eX8_start_105, eX8_start_106, eX8_start_109, eX8_start_110, ↓reduceIte, Evk_some, Evh_some, Evn_some, Evr_v, Evr_n, mk_i, mk_r, mk_0, mk_n, mk_l, mc0, mc1, mc2, mc3, mc4, mi_obj, Bool.and_self, Bool.true_and, Nat.add_zero, Nat.zero_add, nI_add, pk_mul, pk_sub, Nat.add_sub_cancel, eq_self, if_true, if_false, n10, bI_t, bI_f, bI_0, Nat.reduceAdd, Nat.reduceMul, Nat.reduceSub, nI_eq, nI_ltI, Nat.reduceEqDiff, Nat.reduceLT, Nat.reduceDiv, Nat.reduceMod, Nat.reduceLeDiff, hs, Bool.true_eq_false, mp_code, mg_code, c1, h0, mp_runs1, mp_tasks, mp_steps, mp_brought]
  refine (e _).mpr ?_
  simp (disch := first | omega | (simp only [cat_i, cat_r, ri_r, ri_0]; done)) only [eX8_start_130, eX8_start_131, eX8_start_132, eX8_start_133, eX8_start_134, eX8_start_135, eX8_start_136, eX8_start_139, eX8_start_140, eX8_start_143, eX8_start_143r, eX8_start_144, ↓reduceIte, Evk_some, Evh_some, Evn_some, Evr_v, Evr_n, mk_i, mk_r, mk_0, mk_n, mk_l, mc0, mc1, mc2, mc3, mc4, mi_obj, Bool.and_self, Bool.true_and, Nat.add_zero, Nat.zero_add, nI_add, pk_mul, pk_sub, Nat.add_sub_cancel, eq_self, if_true, if_false, n10, bI_t, bI_f, bI_0, Nat.reduceAdd, Nat.reduceMul, Nat.reduceSub, nI_eq, nI_ltI, nI_leI, Nat.reduceEqDiff, Nat.reduceLT, Nat.reduceDiv, Nat.reduceMod, Nat.reduceLeDiff, o1, b1]
end MP2
