/-! the reference: tidy as a whole -/
section MI
variable {b : Nat → Option va_E} {F : Nat → Int32} {A : Nat → Nat → Int32} {L : Nat → Nat → Int64} {nx : Option Nat} {r : mn_Res}
def AkR (ρ : Nat → Nat) (g : FG) : Prop := ∀ k w t, g k = some (w, some t) → ρ t < ρ k
theorem AkR.rem {ρ : Nat → Nat} {g : FG} {s : Nat} (h : AkR ρ g) (hs : g s ≠ none) : AkR ρ (rmF s g) := by
  intro k w t hk
  obtain ⟨h1, w', o, h2, h3 | ⟨ho, ws, bs, h4, h5⟩⟩ := rem_some hs hk
  · cases h3.2
    exact h _ _ _ h2
  · cases h5
    subst ho
    exact Nat.lt_trans (h _ _ _ h4) (h _ _ _ h2)
theorem AkR.self {ρ : Nat → Nat} (h : AkR ρ (gR A L)) : ∀ s, s < 40 → A 29 s = nI 1 → A 30 s ≠ nI s := by
  intro s hs h29 h30
  have e := gR_some (L := L) hs h29
  rw [h30, show dI (nI s) = some s from dI_oI (o := some s) (fun y q => by cases q; omega)] at e
  have := h _ _ _ e
  omega
theorem Rd_app {need : Nat → Prop} : ∀ (l : List Nat) (g h h' : FG) (l' : List Nat), Rd need g l h → Rd need h l' h' → Rd need g (l ++ l') h' := by
  intro l
  induction l with
  | nil => intro g h h' l' h1 h2; have h1 : g = h := h1; subst h1; exact h2
  | cons x l ih => intro g h h' l' h1 h2; exact ⟨h1.1, ih _ _ _ _ h1.2 h2⟩
theorem Rd_congr {need need' : Nat → Prop} (hn : ∀ x, need x ↔ need' x) : ∀ (l : List Nat) (g h : FG), Rd need g l h → Rd need' g l h := by
  have e : need = need' := funext (fun x => propext (hn x))
  subst e
  exact fun _ _ _ q => q
theorem Nrm_congr {need need' : Nat → Prop} (hn : ∀ x, need x ↔ need' x) {g : FG} (h : Nrm need g) : Nrm need' g := by
  have e : need = need' := funext (fun x => propext (hn x))
  subst e
  exact h
theorem AkR.rd {ρ : Nat → Nat} {need : Nat → Prop} : ∀ (l : List Nat) (g h : FG), AkR ρ g → Rd need g l h → AkR ρ h := by
  intro l
  induction l with
  | nil => intro g h h1 h2; have h2 : g = h := h2; subst h2; exact h1
  | cons x l ih => intro g h h1 h2; exact ih _ _ (h1.rem h2.1.1) h2.2
def cntG (g : FG) : Nat := ((List.range 40).filter (fun x => (g x).isSome)).length
theorem cntG_rem {g : FG} {s : Nat} (hs : g s ≠ none) (h40 : s < 40) : cntG (rmF s g) < cntG g := by
  unfold cntG
  have e : (List.range 40).filter (fun x => (rmF s g x).isSome) = ((List.range 40).filter (fun x => (g x).isSome)).filter (fun x => !decide (x = s)) := by
    rw [List.filter_filter]
    apply List.filter_congr
    intro x _
    obtain ⟨⟨ws, bs⟩, hs'⟩ := Option.ne_none_iff_exists'.mp hs
    rw [rem_at hs']
    by_cases hx : x = s
    · simp [hx]
    · simp [hx]
  rw [e]
  apply List.length_filter_lt_length_iff_exists.mpr
  refine ⟨s, ?_, by simp⟩
  rw [List.mem_filter]
  exact ⟨List.mem_range.mpr h40, by simpa [Option.isSome_iff_ne_none] using hs⟩
set_option maxHeartbeats 4000000 in
theorem ev_tidy_pass {ρ : Nat → Nat} {n : Nat} (hn : n ≤ 12) (hF : F 11 = nI n) : ∀ (j k : Nat), k + j = 40 → ∀ (A : Nat → Nat → Int32) (L : Nat → Nat → Int64) (m : Bool) (c3 c4 c5 : Option Value), WfR A → AkR ρ (gR A L) →
    ∃ A' L' m' d3 d4 d5 l, fr3 A A' ∧ frL L L' ∧ WfR A' ∧ Rd (ndR A n) (gR A L) l (gR A' L') ∧ m' = (m || !l.isEmpty) ∧ (l = [] → A' = A ∧ L' = L ∧ ∀ s, k ≤ s → s < 40 → ¬ Rmv (ndR A n) (gR A L) s) ∧ cntG (gR A' L') + l.length ≤ cntG (gR A L) ∧
      (∀ r : mn_Res, Ev 107 10 [some (.ref 149), some (.int (bI m)), some (.int (nI k)), c3, c4, c5] [] (mpic b F A L, nx, 0, 0) r ↔ Ev 107 199 [some (.ref 149), some (.int (bI m')), some (.int (nI 40)), d3, d4, d5] [] (mpic b F A' L', nx, 0, 0) r) := by
  intro j
  induction j with
  | zero =>
    intro k hk A L m c3 c4 c5 hw ha
    have hk : k = 40 := by omega
    subst hk
    refine ⟨A, L, m, c3, c4, c5, [], fun _ _ _ _ => rfl, fun _ _ => rfl, hw, rfl, by simp, fun _ => ⟨rfl, rfl, fun s h1 h2 => absurd h2 (by omega)⟩, by simp, ?_⟩
    intro r
    refine eX8_tidy_10.trans ?_
    simp (disch := first | omega | (simp only [cat_i, cat_r, ri_r, ri_0]; done)) only [eX8_tidy_11, eX8_tidy_13, Evk_some, Evh_some, Evn_some, Evr_v, Evr_n, mk_i, mk_r, mk_0, mk_n, mk_l, mc0, mc1, mc2, mc3, mc4, mi_obj, Bool.and_self, Bool.true_and, Nat.add_zero, Nat.zero_add, nI_add, pk_mul, pk_sub, Nat.add_sub_cancel, eq_self, if_true, if_false, n10, bI_t, bI_f, bI_0, Nat.reduceAdd, Nat.reduceMul, Nat.reduceSub, nI_eq, nI_ltI, nI_leI, Nat.reduceEqDiff, Nat.reduceLT, Nat.reduceDiv, Nat.reduceMod, Nat.reduceLeDiff]
  | succ j ih =>
    intro k hk A L m c3 c4 c5 hw ha
    have hk40 : k < 40 := by omega
    obtain ⟨A1, L1, m1, e3, e4, e5, f1, f2, f3, f4, f5⟩ := ev_tidy_one (b := b) (nx := nx) hw ha.self hn hF hk40 (m := m) (c3 := c3) (c4 := c4) (c5 := c5)
    have ha1 : AkR ρ (gR A1 L1) := by
      rcases f4 with ⟨rfl, rfl, -, -⟩ | ⟨q1, q2, -⟩
      · exact ha
      · rw [q2]; exact ha.rem q1.1
    obtain ⟨A', L', m', d3, d4, d5, l, g1, g2, g3, g4, g5, g6, g7, g8⟩ := ih (k + 1) (by omega) A1 L1 m1 e3 e4 e5 f3 ha1
    have hev : ∀ r : mn_Res, Ev 107 10 [some (.ref 149), some (.int (bI m)), some (.int (nI k)), c3, c4, c5] [] (mpic b F A L, nx, 0, 0) r ↔ Ev 107 199 [some (.ref 149), some (.int (bI m')), some (.int (nI 40)), d3, d4, d5] [] (mpic b F A' L', nx, 0, 0) r := by
      intro r
      refine Iff.trans ?_ (g8 r)
      refine Iff.trans ?_ ((f5 r).trans ?_)
      · have h40 : ¬ 40 ≤ k := by omega
        refine eX8_tidy_10.trans ?_
        simp (disch := first | omega | (simp only [cat_i, cat_r, ri_r, ri_0]; done)) only [eX8_tidy_11, eX8_tidy_13, Evk_some, Evh_some, Evn_some, Evr_v, Evr_n, mk_i, mk_r, mk_0, mk_n, mk_l, mc0, mc1, mc2, mc3, mc4, mi_obj, Bool.and_self, Bool.true_and, Nat.add_zero, Nat.zero_add, nI_add, pk_mul, pk_sub, Nat.add_sub_cancel, eq_self, if_true, if_false, n10, bI_t, bI_f, bI_0, Nat.reduceAdd, Nat.reduceMul, Nat.reduceSub, nI_eq, nI_ltI, nI_leI, Nat.reduceEqDiff, Nat.reduceLT, Nat.reduceDiv, Nat.reduceMod, Nat.reduceLeDiff, h40]
      · simp (disch := first | omega | (simp only [cat_i, cat_r, ri_r, ri_0]; done)) only [eX8_tidy_193, eX8_tidy_196, Evk_some, Evh_some, Evn_some, Evr_v, Evr_n, mk_i, mk_r, mk_0, mk_n, mk_l, mc0, mc1, mc2, mc3, mc4, mi_obj, Bool.and_self, Bool.true_and, Nat.add_zero, Nat.zero_add, nI_add, pk_mul, pk_sub, Nat.add_sub_cancel, eq_self, if_true, if_false, n10, bI_t, bI_f, bI_0, Nat.reduceAdd, Nat.reduceMul, Nat.reduceSub, nI_eq, nI_ltI, nI_leI, Nat.reduceEqDiff, Nat.reduceLT, Nat.reduceDiv, Nat.reduceMod, Nat.reduceLeDiff]
    have hnd : ∀ x, ndR A1 n x ↔ ndR A n x := fun x => ndR_congr f1 n x
    have g4' := Rd_congr hnd _ _ _ g4
    rcases f4 with ⟨rfl, rfl, rfl, q4⟩ | ⟨q1, q2, rfl⟩
    · refine ⟨A', L', m', d3, d4, d5, l, g1, g2, g3, g4', g5, fun hl => ?_, g7, hev⟩
      obtain ⟨e1, e2, e6⟩ := g6 hl
      refine ⟨e1, e2, fun s h1 h2 => ?_⟩
      by_cases hs : s = k
      · subst hs; exact q4
      · exact e6 s (by omega) h2
    · refine ⟨A', L', m', d3, d4, d5, k :: l, f1.trans g1, f2.trans g2, g3, ⟨q1, by rw [← q2]; exact g4'⟩, by rw [g5]; simp, (fun hl => by cases hl), ?_, hev⟩
      have := cntG_rem q1.1 hk40
      rw [← q2] at this
      simp only [List.length_cons]
      omega
set_option maxHeartbeats 4000000 in
theorem ev_tidy {ρ : Nat → Nat} {n : Nat} (hn : n ≤ 12) (hF : F 11 = nI n) : ∀ (N : Nat) (A : Nat → Nat → Int32) (L : Nat → Nat → Int64) (c2 c3 c4 c5 : Option Value), cntG (gR A L) ≤ N → WfR A → AkR ρ (gR A L) →
    ∃ A' L' l, fr3 A A' ∧ frL L L' ∧ WfR A' ∧ Rd (ndR A n) (gR A L) l (gR A' L') ∧ Nrm (ndR A n) (gR A' L') ∧
      Ev 107 2 [some (.ref 149), some (.int (nI 1)), c2, c3, c4, c5] [] (mpic b F A L, nx, 0, 0) ((mpic b F A' L', nx, 0, 0), .inl none) := by
  intro N
  induction N with
  | zero =>
    intro A L c2 c3 c4 c5 hc hw ha
    obtain ⟨A', L', m', d3, d4, d5, l, g1, g2, g3, g4, g5, g6, g7, g8⟩ := ev_tidy_pass (b := b) (nx := nx) hn hF 40 0 (by omega) A L false c3 c4 c5 hw ha
    have hl : l = [] := List.eq_nil_of_length_eq_zero (by omega)
    obtain ⟨rfl, rfl, e6⟩ := g6 hl
    subst hl
    refine ⟨A', L', [], g1, g2, g3, g4, fun s hs => ?_, ?_⟩
    · exact e6 s (Nat.zero_le _) (gR_of hs.1).1 hs
    · refine eX8_tidy_2.mpr ?_
      simp (disch := first | omega | (simp only [cat_i, cat_r, ri_r, ri_0]; done)) only [eX8_tidy_3, eX8_tidy_6, eX8_tidy_7, eX8_tidy_8, eX8_tidy_9, Evk_some, Evh_some, Evn_some, Evr_v, Evr_n, mk_i, mk_r, mk_0, mk_n, mk_l, mc0, mc1, mc2, mc3, mc4, mi_obj, Bool.and_self, Bool.true_and, Nat.add_zero, Nat.zero_add, nI_add, pk_mul, pk_sub, Nat.add_sub_cancel, eq_self, if_true, if_false, n10, bI_t, bI_f, bI_0, Nat.reduceAdd, Nat.reduceMul, Nat.reduceSub, nI_eq, nI_ltI, nI_leI, Nat.reduceEqDiff, Nat.reduceLT, Nat.reduceDiv, Nat.reduceMod, Nat.reduceLeDiff]
      refine (g8 _).mpr ?_
      subst g5
      refine eX8_tidy_199.mpr (eX8_tidy_2.mpr ?_)
      simp (disch := first | omega | (simp only [cat_i, cat_r, ri_r, ri_0]; done)) only [eX8_tidy_3, eX8_tidy_202, Evk_some, Evh_some, Evn_some, Evr_v, Evr_n, mk_i, mk_r, mk_0, mk_n, mk_l, mc0, mc1, mc2, mc3, mc4, mi_obj, Bool.and_self, Bool.true_and, Nat.add_zero, Nat.zero_add, nI_add, pk_mul, pk_sub, Nat.add_sub_cancel, eq_self, if_true, if_false, n10, bI_t, bI_f, bI_0, Nat.reduceAdd, Nat.reduceMul, Nat.reduceSub, nI_eq, nI_ltI, nI_leI, Nat.reduceEqDiff, Nat.reduceLT, Nat.reduceDiv, Nat.reduceMod, Nat.reduceLeDiff, List.isEmpty_nil, Bool.not_true, Bool.or_false]
  | succ N ih =>
    intro A L c2 c3 c4 c5 hc hw ha
    obtain ⟨A', L', m', d3, d4, d5, l, g1, g2, g3, g4, g5, g6, g7, g8⟩ := ev_tidy_pass (b := b) (nx := nx) hn hF 40 0 (by omega) A L false c3 c4 c5 hw ha
    by_cases hl : l = []
    · obtain ⟨rfl, rfl, e6⟩ := g6 hl
      subst hl
      refine ⟨A', L', [], g1, g2, g3, g4, fun s hs => ?_, ?_⟩
      · exact e6 s (Nat.zero_le _) (gR_of hs.1).1 hs
      · refine eX8_tidy_2.mpr ?_
        simp (disch := first | omega | (simp only [cat_i, cat_r, ri_r, ri_0]; done)) only [eX8_tidy_3, eX8_tidy_6, eX8_tidy_7, eX8_tidy_8, eX8_tidy_9, Evk_some, Evh_some, Evn_some, Evr_v, Evr_n, mk_i, mk_r, mk_0, mk_n, mk_l, mc0, mc1, mc2, mc3, mc4, mi_obj, Bool.and_self, Bool.true_and, Nat.add_zero, Nat.zero_add, nI_add, pk_mul, pk_sub, Nat.add_sub_cancel, eq_self, if_true, if_false, n10, bI_t, bI_f, bI_0, Nat.reduceAdd, Nat.reduceMul, Nat.reduceSub, nI_eq, nI_ltI, nI_leI, Nat.reduceEqDiff, Nat.reduceLT, Nat.reduceDiv, Nat.reduceMod, Nat.reduceLeDiff]
        refine (g8 _).mpr ?_
        subst g5
        refine eX8_tidy_199.mpr (eX8_tidy_2.mpr ?_)
        simp (disch := first | omega | (simp only [cat_i, cat_r, ri_r, ri_0]; done)) only [eX8_tidy_3, eX8_tidy_202, Evk_some, Evh_some, Evn_some, Evr_v, Evr_n, mk_i, mk_r, mk_0, mk_n, mk_l, mc0, mc1, mc2, mc3, mc4, mi_obj, Bool.and_self, Bool.true_and, Nat.add_zero, Nat.zero_add, nI_add, pk_mul, pk_sub, Nat.add_sub_cancel, eq_self, if_true, if_false, n10, bI_t, bI_f, bI_0, Nat.reduceAdd, Nat.reduceMul, Nat.reduceSub, nI_eq, nI_ltI, nI_leI, Nat.reduceEqDiff, Nat.reduceLT, Nat.reduceDiv, Nat.reduceMod, Nat.reduceLeDiff, List.isEmpty_nil, Bool.not_true, Bool.or_false]
    · have hlen : 0 < l.length := List.length_pos_iff.mpr hl
      obtain ⟨A2, L2, l2, k1, k2, k3, k4, k5, k6⟩ := ih A' L' (some (.int (nI 40))) d3 d4 d5 (by omega) g3 (ha.rd _ _ _ g4)
      have hnd : ∀ x, ndR A' n x ↔ ndR A n x := fun x => ndR_congr g1 n x
      exact ⟨A2, L2, l ++ l2, g1.trans k1, g2.trans k2, k3, Rd_app _ _ _ _ _ g4 (Rd_congr hnd _ _ _ k4), Nrm_congr hnd k5, by
        refine eX8_tidy_2.mpr ?_
        simp (disch := first | omega | (simp only [cat_i, cat_r, ri_r, ri_0]; done)) only [eX8_tidy_3, eX8_tidy_6, eX8_tidy_7, eX8_tidy_8, eX8_tidy_9, Evk_some, Evh_some, Evn_some, Evr_v, Evr_n, mk_i, mk_r, mk_0, mk_n, mk_l, mc0, mc1, mc2, mc3, mc4, mi_obj, Bool.and_self, Bool.true_and, Nat.add_zero, Nat.zero_add, nI_add, pk_mul, pk_sub, Nat.add_sub_cancel, eq_self, if_true, if_false, n10, bI_t, bI_f, bI_0, Nat.reduceAdd, Nat.reduceMul, Nat.reduceSub, nI_eq, nI_ltI, nI_leI, Nat.reduceEqDiff, Nat.reduceLT, Nat.reduceDiv, Nat.reduceMod, Nat.reduceLeDiff]
        refine (g8 _).mpr ?_
        have hm : m' = true := by rw [g5]; cases l with
          | nil => exact absurd rfl hl
          | cons a l => rfl
        subst hm
        exact eX8_tidy_199.mpr k6⟩
theorem cl_tidy {ρ : Nat → Nat} {n : Nat} (hn : n ≤ 12) (hF : F 11 = nI n) (hw : WfR A) (ha : AkR ρ (gR A L)) : ∃ A' L' l, fr3 A A' ∧ frL L L' ∧ WfR A' ∧ Rd (ndR A n) (gR A L) l (gR A' L') ∧ Nrm (ndR A n) (gR A' L') ∧ Cl 107 [.ref 149] (mpic b F A L) nx = some ((mpic b F A' L', nx, 0, 0), .inl none) := by
  obtain ⟨A', L', l, h1, h2, h3, h4, h5, h6⟩ := ev_tidy (b := b) (nx := nx) hn hF _ A L none none none none (Nat.le_refl _) hw ha
  refine ⟨A', L', l, h1, h2, h3, h4, h5, Cl_of (x := mnI_X8_tidy) rfl ?_⟩
  show Ev 107 0 [some (.ref 149), none, none, none, none, none] [] _ _
  rw [eX8_tidy_0, eX8_tidy_1]
  exact h6
end MI
