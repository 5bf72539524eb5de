/-! the reference: all ways as a whole, the fault of a code -/
section MN
variable {b : Nat → Option va_E} {F : Nat → Int32} {A : Nat → Nat → Int32} {L : Nat → Nat → Int64} {nx : Option Nat} {r : mn_Res} {op ar : Nat → Nat}
/-- the code c of the reference is op, ar, of length n -/
def cdR (A : Nat → Nat → Int32) (c n : Nat) (op ar : Nat → Nat) : Prop := A 4 c = nI n ∧ ∀ p, p < n → A 5 (24 * c + p) = nI (op p) ∧ (op p = 11 ∨ op p = 12 → A 6 (24 * c + p) = nI (ar p))
theorem cdR.fr {A A' : Nat → Nat → Int32} {c n : Nat} (h : cdR A c n op ar) (hf : fr10 A A') : cdR A' c n op ar := by
  refine ⟨by rw [hf 4 (by decide)]; exact h.1, fun p hp => ?_⟩
  rw [hf 5 (by decide), hf 6 (by decide)]
  exact h.2 p hp
set_option maxHeartbeats 4000000 in
theorem ev_ways2 {c n : Nat} (hc : c < 8) (hw : wfC op ar n) : ∀ (j k : Nat), k + j = 8 * n → ∀ (A : Nat → Nat → Int32) (m : Bool) (c4 c5 c6 : Option Value), cdR A c n op ar → WB A →
    ∃ A' m' d4 d5 d6, fr10 A A' ∧ WB A' ∧ (A 10 0 = nI 1 → A' 10 0 = nI 1) ∧ (Rk op ar A → Rk op ar A') ∧ Gr A m A' m' ∧ (A' = A → ∀ p h, k ≤ 8 * p + h → p < n → h < 8 → Cl1 op ar A p h) ∧ ∀ r : mn_Res, Ev 95 39 [some (.ref 149), some (.int (nI c)), some (.int (bI m)), some (.int (nI k)), c4, c5, c6] [] (mpic b F A L, nx, 0, 0) r ↔ Ev 95 219 [some (.ref 149), some (.int (nI c)), some (.int (bI m')), some (.int (nI (8 * n))), d4, d5, d6] [] (mpic b F A' L, nx, 0, 0) r := by
  have hw' := hw
  obtain ⟨w1, w2, w3⟩ := hw
  intro j
  induction j with
  | zero =>
    intro k hk A m c4 c5 c6 hcd hB
    have hk : k = 8 * n := by omega
    subst hk
    refine ⟨A, m, c4, c5, c6, fun _ _ => rfl, hB, fun z => z, fun z => z, Or.inl ⟨rfl, rfl⟩, fun _ p h q1 q2 q3 => absurd q1 (by omega), fun r => ?_⟩
    have h4 := hcd.1
    refine eX8_goAllWays_39.trans ?_
    simp (disch := first | omega | (simp only [cat_i, cat_r, ri_r, ri_0]; done)) only [eX8_goAllWays_40, eX8_goAllWays_42, eX8_goAllWays_43, eX8_goAllWays_46, eX8_goAllWays_47, eX8_goAllWays_48, eX8_goAllWays_49, ↓reduceIte, Evk_some, Evh_some, Evn_some, Evr_v, Evr_n, mk_i, mk_r, mk_0, mk_n, mk_l, mc0, mc1, mc2, mc3, mc4, mi_obj, Bool.and_self, Bool.true_and, Nat.add_zero, Nat.zero_add, nI_add, pk_mul, pk_sub, Nat.add_sub_cancel, eq_self, if_true, if_false, n10, bI_t, bI_f, bI_0, Nat.reduceAdd, Nat.reduceMul, Nat.reduceSub, nI_eq, nI_ltI, nI_leI, Nat.reduceEqDiff, Nat.reduceLT, Nat.reduceDiv, Nat.reduceMod, Nat.reduceLeDiff, mg_size, ml_size, h4, Nat.le_refl]
  | succ j ih =>
    intro k hk A m c4 c5 c6 hcd hB
    obtain ⟨p, h, hkp, hh⟩ : ∃ p h, k = 8 * p + h ∧ h < 8 := ⟨k / 8, k % 8, by omega, by omega⟩
    subst hkp
    have hp : p < n := by omega
    obtain ⟨A1, m1, e4, e5, e6, f1, f2, f3, f4, f5, f6, f7⟩ := ev_ways1 (b := b) (F := F) (L := L) (nx := nx) hc hw' hp hh (hcd.2 p hp).1 (hcd.2 p hp).2 hB (m := m) (c4 := c4) (c5 := c5) (c6 := c6)
    obtain ⟨A', m', d4, d5, d6, g1, g2, g3, g4, g5, g6, g7⟩ := ih (8 * p + h + 1) (by omega) A1 m1 e4 e5 e6 (hcd.fr f1) f2
    refine ⟨A', m', d4, d5, d6, f1.trans g1, g2, fun z => g3 (f3 z), fun z => g4 (f4 z), f5.trans g5, fun he p' h' q1 q2 q3 => ?_, fun r => ?_⟩
    · have e1 : A1 = A := by
        rcases f5 with ⟨q, -⟩ | ⟨-, q⟩
        · exact q
        · exfalso
          subst he
          rcases g5 with ⟨z, -⟩ | ⟨-, z⟩
          · rw [← z] at q; omega
          · omega
      subst e1
      by_cases hq : 8 * p' + h' = 8 * p + h
      · have : p' = p ∧ h' = h := by omega
        obtain ⟨rfl, rfl⟩ := this
        exact f6 rfl
      · exact g6 he p' h' (by omega) q2 q3
    · have h4 := hcd.1
      have hq : ¬ 8 * n ≤ 8 * p + h := by omega
      refine Iff.trans ?_ ((f7 r).trans (Iff.trans ?_ (g7 r)))
      · refine eX8_goAllWays_39.trans ?_
        simp (disch := first | omega | (simp only [cat_i, cat_r, ri_r, ri_0]; done)) only [eX8_goAllWays_40, eX8_goAllWays_42, eX8_goAllWays_43, eX8_goAllWays_46, eX8_goAllWays_47, eX8_goAllWays_48, eX8_goAllWays_49, ↓reduceIte, Evk_some, Evh_some, Evn_some, Evr_v, Evr_n, mk_i, mk_r, mk_0, mk_n, mk_l, mc0, mc1, mc2, mc3, mc4, mi_obj, Bool.and_self, Bool.true_and, Nat.add_zero, Nat.zero_add, nI_add, pk_mul, pk_sub, Nat.add_sub_cancel, eq_self, if_true, if_false, n10, bI_t, bI_f, bI_0, Nat.reduceAdd, Nat.reduceMul, Nat.reduceSub, nI_eq, nI_ltI, nI_leI, Nat.reduceEqDiff, Nat.reduceLT, Nat.reduceDiv, Nat.reduceMod, Nat.reduceLeDiff, mg_size, ml_size, h4, hq]
      · simp (disch := first | omega | (simp only [cat_i, cat_r, ri_r, ri_0]; done)) only [eX8_goAllWays_213, eX8_goAllWays_216, ↓reduceIte, Evk_some, Evh_some, Evn_some, Evr_v, Evr_n, mk_i, mk_r, mk_0, mk_n, mk_l, mc0, mc1, mc2, mc3, mc4, mi_obj, Bool.and_self, Bool.true_and, Nat.add_zero, Nat.zero_add, nI_add, pk_mul, pk_sub, Nat.add_sub_cancel, eq_self, if_true, if_false, n10, bI_t, bI_f, bI_0, Nat.reduceAdd, Nat.reduceMul, Nat.reduceSub, nI_eq, nI_ltI, nI_leI, Nat.reduceEqDiff, Nat.reduceLT, Nat.reduceDiv, Nat.reduceMod, Nat.reduceLeDiff]
set_option maxHeartbeats 4000000 in
theorem ev_ways3 {c n : Nat} (hc : c < 8) (hw : wfC op ar n) : ∀ (Z : Nat) (A : Nat → Nat → Int32) (c3 c4 c5 c6 : Option Value), cz A ≤ Z → cdR A c n op ar → WB A → A 10 0 = nI 1 → Rk op ar A →
    ∃ A', fr10 A A' ∧ WB A' ∧ (∀ p h, p < 24 → h < 8 → (A' 10 (8 * p + h) = nI 1 ↔ Rch op ar p h)) ∧ Ev 95 31 [some (.ref 149), some (.int (nI c)), some (.int (nI 1)), c3, c4, c5, c6] [] (mpic b F A L, nx, 0, 0) ((mpic b F A' L, nx, 0, 0), .inl none) := by
  intro Z
  induction Z with
  | zero =>
    intro A c3 c4 c5 c6 hz hcd hB h0 hk
    obtain ⟨A', m', d4, d5, d6, g1, g2, g3, g4, g5, g6, g7⟩ := ev_ways2 (b := b) (F := F) (L := L) (nx := nx) hc hw (8 * n) 0 (by omega) A false c4 c5 c6 hcd hB
    rcases g5 with ⟨rfl, rfl⟩ | ⟨-, q⟩
    · refine ⟨A', g1, g2, fun p h hp hh => ⟨hk p h hp hh, fun hr => ?_⟩, ?_⟩
      · exact (hr (fun p h => p < n ∧ h < 8 ∧ A' 10 (8 * p + h) = nI 1) ⟨hw.1, by decide, h0⟩ (fun p h p' h' hx hs => ⟨(hs.bound hw hx.1).1, by have := (hs.bound hw hx.1).2; omega, g6 rfl p h (Nat.zero_le _) hx.1 hx.2.1 hx.2.2 p' h' hs⟩)).2.2
      · refine eX8_goAllWays_31.mpr ?_
        simp (disch := first | omega | (simp only [cat_i, cat_r, ri_r, ri_0]; done)) only [eX8_goAllWays_32, eX8_goAllWays_35, eX8_goAllWays_36, eX8_goAllWays_37, eX8_goAllWays_38, ↓reduceIte, Evk_some, Evh_some, Evn_some, Evr_v, Evr_n, mk_i, mk_r, mk_0, mk_n, mk_l, mc0, mc1, mc2, mc3, mc4, mi_obj, Bool.and_self, Bool.true_and, Nat.add_zero, Nat.zero_add, nI_add, pk_mul, pk_sub, Nat.add_sub_cancel, eq_self, if_true, if_false, n10, bI_t, bI_f, bI_0, Nat.reduceAdd, Nat.reduceMul, Nat.reduceSub, nI_eq, nI_ltI, nI_leI, Nat.reduceEqDiff, Nat.reduceLT, Nat.reduceDiv, Nat.reduceMod, Nat.reduceLeDiff]
        refine (g7 _).mpr (eX8_goAllWays_219.mpr (eX8_goAllWays_31.mpr ?_))
        simp (disch := first | omega | (simp only [cat_i, cat_r, ri_r, ri_0]; done)) only [eX8_goAllWays_32, eX8_goAllWays_222, ↓reduceIte, Evk_some, Evh_some, Evn_some, Evr_v, Evr_n, mk_i, mk_r, mk_0, mk_n, mk_l, mc0, mc1, mc2, mc3, mc4, mi_obj, Bool.and_self, Bool.true_and, Nat.add_zero, Nat.zero_add, nI_add, pk_mul, pk_sub, Nat.add_sub_cancel, eq_self, if_true, if_false, n10, bI_t, bI_f, bI_0, Nat.reduceAdd, Nat.reduceMul, Nat.reduceSub, nI_eq, nI_ltI, nI_leI, Nat.reduceEqDiff, Nat.reduceLT, Nat.reduceDiv, Nat.reduceMod, Nat.reduceLeDiff]
    · omega
  | succ Z ih =>
    intro A c3 c4 c5 c6 hz hcd hB h0 hk
    obtain ⟨A', m', d4, d5, d6, g1, g2, g3, g4, g5, g6, g7⟩ := ev_ways2 (b := b) (F := F) (L := L) (nx := nx) hc hw (8 * n) 0 (by omega) A false c4 c5 c6 hcd hB
    rcases g5 with ⟨rfl, rfl⟩ | ⟨rfl, q⟩
    · refine ⟨A', g1, g2, fun p h hp hh => ⟨hk p h hp hh, fun hr => ?_⟩, ?_⟩
      · exact (hr (fun p h => p < n ∧ h < 8 ∧ A' 10 (8 * p + h) = nI 1) ⟨hw.1, by decide, h0⟩ (fun p h p' h' hx hs => ⟨(hs.bound hw hx.1).1, by have := (hs.bound hw hx.1).2; omega, g6 rfl p h (Nat.zero_le _) hx.1 hx.2.1 hx.2.2 p' h' hs⟩)).2.2
      · refine eX8_goAllWays_31.mpr ?_
        simp (disch := first | omega | (simp only [cat_i, cat_r, ri_r, ri_0]; done)) only [eX8_goAllWays_32, eX8_goAllWays_35, eX8_goAllWays_36, eX8_goAllWays_37, eX8_goAllWays_38, ↓reduceIte, Evk_some, Evh_some, Evn_some, Evr_v, Evr_n, mk_i, mk_r, mk_0, mk_n, mk_l, mc0, mc1, mc2, mc3, mc4, mi_obj, Bool.and_self, Bool.true_and, Nat.add_zero, Nat.zero_add, nI_add, pk_mul, pk_sub, Nat.add_sub_cancel, eq_self, if_true, if_false, n10, bI_t, bI_f, bI_0, Nat.reduceAdd, Nat.reduceMul, Nat.reduceSub, nI_eq, nI_ltI, nI_leI, Nat.reduceEqDiff, Nat.reduceLT, Nat.reduceDiv, Nat.reduceMod, Nat.reduceLeDiff]
        refine (g7 _).mpr (eX8_goAllWays_219.mpr (eX8_goAllWays_31.mpr ?_))
        simp (disch := first | omega | (simp only [cat_i, cat_r, ri_r, ri_0]; done)) only [eX8_goAllWays_32, eX8_goAllWays_222, ↓reduceIte, Evk_some, Evh_some, Evn_some, Evr_v, Evr_n, mk_i, mk_r, mk_0, mk_n, mk_l, mc0, mc1, mc2, mc3, mc4, mi_obj, Bool.and_self, Bool.true_and, Nat.add_zero, Nat.zero_add, nI_add, pk_mul, pk_sub, Nat.add_sub_cancel, eq_self, if_true, if_false, n10, bI_t, bI_f, bI_0, Nat.reduceAdd, Nat.reduceMul, Nat.reduceSub, nI_eq, nI_ltI, nI_leI, Nat.reduceEqDiff, Nat.reduceLT, Nat.reduceDiv, Nat.reduceMod, Nat.reduceLeDiff]
    · obtain ⟨A2, k1, k2, k3, k4⟩ := ih A' (some (.int (nI (8 * n)))) d4 d5 d6 (by omega) (hcd.fr g1) g2 (g3 h0) (g4 hk)
      refine ⟨A2, g1.trans k1, k2, k3, ?_⟩
      refine eX8_goAllWays_31.mpr ?_
      simp (disch := first | omega | (simp only [cat_i, cat_r, ri_r, ri_0]; done)) only [eX8_goAllWays_32, eX8_goAllWays_35, eX8_goAllWays_36, eX8_goAllWays_37, eX8_goAllWays_38, ↓reduceIte, Evk_some, Evh_some, Evn_some, Evr_v, Evr_n, mk_i, mk_r, mk_0, mk_n, mk_l, mc0, mc1, mc2, mc3, mc4, mi_obj, Bool.and_self, Bool.true_and, Nat.add_zero, Nat.zero_add, nI_add, pk_mul, pk_sub, Nat.add_sub_cancel, eq_self, if_true, if_false, n10, bI_t, bI_f, bI_0, Nat.reduceAdd, Nat.reduceMul, Nat.reduceSub, nI_eq, nI_ltI, nI_leI, Nat.reduceEqDiff, Nat.reduceLT, Nat.reduceDiv, Nat.reduceMod, Nat.reduceLeDiff]
      refine (g7 _).mpr (eX8_goAllWays_219.mpr ?_)
      exact k4
/-- the first k marks taken away -/
def zrA (A : Nat → Nat → Int32) (k : Nat) : Nat → Nat → Int32 := fun q => if q = 10 then (fun i => if i < k then nI 0 else A 10 i) else A q
theorem zrA_0 : zrA A 0 = A := by
  funext q
  unfold zrA
  by_cases h : q = 10
  · subst h
    rw [if_pos rfl]
    funext i
    rw [if_neg (by omega)]
  · rw [if_neg h]
theorem zrA_s {k : Nat} : up2 (zrA A k) 10 k (nI 0) = zrA A (k + 1) := by
  funext q i
  by_cases h : q = 10
  · subst h
    by_cases hi : i = k
    · subst hi
      rw [up2_s]
      show nI 0 = if i < i + 1 then nI 0 else A 10 i
      rw [if_pos (by omega)]
    · rw [up2_o hi]
      show (if i < k then nI 0 else A 10 i) = if i < k + 1 then nI 0 else A 10 i
      by_cases h2 : i < k
      · rw [if_pos h2, if_pos (by omega)]
      · rw [if_neg h2, if_neg (by omega)]
  · rw [up2_n h]
    show (if q = 10 then _ else A q) i = (if q = 10 then _ else A q) i
    rw [if_neg h, if_neg h]
set_option maxHeartbeats 4000000 in
theorem ev_ways0 {c : Nat} {c3 c4 c5 c6 : Option Value} : ∀ (j k : Nat), k + j = 192 → ∀ r : mn_Res, Ev 95 2 [some (.ref 149), some (.int (nI c)), some (.int (nI k)), c3, c4, c5, c6] [] (mpic b F (zrA A k) L, nx, 0, 0) r ↔ Ev 95 22 [some (.ref 149), some (.int (nI c)), some (.int (nI 192)), c3, c4, c5, c6] [] (mpic b F (zrA A 192) L, nx, 0, 0) r := by
  intro j
  induction j with
  | zero =>
    intro k hk r
    have hk : k = 192 := by omega
    subst hk
    refine eX8_goAllWays_2.trans ?_
    simp (disch := first | omega | (simp only [cat_i, cat_r, ri_r, ri_0]; done)) only [eX8_goAllWays_3, eX8_goAllWays_6, ↓reduceIte, Evk_some, Evh_some, Evn_some, Evr_v, Evr_n, mk_i, mk_r, mk_0, mk_n, mk_l, mc0, mc1, mc2, mc3, mc4, mi_obj, Bool.and_self, Bool.true_and, Nat.add_zero, Nat.zero_add, nI_add, pk_mul, pk_sub, Nat.add_sub_cancel, eq_self, if_true, if_false, n10, bI_t, bI_f, bI_0, Nat.reduceAdd, Nat.reduceMul, Nat.reduceSub, nI_eq, nI_ltI, nI_leI, Nat.reduceEqDiff, Nat.reduceLT, Nat.reduceDiv, Nat.reduceMod, Nat.reduceLeDiff]
  | succ j ih =>
    intro k hk r
    have hq : ¬ 192 ≤ k := by omega
    refine Iff.trans ?_ (ih (k + 1) (by omega) r)
    refine eX8_goAllWays_2.trans ?_
    simp (disch := first | omega | (simp only [cat_i, cat_r, ri_r, ri_0]; done)) only [eX8_goAllWays_3, eX8_goAllWays_6, eX8_goAllWays_9, eX8_goAllWays_10, eX8_goAllWays_13, eX8_goAllWays_14, eX8_goAllWays_15, eX8_goAllWays_16, eX8_goAllWays_19, ↓reduceIte, Evk_some, Evh_some, Evn_some, Evr_v, Evr_n, mk_i, mk_r, mk_0, mk_n, mk_l, mc0, mc1, mc2, mc3, mc4, mi_obj, Bool.and_self, Bool.true_and, Nat.add_zero, Nat.zero_add, nI_add, pk_mul, pk_sub, Nat.add_sub_cancel, eq_self, if_true, if_false, n10, bI_t, bI_f, bI_0, Nat.reduceAdd, Nat.reduceMul, Nat.reduceSub, nI_eq, nI_ltI, nI_leI, Nat.reduceEqDiff, Nat.reduceLT, Nat.reduceDiv, Nat.reduceMod, Nat.reduceLeDiff, hq, mg_reached, ms_reached0, zrA_s]
theorem cl_goAllWays {c n : Nat} (hc : c < 8) (hw : wfC op ar n) (hcd : cdR A c n op ar) : ∃ A', fr10 A A' ∧ WB A' ∧ (∀ p h, p < 24 → h < 8 → (A' 10 (8 * p + h) = nI 1 ↔ Rch op ar p h)) ∧ Cl 95 [.ref 149, .int (nI c)] (mpic b F A L) nx = some ((mpic b F A' L, nx, 0, 0), .inl none) := by
  have f0 : fr10 A (zrA A 192) := fun k hk => if_neg hk
  have e0 : ∀ i, i < 192 → zrA A 192 10 i = nI 0 := fun i hi => by
    show (if i < 192 then nI 0 else A 10 i) = nI 0
    rw [if_pos hi]
  have hB0 : WB (zrA A 192) := fun i hi => Or.inl (e0 i hi)
  have hk1 : Rk op ar (mk1 (zrA A 192) 0) := by
    intro p h hp hh hq
    rcases mk1_at hq with q | q
    · have : p = 0 ∧ h = 0 := by omega
      obtain ⟨rfl, rfl⟩ := this
      exact Rch.zero
    · rw [e0 _ (by omega)] at q
      exact absurd q (by decide)
  obtain ⟨A', k1, k2, k3, k4⟩ := ev_ways3 (b := b) (F := F) (L := L) (nx := nx) hc hw _ (mk1 (zrA A 192) 0) none none none none (Nat.le_refl _) ((hcd.fr f0).fr mk1_fr) (mk1_WB hB0) up2_s hk1
  refine ⟨A', (f0.trans mk1_fr).trans k1, k2, k3, Cl_of (x := mnI_X8_goAllWays) rfl ?_⟩
  show Ev 95 0 [some (.ref 149), some (.int (nI c)), none, none, none, none, none] [] _ _
  rw [eX8_goAllWays_0, eX8_goAllWays_1]
  simp only [mk_i]
  have w0 := ev_ways0 (b := b) (F := F) (A := A) (L := L) (nx := nx) (c := c) (c3 := none) (c4 := none) (c5 := none) (c6 := none) 192 0 (by omega)
  rw [zrA_0] at w0
  refine (w0 _).mpr ?_
  simp (disch := first | omega | (simp only [cat_i, cat_r, ri_r, ri_0]; done)) only [eX8_goAllWays_22, eX8_goAllWays_23, eX8_goAllWays_26, eX8_goAllWays_27, eX8_goAllWays_28, eX8_goAllWays_29, eX8_goAllWays_30, ↓reduceIte, Evk_some, Evh_some, Evn_some, Evr_v, Evr_n, mk_i, mk_r, mk_0, mk_n, mk_l, mc0, mc1, mc2, mc3, mc4, mi_obj, Bool.and_self, Bool.true_and, Nat.add_zero, Nat.zero_add, nI_add, pk_mul, pk_sub, Nat.add_sub_cancel, eq_self, if_true, if_false, n10, bI_t, bI_f, bI_0, Nat.reduceAdd, Nat.reduceMul, Nat.reduceSub, nI_eq, nI_ltI, nI_leI, Nat.reduceEqDiff, Nat.reduceLT, Nat.reduceDiv, Nat.reduceMod, Nat.reduceLeDiff, mg_reached, ms_reached1 (show 0 < 192 by omega)]
  exact k4
end MN
