/-! the reference: all ways -/
section MM
variable {b : Nat → Option va_E} {F : Nat → Int32} {A : Nat → Nat → Int32} {L : Nat → Nat → Int64} {nx : Option Nat} {r : mn_Res} {op ar : Nat → Nat}
/-- one step of the ways: place and height -/
def Sc (op ar : Nat → Nat) (p h p' h' : Nat) : Prop := tkN (op p) ≤ h ∧ h ≤ 6 ∧ op p ≠ 16 ∧ h' = h - tkN (op p) + puN (op p) ∧ ((op p ≠ 11 ∧ p' = p + 1) ∨ ((op p = 11 ∨ op p = 12) ∧ p' = ar p))
def Rch (op ar : Nat → Nat) (p h : Nat) : Prop := ∀ X : Nat → Nat → Prop, X 0 0 → (∀ p h p' h', X p h → Sc op ar p h p' h' → X p' h') → X p h
theorem Rch.zero : Rch op ar 0 0 := fun _ h _ => h
theorem Rch.step {p h p' h' : Nat} (hr : Rch op ar p h) (hs : Sc op ar p h p' h') : Rch op ar p' h' := fun X h0 h1 => h1 _ _ _ _ (hr X h0 h1) hs
/-- a code whose arguments and last instruction are as said -/
def wfC (op ar : Nat → Nat) (n : Nat) : Prop := 0 < n ∧ n ≤ 24 ∧ ∀ p, p < n → op p < 19 ∧ (op p = 11 ∨ op p = 12 → ar p < n) ∧ (op p ≠ 16 → op p ≠ 11 → p + 1 < n)
theorem pu_le : ∀ o, o < 19 → puN o ≤ tkN o + 1 ∧ tkN o ≤ 2 := by decide
theorem Sc.bound {n p h p' h' : Nat} (hw : wfC op ar n) (hp : p < n) (hs : Sc op ar p h p' h') : p' < n ∧ h' ≤ 7 := by
  obtain ⟨w1, w2, w3⟩ := hw
  obtain ⟨o1, o2, o3⟩ := w3 p hp
  obtain ⟨s1, s2, s3, s4, s5⟩ := hs
  have := pu_le _ o1
  refine ⟨?_, by omega⟩
  rcases s5 with ⟨q1, rfl⟩ | ⟨q1, rfl⟩
  · exact o3 s3 q1
  · exact o2 q1
theorem Rch.bound {n p h : Nat} (hw : wfC op ar n) (hr : Rch op ar p h) : p < n ∧ h ≤ 7 :=
  hr (fun p h => p < n ∧ h ≤ 7) ⟨hw.1, by decide⟩ (fun _ _ _ _ hx hs => hs.bound hw hx.1)
def mk1 (A : Nat → Nat → Int32) (i : Nat) : Nat → Nat → Int32 := up2 A 10 i (nI 1)
def WB (A : Nat → Nat → Int32) : Prop := ∀ i, i < 192 → A 10 i = nI 0 ∨ A 10 i = nI 1
def fr10 (A A' : Nat → Nat → Int32) : Prop := ∀ k, k ≠ 10 → A' k = A k
theorem fr10.trans {A A1 A2 : Nat → Nat → Int32} (h : fr10 A A1) (h' : fr10 A1 A2) : fr10 A A2 := fun k a => (h' k a).trans (h k a)
theorem mk1_id {i : Nat} (h : A 10 i = nI 1) : mk1 A i = A := by
  funext k j
  by_cases hk : k = 10
  · subst hk
    by_cases hj : j = i
    · subst hj; exact up2_s.trans h.symm
    · exact up2_o hj
  · rw [mk1, up2_n hk]
theorem mk1_fr {i : Nat} : fr10 A (mk1 A i) := fun k hk => up2_n hk
theorem mk1_WB {i : Nat} (h : WB A) : WB (mk1 A i) := by
  intro j hj
  by_cases hq : j = i
  · subst hq; exact Or.inr up2_s
  · rw [mk1, up2_o hq]; exact h j hj
theorem mk1_at {i j : Nat} (h : mk1 A i 10 j = nI 1) : j = i ∨ A 10 j = nI 1 := by
  by_cases hq : j = i
  · exact Or.inl hq
  · rw [mk1, up2_o hq] at h; exact Or.inr h
theorem mk1_mono {i j : Nat} (h : A 10 j = nI 1) : mk1 A i 10 j = nI 1 := by
  by_cases hq : j = i
  · subst hq; exact up2_s
  · rw [mk1, up2_o hq]; exact h
def cz (A : Nat → Nat → Int32) : Nat := ((List.range 192).filter (fun i => decide (A 10 i = nI 0))).length
theorem cz_mk1 {i : Nat} (hi : i < 192) (h : A 10 i = nI 0) : cz (mk1 A i) < cz A := by
  unfold cz
  have e : (List.range 192).filter (fun j => decide (mk1 A i 10 j = nI 0)) = ((List.range 192).filter (fun j => decide (A 10 j = nI 0))).filter (fun x => !decide (x = i)) := by
    rw [List.filter_filter]
    apply List.filter_congr
    intro x _
    by_cases hx : x = i
    · subst hx
      have : mk1 A x 10 x = nI 1 := up2_s
      rw [this]
      simp [n10]
    · have : mk1 A i 10 x = A 10 x := up2_o hx
      rw [this]
      simp [hx]
  rw [e]
  apply List.length_filter_lt_length_iff_exists.mpr
  refine ⟨i, ?_, by simp⟩
  rw [List.mem_filter]
  exact ⟨List.mem_range.mpr hi, by simp [h]⟩
/-- it grew, and more says so -/
def Gr (A : Nat → Nat → Int32) (m : Bool) (A' : Nat → Nat → Int32) (m' : Bool) : Prop := (A' = A ∧ m' = m) ∨ (m' = true ∧ cz A' < cz A)
theorem Gr.trans {A A1 A2 : Nat → Nat → Int32} {m m1 m2 : Bool} (h : Gr A m A1 m1) (h' : Gr A1 m1 A2 m2) : Gr A m A2 m2 := by
  rcases h with ⟨rfl, rfl⟩ | ⟨rfl, h⟩
  · exact h'
  · rcases h' with ⟨rfl, rfl⟩ | ⟨rfl, h'⟩
    · exact Or.inr ⟨rfl, h⟩
    · exact Or.inr ⟨rfl, Nat.lt_trans h' h⟩
theorem mk1_Gr {i : Nat} (hi : i < 192) (hw : WB A) {m : Bool} : Gr A m (mk1 A i) (decide (A 10 i = nI 0) || m) := by
  rcases hw i hi with h | h
  · exact Or.inr ⟨by simp [h], cz_mk1 hi h⟩
  · refine Or.inl ⟨mk1_id h, ?_⟩
    rw [h]
    simp [n10]
set_option maxHeartbeats 4000000 in
theorem cl_reach {i : Nat} (hi : i < 192) (hw : WB A) : Cl 96 [.ref 149, .int (nI i)] (mpic b F A L) nx = some ((mpic b F (mk1 A i) L, nx, 0, 0), .inl (some (.int (bI (decide (A 10 i = nI 0)))))) := by
  refine Cl_of (x := mnI_X8_reach) rfl ?_
  show Ev 96 0 [some (.ref 149), some (.int (nI i)), none] [] _ _
  rcases hw i hi with h | h
  · simp (disch := first | omega | (simp only [cat_i, cat_r, ri_r, ri_0]; done)) only [eX8_reach_0, eX8_reach_1, eX8_reach_4, eX8_reach_5, eX8_reach_6, eX8_reach_9, eX8_reach_10, eX8_reach_13, eX8_reach_14, eX8_reach_15, eX8_reach_16, eX8_reach_19, eX8_reach_20, eX8_reach_21, eX8_reach_22, ↓reduceIte, Evk_some, Evh_some, Evn_some, Evr_v, Evr_n, mk_i, mk_r, mk_0, mk_n, mk_l, mc0, mc1, mc2, mc3, mc4, mi_obj, Bool.and_self, Bool.true_and, Nat.add_zero, Nat.zero_add, nI_add, pk_mul, pk_sub, Nat.add_sub_cancel, eq_self, if_true, if_false, n10, bI_t, bI_f, bI_0, Nat.reduceAdd, Nat.reduceMul, Nat.reduceSub, nI_eq, nI_ltI, nI_leI, Nat.reduceEqDiff, Nat.reduceLT, Nat.reduceDiv, Nat.reduceMod, Nat.reduceLeDiff, mg_reached, ml_reached, ms_reached1, h, decide_true]
    exact (eX8_reach_23 n1_z).mpr rfl
  · simp (disch := first | omega | (simp only [cat_i, cat_r, ri_r, ri_0]; done)) only [eX8_reach_0, eX8_reach_1, eX8_reach_4, eX8_reach_5, eX8_reach_6, eX8_reach_9, eX8_reach_10, eX8_reach_13, eX8_reach_14, eX8_reach_15, eX8_reach_16, eX8_reach_19, eX8_reach_20, eX8_reach_21, eX8_reach_22, ↓reduceIte, Evk_some, Evh_some, Evn_some, Evr_v, Evr_n, mk_i, mk_r, mk_0, mk_n, mk_l, mc0, mc1, mc2, mc3, mc4, mi_obj, Bool.and_self, Bool.true_and, Nat.add_zero, Nat.zero_add, nI_add, pk_mul, pk_sub, Nat.add_sub_cancel, eq_self, if_true, if_false, n10, bI_t, bI_f, bI_0, Nat.reduceAdd, Nat.reduceMul, Nat.reduceSub, nI_eq, nI_ltI, nI_leI, Nat.reduceEqDiff, Nat.reduceLT, Nat.reduceDiv, Nat.reduceMod, Nat.reduceLeDiff, mg_reached, ml_reached, ms_reached1, h, decide_false]
    exact (eX8_reach_23 n0_z).mpr rfl
def Rk (op ar : Nat → Nat) (A : Nat → Nat → Int32) : Prop := ∀ p h, p < 24 → h < 8 → A 10 (8 * p + h) = nI 1 → Rch op ar p h
/-- what is reached from here is reached -/
def Cl1 (op ar : Nat → Nat) (A : Nat → Nat → Int32) (p h : Nat) : Prop := A 10 (8 * p + h) = nI 1 → ∀ p' h', Sc op ar p h p' h' → A 10 (8 * p' + h') = nI 1
theorem mk1_Rk {p h : Nat} (h1 : Rk op ar A) (hh : h < 8) (hr : Rch op ar p h) : Rk op ar (mk1 A (8 * p + h)) := by
  intro p' h' a1 a2 a3
  rcases mk1_at a3 with a4 | a4
  · have : p' = p ∧ h' = h := by omega
    obtain ⟨rfl, rfl⟩ := this
    exact hr
  · exact h1 p' h' a1 a2 a4
theorem tk_lt {o : Nat} (ho : o < 19) : tkN o < 2 ^ 31 ∧ puN o < 2 ^ 31 := by have := pu_le o ho; omega
set_option maxHeartbeats 16000000 in
theorem ev_ways1 {c n p h : Nat} (hc : c < 8) (hw : wfC op ar n) (hp : p < n) (hh : h < 8) (hA5 : A 5 (24 * c + p) = nI (op p)) (hA6 : op p = 11 ∨ op p = 12 → A 6 (24 * c + p) = nI (ar p)) (hB : WB A) {m : Bool} {c4 c5 c6 : Option Value} :
    ∃ A' m' d4 d5 d6, fr10 A A' ∧ WB A' ∧ (A 10 0 = nI 1 → A' 10 0 = nI 1) ∧ (Rk op ar A → Rk op ar A') ∧ Gr A m A' m' ∧ (A' = A → Cl1 op ar A p h) ∧ ∀ r : mn_Res, Ev 95 52 [some (.ref 149), some (.int (nI c)), some (.int (bI m)), some (.int (nI (8 * p + h))), c4, c5, c6] [] (mpic b F A L, nx, 0, 0) r ↔ Ev 95 213 [some (.ref 149), some (.int (nI c)), some (.int (bI m')), some (.int (nI (8 * p + h))), d4, d5, d6] [] (mpic b F A' L, nx, 0, 0) r := by
  obtain ⟨w1, w2, w3⟩ := hw
  obtain ⟨o1, o2, o3⟩ := w3 p hp
  have q1 : (8 * p + h) / 8 = p := by omega
  have q2 : (8 * p + h) % 8 = h := by omega
  have d1 : nI (8 * p + h) / nI 8 = nI p := by rw [pk_div (by omega) (by omega) (by omega), q1]
  have d2 : nI (8 * p + h) - nI p * nI 8 = nI h := by
    have := pk_rem (a := 8 * p + h) (d := 8) (by omega) (by omega) (by omega)
    rw [d1, q2] at this
    exact this
  have d2' : nI (8 * p + h) - nI (p * 8) = nI h := by rw [← pk_mul]; exact d2
  have n8 : ¬ nI 8 = 0 := by decide
  have ptk := tk_lt o1
  have ppu := pu_le _ o1
  have tks := cl_takes (p := mpic b F A L) (nx := nx) o1
  have pts := cl_puts (p := mpic b F A L) (nx := nx) o1
  have skip : ∀ {q4 q5 q6 : Option Value}, (A 10 (8 * p + h) = nI 1 → ∀ p' h', ¬ Sc op ar p h p' h') → (∀ r : mn_Res, Ev 95 52 [some (.ref 149), some (.int (nI c)), some (.int (bI m)), some (.int (nI (8 * p + h))), c4, c5, c6] [] (mpic b F A L, nx, 0, 0) r ↔ Ev 95 213 [some (.ref 149), some (.int (nI c)), some (.int (bI m)), some (.int (nI (8 * p + h))), q4, q5, q6] [] (mpic b F A L, nx, 0, 0) r) → ∃ A' m' d4 d5 d6, fr10 A A' ∧ WB A' ∧ (A 10 0 = nI 1 → A' 10 0 = nI 1) ∧ (Rk op ar A → Rk op ar A') ∧ Gr A m A' m' ∧ (A' = A → Cl1 op ar A p h) ∧ ∀ r : mn_Res, Ev 95 52 [some (.ref 149), some (.int (nI c)), some (.int (bI m)), some (.int (nI (8 * p + h))), c4, c5, c6] [] (mpic b F A L, nx, 0, 0) r ↔ Ev 95 213 [some (.ref 149), some (.int (nI c)), some (.int (bI m')), some (.int (nI (8 * p + h))), d4, d5, d6] [] (mpic b F A' L, nx, 0, 0) r := by
    intro q4 q5 q6 h1 h2
    exact ⟨A, m, q4, q5, q6, fun _ _ => rfl, hB, fun z => z, fun z => z, Or.inl ⟨rfl, rfl⟩, fun _ z p' h' hs => absurd hs (h1 z p' h'), h2⟩
  rcases hB (8 * p + h) (by omega) with hr | hr
  · refine skip (q4 := some (.int (nI (op p)))) (q5 := some (.int (nI h))) (q6 := c6) (fun z => ?_) (fun r => ?_)
    · rw [hr] at z; exact absurd z (by decide)
    · simp (disch := first | omega | exact n8) only [eX8_goAllWays_52, eX8_goAllWays_53, eX8_goAllWays_56, eX8_goAllWays_58, eX8_goAllWays_59, eX8_goAllWays_60, eX8_goAllWays_61, eX8_goAllWays_63, eX8_goAllWays_64, eX8_goAllWays_65, eX8_goAllWays_66, eX8_goAllWays_68, eX8_goAllWays_69, eX8_goAllWays_71, eX8_goAllWays_72, eX8_goAllWays_74, eX8_goAllWays_75, eX8_goAllWays_78, eX8_goAllWays_79, eX8_goAllWays_80, eX8_goAllWays_83, eX8_goAllWays_85, eX8_goAllWays_87, eX8_goAllWays_90, eX8_goAllWays_92, eX8_goAllWays_94, eX8_goAllWays_97, eX8_goAllWays_100, eX8_goAllWays_102, eX8_goAllWays_104, ↓reduceIte, Evk_some, Evh_some, Evn_some, Evr_v, Evr_n, mk_i, mk_r, mk_0, mk_n, mk_l, mc0, mc1, mc2, mc3, mc4, mi_obj, Bool.and_self, Bool.true_and, Nat.add_zero, Nat.zero_add, nI_add, pk_mul, pk_sub, Nat.add_sub_cancel, eq_self, if_true, if_false, n10, bI_t, bI_f, bI_0, Nat.reduceAdd, Nat.reduceMul, Nat.reduceSub, nI_eq, nI_ltI, nI_leI, Nat.reduceEqDiff, Nat.reduceLT, Nat.reduceDiv, Nat.reduceMod, Nat.reduceLeDiff, mg_operation, ml_operation, mg_reached, ml_reached, hA5, d1, d2, d2', hr]
  · by_cases h6 : 6 < h
    · refine skip (q4 := some (.int (nI (op p)))) (q5 := some (.int (nI h))) (q6 := c6) (fun _ p' h' hs => by have := hs.2.1; omega) (fun r => ?_)
      simp (disch := first | omega | exact n8) only [eX8_goAllWays_52, eX8_goAllWays_53, eX8_goAllWays_56, eX8_goAllWays_58, eX8_goAllWays_59, eX8_goAllWays_60, eX8_goAllWays_61, eX8_goAllWays_63, eX8_goAllWays_64, eX8_goAllWays_65, eX8_goAllWays_66, eX8_goAllWays_68, eX8_goAllWays_69, eX8_goAllWays_71, eX8_goAllWays_72, eX8_goAllWays_74, eX8_goAllWays_75, eX8_goAllWays_78, eX8_goAllWays_79, eX8_goAllWays_80, eX8_goAllWays_83, eX8_goAllWays_85, eX8_goAllWays_87, eX8_goAllWays_90, eX8_goAllWays_92, eX8_goAllWays_94, eX8_goAllWays_97, eX8_goAllWays_100, eX8_goAllWays_102, eX8_goAllWays_104, ↓reduceIte, Evk_some, Evh_some, Evn_some, Evr_v, Evr_n, mk_i, mk_r, mk_0, mk_n, mk_l, mc0, mc1, mc2, mc3, mc4, mi_obj, Bool.and_self, Bool.true_and, Nat.add_zero, Nat.zero_add, nI_add, pk_mul, pk_sub, Nat.add_sub_cancel, eq_self, if_true, if_false, n10, bI_t, bI_f, bI_0, Nat.reduceAdd, Nat.reduceMul, Nat.reduceSub, nI_eq, nI_ltI, nI_leI, Nat.reduceEqDiff, Nat.reduceLT, Nat.reduceDiv, Nat.reduceMod, Nat.reduceLeDiff, mg_operation, ml_operation, mg_reached, ml_reached, hA5, d1, d2, d2', hr, h6]
    · by_cases ht : h < tkN (op p)
      · refine skip (q4 := some (.int (nI (op p)))) (q5 := some (.int (nI h))) (q6 := c6) (fun _ p' h' hs => by have := hs.1; omega) (fun r => ?_)
        simp (disch := first | omega | exact n8) only [eX8_goAllWays_52, eX8_goAllWays_53, eX8_goAllWays_56, eX8_goAllWays_58, eX8_goAllWays_59, eX8_goAllWays_60, eX8_goAllWays_61, eX8_goAllWays_63, eX8_goAllWays_64, eX8_goAllWays_65, eX8_goAllWays_66, eX8_goAllWays_68, eX8_goAllWays_69, eX8_goAllWays_71, eX8_goAllWays_72, eX8_goAllWays_74, eX8_goAllWays_75, eX8_goAllWays_78, eX8_goAllWays_79, eX8_goAllWays_80, eX8_goAllWays_83, eX8_goAllWays_85, eX8_goAllWays_87, eX8_goAllWays_90, eX8_goAllWays_92, eX8_goAllWays_94, eX8_goAllWays_97, eX8_goAllWays_100, eX8_goAllWays_102, eX8_goAllWays_104, ↓reduceIte, Evk_some, Evh_some, Evn_some, Evr_v, Evr_n, mk_i, mk_r, mk_0, mk_n, mk_l, mc0, mc1, mc2, mc3, mc4, mi_obj, Bool.and_self, Bool.true_and, Nat.add_zero, Nat.zero_add, nI_add, pk_mul, pk_sub, Nat.add_sub_cancel, eq_self, if_true, if_false, n10, bI_t, bI_f, bI_0, Nat.reduceAdd, Nat.reduceMul, Nat.reduceSub, nI_eq, nI_ltI, nI_leI, Nat.reduceEqDiff, Nat.reduceLT, Nat.reduceDiv, Nat.reduceMod, Nat.reduceLeDiff, mg_operation, ml_operation, mg_reached, ml_reached, hA5, d1, d2, d2', hr, h6, tks, ht]
      · by_cases h16 : op p = 16
        · refine skip (q4 := some (.int (nI (op p)))) (q5 := some (.int (nI h))) (q6 := c6) (fun _ p' h' hs => hs.2.2.1 h16) (fun r => ?_)
          have h16t : (op p = 16) = True := eq_true h16
          simp (disch := first | omega | exact n8) only [eX8_goAllWays_52, eX8_goAllWays_53, eX8_goAllWays_56, eX8_goAllWays_58, eX8_goAllWays_59, eX8_goAllWays_60, eX8_goAllWays_61, eX8_goAllWays_63, eX8_goAllWays_64, eX8_goAllWays_65, eX8_goAllWays_66, eX8_goAllWays_68, eX8_goAllWays_69, eX8_goAllWays_71, eX8_goAllWays_72, eX8_goAllWays_74, eX8_goAllWays_75, eX8_goAllWays_78, eX8_goAllWays_79, eX8_goAllWays_80, eX8_goAllWays_83, eX8_goAllWays_85, eX8_goAllWays_87, eX8_goAllWays_90, eX8_goAllWays_92, eX8_goAllWays_94, eX8_goAllWays_97, eX8_goAllWays_100, eX8_goAllWays_102, eX8_goAllWays_104, eX8_goAllWays_107, ↓reduceIte, Evk_some, Evh_some, Evn_some, Evr_v, Evr_n, mk_i, mk_r, mk_0, mk_n, mk_l, mc0, mc1, mc2, mc3, mc4, mi_obj, Bool.and_self, Bool.true_and, Nat.add_zero, Nat.zero_add, nI_add, pk_mul, pk_sub, Nat.add_sub_cancel, eq_self, if_true, if_false, n10, bI_t, bI_f, bI_0, Nat.reduceAdd, Nat.reduceMul, Nat.reduceSub, nI_eq, nI_ltI, nI_leI, Nat.reduceEqDiff, Nat.reduceLT, Nat.reduceDiv, Nat.reduceMod, Nat.reduceLeDiff, mg_operation, ml_operation, mg_reached, ml_reached, hA5, d1, d2, d2', hr, h6, tks, ht, h16t]
        · obtain ⟨to, hto⟩ : ∃ to, to = h - tkN (op p) + puN (op p) := ⟨_, rfl⟩
          have hto8 : to < 8 := by omega
          have walk : ∀ r : mn_Res, Ev 95 52 [some (.ref 149), some (.int (nI c)), some (.int (bI m)), some (.int (nI (8 * p + h))), c4, c5, c6] [] (mpic b F A L, nx, 0, 0) r ↔ Ev 95 126 [some (.ref 149), some (.int (nI c)), some (.int (bI m)), some (.int (nI (8 * p + h))), some (.int (nI (op p))), some (.int (nI h)), some (.int (nI to))] [] (mpic b F A L, nx, 0, 0) r := by
            intro r
            simp (disch := first | omega | exact n8) only [eX8_goAllWays_52, eX8_goAllWays_53, eX8_goAllWays_56, eX8_goAllWays_58, eX8_goAllWays_59, eX8_goAllWays_60, eX8_goAllWays_61, eX8_goAllWays_63, eX8_goAllWays_64, eX8_goAllWays_65, eX8_goAllWays_66, eX8_goAllWays_68, eX8_goAllWays_69, eX8_goAllWays_71, eX8_goAllWays_72, eX8_goAllWays_74, eX8_goAllWays_75, eX8_goAllWays_78, eX8_goAllWays_79, eX8_goAllWays_80, eX8_goAllWays_83, eX8_goAllWays_85, eX8_goAllWays_87, eX8_goAllWays_90, eX8_goAllWays_92, eX8_goAllWays_94, eX8_goAllWays_97, eX8_goAllWays_100, eX8_goAllWays_102, eX8_goAllWays_104, eX8_goAllWays_107, eX8_goAllWays_110, eX8_goAllWays_112, eX8_goAllWays_114, eX8_goAllWays_117, eX8_goAllWays_118, eX8_goAllWays_120, eX8_goAllWays_123, eX8_goAllWays_124, ↓reduceIte, Evk_some, Evh_some, Evn_some, Evr_v, Evr_n, mk_i, mk_r, mk_0, mk_n, mk_l, mc0, mc1, mc2, mc3, mc4, mi_obj, Bool.and_self, Bool.true_and, Nat.add_zero, Nat.zero_add, nI_add, pk_mul, pk_sub, Nat.add_sub_cancel, eq_self, if_true, if_false, n10, bI_t, bI_f, bI_0, Nat.reduceAdd, Nat.reduceMul, Nat.reduceSub, nI_eq, nI_ltI, nI_leI, Nat.reduceEqDiff, Nat.reduceLT, Nat.reduceDiv, Nat.reduceMod, Nat.reduceLeDiff, mg_operation, ml_operation, mg_reached, ml_reached, hA5, d1, d2, d2', hr, h6, tks, pts, ht, h16, ← hto]
          have sc1 : op p ≠ 11 → Sc op ar p h (p + 1) to := fun q => ⟨by omega, by omega, h16, hto, Or.inl ⟨q, rfl⟩⟩
          have sc2 : op p = 11 ∨ op p = 12 → Sc op ar p h (ar p) to := fun q => ⟨by omega, by omega, h16, hto, Or.inr ⟨q, rfl⟩⟩
          by_cases h11 : op p = 11
          · have a1 := o2 (Or.inl h11)
            have rc := cl_reach (b := b) (F := F) (L := L) (nx := nx) (i := 8 * ar p + to) (by omega) hB
            refine ⟨mk1 A (8 * ar p + to), decide (A 10 (8 * ar p + to) = nI 0) || m, some (.int (nI (op p))), some (.int (nI h)), some (.int (nI to)), mk1_fr, mk1_WB hB, mk1_mono, fun hk => mk1_Rk hk hto8 ((hk p h (by omega) hh hr).step (sc2 (Or.inl h11))), mk1_Gr (by omega) hB, fun he z p' h' hs => ?_, fun r => (walk r).trans ?_⟩
            · obtain ⟨-, -, -, s4, s5⟩ := hs
              rcases s5 with ⟨q, -⟩ | ⟨-, rfl⟩
              · exact absurd h11 q
              · rw [s4, ← hto, ← he]; exact up2_s
            · cases hz : decide (A 10 (8 * ar p + to) = nI 0) with
              | true => simp (disch := first | omega | exact n8) only [eX8_goAllWays_126, eX8_goAllWays_128, eX8_goAllWays_130, eX8_goAllWays_133, eX8_goAllWays_134, eX8_goAllWays_136, eX8_goAllWays_137, eX8_goAllWays_139, eX8_goAllWays_140, eX8_goAllWays_141, eX8_goAllWays_142, eX8_goAllWays_143, eX8_goAllWays_145, eX8_goAllWays_146, eX8_goAllWays_149, eX8_goAllWays_152, eX8_goAllWays_153, eX8_goAllWays_156, eX8_goAllWays_157, eX8_goAllWays_160, eX8_goAllWays_161, eX8_goAllWays_162, eX8_goAllWays_164, eX8_goAllWays_166, eX8_goAllWays_169, eX8_goAllWays_171, eX8_goAllWays_173, eX8_goAllWays_176, eX8_goAllWays_177, eX8_goAllWays_179, eX8_goAllWays_180, eX8_goAllWays_183, eX8_goAllWays_185, eX8_goAllWays_186, eX8_goAllWays_187, eX8_goAllWays_188, eX8_goAllWays_190, eX8_goAllWays_191, eX8_goAllWays_192, eX8_goAllWays_193, eX8_goAllWays_194, eX8_goAllWays_196, eX8_goAllWays_197, eX8_goAllWays_200, eX8_goAllWays_203, eX8_goAllWays_204, eX8_goAllWays_207, eX8_goAllWays_208, eX8_goAllWays_211, eX8_goAllWays_212, ↓reduceIte, Evk_some, Evh_some, Evn_some, Evr_v, Evr_n, mk_i, mk_r, mk_0, mk_n, mk_l, mc0, mc1, mc2, mc3, mc4, mi_obj, Bool.and_self, Bool.true_and, Nat.add_zero, Nat.zero_add, nI_add, pk_mul, pk_sub, Nat.add_sub_cancel, eq_self, if_true, if_false, n10, bI_t, bI_f, bI_0, Nat.reduceAdd, Nat.reduceMul, Nat.reduceSub, nI_eq, nI_ltI, nI_leI, Nat.reduceEqDiff, Nat.reduceLT, Nat.reduceDiv, Nat.reduceMod, Nat.reduceLeDiff, h11, mg_argument, ml_argument, hA6 (Or.inl h11), d1, rc, hz, Bool.true_eq_false, Bool.true_or]
              | false =>
                cases m with
                | true => simp (disch := first | omega | exact n8) only [eX8_goAllWays_126, eX8_goAllWays_128, eX8_goAllWays_130, eX8_goAllWays_133, eX8_goAllWays_134, eX8_goAllWays_136, eX8_goAllWays_137, eX8_goAllWays_139, eX8_goAllWays_140, eX8_goAllWays_141, eX8_goAllWays_142, eX8_goAllWays_143, eX8_goAllWays_145, eX8_goAllWays_146, eX8_goAllWays_149, eX8_goAllWays_152, eX8_goAllWays_153, eX8_goAllWays_156, eX8_goAllWays_157, eX8_goAllWays_160, eX8_goAllWays_161, eX8_goAllWays_162, eX8_goAllWays_164, eX8_goAllWays_166, eX8_goAllWays_169, eX8_goAllWays_171, eX8_goAllWays_173, eX8_goAllWays_176, eX8_goAllWays_177, eX8_goAllWays_179, eX8_goAllWays_180, eX8_goAllWays_183, eX8_goAllWays_185, eX8_goAllWays_186, eX8_goAllWays_187, eX8_goAllWays_188, eX8_goAllWays_190, eX8_goAllWays_191, eX8_goAllWays_192, eX8_goAllWays_193, eX8_goAllWays_194, eX8_goAllWays_196, eX8_goAllWays_197, eX8_goAllWays_200, eX8_goAllWays_203, eX8_goAllWays_204, eX8_goAllWays_207, eX8_goAllWays_208, eX8_goAllWays_211, eX8_goAllWays_212, ↓reduceIte, Evk_some, Evh_some, Evn_some, Evr_v, Evr_n, mk_i, mk_r, mk_0, mk_n, mk_l, mc0, mc1, mc2, mc3, mc4, mi_obj, Bool.and_self, Bool.true_and, Nat.add_zero, Nat.zero_add, nI_add, pk_mul, pk_sub, Nat.add_sub_cancel, eq_self, if_true, if_false, n10, bI_t, bI_f, bI_0, Nat.reduceAdd, Nat.reduceMul, Nat.reduceSub, nI_eq, nI_ltI, nI_leI, Nat.reduceEqDiff, Nat.reduceLT, Nat.reduceDiv, Nat.reduceMod, Nat.reduceLeDiff, h11, mg_argument, ml_argument, hA6 (Or.inl h11), d1, rc, hz, Bool.true_eq_false, Bool.false_or]
                | false => simp (disch := first | omega | exact n8) only [eX8_goAllWays_126, eX8_goAllWays_128, eX8_goAllWays_130, eX8_goAllWays_133, eX8_goAllWays_134, eX8_goAllWays_136, eX8_goAllWays_137, eX8_goAllWays_139, eX8_goAllWays_140, eX8_goAllWays_141, eX8_goAllWays_142, eX8_goAllWays_143, eX8_goAllWays_145, eX8_goAllWays_146, eX8_goAllWays_149, eX8_goAllWays_152, eX8_goAllWays_153, eX8_goAllWays_156, eX8_goAllWays_157, eX8_goAllWays_160, eX8_goAllWays_161, eX8_goAllWays_162, eX8_goAllWays_164, eX8_goAllWays_166, eX8_goAllWays_169, eX8_goAllWays_171, eX8_goAllWays_173, eX8_goAllWays_176, eX8_goAllWays_177, eX8_goAllWays_179, eX8_goAllWays_180, eX8_goAllWays_183, eX8_goAllWays_185, eX8_goAllWays_186, eX8_goAllWays_187, eX8_goAllWays_188, eX8_goAllWays_190, eX8_goAllWays_191, eX8_goAllWays_192, eX8_goAllWays_193, eX8_goAllWays_194, eX8_goAllWays_196, eX8_goAllWays_197, eX8_goAllWays_200, eX8_goAllWays_203, eX8_goAllWays_204, eX8_goAllWays_207, eX8_goAllWays_208, eX8_goAllWays_211, eX8_goAllWays_212, ↓reduceIte, Evk_some, Evh_some, Evn_some, Evr_v, Evr_n, mk_i, mk_r, mk_0, mk_n, mk_l, mc0, mc1, mc2, mc3, mc4, mi_obj, Bool.and_self, Bool.true_and, Nat.add_zero, Nat.zero_add, nI_add, pk_mul, pk_sub, Nat.add_sub_cancel, eq_self, if_true, if_false, n10, bI_t, bI_f, bI_0, Nat.reduceAdd, Nat.reduceMul, Nat.reduceSub, nI_eq, nI_ltI, nI_leI, Nat.reduceEqDiff, Nat.reduceLT, Nat.reduceDiv, Nat.reduceMod, Nat.reduceLeDiff, h11, mg_argument, ml_argument, hA6 (Or.inl h11), d1, rc, hz, Bool.false_or]
          · have a1 := o3 h16 h11
            have rc := cl_reach (b := b) (F := F) (L := L) (nx := nx) (i := 8 * (p + 1) + to) (by omega) hB
            obtain ⟨m1, hm1⟩ : ∃ m1, m1 = (decide (A 10 (8 * (p + 1) + to) = nI 0) || m) := ⟨_, rfl⟩
            have walk2 : ∀ r : mn_Res, Ev 95 126 [some (.ref 149), some (.int (nI c)), some (.int (bI m)), some (.int (nI (8 * p + h))), some (.int (nI (op p))), some (.int (nI h)), some (.int (nI to))] [] (mpic b F A L, nx, 0, 0) r ↔ Ev 95 162 [some (.ref 149), some (.int (nI c)), some (.int (bI m1)), some (.int (nI (8 * p + h))), some (.int (nI (op p))), some (.int (nI h)), some (.int (nI to))] [] (mpic b F (mk1 A (8 * (p + 1) + to)) L, nx, 0, 0) r := by
              intro r
              rw [hm1]
              cases hz : decide (A 10 (8 * (p + 1) + to) = nI 0) with
              | true => simp (disch := first | omega | exact n8) only [eX8_goAllWays_126, eX8_goAllWays_128, eX8_goAllWays_130, eX8_goAllWays_133, eX8_goAllWays_134, eX8_goAllWays_136, eX8_goAllWays_137, eX8_goAllWays_139, eX8_goAllWays_140, eX8_goAllWays_141, eX8_goAllWays_142, eX8_goAllWays_143, eX8_goAllWays_145, eX8_goAllWays_146, eX8_goAllWays_149, eX8_goAllWays_152, eX8_goAllWays_153, eX8_goAllWays_156, eX8_goAllWays_157, eX8_goAllWays_160, eX8_goAllWays_161, ↓reduceIte, Evk_some, Evh_some, Evn_some, Evr_v, Evr_n, mk_i, mk_r, mk_0, mk_n, mk_l, mc0, mc1, mc2, mc3, mc4, mi_obj, Bool.and_self, Bool.true_and, Nat.add_zero, Nat.zero_add, nI_add, pk_mul, pk_sub, Nat.add_sub_cancel, eq_self, if_true, if_false, n10, bI_t, bI_f, bI_0, Nat.reduceAdd, Nat.reduceMul, Nat.reduceSub, nI_eq, nI_ltI, nI_leI, Nat.reduceEqDiff, Nat.reduceLT, Nat.reduceDiv, Nat.reduceMod, Nat.reduceLeDiff, h11, d1, rc, hz, Bool.true_eq_false, Bool.true_or]
              | false =>
                cases m with
                | true => simp (disch := first | omega | exact n8) only [eX8_goAllWays_126, eX8_goAllWays_128, eX8_goAllWays_130, eX8_goAllWays_133, eX8_goAllWays_134, eX8_goAllWays_136, eX8_goAllWays_137, eX8_goAllWays_139, eX8_goAllWays_140, eX8_goAllWays_141, eX8_goAllWays_142, eX8_goAllWays_143, eX8_goAllWays_145, eX8_goAllWays_146, eX8_goAllWays_149, eX8_goAllWays_152, eX8_goAllWays_153, eX8_goAllWays_156, eX8_goAllWays_157, eX8_goAllWays_160, eX8_goAllWays_161, ↓reduceIte, Evk_some, Evh_some, Evn_some, Evr_v, Evr_n, mk_i, mk_r, mk_0, mk_n, mk_l, mc0, mc1, mc2, mc3, mc4, mi_obj, Bool.and_self, Bool.true_and, Nat.add_zero, Nat.zero_add, nI_add, pk_mul, pk_sub, Nat.add_sub_cancel, eq_self, if_true, if_false, n10, bI_t, bI_f, bI_0, Nat.reduceAdd, Nat.reduceMul, Nat.reduceSub, nI_eq, nI_ltI, nI_leI, Nat.reduceEqDiff, Nat.reduceLT, Nat.reduceDiv, Nat.reduceMod, Nat.reduceLeDiff, h11, d1, rc, hz, Bool.true_eq_false, Bool.false_or]
                | false => simp (disch := first | omega | exact n8) only [eX8_goAllWays_126, eX8_goAllWays_128, eX8_goAllWays_130, eX8_goAllWays_133, eX8_goAllWays_134, eX8_goAllWays_136, eX8_goAllWays_137, eX8_goAllWays_139, eX8_goAllWays_140, eX8_goAllWays_141, eX8_goAllWays_142, eX8_goAllWays_143, eX8_goAllWays_145, eX8_goAllWays_146, eX8_goAllWays_149, eX8_goAllWays_152, eX8_goAllWays_153, eX8_goAllWays_156, eX8_goAllWays_157, eX8_goAllWays_160, eX8_goAllWays_161, ↓reduceIte, Evk_some, Evh_some, Evn_some, Evr_v, Evr_n, mk_i, mk_r, mk_0, mk_n, mk_l, mc0, mc1, mc2, mc3, mc4, mi_obj, Bool.and_self, Bool.true_and, Nat.add_zero, Nat.zero_add, nI_add, pk_mul, pk_sub, Nat.add_sub_cancel, eq_self, if_true, if_false, n10, bI_t, bI_f, bI_0, Nat.reduceAdd, Nat.reduceMul, Nat.reduceSub, nI_eq, nI_ltI, nI_leI, Nat.reduceEqDiff, Nat.reduceLT, Nat.reduceDiv, Nat.reduceMod, Nat.reduceLeDiff, h11, d1, rc, hz, Bool.false_or]
            have g1 : Gr A m (mk1 A (8 * (p + 1) + to)) m1 := by rw [hm1]; exact mk1_Gr (by omega) hB
            by_cases h12 : op p = 12
            · have a2 := o2 (Or.inr h12)
              have rc2 := cl_reach (b := b) (F := F) (A := mk1 A (8 * (p + 1) + to)) (L := L) (nx := nx) (i := 8 * ar p + to) (by omega) (mk1_WB hB)
              have hA6' : mk1 A (8 * (p + 1) + to) 6 (24 * c + p) = nI (ar p) := (congrFun (mk1_fr 6 (by decide)) _).trans (hA6 (Or.inr h12))
              refine ⟨mk1 (mk1 A (8 * (p + 1) + to)) (8 * ar p + to), decide (mk1 A (8 * (p + 1) + to) 10 (8 * ar p + to) = nI 0) || m1, some (.int (nI (op p))), some (.int (nI h)), some (.int (nI to)), mk1_fr.trans mk1_fr, mk1_WB (mk1_WB hB), fun z => mk1_mono (mk1_mono z), fun hk => mk1_Rk (mk1_Rk hk hto8 ((hk p h (by omega) hh hr).step (sc1 h11))) hto8 ((hk p h (by omega) hh hr).step (sc2 (Or.inr h12))), g1.trans (mk1_Gr (by omega) (mk1_WB hB)), fun he z p' h' hs => ?_, fun r => (walk r).trans ((walk2 r).trans ?_)⟩
              · obtain ⟨-, -, -, s4, s5⟩ := hs
                rcases s5 with ⟨q, rfl⟩ | ⟨-, rfl⟩
                · rw [s4, ← hto, ← he]; exact mk1_mono up2_s
                · rw [s4, ← hto, ← he]; exact up2_s
              · cases hz : decide (mk1 A (8 * (p + 1) + to) 10 (8 * ar p + to) = nI 0) with
                | true => simp (disch := first | omega | exact n8) only [eX8_goAllWays_162, eX8_goAllWays_164, eX8_goAllWays_166, eX8_goAllWays_169, eX8_goAllWays_171, eX8_goAllWays_173, eX8_goAllWays_176, eX8_goAllWays_177, eX8_goAllWays_179, eX8_goAllWays_180, eX8_goAllWays_183, eX8_goAllWays_185, eX8_goAllWays_186, eX8_goAllWays_187, eX8_goAllWays_188, eX8_goAllWays_190, eX8_goAllWays_191, eX8_goAllWays_192, eX8_goAllWays_193, eX8_goAllWays_194, eX8_goAllWays_196, eX8_goAllWays_197, eX8_goAllWays_200, eX8_goAllWays_203, eX8_goAllWays_204, eX8_goAllWays_207, eX8_goAllWays_208, eX8_goAllWays_211, eX8_goAllWays_212, ↓reduceIte, Evk_some, Evh_some, Evn_some, Evr_v, Evr_n, mk_i, mk_r, mk_0, mk_n, mk_l, mc0, mc1, mc2, mc3, mc4, mi_obj, Bool.and_self, Bool.true_and, Nat.add_zero, Nat.zero_add, nI_add, pk_mul, pk_sub, Nat.add_sub_cancel, eq_self, if_true, if_false, n10, bI_t, bI_f, bI_0, Nat.reduceAdd, Nat.reduceMul, Nat.reduceSub, nI_eq, nI_ltI, nI_leI, Nat.reduceEqDiff, Nat.reduceLT, Nat.reduceDiv, Nat.reduceMod, Nat.reduceLeDiff, h12, mg_argument, ml_argument, hA6', d1, rc2, hz, Bool.true_eq_false, Bool.true_or]
                | false =>
                  cases m1 with
                  | true => simp (disch := first | omega | exact n8) only [eX8_goAllWays_162, eX8_goAllWays_164, eX8_goAllWays_166, eX8_goAllWays_169, eX8_goAllWays_171, eX8_goAllWays_173, eX8_goAllWays_176, eX8_goAllWays_177, eX8_goAllWays_179, eX8_goAllWays_180, eX8_goAllWays_183, eX8_goAllWays_185, eX8_goAllWays_186, eX8_goAllWays_187, eX8_goAllWays_188, eX8_goAllWays_190, eX8_goAllWays_191, eX8_goAllWays_192, eX8_goAllWays_193, eX8_goAllWays_194, eX8_goAllWays_196, eX8_goAllWays_197, eX8_goAllWays_200, eX8_goAllWays_203, eX8_goAllWays_204, eX8_goAllWays_207, eX8_goAllWays_208, eX8_goAllWays_211, eX8_goAllWays_212, ↓reduceIte, Evk_some, Evh_some, Evn_some, Evr_v, Evr_n, mk_i, mk_r, mk_0, mk_n, mk_l, mc0, mc1, mc2, mc3, mc4, mi_obj, Bool.and_self, Bool.true_and, Nat.add_zero, Nat.zero_add, nI_add, pk_mul, pk_sub, Nat.add_sub_cancel, eq_self, if_true, if_false, n10, bI_t, bI_f, bI_0, Nat.reduceAdd, Nat.reduceMul, Nat.reduceSub, nI_eq, nI_ltI, nI_leI, Nat.reduceEqDiff, Nat.reduceLT, Nat.reduceDiv, Nat.reduceMod, Nat.reduceLeDiff, h12, mg_argument, ml_argument, hA6', d1, rc2, hz, Bool.true_eq_false, Bool.false_or]
                  | false => simp (disch := first | omega | exact n8) only [eX8_goAllWays_162, eX8_goAllWays_164, eX8_goAllWays_166, eX8_goAllWays_169, eX8_goAllWays_171, eX8_goAllWays_173, eX8_goAllWays_176, eX8_goAllWays_177, eX8_goAllWays_179, eX8_goAllWays_180, eX8_goAllWays_183, eX8_goAllWays_185, eX8_goAllWays_186, eX8_goAllWays_187, eX8_goAllWays_188, eX8_goAllWays_190, eX8_goAllWays_191, eX8_goAllWays_192, eX8_goAllWays_193, eX8_goAllWays_194, eX8_goAllWays_196, eX8_goAllWays_197, eX8_goAllWays_200, eX8_goAllWays_203, eX8_goAllWays_204, eX8_goAllWays_207, eX8_goAllWays_208, eX8_goAllWays_211, eX8_goAllWays_212, ↓reduceIte, Evk_some, Evh_some, Evn_some, Evr_v, Evr_n, mk_i, mk_r, mk_0, mk_n, mk_l, mc0, mc1, mc2, mc3, mc4, mi_obj, Bool.and_self, Bool.true_and, Nat.add_zero, Nat.zero_add, nI_add, pk_mul, pk_sub, Nat.add_sub_cancel, eq_self, if_true, if_false, n10, bI_t, bI_f, bI_0, Nat.reduceAdd, Nat.reduceMul, Nat.reduceSub, nI_eq, nI_ltI, nI_leI, Nat.reduceEqDiff, Nat.reduceLT, Nat.reduceDiv, Nat.reduceMod, Nat.reduceLeDiff, h12, mg_argument, ml_argument, hA6', d1, rc2, hz, Bool.false_or]
            · refine ⟨mk1 A (8 * (p + 1) + to), m1, some (.int (nI (op p))), some (.int (nI h)), some (.int (nI to)), mk1_fr, mk1_WB hB, mk1_mono, fun hk => mk1_Rk hk hto8 ((hk p h (by omega) hh hr).step (sc1 h11)), g1, fun he z p' h' hs => ?_, fun r => (walk r).trans ((walk2 r).trans ?_)⟩
              · obtain ⟨-, -, -, s4, s5⟩ := hs
                rcases s5 with ⟨q, rfl⟩ | ⟨q, rfl⟩
                · rw [s4, ← hto, ← he]; exact up2_s
                · exact absurd q (fun z => z.elim h11 h12)
              · simp (disch := first | omega | exact n8) only [eX8_goAllWays_162, eX8_goAllWays_164, eX8_goAllWays_166, eX8_goAllWays_169, eX8_goAllWays_171, eX8_goAllWays_173, ↓reduceIte, Evk_some, Evh_some, Evn_some, Evr_v, Evr_n, mk_i, mk_r, mk_0, mk_n, mk_l, mc0, mc1, mc2, mc3, mc4, mi_obj, Bool.and_self, Bool.true_and, Nat.add_zero, Nat.zero_add, nI_add, pk_mul, pk_sub, Nat.add_sub_cancel, eq_self, if_true, if_false, n10, bI_t, bI_f, bI_0, Nat.reduceAdd, Nat.reduceMul, Nat.reduceSub, nI_eq, nI_ltI, nI_leI, Nat.reduceEqDiff, Nat.reduceLT, Nat.reduceDiv, Nat.reduceMod, Nat.reduceLeDiff, h11, h12]
end MM
