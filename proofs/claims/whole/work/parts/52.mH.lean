/-! the reference: tidy, one thing, one pass, all -/
section MH
variable {b : Nat → Option va_E} {F : Nat → Int32} {A : Nat → Nat → Int32} {L : Nat → Nat → Int64} {nx : Option Nat} {r : mn_Res}
/-- is slot x needed -/
def ndR (A : Nat → Nat → Int32) (n x : Nat) : Prop := (List.range n).any (ndB A (nI x)) = true
theorem ndR_congr {A A' : Nat → Nat → Int32} (h : fr3 A A') (n x : Nat) : ndR A' n x ↔ ndR A n x := by
  have e : ndB A' (nI x) = ndB A (nI x) := by
    funext t
    unfold ndB
    rw [h 16 (by decide) (by decide) (by decide), h 27 (by decide) (by decide) (by decide), h 28 (by decide) (by decide) (by decide)]
  unfold ndR
  rw [e]
theorem onL_mem {s x : Nat} : x ∈ onL A s 40 ↔ x < 40 ∧ A 29 x = nI 1 ∧ A 30 x = nI s := by
  unfold onL onB
  simp
theorem onL_child (hw : WfR A) {s x : Nat} (hs : s < 40) : x ∈ onL A s 40 ↔ ∃ w, gR A L x = some (w, some s) := by
  rw [onL_mem]
  constructor
  · rintro ⟨h1, h2, h3⟩
    refine ⟨cw (A 31 x) (fun c => L 32 (12 * x + c)), ?_⟩
    rw [gR_some h1 h2, h3]
    rw [show dI (nI s) = some s from dI_oI (o := some s) (fun y q => by cases q; omega)]
  · rintro ⟨w, h⟩
    obtain ⟨h1, h2⟩ := gR_of (A := A) (L := L) (x := x) (by rw [h]; simp)
    rw [gR_some h1 h2] at h
    obtain ⟨o, ho, hy⟩ := ((hw x h1).2 h2).2
    rw [ho, dI_oI (fun y q => by have := hy y q; omega)] at h
    have : o = some s := (Prod.mk.inj (Option.some.inj h)).2
    subst this
    exact ⟨h1, h2, ho⟩
theorem onL_nodup {s k : Nat} : (onL A s k).Nodup := List.Pairwise.filter _ List.nodup_range
theorem ovr_cw {w1 w2 w3 : Nat} {f1 f2 f3 : Nat → Int64} (h1 : w1 < 4096) (h2 : w2 < 4096) (h3 : w3 < 4096) (hb : ∀ d, d < 12 → w3.testBit d = (w1.testBit d || w2.testBit d)) (hv : ∀ d, d < 12 → w3.testBit d = true → f3 d = if w1.testBit d = true then f1 d else f2 d) : cw (nI w3) f3 = ovr (cw (nI w1) f1) (cw (nI w2) f2) := by
  funext d
  unfold ovr cw
  by_cases hd : d < 12
  · simp only [hd, true_and, bt_nI (show w1 < 2 ^ 31 by omega) (show d < 32 by omega), bt_nI (show w2 < 2 ^ 31 by omega) (show d < 32 by omega), bt_nI (show w3 < 2 ^ 31 by omega) (show d < 32 by omega)]
    have hb := hb d hd
    have hv := hv d hd
    cases e1 : w1.testBit d with
    | true =>
      rw [e1] at hb hv
      simp only [Bool.true_or] at hb
      rw [hb] at hv
      simp [hb, hv]
    | false =>
      rw [e1] at hb hv
      simp only [Bool.false_or] at hb
      cases e2 : w2.testBit d with
      | true =>
        rw [e2] at hb
        rw [hb] at hv
        simp [hb, hv]
      | false =>
        rw [e2] at hb
        simp [hb]
  · simp [hd]
/-- what becomes of it when s goes -/
theorem gR_rem0 (hw : WfR A) {s : Nat} (hs : s < 40) (h29 : A 29 s = nI 1) (h0 : onL A s 40 = []) : gR (up2 A 29 s (nI 0)) L = rmF s (gR A L) := by
  funext x
  rw [rem_at (gR_some hs h29)]
  by_cases hx : x = s
  · subst hx
    rw [if_pos rfl]
    unfold gR
    rw [if_neg]
    rintro ⟨-, h⟩
    rw [up2_s] at h
    exact absurd h (by decide)
  · rw [if_neg hx]
    have e : gR (up2 A 29 s (nI 0)) L x = gR A L x := by
      unfold gR
      rw [up2_o hx, up2_n (by decide), up2_n (by decide)]
    rw [e]
    cases hg : gR A L x with
    | none => rfl
    | some q =>
      obtain ⟨w, o⟩ := q
      simp only [Option.map_some]
      rw [if_neg]
      rintro rfl
      have := (onL_child (L := L) hw hs).mpr ⟨w, hg⟩
      rw [h0] at this
      cases this
theorem gR_rem1 (hw : WfR A) {s a ws wa wa' : Nat} {A' : Nat → Nat → Int32} {L' : Nat → Nat → Int64} (hs : s < 40) (h29 : A 29 s = nI 1) (h1 : onL A s 40 = [a]) (hsa : a ≠ s) (hs31 : A 31 s = nI ws) (hws : ws < 4096) (ha31 : A 31 a = nI wa) (hwa : wa < 4096)
    (k1 : ∀ k, k ≠ 31 → A' k = A k) (k2 : ∀ x, x ≠ a → A' 31 x = A 31 x) (k3 : A' 31 a = nI wa') (k4 : wa' < 4096) (k5 : ∀ d, wa'.testBit d = (wa.testBit d || (decide (0 ≤ d) && (decide (d < 12) && ws.testBit d)))) (k7 : ∀ i, (∀ d, d < 12 → i ≠ 12 * a + d) → L' 32 i = L 32 i) (k8 : ∀ d, d < 12 → L' 32 (12 * a + d) = if 0 ≤ d ∧ ws.testBit d = true ∧ wa.testBit d = false then L 32 (12 * s + d) else L 32 (12 * a + d)) :
    gR (up2 (up2 A' 30 a (A' 30 s)) 29 s (nI 0)) L' = rmF s (gR A L) := by
  have hac : a ∈ onL A s 40 := by rw [h1]; exact List.mem_singleton.mpr rfl
  obtain ⟨a1, a2, a3⟩ := onL_mem.mp hac
  funext x
  rw [rem_at (gR_some hs h29)]
  by_cases hx : x = s
  · subst hx
    rw [if_pos rfl]
    unfold gR
    rw [if_neg]
    rintro ⟨-, h⟩
    rw [up2_s] at h
    exact absurd h (by decide)
  · rw [if_neg hx]
    by_cases hxa : x = a
    · subst hxa
      rw [gR_some a1 a2, a3]
      rw [show dI (nI s) = some s from dI_oI (o := some s) (fun y q => by cases q; omega)]
      simp only [Option.map_some, if_true]
      unfold gR
      rw [if_pos ⟨a1, by rw [up2_o hx, up2_n (by decide), k1 29 (by decide)]; exact a2⟩]
      rw [up2_n (by decide), up2_n (by decide), up2_n (k := 29) (by decide), up2_s, k3, k1 30 (by decide), hs31, ha31]
      refine congrArg (fun z => some (z, dI (A 30 s))) (ovr_cw hwa hws k4 (fun d hd => ?_) (fun d hd hb => ?_))
      · rw [k5]; simp [hd]
      · show L' 32 (12 * x + d) = _
        rw [k8 d hd]
        rw [k5] at hb
        cases e : wa.testBit d with
        | true => simp
        | false =>
          rw [e] at hb
          simp [hd] at hb
          simp [hb]
    · have e : gR (up2 (up2 A' 30 a (A' 30 s)) 29 s (nI 0)) L' x = gR A L x := by
        unfold gR
        rw [up2_o hx, up2_n (by decide), k1 29 (by decide), up2_n (by decide), up2_n (k := 29) (by decide), up2_o hxa, k1 30 (by decide), up2_n (by decide), k2 x hxa]
        have : (fun c => cw (A 31 x) (fun c => L' 32 (12 * x + c)) c) = cw (A 31 x) (fun c => L 32 (12 * x + c)) := by
          funext c
          unfold cw
          by_cases hc : c < 12
          · have e7 := k7 (12 * x + c) (fun d hd q => by omega)
            simp only [e7]
          · rw [if_neg (fun z => hc z.1), if_neg (fun z => hc z.1)]
        rw [show cw (A 31 x) (fun c => L' 32 (12 * x + c)) = cw (A 31 x) (fun c => L 32 (12 * x + c)) from this]
      rw [e]
      cases hg : gR A L x with
      | none => rfl
      | some q =>
        obtain ⟨w, o⟩ := q
        simp only [Option.map_some]
        rw [if_neg]
        rintro rfl
        have := (onL_child (L := L) hw hs).mpr ⟨w, hg⟩
        rw [h1] at this
        exact hxa (List.mem_singleton.mp this)
/-- one thing -/
def tdB (A A' : Nat → Nat → Int32) (L L' : Nat → Nat → Int64) (n s : Nat) (m m' : Bool) : Prop := (A' = A ∧ L' = L ∧ m' = m ∧ ¬ Rmv (ndR A n) (gR A L) s) ∨ (Rmv (ndR A n) (gR A L) s ∧ gR A' L' = rmF s (gR A L) ∧ m' = true)
set_option maxHeartbeats 4000000 in
theorem ev_tidy_one (hw : WfR A) (ha : ∀ s, s < 40 → A 29 s = nI 1 → A 30 s ≠ nI s) {n : Nat} (hn : n ≤ 12) (hF : F 11 = nI n) {s : Nat} (hs : s < 40) {m : Bool} {c3 c4 c5 : Option Value} :
    ∃ A' L' m' d3 d4 d5, fr3 A A' ∧ frL L L' ∧ WfR A' ∧ tdB A A' L L' n s m m' ∧ (∀ r : mn_Res, Ev 107 16 [some (.ref 149), some (.int (bI m)), some (.int (nI s)), c3, c4, c5] [] (mpic b F A L, nx, 0, 0) r ↔ Ev 107 193 [some (.ref 149), some (.int (bI m')), some (.int (nI s)), d3, d4, d5] [] (mpic b F A' L', nx, 0, 0) r) := by
  have skip : ∀ {q3 q4 q5 : Option Value}, ¬ Rmv (ndR A n) (gR A L) s → (∀ r : mn_Res, Ev 107 16 [some (.ref 149), some (.int (bI m)), some (.int (nI s)), c3, c4, c5] [] (mpic b F A L, nx, 0, 0) r ↔ Ev 107 193 [some (.ref 149), some (.int (bI m)), some (.int (nI s)), q3, q4, q5] [] (mpic b F A L, nx, 0, 0) r) → ∃ A' L' m' d3 d4 d5, fr3 A A' ∧ frL L L' ∧ WfR A' ∧ tdB A A' L L' n s m m' ∧ (∀ r : mn_Res, Ev 107 16 [some (.ref 149), some (.int (bI m)), some (.int (nI s)), c3, c4, c5] [] (mpic b F A L, nx, 0, 0) r ↔ Ev 107 193 [some (.ref 149), some (.int (bI m')), some (.int (nI s)), d3, d4, d5] [] (mpic b F A' L', nx, 0, 0) r) := by
    intro q3 q4 q5 h1 h2
    exact ⟨A, L, m, q3, q4, q5, fun _ _ _ _ => rfl, fun _ _ => rfl, hw, Or.inl ⟨rfl, rfl, rfl, h1⟩, h2⟩
  rcases (hw s hs).1 with h29 | h29
  · refine skip (q3 := c3) (q4 := c4) (q5 := c5) (fun hr => ?_) ?_
    · have := (gR_of hr.1).2
      rw [h29] at this
      exact absurd this (by decide)
    · intro r
      simp (disch := first | omega | (simp only [cat_i, cat_r, ri_r, ri_0]; done)) only [eX8_tidy_16, eX8_tidy_17, eX8_tidy_20, eX8_tidy_21, eX8_tidy_22, eX8_tidy_25, eX8_tidy_26, eX8_tidy_27, eX8_tidy_30, eX8_tidy_33, eX8_tidy_36, Evk_some, Evh_some, Evn_some, Evr_v, Evr_n, mk_i, mk_r, mk_0, mk_n, mk_l, mc0, mc1, mc2, mc3, mc4, mi_obj, Bool.and_self, Bool.true_and, Nat.add_zero, Nat.zero_add, nI_add, pk_mul, pk_sub, Nat.add_sub_cancel, eq_self, if_true, if_false, n10, bI_t, bI_f, bI_0, Nat.reduceAdd, Nat.reduceMul, Nat.reduceSub, nI_eq, nI_ltI, nI_leI, Nat.reduceEqDiff, Nat.reduceLT, Nat.reduceDiv, Nat.reduceMod, Nat.reduceLeDiff, mg_used, ml_used, h29]
  · cases hnd : (List.range n).any (ndB A (nI s)) with
    | true =>
      refine skip (q3 := c3) (q4 := c4) (q5 := c5) (fun hr => hr.2.1 hnd) ?_
      intro r
      simp (disch := first | omega | (simp only [cat_i, cat_r, ri_r, ri_0]; done)) only [eX8_tidy_16, eX8_tidy_17, eX8_tidy_20, eX8_tidy_21, eX8_tidy_22, eX8_tidy_25, eX8_tidy_26, eX8_tidy_27, eX8_tidy_30, eX8_tidy_33, Evk_some, Evh_some, Evn_some, Evr_v, Evr_n, mk_i, mk_r, mk_0, mk_n, mk_l, mc0, mc1, mc2, mc3, mc4, mi_obj, Bool.and_self, Bool.true_and, Nat.add_zero, Nat.zero_add, nI_add, pk_mul, pk_sub, Nat.add_sub_cancel, eq_self, if_true, if_false, n10, bI_t, bI_f, bI_0, Nat.reduceAdd, Nat.reduceMul, Nat.reduceSub, nI_eq, nI_ltI, nI_leI, Nat.reduceEqDiff, Nat.reduceLT, Nat.reduceDiv, Nat.reduceMod, Nat.reduceLeDiff, mg_used, ml_used, h29, cl_isNeeded hn hF, hnd, Bool.true_eq_false]
    | false =>
      have step1 : ∀ r : mn_Res, Ev 107 16 [some (.ref 149), some (.int (bI m)), some (.int (nI s)), c3, c4, c5] [] (mpic b F A L, nx, 0, 0) r ↔ Ev 107 87 [some (.ref 149), some (.int (bI m)), some (.int (nI s)), some (.int (oI (onL A s 40).getLast?)), some (.int (nI (onL A s 40).length)), some (.int (nI 40))] [] (mpic b F A L, nx, 0, 0) r := by
        intro r
        rw [← ev_tidy_on hw 40 0 (by omega)]
        simp (disch := first | omega | (simp only [cat_i, cat_r, ri_r, ri_0]; done)) only [eX8_tidy_16, eX8_tidy_17, eX8_tidy_20, eX8_tidy_21, eX8_tidy_22, eX8_tidy_25, eX8_tidy_26, eX8_tidy_27, eX8_tidy_30, eX8_tidy_33, eX8_tidy_36, eX8_tidy_37, eX8_tidy_38, eX8_tidy_39, eX8_tidy_41, eX8_tidy_42, Evk_some, Evh_some, Evn_some, Evr_v, Evr_n, mk_i, mk_r, mk_0, mk_n, mk_l, mc0, mc1, mc2, mc3, mc4, mi_obj, Bool.and_self, Bool.true_and, Nat.add_zero, Nat.zero_add, nI_add, pk_mul, pk_sub, Nat.add_sub_cancel, eq_self, if_true, if_false, n10, bI_t, bI_f, bI_0, Nat.reduceAdd, Nat.reduceMul, Nat.reduceSub, nI_eq, nI_ltI, nI_leI, Nat.reduceEqDiff, Nat.reduceLT, Nat.reduceDiv, Nat.reduceMod, Nat.reduceLeDiff, mg_used, ml_used, h29, cl_isNeeded hn hF, hnd]
        rfl
      have hlen40 : (onL A s 40).length ≤ 40 := by
        unfold onL
        exact Nat.le_trans (List.length_filter_le _ _) (by simp)
      match hl : onL A s 40 with
      | [] =>
        refine ⟨up2 A 29 s (nI 0), L, true, some (.int (-1)), some (.int (nI 0)), some (.int (nI 0)), fun k a _ _ => up2_n a, fun _ _ => rfl, ?_, Or.inr ⟨⟨by rw [gR_some hs h29]; simp, by unfold ndR; rw [hnd]; simp, ?_⟩, gR_rem0 hw hs h29 hl, rfl⟩, ?_⟩
        · intro x hx
          by_cases hxs : x = s
          · subst hxs
            exact ⟨Or.inl up2_s, fun q => absurd (up2_s.symm.trans q) (by decide)⟩
          · rw [up2_o hxs, up2_n (by decide), up2_n (by decide)]
            exact hw x hx
        · intro k k' w w' h1 h2
          have := (onL_child (L := L) hw hs).mpr ⟨w, h1⟩
          rw [hl] at this
          cases this
        · rw [hl] at step1
          intro r
          refine (step1 r).trans ?_
          simp (disch := first | omega | (simp only [cat_i, cat_r, ri_r, ri_0]; done)) only [eX8_tidy_87, eX8_tidy_89, eX8_tidy_90, eX8_tidy_93, eX8_tidy_96, eX8_tidy_97, eX8_tidy_99, eX8_tidy_101, eX8_tidy_103, eX8_tidy_106, eX8_tidy_108, eX8_tidy_109, eX8_tidy_112, eX8_tidy_113, eX8_tidy_116, eX8_tidy_117, eX8_tidy_118, eX8_tidy_120, eX8_tidy_121, eX8_tidy_122, eX8_tidy_123, eX8_tidy_124, eX8_tidy_127, eX8_tidy_128, eX8_tidy_131, eX8_tidy_132, eX8_tidy_133, eX8_tidy_135, eX8_tidy_136, eX8_tidy_137, eX8_tidy_138, eX8_tidy_141, eX8_tidy_142, eX8_tidy_143, eX8_tidy_145, eX8_tidy_146, eX8_tidy_149, eX8_tidy_151, eX8_tidy_152, eX8_tidy_153, eX8_tidy_155, eX8_tidy_156, eX8_tidy_157, eX8_tidy_160, eX8_tidy_163, eX8_tidy_166, eX8_tidy_168, eX8_tidy_169, eX8_tidy_172, eX8_tidy_173, eX8_tidy_176, eX8_tidy_177, eX8_tidy_178, eX8_tidy_181, eX8_tidy_182, eX8_tidy_183, eX8_tidy_184, eX8_tidy_185, eX8_tidy_188, eX8_tidy_189, eX8_tidy_190, eX8_tidy_191, eX8_tidy_192, Evk_some, Evh_some, Evn_some, Evr_v, Evr_n, mk_i, mk_r, mk_0, mk_n, mk_l, mc0, mc1, mc2, mc3, mc4, mi_obj, Bool.and_self, Bool.true_and, Nat.add_zero, Nat.zero_add, nI_add, pk_mul, pk_sub, Nat.add_sub_cancel, eq_self, if_true, if_false, n10, bI_t, bI_f, bI_0, Nat.reduceAdd, Nat.reduceMul, Nat.reduceSub, nI_eq, nI_ltI, nI_leI, Nat.reduceEqDiff, Nat.reduceLT, Nat.reduceDiv, Nat.reduceMod, Nat.reduceLeDiff, List.getLast?_nil, List.length_nil, oI_n, mg_used, ms_used0, Nat.zero_le]
      | [a] =>
        have hac : a ∈ onL A s 40 := by rw [hl]; exact List.mem_singleton.mpr rfl
        obtain ⟨a1, a2, a3⟩ := onL_mem.mp hac
        have hsa : a ≠ s := fun q => by subst q; exact ha a a1 a2 a3
        obtain ⟨⟨ws, hws, hs31⟩, os, hos, hos2⟩ := (hw s hs).2 h29
        obtain ⟨⟨wa, hwa, ha31⟩, -⟩ := (hw a a1).2 a2
        obtain ⟨A', L', wa', k1, k2, k3, k4, k5, k6, k7, k8, k9⟩ := ev_tidy_in (b := b) (F := F) (nx := nx) (c1 := some (.int (bI m))) hs a1 hsa hws 12 0 (by omega) A L wa hs31 ha31 hwa
        refine ⟨up2 (up2 A' 30 a (A' 30 s)) 29 s (nI 0), L', true, some (.int (nI a)), some (.int (nI 1)), some (.int (nI 12)), fun k h1 h2 h3 => (up2_n h1).trans ((up2_n h2).trans (k1 k h3)), k6, ?_, Or.inr ⟨⟨by rw [gR_some hs h29]; simp, by unfold ndR; rw [hnd]; simp, ?_⟩, gR_rem1 hw hs h29 hl hsa hs31 hws ha31 hwa k1 k2 k3 k4 k5 k7 k8, rfl⟩, ?_⟩
        · intro x hx
          by_cases hxs : x = s
          · subst hxs
            exact ⟨Or.inl up2_s, fun q => absurd (up2_s.symm.trans q) (by decide)⟩
          · rw [up2_o hxs, up2_n (by decide), k1 29 (by decide), up2_n (by decide), up2_n (by decide), up2_n (k := 29) (by decide)]
            refine ⟨(hw x hx).1, fun q => ⟨?_, ?_⟩⟩
            · by_cases hxa : x = a
              · subst hxa
                exact ⟨wa', k4, k3⟩
              · rw [k2 x hxa]
                exact ((hw x hx).2 q).1
            · by_cases hxa : x = a
              · subst hxa
                rw [up2_s, k1 30 (by decide)]
                exact ⟨os, hos, hos2⟩
              · rw [up2_o hxa, k1 30 (by decide)]
                exact ((hw x hx).2 q).2
        · intro k k' w w' h1 h2
          have q1 := (onL_child (L := L) hw hs).mpr ⟨w, h1⟩
          have q2 := (onL_child (L := L) hw hs).mpr ⟨w', h2⟩
          rw [hl] at q1 q2
          rw [List.mem_singleton.mp q1, List.mem_singleton.mp q2]
        · rw [hl] at step1
          intro r
          refine (step1 r).trans ?_
          have m1 : Ev 107 87 [some (.ref 149), some (.int (bI m)), some (.int (nI s)), some (.int (oI [a].getLast?)), some (.int (nI [a].length)), some (.int (nI 40))] [] (mpic b F A L, nx, 0, 0) r ↔ Ev 107 99 [some (.ref 149), some (.int (bI m)), some (.int (nI s)), some (.int (nI a)), some (.int (nI 1)), some (.int (nI 0))] [] (mpic b F A L, nx, 0, 0) r := by
            simp (disch := first | omega | (simp only [cat_i, cat_r, ri_r, ri_0]; done)) only [eX8_tidy_87, eX8_tidy_89, eX8_tidy_90, eX8_tidy_93, eX8_tidy_96, eX8_tidy_97, Evk_some, Evh_some, Evn_some, Evr_v, Evr_n, mk_i, mk_r, mk_0, mk_n, mk_l, mc0, mc1, mc2, mc3, mc4, mi_obj, Bool.and_self, Bool.true_and, Nat.add_zero, Nat.zero_add, nI_add, pk_mul, pk_sub, Nat.add_sub_cancel, eq_self, if_true, if_false, n10, bI_t, bI_f, bI_0, Nat.reduceAdd, Nat.reduceMul, Nat.reduceSub, nI_eq, nI_ltI, nI_leI, Nat.reduceEqDiff, Nat.reduceLT, Nat.reduceDiv, Nat.reduceMod, Nat.reduceLeDiff, List.getLast?_singleton, List.length_singleton, oI_s, Nat.le_refl]
          refine m1.trans ((k9 r).trans ?_)
          simp (disch := first | omega | (simp only [cat_i, cat_r, ri_r, ri_0]; done)) only [eX8_tidy_166, eX8_tidy_168, eX8_tidy_169, eX8_tidy_172, eX8_tidy_173, eX8_tidy_176, eX8_tidy_177, eX8_tidy_178, eX8_tidy_181, eX8_tidy_182, eX8_tidy_183, eX8_tidy_184, eX8_tidy_185, eX8_tidy_188, eX8_tidy_189, eX8_tidy_190, eX8_tidy_191, eX8_tidy_192, Evk_some, Evh_some, Evn_some, Evr_v, Evr_n, mk_i, mk_r, mk_0, mk_n, mk_l, mc0, mc1, mc2, mc3, mc4, mi_obj, Bool.and_self, Bool.true_and, Nat.add_zero, Nat.zero_add, nI_add, pk_mul, pk_sub, Nat.add_sub_cancel, eq_self, if_true, if_false, n10, bI_t, bI_f, bI_0, Nat.reduceAdd, Nat.reduceMul, Nat.reduceSub, nI_eq, nI_ltI, nI_leI, Nat.reduceEqDiff, Nat.reduceLT, Nat.reduceDiv, Nat.reduceMod, Nat.reduceLeDiff, mg_below, ml_below, ms_below, mg_used, ms_used0]
      | a :: a' :: l =>
        rw [hl] at hlen40
        refine skip (q3 := some (.int (oI (a :: a' :: l).getLast?))) (q4 := some (.int (nI (a :: a' :: l).length))) (q5 := some (.int (nI 40))) (fun hr => ?_) ?_
        · have hnd2 := onL_nodup (A := A) (s := s) (k := 40)
          rw [hl] at hnd2
          have q1 : a ∈ onL A s 40 := by rw [hl]; simp
          have q2 : a' ∈ onL A s 40 := by rw [hl]; simp
          obtain ⟨w1, q1⟩ := (onL_child (L := L) hw hs).mp q1
          obtain ⟨w2, q2⟩ := (onL_child (L := L) hw hs).mp q2
          have := hr.2.2 _ _ _ _ q1 q2
          simp [this] at hnd2
        · rw [hl] at step1
          intro r
          refine (step1 r).trans ?_
          have h2 : ¬ (a :: a' :: l).length ≤ 1 := by simp
          simp (disch := first | omega | (simp only [cat_i, cat_r, ri_r, ri_0]; done)) only [eX8_tidy_87, eX8_tidy_89, eX8_tidy_90, eX8_tidy_93, Evk_some, Evh_some, Evn_some, Evr_v, Evr_n, mk_i, mk_r, mk_0, mk_n, mk_l, mc0, mc1, mc2, mc3, mc4, mi_obj, Bool.and_self, Bool.true_and, Nat.add_zero, Nat.zero_add, nI_add, pk_mul, pk_sub, Nat.add_sub_cancel, eq_self, if_true, if_false, n10, bI_t, bI_f, bI_0, Nat.reduceAdd, Nat.reduceMul, Nat.reduceSub, nI_eq, nI_ltI, nI_leI, Nat.reduceEqDiff, Nat.reduceLT, Nat.reduceDiv, Nat.reduceMod, Nat.reduceLeDiff, h2]
end MH
