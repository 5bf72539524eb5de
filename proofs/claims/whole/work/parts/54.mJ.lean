/-! the reference: fork, join -/
section MJ
variable {b : Nat → Option va_E} {F : Nat → Int32} {A : Nat → Nat → Int32} {L : Nat → Nat → Int64} {nx : Option Nat} {r : mn_Res}
def opA (A : Nat → Nat → Int32) (s : Nat) (u : Int32) : Nat → Nat → Int32 := up2 (up2 (up2 A 29 s (nI 1)) 30 s u) 31 s (nI 0)
def fkA (A : Nat → Nat → Int32) (t n d s1 s2 : Nat) (b0 u : Int32) : Nat → Nat → Int32 := up2 (opA (up2 (bgA (opA (up2 A 21 t (nI d)) s1 u) n b0 (nI t) (nI s1) u) 21 t (nI (d + 1))) s2 u) 27 t (nI s2)
def fkL (L : Nat → Nat → Int64) (t n d : Nat) : Nat → Nat → Int64 := upL (bgL L n (L 22 (8 * t + d))) 22 (8 * t + d) (nI n).toInt64
theorem opA_29 {s x : Nat} {u : Int32} : opA A s u 29 x = if x = s then nI 1 else A 29 x := by
  unfold opA
  rw [up2_n (by decide), up2_n (by decide)]
  by_cases h : x = s
  · subst h; rw [up2_s, if_pos rfl]
  · rw [up2_o h, if_neg h]
set_option maxHeartbeats 4000000 in
theorem cl_fork {t n d s1 s2 : Nat} {b0 u : Int32} {A' : Nat → Nat → Int32} {L' : Nat → Nat → Int64} (ht : t < n) (hn : n < 12) (hF : F 11 = nI n) (hd : d < 8) (hA : A 21 t = nI (d + 1)) (hu : A 27 t = u) (h1 : s1 < s2) (h2 : s2 < 40) (h3 : ∀ i, i < s1 → A 29 i = nI 1) (h4 : A 29 s1 = nI 0) (h5 : ∀ i, s1 < i → i < s2 → A 29 i = nI 1) (h6 : A 29 s2 = nI 0) (htd : Cl 107 [.ref 149] (mpic b (up1 F 11 (nI (n + 1))) (fkA A t n d s1 s2 b0 u) (fkL L t n d)) nx = some ((mpic b (up1 F 11 (nI (n + 1))) A' L', nx, 0, 0), .inl none)) : Cl 119 [.ref 149, .int (nI t), .int (b0)] (mpic b F A L) nx = some ((mpic b (up1 F 11 (nI (n + 1))) (A') (L'), nx, 0, 0), .inl (none)) := by
  refine Cl_of (x := mnI_X8_fork) rfl ?_
  show Ev 119 0 [some (.ref 149), some (.int (nI t)), some (.int (b0)), none, none, none, none] [] _ _
  have ht12 : t < 12 := by omega
  have e21 : bgA (opA (up2 A 21 t (nI d)) s1 u) n b0 (nI t) (nI s1) u 21 t = nI d := by
    unfold bgA opA
    simp (disch := omega) only [up2_n, up2_o, up2_s]
  have e29 : ∀ x, up2 (bgA (opA (up2 A 21 t (nI d)) s1 u) n b0 (nI t) (nI s1) u) 21 t (nI (d + 1)) 29 x = if x = s1 then nI 1 else A 29 x := by
    intro x
    rw [up2_n (by decide)]
    unfold bgA
    simp (disch := omega) only [up2_n]
    rw [opA_29, up2_n (by decide)]
  have o1 := cl_open (b := b) (F := F) (A := up2 A 21 t (nI d)) (L := L) (nx := nx) (s := s1) (by omega) (by rw [up2_n (by decide)]; exact h4) (fun i hi => by rw [up2_n (by decide)]; exact h3 i hi) (u := u)
  have o2 := cl_open (b := b) (F := up1 F 11 (nI (n + 1))) (A := up2 (bgA (opA (up2 A 21 t (nI d)) s1 u) n b0 (nI t) (nI s1) u) 21 t (nI (d + 1))) (L := fkL L t n d) (nx := nx) (s := s2) h2 (by rw [e29, if_neg (by omega)]; exact h6) (fun i hi => by
    rw [e29]
    by_cases hq : i = s1
    · rw [if_pos hq]
    · rw [if_neg hq]
      by_cases hq2 : i < s1
      · exact h3 i hq2
      · exact h5 i (by omega) hi) (u := u)
  change Cl 103 _ _ _ = some ((mpic b F (opA _ s1 u) L, nx, 0, 0), _) at o1
  change Cl 103 _ _ _ = some ((mpic b _ (opA _ s2 u) _, nx, 0, 0), _) at o2
  have p1 := cl_push (b := b) (F := up1 F 11 (nI (n + 1))) (L := bgL L n (L 22 (8 * t + d))) (nx := nx) ht12 hd e21 (v := (nI n).toInt64)
  change Cl 112 _ _ _ = some ((mpic b _ _ (fkL L t n d), nx, 0, 0), _) at p1
  simp (disch := first | omega | (simp only [cat_i, cat_r, ri_r, ri_0]; done)) only [eX8_fork_0, eX8_fork_1, eX8_fork_4, eX8_fork_5, eX8_fork_6, eX8_fork_7, eX8_fork_8, eX8_fork_9, eX8_fork_12, eX8_fork_14, eX8_fork_15, eX8_fork_16, eX8_fork_19, eX8_fork_21, eX8_fork_22, eX8_fork_23, eX8_fork_24, eX8_fork_25, eX8_fork_26, eX8_fork_28, eX8_fork_30, eX8_fork_31, eX8_fork_34, eX8_fork_35, eX8_fork_38, eX8_fork_39, eX8_fork_42, eX8_fork_43, eX8_fork_44, eX8_fork_45, eX8_fork_48, eX8_fork_49, eX8_fork_50, eX8_fork_53, Evk_some, Evh_some, Evn_some, Evr_v, Evr_n, mk_i, mk_r, mk_0, mk_n, mk_l, mc0, mc1, mc2, mc3, mc4, mi_obj, Bool.and_self, Bool.true_and, Nat.add_zero, Nat.zero_add, nI_add, pk_mul, pk_sub, Nat.add_sub_cancel, eq_self, if_true, if_false, n10, bI_t, bI_f, bI_0, Nat.reduceAdd, Nat.reduceMul, Nat.reduceSub, nI_eq, nI_ltI, nI_leI, Nat.reduceEqDiff, Nat.reduceLT, Nat.reduceDiv, Nat.reduceMod, Nat.reduceLeDiff, mg_segment, ml_segment, ms_segment, hu, cl_pop ht12 hd hA, o1, cl_beginTask hn hF, p1, o2]
  rw [fkA] at htd
  simp (disch := first | omega | (simp only [cat_i, cat_r, ri_r, ri_0]; done)) only [eX8_fork_0, eX8_fork_1, eX8_fork_4, eX8_fork_5, eX8_fork_6, eX8_fork_7, eX8_fork_8, eX8_fork_9, eX8_fork_12, eX8_fork_14, eX8_fork_15, eX8_fork_16, eX8_fork_19, eX8_fork_21, eX8_fork_22, eX8_fork_23, eX8_fork_24, eX8_fork_25, eX8_fork_26, eX8_fork_28, eX8_fork_30, eX8_fork_31, eX8_fork_34, eX8_fork_35, eX8_fork_38, eX8_fork_39, eX8_fork_42, eX8_fork_43, eX8_fork_44, eX8_fork_45, eX8_fork_48, eX8_fork_49, eX8_fork_50, eX8_fork_53, Evk_some, Evh_some, Evn_some, Evr_v, Evr_n, mk_i, mk_r, mk_0, mk_n, mk_l, mc0, mc1, mc2, mc3, mc4, mi_obj, Bool.and_self, Bool.true_and, Nat.add_zero, Nat.zero_add, nI_add, pk_mul, pk_sub, Nat.add_sub_cancel, eq_self, if_true, if_false, n10, bI_t, bI_f, bI_0, Nat.reduceAdd, Nat.reduceMul, Nat.reduceSub, nI_eq, nI_ltI, nI_leI, Nat.reduceEqDiff, Nat.reduceLT, Nat.reduceDiv, Nat.reduceMod, Nat.reduceLeDiff, htd]
/-- the way down from o to e over l -/
def pth (B : Nat → Option Nat) : Option Nat → List Nat → Option Nat → Prop
  | o, [], e => o = e
  | o, s :: l, e => o = some s ∧ o ≠ e ∧ pth B (B s) l e
def orL (w : Nat → Nat) : List Nat → Nat → Nat
  | [], m => m
  | s :: l, m => orL w l (m ||| w s)
theorem orN {a c : Nat} (ha : a < 4096) (hc : c < 4096) : nI a ||| nI c = nI (a ||| c) ∧ a ||| c < 4096 := by
  have ho : a ||| c < 4096 := Nat.or_lt_two_pow (n := 12) ha hc
  refine ⟨?_, ho⟩
  apply Int32.toBitVec_inj.mp
  apply BitVec.eq_of_toNat_eq
  rw [Int32.toBitVec_or, BitVec.toNat_or, pk_tn (by omega), pk_tn (by omega), pk_tn (by omega)]
set_option maxHeartbeats 4000000 in
theorem ev_bring1 {B : Nat → Option Nat} {w : Nat → Nat} {t o : Nat} (ho : o < 12) {e : Option Nat} (he : A 28 o = oI e) (he2 : ∀ s, e = some s → s < 40) {c5 c6 : Option Value} : ∀ (l : List Nat) (q : Option Nat) (m : Nat), pth B q l e → (∀ s ∈ l, s < 40 ∧ A 30 s = oI (B s) ∧ A 31 s = nI (w s) ∧ w s < 4096) → m < 4096 →
    orL w l m < 4096 ∧ ∀ r : mn_Res, Ev 121 10 [some (.ref 149), some (.int (nI t)), some (.int (nI o)), some (.int (nI m)), some (.int (oI q)), c5, c6] [] (mpic b F A L, nx, 0, 0) r ↔ Ev 121 43 [some (.ref 149), some (.int (nI t)), some (.int (nI o)), some (.int (nI (orL w l m))), some (.int (oI e)), c5, c6] [] (mpic b F A L, nx, 0, 0) r := by
  intro l
  induction l with
  | nil =>
    intro q m hp _ hm
    have hp : q = e := hp
    subst hp
    refine ⟨hm, fun r => ?_⟩
    refine eX8_bring_10.trans ?_
    simp (disch := first | omega | (simp only [cat_i, cat_r, ri_r, ri_0]; done)) only [eX8_bring_12, eX8_bring_13, eX8_bring_16, eX8_bring_17, eX8_bring_18, Evk_some, Evh_some, Evn_some, Evr_v, Evr_n, mk_i, mk_r, mk_0, mk_n, mk_l, mc0, mc1, mc2, mc3, mc4, mi_obj, Bool.and_self, Bool.true_and, Nat.add_zero, Nat.zero_add, nI_add, pk_mul, pk_sub, Nat.add_sub_cancel, eq_self, if_true, if_false, n10, bI_t, bI_f, bI_0, Nat.reduceAdd, Nat.reduceMul, Nat.reduceSub, nI_eq, nI_ltI, nI_leI, Nat.reduceEqDiff, Nat.reduceLT, Nat.reduceDiv, Nat.reduceMod, Nat.reduceLeDiff, mg_base, ml_base, he, orL]
  | cons s l ih =>
    intro q m hp hl hm
    obtain ⟨rfl, hne, hp⟩ := hp
    obtain ⟨s1, s2, s3, s4⟩ := hl s List.mem_cons_self
    obtain ⟨o1, o2⟩ := orN hm s4
    obtain ⟨i1, i2⟩ := ih (B s) (m ||| w s) hp (fun x hx => hl x (List.mem_cons_of_mem _ hx)) o2
    refine ⟨i1, fun r => ?_⟩
    refine Iff.trans ?_ (i2 r)
    refine eX8_bring_10.trans ?_
    have hq : ¬ nI s = oI e := fun z => hne ((oI_inj (o := some s) (fun y q => by cases q; omega) (fun y q => by have := he2 y q; omega)).mp z)
    simp (disch := first | omega | (simp only [cat_i, cat_r, ri_r, ri_0]; done)) only [eX8_bring_12, eX8_bring_13, eX8_bring_16, eX8_bring_17, eX8_bring_18, eX8_bring_21, eX8_bring_22, eX8_bring_23, eX8_bring_26, eX8_bring_28, eX8_bring_29, eX8_bring_30, eX8_bring_31, eX8_bring_32, eX8_bring_35, eX8_bring_37, eX8_bring_38, eX8_bring_40, Evk_some, Evh_some, Evn_some, Evr_v, Evr_n, mk_i, mk_r, mk_0, mk_n, mk_l, mc0, mc1, mc2, mc3, mc4, mi_obj, Bool.and_self, Bool.true_and, Nat.add_zero, Nat.zero_add, nI_add, pk_mul, pk_sub, Nat.add_sub_cancel, eq_self, if_true, if_false, n10, bI_t, bI_f, bI_0, Nat.reduceAdd, Nat.reduceMul, Nat.reduceSub, nI_eq, nI_ltI, nI_leI, Nat.reduceEqDiff, Nat.reduceLT, Nat.reduceDiv, Nat.reduceMod, Nat.reduceLeDiff, mg_base, ml_base, he, oI_s, hq, mg_written, ml_written, mg_below, ml_below, s2, s3, o1]
def cntB (m c : Nat) : Nat := ((List.range c).filter (fun d => m.testBit d)).length
theorem cntB_succ {m c : Nat} : cntB m (c + 1) = cntB m c + (if m.testBit c = true then 1 else 0) := by
  unfold cntB
  rw [List.range_succ, List.filter_append, List.length_append]
  by_cases h : m.testBit c = true <;> simp [h]
theorem rdL_congr {w w' : Nat → Int32} {v v' : Nat → Int64} {c : Nat} : ∀ (l : List Nat), (∀ s ∈ l, bt (w' s) c = bt (w s) c ∧ (bt (w s) c = true → v' (12 * s + c) = v (12 * s + c))) → rdL w' v' c l = rdL w v c l := by
  intro l
  induction l with
  | nil => intro _; rfl
  | cons s l ih =>
    intro h
    obtain ⟨h1, h2⟩ := h s List.mem_cons_self
    unfold rdL
    rw [h1, ih (fun x hx => h x (List.mem_cons_of_mem _ hx))]
    by_cases hb : bt (w s) c = true
    · rw [if_pos hb, if_pos hb, h2 hb]
    · rw [if_neg hb, if_neg hb]
/-- so far, up to cell c -/
def brI (F F1 : Nat → Int32) (A A1 : Nat → Nat → Int32) (L L1 : Nat → Nat → Int64) (st w0 w1 cm br c : Nat) (v : Nat → Int64) : Prop :=
  (∀ k, k ≠ 13 → F1 k = F k) ∧ F1 13 = nI (br + cntB cm c) ∧ (∀ k, k ≠ 31 → A1 k = A k) ∧ (∀ x, x ≠ st → A1 31 x = A 31 x) ∧ A1 31 st = nI w1 ∧ w1 < 4096 ∧ (∀ d, w1.testBit d = (w0.testBit d || (decide (d < c) && cm.testBit d))) ∧ (∀ k, k ≠ 32 → k ≠ 33 → L1 k = L k) ∧ (∀ i, (∀ d, d < 12 → i ≠ 12 * st + d) → L1 32 i = L 32 i) ∧ (∀ d, d < 12 → L1 32 (12 * st + d) = if d < c ∧ cm.testBit d = true then v d else L 32 (12 * st + d))
set_option maxHeartbeats 8000000 in
theorem ev_bring2 {B : Nat → Option Nat} {t o st w0 cm br : Nat} {v : Nat → Int64} {lb lt lo : List Nat} {ob oo : Option Nat} (ht : t < 12) (ho : o < 12) (hst : st < 40) (h27 : A 27 t = nI st) (h27o : A 27 o = oI oo) (h28 : A 28 o = oI ob) (hw0 : A 31 st = nI w0) (hw02 : w0 < 4096) (hcm : cm < 4096)
    (cb : chn B ob lb) (ct : chn B (some st) lt) (co : chn B oo lo) (hB : ∀ s, s ∈ lb ∨ s ∈ lt ∨ s ∈ lo → s < 40 ∧ A 30 s = oI (B s))
    (hT : ∀ c, c < 12 → cm.testBit c = true → ∀ (F1 : Nat → Int32) (A1 : Nat → Nat → Int32) (L1 : Nat → Nat → Int64), A1 5 = A 5 → A1 6 = A 6 → A1 7 = A 7 → A1 8 = A 8 → ∃ L2, (∀ k, k ≠ 33 → L2 k = L1 k) ∧ Cl 122 [.ref 149, .int (nI c), .long (rdL (A 31) (L 32) c lb), .long (rdL (A 31) (L 32) c lt), .long (rdL (A 31) (L 32) c lo)] (mpic b F1 A1 L1) nx = some ((mpic b F1 A1 L2, nx, 0, 0), .inl (some (.long (v c))))) :
    ∀ (j c : Nat), c + j = 12 → ∀ (F1 : Nat → Int32) (A1 : Nat → Nat → Int32) (L1 : Nat → Nat → Int64) (w1 : Nat) (c5 c6 : Option Value), brI F F1 A A1 L L1 st w0 w1 cm br c v →
      ∃ F' A' L' w' d5 d6, brI F F' A A' L L' st w0 w' cm br 12 v ∧ ∀ r : mn_Res, Ev 121 46 [some (.ref 149), some (.int (nI t)), some (.int (nI o)), some (.int (nI cm)), some (.int (nI c)), c5, c6] [] (mpic b F1 A1 L1, nx, 0, 0) r ↔ Ev 121 139 [some (.ref 149), some (.int (nI t)), some (.int (nI o)), some (.int (nI cm)), some (.int (nI 12)), d5, d6] [] (mpic b F' A' L', nx, 0, 0) r := by
  intro j
  induction j with
  | zero =>
    intro c hc F1 A1 L1 w1 c5 c6 hI
    have hc : c = 12 := by omega
    subst hc
    refine ⟨F1, A1, L1, w1, c5, c6, hI, fun r => ?_⟩
    refine eX8_bring_46.trans ?_
    simp (disch := first | omega | (simp only [cat_i, cat_r, ri_r, ri_0]; done)) only [eX8_bring_48, eX8_bring_50, Evk_some, Evh_some, Evn_some, Evr_v, Evr_n, mk_i, mk_r, mk_0, mk_n, mk_l, mc0, mc1, mc2, mc3, mc4, mi_obj, Bool.and_self, Bool.true_and, Nat.add_zero, Nat.zero_add, nI_add, pk_mul, pk_sub, Nat.add_sub_cancel, eq_self, if_true, if_false, n10, bI_t, bI_f, bI_0, Nat.reduceAdd, Nat.reduceMul, Nat.reduceSub, nI_eq, nI_ltI, nI_leI, Nat.reduceEqDiff, Nat.reduceLT, Nat.reduceDiv, Nat.reduceMod, Nat.reduceLeDiff]
  | succ j ih =>
    intro c hc F1 A1 L1 w1 c5 c6 hI
    have hI' := hI
    obtain ⟨i1, i2, i3, i4, i5, i6, i7, i8, i9, i10⟩ := hI
    have h12 : ¬ 12 ≤ c := by omega
    have hc12 : c < 12 := by omega
    have bm : bt (nI cm) c = cm.testBit c := bt_nI (by omega) (by omega)
    cases hb : cm.testBit c with
    | false =>
      obtain ⟨F', A', L', w', d5, d6, k1, k2⟩ := ih (c + 1) (by omega) F1 A1 L1 w1 c5 c6 (by
        refine ⟨i1, by rw [cntB_succ, hb]; exact i2, i3, i4, i5, i6, fun d => ?_, i8, i9, fun d hd => ?_⟩
        · rw [i7]
          by_cases hd : d = c
          · subst hd; simp [hb]
          · by_cases hd2 : d < c
            · have : d < c + 1 := by omega
              simp [hd2, this]
            · have : ¬ d < c + 1 := by omega
              simp [hd2, this]
        · rw [i10 d hd]
          by_cases hd2 : d = c
          · subst hd2; simp [hb]
          · by_cases hd3 : d < c
            · have : d < c + 1 := by omega
              simp only [hd3, this]
            · have : ¬ d < c + 1 := by omega
              simp only [hd3, this])
      refine ⟨F', A', L', w', d5, d6, k1, fun r => ?_⟩
      refine Iff.trans ?_ (k2 r)
      refine eX8_bring_46.trans ?_
      simp (disch := first | omega | (simp only [cat_i, cat_r, ri_r, ri_0]; done)) only [eX8_bring_48, eX8_bring_50, eX8_bring_53, eX8_bring_54, eX8_bring_56, eX8_bring_57, eX8_bring_58, eX8_bring_59, eX8_bring_62, eX8_bring_65, eX8_bring_66, eX8_bring_68, eX8_bring_69, eX8_bring_70, eX8_bring_73, eX8_bring_74, eX8_bring_75, eX8_bring_77, eX8_bring_80, eX8_bring_81, eX8_bring_82, eX8_bring_85, eX8_bring_86, eX8_bring_87, eX8_bring_89, eX8_bring_92, eX8_bring_93, eX8_bring_94, eX8_bring_97, eX8_bring_98, eX8_bring_99, eX8_bring_101, eX8_bring_104, eX8_bring_107, eX8_bring_109, eX8_bring_110, eX8_bring_111, eX8_bring_114, eX8_bring_115, eX8_bring_116, eX8_bring_118, eX8_bring_120, eX8_bring_123, eX8_bring_124, eX8_bring_125, eX8_bring_128, eX8_bring_129, eX8_bring_130, eX8_bring_133, eX8_bring_136, Evk_some, Evh_some, Evn_some, Evr_v, Evr_n, mk_i, mk_r, mk_0, mk_n, mk_l, mc0, mc1, mc2, mc3, mc4, mi_obj, Bool.and_self, Bool.true_and, Nat.add_zero, Nat.zero_add, nI_add, pk_mul, pk_sub, Nat.add_sub_cancel, eq_self, if_true, if_false, n10, bI_t, bI_f, bI_0, Nat.reduceAdd, Nat.reduceMul, Nat.reduceSub, nI_eq, nI_ltI, nI_leI, Nat.reduceEqDiff, Nat.reduceLT, Nat.reduceDiv, Nat.reduceMod, Nat.reduceLeDiff, h12, bt_0, bm, hb]
    | true =>
      have agree : ∀ (l : List Nat), (∀ s ∈ l, s < 40) → rdL (A1 31) (L1 32) c l = rdL (A 31) (L 32) c l := by
        intro l hl
        refine rdL_congr l (fun s hs => ?_)
        have hs40 := hl s hs
        by_cases hss : s = st
        · subst hss
          rw [i5, hw0, bt_nI (by omega) (by omega), bt_nI (by omega) (by omega), i7]
          refine ⟨by simp, fun _ => ?_⟩
          rw [i10 c hc12, if_neg (by omega)]
        · rw [i4 s hss]
          refine ⟨rfl, fun _ => i9 _ (fun d hd q => ?_)⟩
          omega
      obtain ⟨L2, t1, t2⟩ := hT c hc12 hb F1 A1 L1 (i3 5 (by decide)) (i3 6 (by decide)) (i3 7 (by decide)) (i3 8 (by decide))
      have hB1 : ∀ s, s ∈ lb ∨ s ∈ lt ∨ s ∈ lo → s < 40 ∧ A1 30 s = oI (B s) := fun s hs => by rw [i3 30 (by decide)]; exact hB s hs
      have r1 := cl_readAt (b := b) (F := F1) (A := A1) (L := L1) (nx := nx) hc12 cb (fun s hs => hB1 s (Or.inl hs))
      have r2 := cl_readAt (b := b) (F := F1) (A := A1) (L := L1) (nx := nx) hc12 ct (fun s hs => hB1 s (Or.inr (Or.inl hs)))
      have r3 := cl_readAt (b := b) (F := F1) (A := A1) (L := L1) (nx := nx) hc12 co (fun s hs => hB1 s (Or.inr (Or.inr hs)))
      rw [agree lb (fun s hs => (hB s (Or.inl hs)).1)] at r1
      rw [agree lt (fun s hs => (hB s (Or.inr (Or.inl hs))).1), oI_s] at r2
      rw [agree lo (fun s hs => (hB s (Or.inr (Or.inr hs))).1)] at r3
      have a27 : A1 27 t = nI st := by rw [i3 27 (by decide)]; exact h27
      have a27o : A1 27 o = oI oo := by rw [i3 27 (by decide)]; exact h27o
      have a28 : A1 28 o = oI ob := by rw [i3 28 (by decide)]; exact h28
      have wr := cl_writeAt (b := b) (F := F1) (A := A1) (L := L2) (nx := nx) hst hc12 i6 i5 (v := v c)
      have hw2 : w1 ||| 2 ^ c < 4096 := Nat.or_lt_two_pow (n := 12) i6 (Nat.pow_lt_pow_right (by decide) (by omega))
      obtain ⟨F', A', L', w', d5, d6, k1, k2⟩ := ih (c + 1) (by omega) (up1 F1 13 (nI (br + cntB cm c + 1))) (up2 A1 31 st (nI (w1 ||| 2 ^ c))) (upL L2 32 (12 * st + c) (v c)) (w1 ||| 2 ^ c) (some (.long (v c))) none (by
        refine ⟨fun k hk => (up1_n hk).trans (i1 k hk), ?_, fun k hk => (up2_n hk).trans (i3 k hk), fun x hx => (up2_o hx).trans (i4 x hx), up2_s, hw2, fun d => ?_, fun k hk hk3 => (upL_n hk).trans ((t1 k hk3).trans (i8 k hk hk3)), fun i hi => ?_, fun d hd => ?_⟩
        · rw [up1_s, cntB_succ, hb, if_pos rfl, Nat.add_assoc]
        · rw [Nat.testBit_or, Nat.testBit_two_pow, i7]
          by_cases hd : d = c
          · subst hd; simp [hb]
          · have hcd : ¬ c = d := fun q => hd q.symm
            by_cases hd2 : d < c
            · have : d < c + 1 := by omega
              simp [hd2, this, hcd]
            · have : ¬ d < c + 1 := by omega
              simp [hd2, this, hcd]
        · rw [upL_o (hi c hc12), t1 32 (by decide)]
          exact i9 i hi
        · by_cases hd2 : d = c
          · subst hd2
            rw [upL_s, if_pos ⟨by omega, hb⟩]
          · rw [upL_o (by omega), t1 32 (by decide), i10 d hd]
            by_cases hd3 : d < c
            · have : d < c + 1 := by omega
              simp only [hd3, this]
            · have : ¬ d < c + 1 := by omega
              simp only [hd3, this])
      refine ⟨F', A', L', w', d5, d6, k1, fun r => ?_⟩
      refine Iff.trans ?_ (k2 r)
      refine eX8_bring_46.trans ?_
      simp (disch := first | omega | (simp only [cat_i, cat_r, ri_r, ri_0]; done)) only [eX8_bring_48, eX8_bring_50, eX8_bring_53, eX8_bring_54, eX8_bring_56, eX8_bring_57, eX8_bring_58, eX8_bring_59, eX8_bring_62, eX8_bring_65, eX8_bring_66, eX8_bring_68, eX8_bring_69, eX8_bring_70, eX8_bring_73, eX8_bring_74, eX8_bring_75, eX8_bring_77, eX8_bring_80, eX8_bring_81, eX8_bring_82, eX8_bring_85, eX8_bring_86, eX8_bring_87, eX8_bring_89, eX8_bring_92, eX8_bring_93, eX8_bring_94, eX8_bring_97, eX8_bring_98, eX8_bring_99, eX8_bring_101, eX8_bring_104, eX8_bring_107, eX8_bring_109, eX8_bring_110, eX8_bring_111, eX8_bring_114, eX8_bring_115, eX8_bring_116, eX8_bring_118, eX8_bring_120, eX8_bring_123, eX8_bring_124, eX8_bring_125, eX8_bring_128, eX8_bring_129, eX8_bring_130, eX8_bring_133, eX8_bring_136, Evk_some, Evh_some, Evn_some, Evr_v, Evr_n, mk_i, mk_r, mk_0, mk_n, mk_l, mc0, mc1, mc2, mc3, mc4, mi_obj, Bool.and_self, Bool.true_and, Nat.add_zero, Nat.zero_add, nI_add, pk_mul, pk_sub, Nat.add_sub_cancel, eq_self, if_true, if_false, n10, bI_t, bI_f, bI_0, Nat.reduceAdd, Nat.reduceMul, Nat.reduceSub, nI_eq, nI_ltI, nI_leI, Nat.reduceEqDiff, Nat.reduceLT, Nat.reduceDiv, Nat.reduceMod, Nat.reduceLeDiff, h12, bt_0, bm, hb, Bool.true_eq_false, mg_base, ml_base, mg_segment, ml_segment, a27, a27o, a28, r1, r2, r3, t2, wr, mg_brought, mp_brought, i2]
end MJ
