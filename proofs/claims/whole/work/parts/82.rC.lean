/-! class and reference: what holds between them -/
section RC
variable {N N' : cN} {J J' : cJ} {P P' : cP} {F F' : Nat → Int32} {A A' : Nat → Nat → Int32} {L L' : Nat → Nat → Int64} {nb nm : Nat} {lt : Option Nat} {sz : Nat → Nat} {op : Nat → Nat → Nat} {ai : Nat → Nat → Int32} {kd mg : Nat → Nat}
/-- the program -/
def RelP (N : cN) (P : cP) (F : Nat → Int32) (A : Nat → Nat → Int32) (nb nm : Nat) (lt : Option Nat) (sz : Nat → Nat) (op : Nat → Nat → Nat) (ai : Nat → Nat → Int32) (kd mg : Nat → Nat) : Prop :=
  nb ≤ 6 ∧ nm ≤ 2 ∧ N 0 0 0 = nI nb ∧ F 1 = nI nb ∧ N 1 0 0 = nI nm ∧ F 2 = nI nm ∧ P 0 0 = lt ∧ F 3 = oI lt ∧ (∀ j, lt = some j → j < nb ∨ (6 ≤ j ∧ j < 6 + nm)) ∧ cdT N sz op ai ∧ cdS A sz op ai ∧ (∀ j, nb ≤ j → j < 6 → sz j = 0) ∧ (∀ j, 6 + nm ≤ j → j < 8 → sz j = 0) ∧
  (∀ c, c < 12 → N 5 0 c = nI (kd c) ∧ A 7 c = nI (kd c) ∧ kd c < 4 ∧ N 6 0 c = nI (mg c) ∧ A 8 c = nI (mg c) ∧ mg c < 2)
theorem RelP.cg (h : RelP N P F A nb nm lt sz op ai kd mg) (hN : ∀ k i, k ≤ 6 → N' k i = N k i) (hP : P' 0 0 = P 0 0) (hF : F' 1 = F 1 ∧ F' 2 = F 2 ∧ F' 3 = F 3) (hA : ∀ k, 4 ≤ k → k ≤ 8 → A' k = A k) : RelP N' P' F' A' nb nm lt sz op ai kd mg := by
  obtain ⟨h1, h2, h3, h4, h5, h6, h7, h8, h9, h10, h11, h12, h13, h14⟩ := h
  refine ⟨h1, h2, by rw [hN 0 0 (by decide)]; exact h3, by rw [hF.1]; exact h4, by rw [hN 1 0 (by decide)]; exact h5, by rw [hF.2.1]; exact h6, by rw [hP]; exact h7, by rw [hF.2.2]; exact h8, h9, fun c hc => ?_, fun c hc => ?_, h12, h13, fun c hc => ?_⟩
  · rw [hN 2 c (by decide), hN 3 c (by decide), hN 4 c (by decide)]
    exact h10 c hc
  · rw [hA 4 (by decide) (by decide), hA 5 (by decide) (by decide), hA 6 (by decide) (by decide)]
    exact h11 c hc
  · rw [hN 5 0 (by decide), hN 6 0 (by decide), hA 7 (by decide) (by decide), hA 8 (by decide) (by decide)]
    exact h14 c hc
def Gd (nb nm : Nat) (sz : Nat → Nat) (op : Nat → Nat → Nat) (ai : Nat → Nat → Int32) (kd mg : Nat → Nat) : Prop := 0 < nb ∧ (∀ c, c < nb → GdC false (op c) (ai c) (sz c) nb) ∧ (∀ m, m < nm → GdC true (op (6 + m)) (ai (6 + m)) (sz (6 + m)) nb) ∧ ∀ c, c < 12 → kd c = 3 → mg c < nm
/-- the frame of a task that runs -/
def FrT (N : cN) (J : cJ) (P : cP) (A : Nat → Nat → Int32) (L : Nat → Nat → Int64) (nb : Nat) (op : Nat → Nat → Nat) (ai : Nat → Nat → Int32) (t blk pl ht : Nat) : Prop :=
  P 5 t = some blk ∧ A 14 t = nI blk ∧ blk < nb ∧ N 19 t 0 = nI pl ∧ A 15 t = nI pl ∧ N 20 t 0 = nI ht ∧ A 21 t = nI ht ∧ Rch (op blk) (fun k => (ai blk k).toNatClampNeg) pl ht ∧ (∀ p, p < ht → J 0 t p = L 22 (8 * t + p)) ∧ (∀ a, a < 4 → J 1 t a = L 23 (4 * t + a))
/-- a task -/
def RelT (N : cN) (J : cJ) (P : cP) (A : Nat → Nat → Int32) (L : Nat → Nat → Int64) (nb : Nat) (op : Nat → Nat → Nat) (ai : Nat → Nat → Int32) (t : Nat) : Prop :=
  (∃ st, N 16 t 0 = nI st ∧ A 16 t = nI st ∧ st < 4 ∧ (st = 3 ↔ P 2 t ≠ none) ∧ (st = 2 → ∃ k, 1 ≤ k ∧ k ≤ 4 ∧ N 17 t 0 = nI k) ∧ (st = 0 → ∃ blk pl ht, FrT N J P A L nb op ai t blk pl ht)) ∧
  (∃ pc, N 15 t 0 = nI pc ∧ A 24 t = nI pc ∧ pc ≤ 30 ∧ ∀ p, p < pc → J 2 t p = L 25 (30 * t + p)) ∧
  A 17 t = N 17 t 0 ∧ A 20 t = N 18 t 0 ∧ A 18 t = oI (P 1 t) ∧ (∀ q, P 1 t = some q → q < t) ∧ A 19 t = oI (P 2 t) ∧ (∀ q, P 2 t = some q → q < t) ∧ L 26 t = J 3 t 0
/-- nothing of task t is other in the reference's rows of longs -/
def sL (t : Nat) (L L' : Nat → Nat → Int64) : Prop := (∀ p, p < 8 → L' 22 (8 * t + p) = L 22 (8 * t + p)) ∧ (∀ p, p < 4 → L' 23 (4 * t + p) = L 23 (4 * t + p)) ∧ (∀ p, p < 30 → L' 25 (30 * t + p) = L 25 (30 * t + p)) ∧ L' 26 t = L 26 t
theorem RelT.cg {t : Nat} (hwf : ∀ blk, blk < nb → GdC false (op blk) (ai blk) (sz blk) nb) (h : RelT N J P A L nb op ai t) (hN : ∀ k, 15 ≤ k → k ≤ 20 → N' k t = N k t) (hJ : ∀ k, k ≤ 3 → J' k t = J k t) (hP : P' 1 t = P 1 t ∧ P' 2 t = P 2 t ∧ P' 5 t = P 5 t) (hA : ∀ k, 14 ≤ k → k ≤ 24 → A' k t = A k t) (hL : sL t L L') : RelT N' J' P' A' L' nb op ai t := by
  obtain ⟨⟨st, a1, a2, a3, a4, a5, a6⟩, ⟨pc, b1, b2, b3, b4⟩, c1, c2, c3, c4, c5, c6, c7⟩ := h
  obtain ⟨l1, l2, l3, l4⟩ := hL
  obtain ⟨p1, p2, p3⟩ := hP
  refine ⟨⟨st, by rw [hN 16 (by decide) (by decide)]; exact a1, by rw [hA 16 (by decide) (by decide)]; exact a2, a3, by rw [p2]; exact a4, fun q => by rw [hN 17 (by decide) (by decide)]; exact a5 q, fun q => ?_⟩, ⟨pc, by rw [hN 15 (by decide) (by decide)]; exact b1, by rw [hA 24 (by decide) (by decide)]; exact b2, b3, fun p hp => ?_⟩, ?_, ?_, ?_, ?_, ?_, ?_, ?_⟩
  · obtain ⟨blk, pl, ht, d1, d2, d3, d4, d5, d6, d7, d8, d9, d10⟩ := a6 q
    have h6 := ((hwf blk d3).at d8).2.2
    refine ⟨blk, pl, ht, by rw [p3]; exact d1, by rw [hA 14 (by decide) (by decide)]; exact d2, d3, by rw [hN 19 (by decide) (by decide)]; exact d4, by rw [hA 15 (by decide) (by decide)]; exact d5, by rw [hN 20 (by decide) (by decide)]; exact d6, by rw [hA 21 (by decide) (by decide)]; exact d7, d8, fun p hp => ?_, fun a ha => ?_⟩
    · rw [hJ 0 (by decide), l1 p (by omega)]; exact d9 p hp
    · rw [hJ 1 (by decide), l2 a ha]; exact d10 a ha
  · rw [hJ 2 (by decide), l3 p (by omega)]; exact b4 p hp
  · rw [hA 17 (by decide) (by decide), hN 17 (by decide) (by decide)]; exact c1
  · rw [hA 20 (by decide) (by decide), hN 18 (by decide) (by decide)]; exact c2
  · rw [hA 18 (by decide) (by decide), p1]; exact c3
  · rw [p1]; exact c4
  · rw [hA 19 (by decide) (by decide), p2]; exact c5
  · rw [p2]; exact c6
  · rw [l4, hJ 3 (by decide)]; exact c7
/-- the segments -/
def RelM (N : cN) (J : cJ) (P : cP) (A : Nat → Nat → Int32) (L : Nat → Nat → Int64) (n m : Nat) (φ : Nat → Nat) : Prop :=
  WfC N P m ∧ WfR A ∧ Cld (gC N J P m) ∧ Iso φ (gC N J P m) (gR A L) ∧ ∀ t, t < n → N 16 t 0 ≠ nI 3 → ∃ s, P 4 t = some s ∧ gC N J P m s ≠ none ∧ A 27 t = nI (φ s) ∧ ((t = 0 ∧ P 3 t = none ∧ A 28 t = -1) ∨ ∃ e, P 3 t = some e ∧ gC N J P m e ≠ none ∧ A 28 t = nI (φ e) ∧ ∃ l, pg (gC N J P m) s l e)
theorem gC_cg {m : Nat} (h1 : ∀ i, N' 21 i = N 21 i) (h2 : ∀ i, N' 22 i = N 22 i) (h3 : ∀ i, J' 4 i = J 4 i) (h4 : ∀ i, P' 6 i = P 6 i) : gC N' J' P' m = gC N J P m := by
  funext s
  unfold gC
  rw [h1, h2, h3, h4]
theorem gR_cg (h : ∀ k, 29 ≤ k → k ≤ 31 → A' k = A k) (hL : L' 32 = L 32) : gR A' L' = gR A L := by
  funext s
  unfold gR
  rw [h 29 (by decide) (by decide), h 30 (by decide) (by decide), h 31 (by decide) (by decide), hL]
theorem RelM.cg {n m : Nat} {φ : Nat → Nat} (h : RelM N J P A L n m φ) (h21 : ∀ i, N' 21 i = N 21 i) (h22 : ∀ i, N' 22 i = N 22 i) (hJ : ∀ i, J' 4 i = J 4 i) (hP : ∀ k i, k = 3 ∨ k = 4 ∨ k = 6 → P' k i = P k i) (hA : ∀ k, 27 ≤ k → k ≤ 31 → A' k = A k) (hL : L' 32 = L 32) (hs : ∀ t, t < n → N' 16 t 0 ≠ nI 3 → N 16 t 0 ≠ nI 3) : RelM N' J' P' A' L' n m φ := by
  obtain ⟨a1, a2, a3, a4, a5⟩ := h
  have e1 : gC N' J' P' m = gC N J P m := gC_cg h21 h22 hJ (fun i => hP 6 i (by omega))
  have e2 : gR A' L' = gR A L := gR_cg (fun k q1 q2 => hA k (by omega) q2) hL
  refine ⟨fun s q => ?_, fun x q => ?_, by rw [e1]; exact a3, by rw [e1, e2]; exact a4, fun t ht q => ?_⟩
  · rw [h21, h22, hP 6 s (by omega)]; exact a1 s q
  · rw [hA 29 (by decide) (by decide), hA 30 (by decide) (by decide), hA 31 (by decide) (by decide)]; exact a2 x q
  · rw [e1, hP 3 t (by omega), hP 4 t (by omega), hA 27 (by decide) (by decide), hA 28 (by decide) (by decide)]
    exact a5 t ht (hs t ht q)
/-- a run: n tasks, k steps -/
def RelR (N : cN) (J : cJ) (P : cP) (F : Nat → Int32) (A : Nat → Nat → Int32) (L : Nat → Nat → Int64) (nb nm : Nat) (sz : Nat → Nat) (op : Nat → Nat → Nat) (ai : Nat → Nat → Int32) (kd mg : Nat → Nat) (n k : Nat) (φ : Nat → Nat) : Prop :=
  0 < n ∧ n ≤ 12 ∧ Gd nb nm sz op ai kd mg ∧ N 11 0 0 = nI n ∧ F 11 = nI n ∧ F 9 = nI 1 ∧ N 12 0 0 = nI (2 * n - 1) ∧ k ≤ 2000 ∧ N 13 0 0 = nI k ∧ F 12 = nI k ∧ (∃ br, N 14 0 0 = nI br ∧ F 13 = nI br) ∧ (∀ t, t < n → RelT N J P A L nb op ai t) ∧ RelM N J P A L n (2 * n - 1) φ
/-- what one task's step may change in its own things -/
def fN (t : Nat) (N N' : cN) : Prop := ∀ k i, k ≠ 13 → ¬ (15 ≤ k ∧ k ≤ 20 ∧ i = t) → N' k i = N k i
def fJ (t : Nat) (J J' : cJ) : Prop := ∀ k i, ¬ (k ≤ 3 ∧ i = t) → J' k i = J k i
def fA (t : Nat) (A A' : Nat → Nat → Int32) : Prop := ∀ k i, ¬ (14 ≤ k ∧ k ≤ 24 ∧ i = t) → A' k i = A k i
def fL (t : Nat) (L L' : Nat → Nat → Int64) : Prop := (∀ k, ¬ (22 ≤ k ∧ k ≤ 26) → L' k = L k) ∧ ∀ t', t' ≠ t → sL t' L L'
theorem fN.trans {t : Nat} {N1 : cN} (h : fN t N N1) (h' : fN t N1 N') : fN t N N' := fun k i a c => (h' k i a c).trans (h k i a c)
theorem fJ.trans {t : Nat} {J1 : cJ} (h : fJ t J J1) (h' : fJ t J1 J') : fJ t J J' := fun k i a => (h' k i a).trans (h k i a)
theorem fA.trans {t : Nat} {A1 : Nat → Nat → Int32} (h : fA t A A1) (h' : fA t A1 A') : fA t A A' := fun k i a => (h' k i a).trans (h k i a)
theorem sL.trans {t : Nat} {L1 : Nat → Nat → Int64} (h : sL t L L1) (h' : sL t L1 L') : sL t L L' := ⟨fun p hp => (h'.1 p hp).trans (h.1 p hp), fun p hp => (h'.2.1 p hp).trans (h.2.1 p hp), fun p hp => (h'.2.2.1 p hp).trans (h.2.2.1 p hp), h'.2.2.2.trans h.2.2.2⟩
theorem sL.refl {t : Nat} : sL t L L := ⟨fun _ _ => rfl, fun _ _ => rfl, fun _ _ => rfl, rfl⟩
theorem fL.trans {t : Nat} {L1 : Nat → Nat → Int64} (h : fL t L L1) (h' : fL t L1 L') : fL t L L' := ⟨fun k a => (h'.1 k a).trans (h.1 k a), fun t' a => (h.2 t' a).trans (h'.2 t' a)⟩
theorem fN.refl {t : Nat} : fN t N N := fun _ _ _ _ => rfl
theorem fJ.refl {t : Nat} : fJ t J J := fun _ _ _ => rfl
theorem fA.refl {t : Nat} : fA t A A := fun _ _ _ => rfl
theorem fL.refl {t : Nat} : fL t L L := ⟨fun _ _ => rfl, fun _ _ => sL.refl⟩
theorem fN.u {t k p : Nat} {x : Int32} (h1 : 15 ≤ k) (h2 : k ≤ 20) : fN t N (up3 N k t p x) := fun k' i' _ q => up3_q (fun z => q ⟨by omega, by omega, z.2⟩)
theorem fN.s {t : Nat} {x : Int32} : fN t N (up3 N 13 0 0 x) := fun k' i' q _ => congrFun (up3_k q) i'
theorem fN.st {t k : Nat} : fN t N (stN N t k) := fN.s.trans (fN.u (by decide) (by decide))
theorem fJ.u {t k p : Nat} {x : Int64} (h1 : k ≤ 3) : fJ t J (up3 J k t p x) := fun k' i' q => up3_q (fun z => q ⟨by omega, z.2⟩)
theorem fA.u {t k : Nat} {x : Int32} (h1 : 14 ≤ k) (h2 : k ≤ 24) : fA t A (up2 A k t x) := by
  intro k' i' q
  by_cases hk : k' = k
  · subst hk
    exact up2_o (fun z => q ⟨h1, h2, z⟩)
  · rw [up2_n hk]
theorem fL.u22 {t d : Nat} {v : Int64} (hd : d < 8) : fL t L (upL L 22 (8 * t + d) v) := ⟨fun k q => upL_n (by omega), fun t' hq => ⟨fun p hp => upL_o (by omega), fun p hp => by rw [upL_n (by decide)], fun p hp => by rw [upL_n (by decide)], by rw [upL_n (by decide)]⟩⟩
theorem fL.u23 {t d : Nat} {v : Int64} (hd : d < 4) : fL t L (upL L 23 (4 * t + d) v) := ⟨fun k q => upL_n (by omega), fun t' hq => ⟨fun p hp => by rw [upL_n (by decide)], fun p hp => upL_o (by omega), fun p hp => by rw [upL_n (by decide)], by rw [upL_n (by decide)]⟩⟩
theorem fL.u25 {t d : Nat} {v : Int64} (hd : d < 30) : fL t L (upL L 25 (30 * t + d) v) := ⟨fun k q => upL_n (by omega), fun t' hq => ⟨fun p hp => by rw [upL_n (by decide)], fun p hp => by rw [upL_n (by decide)], fun p hp => upL_o (by omega), by rw [upL_n (by decide)]⟩⟩
theorem fL.u26 {t : Nat} {v : Int64} : fL t L (upL L 26 t v) := ⟨fun k q => upL_n (by omega), fun t' hq => ⟨fun p hp => by rw [upL_n (by decide)], fun p hp => by rw [upL_n (by decide)], fun p hp => by rw [upL_n (by decide)], upL_o hq⟩⟩
/-- a step in a task's own things -/
theorem RelR.loc {n k k' t : Nat} {φ : Nat → Nat} (h : RelR N J P F A L nb nm sz op ai kd mg n k φ) (ht : t < n) (h16 : N 16 t 0 ≠ nI 3) (hN : fN t N N') (hJ : fJ t J J') (hA : fA t A A') (hL : fL t L L') (hF : ∀ q, q ≠ 12 → F' q = F q) (hk : k' ≤ 2000) (e1 : N' 13 0 0 = nI k') (e2 : F' 12 = nI k') (hT : RelT N' J' P A' L' nb op ai t) : RelR N' J' P F' A' L' nb nm sz op ai kd mg n k' φ := by
  obtain ⟨a1, a2, a3, a4, a5, a6, a7, a8, a9, a10, ⟨br, a11, a12⟩, a13, a14⟩ := h
  refine ⟨a1, a2, a3, by rw [hN 11 0 (by decide) (by omega)]; exact a4, by rw [hF 11 (by decide)]; exact a5, by rw [hF 9 (by decide)]; exact a6, by rw [hN 12 0 (by decide) (by omega)]; exact a7, hk, e1, e2, ⟨br, by rw [hN 14 0 (by decide) (by omega)]; exact a11, by rw [hF 13 (by decide)]; exact a12⟩, fun t' ht' => ?_, ?_⟩
  · by_cases e : t' = t
    · rw [e]; exact hT
    · exact (a13 t' ht').cg a3.2.1 (fun k q1 q2 => hN k t' (by omega) (by omega)) (fun k q => hJ k t' (by omega)) ⟨rfl, rfl, rfl⟩ (fun k q1 q2 => hA k t' (by omega)) (hL.2 t' e)
  · refine a14.cg (fun i => hN 21 i (by decide) (by omega)) (fun i => hN 22 i (by decide) (by omega)) (fun i => hJ 4 i (by omega)) (fun _ _ _ => rfl) (fun k q1 q2 => funext fun i => hA k i (by omega)) (hL.1 32 (by omega)) (fun t' ht' q => ?_)
    by_cases e : t' = t
    · rw [e]; exact h16
    · rw [hN 16 t' (by decide) (by omega)] at q
      exact q
theorem RelP.loc {t : Nat} (h : RelP N P F A nb nm lt sz op ai kd mg) (hN : fN t N N') (hA : fA t A A') (hF : ∀ q, q ≠ 12 → F' q = F q) : RelP N' P F' A' nb nm lt sz op ai kd mg :=
  h.cg (fun k i q => hN k i (by omega) (by omega)) rfl ⟨hF 1 (by decide), hF 2 (by decide), hF 3 (by decide)⟩ (fun k q1 q2 => funext fun i => hA k i (by omega))
/-- a task that goes on running -/
theorem RelT.run {t : Nat} (h : RelT N J P A L nb op ai t) (h16 : N 16 t 0 = nI 0) (hN : ∀ k, 15 ≤ k → k ≤ 17 → N' k t = N k t) (h18 : N' 18 t 0 = N 18 t 0 + nI 1) (hJ : J' 2 t = J 2 t ∧ J' 3 t = J 3 t) (hA : ∀ k, k = 16 ∨ k = 17 ∨ k = 18 ∨ k = 19 ∨ k = 24 → A' k t = A k t) (h20 : A' 20 t = A 20 t + nI 1) (hL : (∀ p, p < 30 → L' 25 (30 * t + p) = L 25 (30 * t + p)) ∧ L' 26 t = L 26 t) (hF : ∃ blk pl ht, FrT N' J' P A' L' nb op ai t blk pl ht) : RelT N' J' P A' L' nb op ai t := by
  obtain ⟨⟨st, a1, a2, a3, a4, a5, a6⟩, ⟨pc, b1, b2, b3, b4⟩, c1, c2, c3, c4, c5, c6, c7⟩ := h
  refine ⟨⟨st, by rw [hN 16 (by decide) (by decide)]; exact a1, by rw [hA 16 (by decide)]; exact a2, a3, a4, fun q => by rw [hN 17 (by decide) (by decide)]; exact a5 q, fun _ => hF⟩, ⟨pc, by rw [hN 15 (by decide) (by decide)]; exact b1, by rw [hA 24 (by decide)]; exact b2, b3, fun p hp => ?_⟩, ?_, ?_, ?_, c4, ?_, c6, ?_⟩
  · rw [hJ.1, hL.1 p (by omega)]; exact b4 p hp
  · rw [hA 17 (by decide), hN 17 (by decide) (by decide)]; exact c1
  · rw [h20, h18, c2]
  · rw [hA 18 (by decide)]; exact c3
  · rw [hA 19 (by decide)]; exact c5
  · rw [hL.2, hJ.2]; exact c7
/-- a task that stops running with code c -/
theorem RelT.fail {t c : Nat} (h : RelT N J P A L nb op ai t) (h16 : N 16 t 0 = nI 0) (hc : 1 ≤ c ∧ c ≤ 4) (hN15 : N' 15 t = N 15 t) (hN16 : N' 16 t 0 = nI 2) (hN17 : N' 17 t 0 = nI c) (h18 : A' 20 t = N' 18 t 0) (hJ : J' 2 t = J 2 t ∧ J' 3 t = J 3 t) (hA : ∀ k, k = 18 ∨ k = 19 ∨ k = 24 → A' k t = A k t) (hA16 : A' 16 t = nI 2) (hA17 : A' 17 t = nI c) (hL : (∀ p, p < 30 → L' 25 (30 * t + p) = L 25 (30 * t + p)) ∧ L' 26 t = L 26 t) : RelT N' J' P A' L' nb op ai t := by
  obtain ⟨⟨st, a1, a2, a3, a4, a5, a6⟩, ⟨pc, b1, b2, b3, b4⟩, c1, c2, c3, c4, c5, c6, c7⟩ := h
  have hst : st = 0 := (nI_eq (by omega) (by decide)).mp (a1.symm.trans h16)
  subst hst
  refine ⟨⟨2, hN16, hA16, by decide, ⟨fun q => by omega, fun q => absurd (a4.mpr q) (by decide)⟩, fun _ => ⟨c, hc.1, hc.2, hN17⟩, fun q => by omega⟩, ⟨pc, by rw [hN15]; exact b1, by rw [hA 24 (by decide)]; exact b2, b3, fun p hp => ?_⟩, ?_, h18, ?_, c4, ?_, c6, ?_⟩
  · rw [hJ.1, hL.1 p (by omega)]; exact b4 p hp
  · rw [hA17, hN17]
  · rw [hA 18 (by decide)]; exact c3
  · rw [hA 19 (by decide)]; exact c5
  · rw [hL.2, hJ.2]; exact c7
end RC
