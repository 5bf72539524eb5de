/-! the class: the checker's list of things reached -/
section KL
variable {b : Nat → Option va_E} {N : cN} {J : cJ} {P : cP} {nx : Option Nat} {r : mn_Res} {op ar : Nat → Nat}
theorem pig : ∀ (m : Nat) (l : List Nat), l.Nodup → (∀ x ∈ l, x < m) → l.length ≤ m := by
  intro m
  induction m with
  | zero =>
    intro l _ h
    cases l with
    | nil => exact Nat.le_refl _
    | cons a l => exact absurd (h a List.mem_cons_self) (by omega)
  | succ m ih =>
    intro l hn h
    have h1 := ih (l.erase m) (hn.erase m) (fun x hx => by
      have h2 := h x (List.mem_of_mem_erase hx)
      have h3 : x ≠ m := fun q => by subst q; exact hn.not_mem_erase hx
      omega)
    have h4 : l.length ≤ (l.erase m).length + 1 := by
      rw [List.length_erase]
      split <;> omega
    omega
theorem bit8 : ∀ m, m < 256 → m ≠ 0 → ∃ g, g < 8 ∧ m.testBit g = true := by decide +kernel
theorem bit_lt {m h : Nat} (hm : m < 256) (hb : m.testBit h = true) : h < 8 := by
  apply Classical.byContradiction
  intro hc
  have := Nat.testBit_lt_two_pow (x := m) (i := h) (Nat.lt_of_lt_of_le hm (Nat.pow_le_pow_right (n := 2) (by decide) (show 8 ≤ h by omega)))
  rw [this] at hb
  cases hb
/-- the list of what is found: hm heights by place, fd the list, fc its length, lw the lowest fault, k how many have been looked at -/
def CkI (op ar : Nat → Nat) (n : Nat) (hm fd : Nat → Nat) (fc lw k : Nat) : Prop :=
  lw ≤ n ∧ (∀ p, p < n → hm p < 256) ∧ (∀ i, i < fc → ∃ p h, p < n ∧ h < 8 ∧ fd i = p * 8 + h ∧ (hm p).testBit h = true ∧ Rch op ar p h) ∧
  (∀ p h, p < n → (hm p).testBit h = true → ∃ i, i < fc ∧ fd i = p * 8 + h) ∧ (∀ i j, i < fc → j < fc → fd i = fd j → i = j) ∧
  (∀ p h h', p < n → h ≠ h' → (hm p).testBit h = true → (hm p).testBit h' = true → lw ≤ p) ∧
  (∀ i p h, i < k → fd i = p * 8 + h → h < 8 → (h < tkN (op p) ∨ 6 < h) → lw ≤ p) ∧
  (lw < n → (∃ h h', h ≠ h' ∧ (hm lw).testBit h = true ∧ (hm lw).testBit h' = true) ∨ ∃ h, (hm lw).testBit h = true ∧ (h < tkN (op lw) ∨ 6 < h)) ∧
  (∀ i p h, i < k → fd i = p * 8 + h → h < 8 → ∀ p' h', Sc op ar p h p' h' → (hm p').testBit h' = true) ∧ k ≤ fc
def ckN (N : cN) (n : Nat) (hm fd : Nat → Nat) (fc lw : Nat) : Prop := (∀ p, p < n → N 7 0 p = nI (hm p)) ∧ (∀ i, i < fc → N 8 0 i = nI (fd i)) ∧ N 9 0 0 = nI fc ∧ N 10 0 0 = nI lw
def frK (N N' : cN) : Prop := ∀ k i, k ≠ 7 → k ≠ 8 → k ≠ 9 → k ≠ 10 → N' k i = N k i
theorem frK.trans {N1 N2 : cN} (h : frK N N1) (h' : frK N1 N2) : frK N N2 := fun k i a c d e => (h' k i a c d e).trans (h k i a c d e)
theorem CkI.lt {n : Nat} {hm fd : Nat → Nat} {fc lw k p h : Nat} (hI : CkI op ar n hm fd fc lw k) (hp : p < n) (hh : h < 8) (hb : (hm p).testBit h = false) : fc < 8 * n := by
  obtain ⟨-, -, i3, i4, i5, -⟩ := hI
  have h1 := pig (8 * n) ((p * 8 + h) :: (List.range fc).map fd) (by
    refine List.nodup_cons.mpr ⟨?_, ?_⟩
    · intro q
      obtain ⟨i, hi, e⟩ := List.mem_map.mp q
      obtain ⟨p1, h1, a1, a2, a3, a4, -⟩ := i3 i (List.mem_range.mp hi)
      rw [e] at a3
      have : p = p1 ∧ h = h1 := by omega
      obtain ⟨rfl, rfl⟩ := this
      rw [hb] at a4
      cases a4
    · rw [List.nodup_iff_pairwise_ne, List.pairwise_map]
      refine List.Pairwise.imp_of_mem (R := (· ≠ ·)) ?_ (List.nodup_iff_pairwise_ne.mp List.nodup_range)
      intro i j hi hj hne e
      exact hne (i5 i j (List.mem_range.mp hi) (List.mem_range.mp hj) e)) (by
    intro x hx
    rcases List.mem_cons.mp hx with rfl | hx
    · omega
    · obtain ⟨i, hi, rfl⟩ := List.mem_map.mp hx
      obtain ⟨p1, h1, a1, a2, a3, -⟩ := i3 i (List.mem_range.mp hi)
      omega)
  simp only [List.length_cons, List.length_map, List.length_range] at h1
  omega
theorem CkI.add {n : Nat} {hm fd : Nat → Nat} {fc lw k p h : Nat} (hI : CkI op ar n hm fd fc lw k) (hp : p < n) (hh : h < 8) (hr : Rch op ar p h) (hb : (hm p).testBit h = false) : CkI op ar n (fun q => if q = p then hm p ||| 2 ^ h else hm q) (fun i => if i = fc then p * 8 + h else fd i) (fc + 1) (if hm p = 0 then lw else if p < lw then p else lw) k ∧ ∀ q g, (hm q).testBit g = true → ((fun q => if q = p then hm p ||| 2 ^ h else hm q) q).testBit g = true := by
  obtain ⟨i1, i2, i3, i4, i5, i6, i7, i8, i9, i10⟩ := hI
  have mono : ∀ q g, (hm q).testBit g = true → ((fun q => if q = p then hm p ||| 2 ^ h else hm q) q).testBit g = true := by
    intro q g hg
    dsimp only
    by_cases hq : q = p
    · subst hq
      rw [if_pos rfl, Nat.testBit_or, hg]
      rfl
    · rw [if_neg hq]; exact hg
  have inv : ∀ q g, ((fun q => if q = p then hm p ||| 2 ^ h else hm q) q).testBit g = true → (hm q).testBit g = true ∨ (q = p ∧ g = h) := by
    intro q g hg
    dsimp only at hg
    by_cases hq : q = p
    · subst hq
      rw [if_pos rfl, Nat.testBit_or, Nat.testBit_two_pow] at hg
      cases hx : (hm q).testBit g with
      | true => exact Or.inl rfl
      | false =>
        rw [hx] at hg
        simp at hg
        exact Or.inr ⟨rfl, hg.symm⟩
    · rw [if_neg hq] at hg
      exact Or.inl hg
  have lwle : (if hm p = 0 then lw else if p < lw then p else lw) ≤ lw := by
    split
    · exact Nat.le_refl _
    · split <;> omega
  have lwp : hm p ≠ 0 → (if hm p = 0 then lw else if p < lw then p else lw) ≤ p := by
    intro q
    rw [if_neg q]
    split <;> omega
  have nz : ∀ g, (hm p).testBit g = true → hm p ≠ 0 := by
    intro g hg q
    rw [q] at hg
    simp at hg
  refine ⟨⟨by omega, ?_, ?_, ?_, ?_, ?_, ?_, ?_, ?_, by omega⟩, mono⟩
  · intro q hq
    dsimp only
    by_cases e : q = p
    · rw [if_pos e]
      exact Nat.or_lt_two_pow (n := 8) (i2 p hp) (Nat.pow_lt_pow_right (by decide) hh)
    · rw [if_neg e]; exact i2 q hq
  · intro i hi
    by_cases e : i = fc
    · refine ⟨p, h, hp, hh, by dsimp only; rw [if_pos e], ?_, hr⟩
      dsimp only
      rw [if_pos rfl, Nat.testBit_or, Nat.testBit_two_pow]
      simp
    · obtain ⟨p1, h1, a1, a2, a3, a4, a5⟩ := i3 i (by omega)
      exact ⟨p1, h1, a1, a2, by dsimp only; rw [if_neg e]; exact a3, mono _ _ a4, a5⟩
  · intro q g hq hg
    rcases inv q g hg with hg | ⟨rfl, rfl⟩
    · obtain ⟨i, hi, e⟩ := i4 q g hq hg
      exact ⟨i, by omega, by dsimp only; rw [if_neg (by omega)]; exact e⟩
    · exact ⟨fc, by omega, by dsimp only; rw [if_pos rfl]⟩
  · have key : ∀ i, i < fc → fd i ≠ p * 8 + h := by
      intro i hi e
      obtain ⟨p1, h1, a1, a2, a3, a4, -⟩ := i3 i hi
      rw [e] at a3
      have : p = p1 ∧ h = h1 := by omega
      obtain ⟨rfl, rfl⟩ := this
      rw [hb] at a4
      cases a4
    intro i j hi hj e
    dsimp only at e
    by_cases ei : i = fc
    · by_cases ej : j = fc
      · omega
      · rw [if_pos ei, if_neg ej] at e
        exact absurd e.symm (key j (by omega))
    · by_cases ej : j = fc
      · rw [if_neg ei, if_pos ej] at e
        exact absurd e (key i (by omega))
      · rw [if_neg ei, if_neg ej] at e
        exact i5 i j (by omega) (by omega) e
  · intro q g g' hq hne hg hg'
    rcases inv q g hg with hg1 | ⟨e1, e2⟩
    · rcases inv q g' hg' with hg2 | ⟨e3, e4⟩
      · have := i6 q g g' hq hne hg1 hg2
        omega
      · rw [e3] at hg1 ⊢
        exact lwp (nz _ hg1)
    · rcases inv q g' hg' with hg2 | ⟨e3, e4⟩
      · rw [e1] at hg2 ⊢
        exact lwp (nz _ hg2)
      · exact absurd (e2.trans e4.symm) hne
  · intro i q g hi e hg hbad
    dsimp only at e
    rw [if_neg (by omega)] at e
    have := i7 i q g hi e hg hbad
    omega
  · intro hlt
    by_cases hz : hm p = 0
    · rw [if_pos hz] at hlt ⊢
      rcases i8 hlt with ⟨g, g', a1, a2, a3⟩ | ⟨g, a1, a2⟩
      · exact Or.inl ⟨g, g', a1, mono _ _ a2, mono _ _ a3⟩
      · exact Or.inr ⟨g, mono _ _ a1, a2⟩
    · rw [if_neg hz] at hlt ⊢
      by_cases hpl : p < lw
      · rw [if_pos hpl]
        obtain ⟨g, hg, hgb⟩ := bit8 (hm p) (i2 p hp) hz
        refine Or.inl ⟨g, h, fun q => ?_, mono _ _ hgb, ?_⟩
        · subst q; rw [hb] at hgb; cases hgb
        · dsimp only
          rw [if_pos rfl, Nat.testBit_or, Nat.testBit_two_pow]
          simp
      · rw [if_neg hpl] at hlt ⊢
        rcases i8 hlt with ⟨g, g', a1, a2, a3⟩ | ⟨g, a1, a2⟩
        · exact Or.inl ⟨g, g', a1, mono _ _ a2, mono _ _ a3⟩
        · exact Or.inr ⟨g, mono _ _ a1, a2⟩
  · intro i q g hi e hg p' h' hs
    dsimp only at e
    rw [if_neg (by omega)] at e
    exact mono _ _ (i9 i q g hi e hg p' h' hs)
theorem kl_reach {j n p h : Nat} {hm fd : Nat → Nat} {fc lw k : Nat} (hj : j < 8) (hn : n ≤ 24) (hN : N 2 j 0 = nI n) (hI : CkI op ar n hm fd fc lw k) (hc : ckN N n hm fd fc lw) (hp : p < n) (hh : h < 8) (hr : Rch op ar p h) :
    ∃ N' hm' fd' fc' lw', frK N N' ∧ CkI op ar n hm' fd' fc' lw' k ∧ ckN N' n hm' fd' fc' lw' ∧ (∀ q g, (hm q).testBit g = true → (hm' q).testBit g = true) ∧ (hm' p).testBit h = true ∧ (∀ i, i < fc → fd' i = fd i) ∧ fc ≤ fc' ∧ Cl 5 [.ref 9, .ref (12 + 3 * j), .int (nI p), .int (nI h)] (cpic b N J P) nx = some ((cpic b N' J P, nx, 0, 0), .inl none) := by
  have hm2 := hI.2.1 p hp
  obtain ⟨c1, c2, c3, c4⟩ := hc
  cases hb : (hm p).testBit h with
  | true => exact ⟨N, hm, fd, fc, lw, fun _ _ _ _ _ _ => rfl, hI, ⟨c1, c2, c3, c4⟩, fun _ _ z => z, hb, fun _ _ => rfl, Nat.le_refl _, kl_reach_old hj hN hp hn hh (c1 p hp) hm2 hb⟩
  | false =>
    have hlt := hI.lt hp hh hb
    have hlw := hI.1
    obtain ⟨a1, a2⟩ := hI.add hp hh hr hb
    have e : ∀ k i, k ≠ 10 → (if hm p = 0 then N else up3 N 10 0 0 (nI (if p < lw then p else lw))) k i = N k i := by
      intro k i hk
      split
      · rfl
      · exact congrFun (up3_k hk) i
    refine ⟨_, _, _, _, _, ?_, a1, ?_, a2, ?_, ?_, by omega, kl_reach_new (b := b) (J := J) (P := P) (nx := nx) hj hN hp hn hh (c1 p hp) hm2 hb c3 (by omega) c4 (by omega)⟩
    · intro k i h7 h8 h9 h10
      unfold rcN
      rw [up3_k h9, up3_k h8, up3_k h7]
      exact e k i h10
    · refine ⟨fun q hq => ?_, fun i hi => ?_, up3_s, ?_⟩
      · unfold rcN
        rw [up3_k (by decide), up3_k (by decide)]
        dsimp only
        by_cases hqp : q = p
        · subst hqp
          rw [if_pos rfl]
          exact up3_s
        · rw [if_neg hqp, up3_p hqp, e 7 0 (by decide)]
          exact c1 q hq
      · unfold rcN
        rw [up3_k (by decide)]
        dsimp only
        by_cases hif : i = fc
        · subst hif
          rw [if_pos rfl]
          exact up3_s
        · rw [if_neg hif, up3_p hif, up3_k (by decide), e 8 0 (by decide)]
          exact c2 i (by omega)
      · unfold rcN
        rw [up3_k (by decide), up3_k (by decide), up3_k (by decide)]
        by_cases hz : hm p = 0
        · rw [if_pos hz, if_pos hz]; exact c4
        · rw [if_neg hz, if_neg hz]; exact up3_s
    · rw [if_pos rfl, Nat.testBit_or, Nat.testBit_two_pow]
      simp
    · intro i hi
      rw [if_neg (by omega)]
end KL
