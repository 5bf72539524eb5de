/-! laying together keeps what holds between them; free slots -/
section RG
variable {N N' : cN} {J J' : cJ} {P P' : cP} {F F' : Nat → Int32} {A A' : Nat → Nat → Int32} {L L' : Nat → Nat → Int64} {nb nm : Nat} {lt : Option Nat} {sz : Nat → Nat} {op : Nat → Nat → Nat} {ai : Nat → Nat → Int32} {kd mg : Nat → Nat} {b1 b2 : Nat → Option va_E} {nx1 nx2 : Option Nat}
theorem RelM.lt40 {n m s : Nat} {φ : Nat → Nat} (h : RelM N J P A L n m φ) (hs : gC N J P m s ≠ none) : φ s < 40 ∧ A 29 (φ s) = nI 1 := by
  obtain ⟨s1, s2⟩ := gC_of hs
  have hφ := h.2.2.2.1.1 s _ _ (gC_some s1 s2)
  exact gR_of (A := A) (L := L) (x := φ s) (by rw [hφ]; simp)
theorem RelM.need {n m : Nat} {φ : Nat → Nat} (h : RelM N J P A L n m φ) (hst : ∀ t, t < n → A 16 t = N 16 t 0) {k : Nat} (hk : gC N J P m k ≠ none) : ndU N P n k = true ↔ ndR A n (φ k) := by
  have h' := h
  obtain ⟨a1, a2, a3, a4, a5⟩ := h'
  have hk40 := (h.lt40 hk).1
  unfold ndU ndR
  rw [List.any_eq_true, List.any_eq_true]
  constructor
  · rintro ⟨t, ht, hb⟩
    refine ⟨t, ht, ?_⟩
    have ht := List.mem_range.mp ht
    unfold ndT at hb
    simp only [Bool.and_eq_true, Bool.not_eq_true', decide_eq_false_iff_not, Bool.or_eq_true, decide_eq_true_eq] at hb
    obtain ⟨s, s1, s2, s3, s4⟩ := a5 t ht hb.1
    unfold ndB
    simp only [Bool.and_eq_true, Bool.not_eq_true', decide_eq_false_iff_not, Bool.or_eq_true, decide_eq_true_eq]
    refine ⟨by rw [hst t ht]; exact hb.1, ?_⟩
    rcases hb.2 with q | q
    · rw [s1] at q; cases q
      exact Or.inl s3
    · rcases s4 with ⟨-, z, -⟩ | ⟨e, z1, z2, z3, -⟩
      · rw [z] at q; cases q
      · rw [z1] at q; cases q
        exact Or.inr z3
  · rintro ⟨t, ht, hb⟩
    refine ⟨t, ht, ?_⟩
    have ht := List.mem_range.mp ht
    unfold ndB at hb
    simp only [Bool.and_eq_true, Bool.not_eq_true', decide_eq_false_iff_not, Bool.or_eq_true, decide_eq_true_eq] at hb
    have hb1 := hb.1
    rw [hst t ht] at hb1
    obtain ⟨s, s1, s2, s3, s4⟩ := a5 t ht hb1
    unfold ndT
    simp only [Bool.and_eq_true, Bool.not_eq_true', decide_eq_false_iff_not, Bool.or_eq_true, decide_eq_true_eq]
    refine ⟨hb1, ?_⟩
    rcases hb.2 with q | q
    · rw [s3] at q
      have h40 := (h.lt40 s2).1
      have := a4.2.2 s k s2 hk ((nI_eq (by omega) (by omega)).mp q)
      rw [← this]
      exact Or.inl s1
    · rcases s4 with ⟨-, -, z⟩ | ⟨e, z1, z2, z3, -⟩
      · rw [z] at q
        exact absurd q.symm (fun z => (nI_m1 (by omega)).mp z)
      · rw [z3] at q
        have h40 := (h.lt40 z2).1
        have := a4.2.2 e k z2 hk ((nI_eq (by omega) (by omega)).mp q)
        rw [← this]
        exact Or.inr z1
theorem RelM.tidy {n m : Nat} {φ : Nat → Nat} (h : RelM N J P A L n m φ) (hst : ∀ t, t < n → A 16 t = N 16 t 0) (hn : n ≤ 12) (hm : m ≤ 23) (n12 : N 12 0 0 = nI m) (n11 : N 11 0 0 = nI n) (f11 : F 11 = nI n) : ∃ N' J' P' A' L', frS N N' J J' P P' ∧ fr3 A A' ∧ frL L L' ∧ RelM N' J' P' A' L' n m φ ∧ Cl 63 [.ref 36] (cpic b1 N J P) nx1 = some ((cpic b1 N' J' P', nx1, 0, 0), .inl none) ∧ Cl 107 [.ref 149] (mpic b2 F A L) nx2 = some ((mpic b2 F A' L', nx2, 0, 0), .inl none) := by
  have h' := h
  obtain ⟨a1, a2, a3, a4, a5⟩ := h'
  obtain ⟨N', J', P', l, k1, k2, k3, k4, k5⟩ := kl_layTogether (b := b1) (J := J) (nx := nx1) n12 hm n11 hn a1 (fun t ht q => by
    obtain ⟨s, s1, s2, s3, s4⟩ := a5 t ht q
    refine ⟨⟨s, s1, (gC_of s2).1⟩, fun e he => ?_⟩
    rcases s4 with ⟨-, z, -⟩ | ⟨e', z1, z2, -⟩
    · rw [z] at he; cases he
    · rw [z1] at he; cases he
      exact (gC_of z2).1)
  obtain ⟨ρ, hρ⟩ := a4.rank (gC_Ak a1) a3
  obtain ⟨A', L', l', q1, q2, q3, q4, q5, q6⟩ := cl_tidy (b := b2) (F := F) (nx := nx2) hn f11 a2 hρ
  have hnd : ∀ k, gC N J P m k ≠ none → (ndU N P n k = true ↔ ndR A n (φ k)) := fun k hk => h.need hst hk
  refine ⟨N', J', P', A', L', k1, q1, q2, ⟨k2, q3, Rd_Cld l _ _ (gC_Ak a1) a3 k3, a4.tidy a3 (gC_Ak a1) hnd k3 k4 q4 q5, fun t ht q => ?_⟩, k5, q6⟩
  rw [k1.1 16 t (by decide) (by decide) (by decide)] at q
  obtain ⟨s, s1, s2, s3, s4⟩ := a5 t ht q
  have nd : ∀ x, P 4 t = some x ∨ P 3 t = some x → ndU N P n x = true := by
    intro x hx
    unfold ndU
    rw [List.any_eq_true]
    refine ⟨t, List.mem_range.mpr ht, ?_⟩
    unfold ndT
    simp only [Bool.and_eq_true, Bool.not_eq_true', decide_eq_false_iff_not, Bool.or_eq_true, decide_eq_true_eq]
    exact ⟨q, hx⟩
  rw [k1.2.2 3 t (by decide), k1.2.2 4 t (by decide), q1 27 (by decide) (by decide) (by decide), q1 28 (by decide) (by decide) (by decide)]
  refine ⟨s, s1, Rd_live (nd s (Or.inl s1)) l _ _ k3 s2, s3, ?_⟩
  rcases s4 with s4 | ⟨e, z1, z2, z3, z4⟩
  · exact Or.inl s4
  · exact Or.inr ⟨e, z1, Rd_live (nd e (Or.inr z1)) l _ _ k3 z2, z3, Rd_pg (nd s (Or.inl s1)) (nd e (Or.inr z1)) l _ _ (gC_Ak a1) k3 z4⟩
/-- laying together, of a whole run -/
theorem RelR.tidy {n k : Nat} {φ : Nat → Nat} (hP : RelP N P F A nb nm lt sz op ai kd mg) (hR : RelR N J P F A L nb nm sz op ai kd mg n k φ) : ∃ N' J' P' A' L', RelP N' P' F A' nb nm lt sz op ai kd mg ∧ RelR N' J' P' F A' L' nb nm sz op ai kd mg n k φ ∧ frS N N' J J' P P' ∧ Cl 63 [.ref 36] (cpic b1 N J P) nx1 = some ((cpic b1 N' J' P', nx1, 0, 0), .inl none) ∧ Cl 107 [.ref 149] (mpic b2 F A L) nx2 = some ((mpic b2 F A' L', nx2, 0, 0), .inl none) := by
  have hR' := hR
  obtain ⟨a1, a2, a3, a4, a5, a6, a7, a8, a9, a10, ⟨br, a11, a12⟩, a13, a14⟩ := hR'
  obtain ⟨N', J', P', A', L', k1, k2, k3, k4, k5, k6⟩ := a14.tidy (b1 := b1) (nx1 := nx1) (b2 := b2) (nx2 := nx2) (F := F) (fun t ht => by
    obtain ⟨⟨st, c1, c2, -⟩, -⟩ := a13 t ht
    rw [c1, c2]) a2 hR.m23 a7 a4 a5
  have hN : ∀ q i, q ≠ 21 → q ≠ 22 → q ≠ 23 → N' q i = N q i := k1.1
  refine ⟨N', J', P', A', L', hP.cg (fun q i h => hN q i (by omega) (by omega) (by omega)) (k1.2.2 0 0 (by decide)) ⟨rfl, rfl, rfl⟩ (fun q h1 h2 => k2 q (by omega) (by omega) (by omega)), ⟨a1, a2, a3, by rw [hN 11 0 (by decide) (by decide) (by decide)]; exact a4, a5, a6, by rw [hN 12 0 (by decide) (by decide) (by decide)]; exact a7, a8, by rw [hN 13 0 (by decide) (by decide) (by decide)]; exact a9, a10, ⟨br, by rw [hN 14 0 (by decide) (by decide) (by decide)]; exact a11, a12⟩, fun t ht => ?_, k4⟩, k1, k5, k6⟩
  exact (a13 t ht).cg a3.2.1 (fun q h1 h2 => hN q t (by omega) (by omega) (by omega)) (fun q h => k1.2.1 q t (by omega)) ⟨k1.2.2 1 t (by decide), k1.2.2 2 t (by decide), k1.2.2 5 t (by decide)⟩ (fun q h1 h2 => by rw [k2 q (by omega) (by omega) (by omega)]) ⟨fun p hp => by rw [k3 22 (by decide)], fun p hp => by rw [k3 23 (by decide)], fun p hp => by rw [k3 25 (by decide)], by rw [k3 26 (by decide)]⟩
/-- as many slots are used as segments live -/
theorem RelM.used {n m : Nat} {φ : Nat → Nat} (h : RelM N J P A L n m φ) (l : List Nat) (hl : l.Nodup) (hu : ∀ x ∈ l, gR A L x ≠ none) : l.length ≤ m := by
  obtain ⟨a1, a2, a3, a4, a5⟩ := h
  have pre : ∀ x, gR A L x ≠ none → ∃ k, gC N J P m k ≠ none ∧ φ k = x := a4.2.1
  have key := pig m (l.map (fun x => @dite _ (∃ k, gC N J P m k ≠ none ∧ φ k = x) (Classical.propDecidable _) (fun q => Classical.choose q) (fun _ => 0))) (by
    rw [List.nodup_iff_pairwise_ne, List.pairwise_map]
    refine List.Pairwise.imp_of_mem (R := (· ≠ ·)) ?_ (List.nodup_iff_pairwise_ne.mp hl)
    intro x y hx hy hne e
    rw [dif_pos (pre x (hu x hx)), dif_pos (pre y (hu y hy))] at e
    have e1 := (Classical.choose_spec (pre x (hu x hx))).2
    have e2 := (Classical.choose_spec (pre y (hu y hy))).2
    rw [e] at e1
    exact hne (e1.symm.trans e2)) (by
    intro z hz
    obtain ⟨x, hx, rfl⟩ := List.mem_map.mp hz
    rw [dif_pos (pre x (hu x hx))]
    exact (gC_of (Classical.choose_spec (pre x (hu x hx))).1).1)
  simpa using key
theorem least {f : Nat → Prop} : ∀ (M i : Nat), i < M → f i → ∃ s, s ≤ i ∧ f s ∧ ∀ j, j < s → ¬ f j := by
  intro M
  induction M with
  | zero => intro i h; omega
  | succ M ih =>
    intro i hi hf
    by_cases h : ∃ j, j < i ∧ f j
    · obtain ⟨j, hj, hfj⟩ := h
      obtain ⟨s, s1, s2, s3⟩ := ih j (by omega) hfj
      exact ⟨s, by omega, s2, s3⟩
    · exact ⟨i, Nat.le_refl _, hf, fun j hj hfj => h ⟨j, hj, hfj⟩⟩
theorem RelM.free {n m : Nat} {φ : Nat → Nat} (h : RelM N J P A L n m φ) (hm : m ≤ 23) : ∃ s1 s2, s1 < s2 ∧ s2 < 40 ∧ (∀ i, i < s1 → A 29 i = nI 1) ∧ A 29 s1 = nI 0 ∧ (∀ i, s1 < i → i < s2 → A 29 i = nI 1) ∧ A 29 s2 = nI 0 := by
  have a2 := h.2.1
  have us : ∀ x, x < 40 → A 29 x ≠ nI 0 → A 29 x = nI 1 := fun x hx q => (a2 x hx).1.resolve_left q
  have e1 : ∃ i, i < 40 ∧ A 29 i = nI 0 := by
    apply Classical.byContradiction
    intro hno
    have := h.used (List.range 40) List.nodup_range (fun x hx => by
      have hx := List.mem_range.mp hx
      rw [gR_some hx (us x hx (fun q => hno ⟨x, hx, q⟩))]
      simp)
    rw [List.length_range] at this
    omega
  obtain ⟨i, hi, hi0⟩ := e1
  obtain ⟨s1, b1, b2, b3⟩ := least (f := fun i => A 29 i = nI 0) (i + 1) i (by omega) hi0
  have e2 : ∃ i, s1 < i ∧ i < 40 ∧ A 29 i = nI 0 := by
    apply Classical.byContradiction
    intro hno
    have := h.used ((List.range 40).erase s1) (List.nodup_range.erase _) (fun x hx => by
      have hx1 := List.mem_range.mp (List.mem_of_mem_erase hx)
      have hx2 : x ≠ s1 := fun q => by rw [q] at hx; exact List.nodup_range.not_mem_erase hx
      rw [gR_some hx1 (us x hx1 (fun q => ?_))]
      · simp
      · rcases Nat.lt_or_gt_of_ne hx2 with z | z
        · exact b3 x z q
        · exact hno ⟨x, z, hx1, q⟩)
    rw [List.length_erase, if_pos (List.mem_range.mpr (by omega)), List.length_range] at this
    omega
  obtain ⟨j, hj1, hj2, hj3⟩ := e2
  obtain ⟨s2, c1, c2, c3⟩ := least (f := fun i => s1 < i ∧ A 29 i = nI 0) (j + 1) j (by omega) ⟨hj1, hj3⟩
  refine ⟨s1, s2, c2.1, by omega, fun i hi => us i (by omega) (b3 i hi), b2, fun i hi hi2 => us i (by omega) (fun q => c3 i hi2 ⟨hi, q⟩), c2.2⟩
end RG
