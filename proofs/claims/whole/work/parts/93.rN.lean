/-! the calls: fault and start -/
section RN
variable {N N' : cN} {J J' : cJ} {P P' : cP} {F F' : Nat → Int32} {A A' : Nat → Nat → Int32} {L L' : Nat → Nat → Int64} {nb nm : Nat} {lt : Option Nat} {sz : Nat → Nat} {op : Nat → Nat → Nat} {ai : Nat → Nat → Int32} {kd mg : Nat → Nat} {b1 b2 : Nat → Option va_E} {nx1 nx2 : Option Nat}
/-- the checkers' own rows may be other -/
theorem RelP.sc (hP : RelP N P F A nb nm lt sz op ai kd mg) (hN : frK N N') (hA : fr10 A A') (hF : ∀ q, q ≠ 0 → F' q = F q) : RelP N' P F' A' nb nm lt sz op ai kd mg :=
  hP.cg (fun q i hq => hN q i (by omega) (by omega) (by omega) (by omega)) rfl ⟨hF 1 (by decide), hF 2 (by decide), hF 3 (by decide)⟩ (fun q h1 h2 => hA q (by omega))
theorem Rel.sc (hP : RelP N P F A nb nm lt sz op ai kd mg) (h : Idle N F ∨ ∃ n k φ, RelR N J P F A L nb nm sz op ai kd mg n k φ) (hN : frK N N') (hA : fr10 A A') (hF : ∀ q, q ≠ 0 → F' q = F q) : Rel N' J P F' A' L := by
  have nN : ∀ q i, 11 ≤ q → N' q i = N q i := fun q i hq => hN q i (by omega) (by omega) (by omega) (by omega)
  refine ⟨nb, nm, lt, sz, op, ai, kd, mg, hP.sc hN hA hF, ?_⟩
  rcases h with ⟨h1, h2, h3, h4, h5⟩ | ⟨n, k, φ, hR⟩
  · exact Or.inl ⟨by rw [nN 11 0 (by decide)]; exact h1, by rw [hF 11 (by decide)]; exact h2, by rw [hF 9 (by decide)]; exact h3, by rw [nN 12 0 (by decide)]; exact h4, by rw [nN 14 0 (by decide)]; exact h5⟩
  · refine Or.inr ⟨n, k, φ, RelR.F0 (F := F) ?_ (fun q hq => hF q (by omega))⟩
    obtain ⟨a1, a2, a3, a4, a5, a6, a7, a8, a9, a10, ⟨br, a11, a12⟩, a13, a14⟩ := hR
    refine ⟨a1, a2, a3, by rw [nN 11 0 (by decide)]; exact a4, a5, a6, by rw [nN 12 0 (by decide)]; exact a7, a8, by rw [nN 13 0 (by decide)]; exact a9, a10, ⟨br, by rw [nN 14 0 (by decide)]; exact a11, a12⟩, fun t ht => (a13 t ht).cg a3.2.1 (fun q q1 q2 => nN q t (by omega)) (fun _ _ => rfl) ⟨rfl, rfl, rfl⟩ (fun q q1 q2 => by rw [hA q (by omega)]) sL.refl, a14.cg (fun i => nN 21 i (by decide)) (fun i => nN 22 i (by decide)) (fun _ => rfl) (fun _ _ _ => rfl) (fun q q1 q2 => hA q (by omega)) rfl (fun t _ q => by rw [nN 16 t (by decide)] at q; exact q)⟩
theorem call_fault (hs : bS b1) (hr : Rel N J P F A L) : Ans b1 nx1 b2 nx2 N J P F A L 74 [.ref 3] 100 [.ref 149] [] KI := by
  obtain ⟨nb, nm, lt, sz, op, ai, kd, mg, hP, h⟩ := hr
  have hP' := hP
  obtain ⟨p1, p2, p3, p4, p5, p6, p7, p8, p9, p10, p11, p12, p13, p14⟩ := hP'
  obtain ⟨N', k1, k2⟩ := kl_firstFault (b := b1) (J := J) (P := P) (nx := nx1) hs p1 p2 p3 p5 p10
  obtain ⟨A', q1, q2⟩ := cl_fault (b := b2) (L := L) (nx := nx2) p1 p2 p4 p6 p11
  exact ⟨N', J, P, _, A', L, Rel.sc hP h k1 q1 (fun q hq => up1_n hq), Or.inl ⟨_, ⟨_, rfl⟩, kl_fault k2, q2, up1_s⟩⟩
theorem gd_eq (hP : RelP N P F A nb nm lt sz op ai kd mg) : (List.range' 0 12).all (gdC N nm) = (List.range' 0 12).all (gdB A nm) := by
  obtain ⟨p1, p2, p3, p4, p5, p6, p7, p8, p9, p10, p11, p12, p13, p14⟩ := hP
  have e : ∀ c, c < 12 → gdC N nm c = gdB A nm c := by
    intro c hc
    obtain ⟨c1, c2, c3, c4, c5, c6⟩ := p14 c hc
    unfold gdC gdB
    rw [c1, c2, c4, c5]
  rw [Bool.eq_iff_iff, List.all_eq_true, List.all_eq_true]
  constructor
  · intro h c hc
    rw [← e c (by have := List.mem_range'_1.mp hc; omega)]
    exact h c hc
  · intro h c hc
    rw [e c (by have := List.mem_range'_1.mp hc; omega)]
    exact h c hc
/-- a program without fault -/
theorem RelP.good (hs : bS b1) (hP : RelP N P F A nb nm lt sz op ai kd mg) (h0 : 0 < nb) (hf : pfP sz op ai nb nm = -1) (hg : (List.range' 0 12).all (gdB A nm) = true) : Gd nb nm sz op ai kd mg := by
  obtain ⟨p1, p2, p3, p4, p5, p6, p7, p8, p9, p10, p11, p12, p13, p14⟩ := hP
  have fo : ∀ c, c < 8 → FoR (decide (6 ≤ c)) (op c) (ai c) (sz c) nb (foF (decide (6 ≤ c)) (op c) (ai c) (sz c) nb) := by
    intro c hc
    obtain ⟨c1, c2, c3⟩ := p10 c hc
    obtain ⟨-, -, q, -⟩ := kl_faultIn (b := b1) (N := N) (J := fun _ _ _ => 0) (P := P) (nx := none) (nb := nb) hs hc c2 c1 c3
    exact q
  have hall := pf_or (fo := fun c => foF (decide (6 ≤ c)) (op c) (ai c) (sz c) nb) (nb := nb) (nm := nm) (List.range' 0 8) (fun c hc => by
    have hc8 : c < 8 := by have := List.mem_range'_1.mp hc; omega
    refine ⟨hc8, fun k hk => ?_⟩
    have q := fo c hc8
    rw [hk] at q
    exact q.lt (p11 c hc8).2.1)
  have hnone : ∀ c, c < 8 → vld nb nm c = true → foF (decide (6 ≤ c)) (op c) (ai c) (sz c) nb = none := by
    rcases hall with ⟨-, q⟩ | ⟨k, hk, hk2⟩
    · intro c hc hv
      exact q c (List.mem_range'_1.mpr ⟨by omega, by omega⟩) hv
    · unfold pfP at hf
      rw [hk2] at hf
      exact absurd hf (fun z => (nI_m1 hk).mp z)
  have good : ∀ c, c < 8 → vld nb nm c = true → GdC (decide (6 ≤ c)) (op c) (ai c) (sz c) nb := by
    intro c hc hv
    have q := fo c hc
    rw [hnone c hc hv] at q
    exact q.good (p11 c hc).2.1 (fun p hp => ((p11 c hc).2.2 p hp).2.1)
  refine ⟨h0, fun c hc => ?_, fun m hm => ?_, fun c hc hk => ?_⟩
  · have q := good c (by omega) (by unfold vld; rw [if_pos (by omega)]; simp [hc])
    rw [show decide (6 ≤ c) = false from decide_eq_false (by omega)] at q
    exact q
  · have q := good (6 + m) (by omega) (by unfold vld; rw [if_neg (by omega)]; simp; omega)
    rw [show decide (6 ≤ 6 + m) = true from decide_eq_true (by omega)] at q
    exact q
  · have q := List.all_eq_true.mp hg c (List.mem_range'_1.mpr ⟨by omega, by omega⟩)
    obtain ⟨c1, c2, c3, c4, c5, c6⟩ := p14 c hc
    unfold gdB at q
    rw [c2, c5, hk] at q
    simp only [decide_true, Bool.not_true, Bool.false_or, decide_eq_true_eq] at q
    exact (nI_ltI (by omega) (by omega)).mp q
-- where a run begins
set_option maxHeartbeats 8000000 in
theorem RelR.start (hG : Gd nb nm sz op ai kd mg)  : RelR (bgN N) (bgJ J) (bgP P) (stF F) (stA A) (bgL L 0 0) nb nm sz op ai kd mg 1 0 (fun _ => 0) := by
  have zr : ∀ x, x < 40 → x ≠ 0 → stA A 29 x = nI 0 := by
    intro x hx h0
    have : stA A 29 x = zrU A 40 29 x := by simp (disch := omega) only [stA, bgA, opA, up2_n, up2_o, up2_s]
    rw [this]
    show (if x < 40 then nI 0 else A 29 x) = nI 0
    rw [if_pos hx]
  have s29 : stA A 29 0 = nI 1 := by simp (disch := omega) only [stA, bgA, opA, up2_n, up2_o, up2_s]
  have s31 : stA A 31 0 = nI 0 := by simp (disch := omega) only [stA, bgA, opA, up2_n, up2_o, up2_s]
  have s30 : stA A 30 0 = -1 := by simp (disch := omega) only [stA, bgA, opA, up2_n, up2_o, up2_s]
  have s27 : stA A 27 0 = nI 0 := by simp (disch := omega) only [stA, bgA, opA, up2_n, up2_o, up2_s]
  have s28 : stA A 28 0 = -1 := by simp (disch := omega) only [stA, bgA, opA, up2_n, up2_o, up2_s]
  have gc : ∀ x, gC (bgN N) (bgJ J) (bgP P) 1 x = if x = 0 then some (fun _ => none, none) else none := by
    intro x
    by_cases h : x = 0
    · subst h
      rw [if_pos rfl, gC_some (by decide) rfl]
      have e1 : bgN N 21 0 0 = nI 0 := rfl
      have e2 : bgP P 6 0 = none := rfl
      rw [e1, e2, cw_0]
    · rw [if_neg h]
      unfold gC
      rw [if_neg (by omega)]
  have gr : ∀ x, gR (stA A) (bgL L 0 0) x = if x = 0 then some (fun _ => none, none) else none := by
    intro x
    by_cases h : x = 0
    · subst h
      rw [if_pos rfl, gR_some (by decide) s29, s31, s30, cw_0]
      rfl
    · rw [if_neg h]
      unfold gR
      rw [if_neg]
      rintro ⟨q1, q2⟩
      rw [zr x q1 h] at q2
      exact absurd q2 (by decide)
  refine ⟨by decide, by decide, hG, rfl, up1_s, ?_, rfl, by decide, rfl, ?_, ⟨0, rfl, ?_⟩, fun t ht => ?_, ?_⟩
  · unfold stF
    rw [up1_n (by decide), up1_n (by decide), up1_n (by decide), up1_n (by decide)]
    exact up1_s
  · unfold stF
    rw [up1_n (by decide), up1_n (by decide)]
    exact up1_s
  · unfold stF
    rw [up1_n (by decide)]
    exact up1_s
  · have ht : t = 0 := by omega
    subst ht
    have p2 : bgP P 2 0 = none := rfl
    have p1 : bgP P 1 0 = none := rfl
    refine ⟨⟨0, rfl, by simp (disch := omega) only [stA, bgA, opA, up2_n, up2_o, up2_s], by decide, ⟨fun q => by omega, fun q => absurd p2 q⟩, fun q => by omega, fun _ => ⟨0, 0, 0, rfl, by simp (disch := omega) only [stA, bgA, opA, up2_n, up2_o, up2_s], hG.1, rfl, by simp (disch := omega) only [stA, bgA, opA, up2_n, up2_o, up2_s], rfl, by simp (disch := omega) only [stA, bgA, opA, up2_n, up2_o, up2_s], Rch.zero, fun p hp => by omega, fun q hq => ?_⟩⟩, ⟨0, rfl, by simp (disch := omega) only [stA, bgA, opA, up2_n, up2_o, up2_s], by decide, fun p hp => by omega⟩, ?_, ?_, ?_, fun q hq => ?_, ?_, fun q hq => ?_, ?_⟩
    · rcases (show q = 0 ∨ q = 1 ∨ q = 2 ∨ q = 3 by omega) with rfl | rfl | rfl | rfl
      · rfl
      · rfl
      · rfl
      · rfl
    · simp (disch := omega) only [stA, bgA, opA, up2_n, up2_o, up2_s]
      rfl
    · simp (disch := omega) only [stA, bgA, opA, up2_n, up2_o, up2_s]
      rfl
    · rw [p1, oI_n]; simp (disch := omega) only [stA, bgA, opA, up2_n, up2_o, up2_s]
    · rw [p1] at hq; cases hq
    · rw [p2, oI_n]; simp (disch := omega) only [stA, bgA, opA, up2_n, up2_o, up2_s]
    · rw [p2] at hq; cases hq
    · rfl
  · refine ⟨fun s hs => ?_, fun x hx => ?_, ?_, ⟨?_, ?_, ?_⟩, fun t ht _ => ?_⟩
    · have hs : s = 0 := by omega
      subst hs
      exact ⟨Or.inr rfl, ⟨0, by decide, rfl⟩, fun y hy => by cases hy⟩
    · by_cases h : x = 0
      · subst h
        exact ⟨Or.inr s29, fun _ => ⟨⟨0, by decide, s31⟩, none, s30, fun y hy => by cases hy⟩⟩
      · exact ⟨Or.inl (zr x hx h), fun q => absurd (q.symm.trans (zr x hx h)) (by decide)⟩
    · intro k w t h
      show gC (bgN N) (bgJ J) (bgP P) 1 t ≠ none
      rw [show 2 * 1 - 1 = 1 from rfl, gc] at h
      split at h
      · cases h
      · cases h
    · intro k w o h
      rw [show 2 * 1 - 1 = 1 from rfl, gc] at h
      rw [gr]
      split at h
      · cases h
        rw [if_pos rfl]
        rfl
      · cases h
    · intro x hx
      rw [gr] at hx
      by_cases h : x = 0
      · subst h
        exact ⟨0, by rw [show 2 * 1 - 1 = 1 from rfl, gc]; simp, rfl⟩
      · rw [if_neg h] at hx
        exact absurd rfl hx
    · intro k k' h h' _
      rw [show 2 * 1 - 1 = 1 from rfl, gc] at h h'
      have e1 : k = 0 := by
        apply Classical.byContradiction
        intro q
        rw [if_neg q] at h
        exact h rfl
      have e2 : k' = 0 := by
        apply Classical.byContradiction
        intro q
        rw [if_neg q] at h'
        exact h' rfl
      omega
    · have ht : t = 0 := by omega
      subst ht
      exact ⟨0, rfl, by rw [show 2 * 1 - 1 = 1 from rfl, gc]; simp, s27, Or.inl ⟨rfl, rfl, s28⟩⟩
theorem call_start (hs : bS b1) (hr : Rel N J P F A L) : Ans b1 nx1 b2 nx2 N J P F A L 73 [.ref 3] 101 [.ref 149] [1] KV := by
  obtain ⟨nb, nm, lt, sz, op, ai, kd, mg, hP, h⟩ := hr
  have hP' := hP
  obtain ⟨p1, p2, p3, p4, p5, p6, p7, p8, p9, p10, p11, p12, p13, p14⟩ := hP'
  have hgd := gd_eq hP
  have no : ∀ {N' : cN}, frK N N' → stB A sz op ai nb nm = false → Cl 73 [.ref 3] (cpic b1 N J P) nx1 = some ((cpic b1 N' J P, none, 1, 6), .inr 1) → Ans b1 nx1 b2 nx2 N J P F A L 73 [.ref 3] 101 [.ref 149] [1] KV := by
    intro N' hN' hst hcl
    obtain ⟨A', q1, q2⟩ := cl_start_no (b := b2) (L := L) (nx := nx2) p1 p2 p4 p6 p11 hst
    exact ⟨N', J, P, _, A', L, Rel.sc hP h hN' q1 (fun q hq => up1_n hq), Or.inr ⟨0, 1, _, rfl, rfl, hcl, q2, up1_s⟩⟩
  by_cases h0 : nb = 0
  · subst h0
    exact no (N' := N) (fun _ _ _ _ _ _ => rfl) (by unfold stB; simp) (kl_start_0 p3)
  · cases hl : (List.range' 0 12).all (gdC N nm) with
    | false => exact no (N' := N) (fun _ _ _ _ _ _ => rfl) (by unfold stB; rw [← hgd, hl]; simp) (kl_start_l p3 (by omega) p1 p5 hl)
    | true =>
      obtain ⟨N', k1, k2⟩ := kl_firstFault (b := b1) (J := J) (P := P) (nx := nx1) hs p1 p2 p3 p5 p10
      by_cases hf : pfP sz op ai nb nm = -1
      · have hG := hP.good hs (by omega) hf (by rw [← hgd]; exact hl)
        obtain ⟨A', q1, q2⟩ := cl_start_ok (b := b2) (L := L) (nx := nx2) p1 p2 p4 p6 p11 (by unfold stB; rw [← hgd, hl, hf]; simp; omega)
        rw [hf] at k2
        refine ⟨_, _, _, _, _, _, ⟨nb, nm, lt, sz, op, ai, kd, mg, ?_, Or.inr ⟨1, 0, _, RelR.start hG⟩⟩, Or.inl ⟨_, rfl, kl_start p3 (by omega) p1 p5 hl k2 k1, q2, ?_⟩⟩
        · refine (hP.sc (F' := F) k1 q1 (fun _ _ => rfl)).cg (fun q i hq => ?_) rfl ⟨?_, ?_, ?_⟩ (fun q z1 z2 => ?_)
          · simp (disch := omega) only [bgN, fbN, tbN, osN, fgN, up3_k]
          · rfl
          · rfl
          · rfl
          · have : stA A' q = zrU A' 40 q := by simp (disch := omega) only [stA, bgA, opA, up2_n]
            rw [this]
            unfold zrU
            rw [if_neg (by omega)]
        · unfold stF
          rw [up1_n (by decide), up1_n (by decide), up1_n (by decide), up1_n (by decide), up1_n (by decide)]
          exact up1_s
      · have hk : ∃ k, k < 2 ^ 31 ∧ pfP sz op ai nb nm = nI k := by
          have hall := pf_or (fo := fun c => foF (decide (6 ≤ c)) (op c) (ai c) (sz c) nb) (nb := nb) (nm := nm) (List.range' 0 8) (fun c hc => by
            have hc8 : c < 8 := by have := List.mem_range'_1.mp hc; omega
            refine ⟨hc8, fun k hk => ?_⟩
            obtain ⟨c1, c2, c3⟩ := p10 c hc8
            obtain ⟨-, -, q, -⟩ := kl_faultIn (b := b1) (N := N) (J := J) (P := P) (nx := none) (nb := nb) hs hc8 c2 c1 c3
            rw [hk] at q
            exact q.lt (p11 c hc8).2.1)
          rcases hall with ⟨q, -⟩ | q
          · exact absurd q hf
          · exact q
        obtain ⟨k, hk1, hk2⟩ := hk
        rw [hk2] at k2
        exact no k1 (by unfold stB; simp [hf]) (kl_start_f p3 (by omega) p1 p5 hl hk1 k2)
end RN
