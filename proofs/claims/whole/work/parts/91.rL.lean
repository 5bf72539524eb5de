/-! the calls: the program -/
section RL
variable {N N' : cN} {J J' : cJ} {P P' : cP} {F F' : Nat → Int32} {A A' : Nat → Nat → Int32} {L L' : Nat → Nat → Int64} {nb nm : Nat} {lt : Option Nat} {sz : Nat → Nat} {op : Nat → Nat → Nat} {ai : Nat → Nat → Int32} {kd mg : Nat → Nat} {b1 b2 : Nat → Option va_E} {nx1 nx2 : Option Nat}
/-- nothing runs -/
def Idle (N : cN) (F : Nat → Int32) : Prop := N 11 0 0 = nI 0 ∧ F 11 = nI 0 ∧ F 9 = nI 0 ∧ N 12 0 0 = nI 0 ∧ N 14 0 0 = nI 0
def Rel (N : cN) (J : cJ) (P : cP) (F : Nat → Int32) (A : Nat → Nat → Int32) (L : Nat → Nat → Int64) : Prop :=
  ∃ nb nm lt sz op ai kd mg, RelP N P F A nb nm lt sz op ai kd mg ∧ (Idle N F ∨ ∃ n k φ, RelR N J P F A L nb nm sz op ai kd mg n k φ)
def KI (v : Option Value) : Prop := ∃ x, v = some (.int x)
def KL (v : Option Value) : Prop := ∃ x, v = some (.long x)
def KV (v : Option Value) : Prop := v = none
/-- answers: alike, or thrown alike; es the exceptions by their codes -/
def Ans (b1 : Nat → Option va_E) (nx1 : Option Nat) (b2 : Nat → Option va_E) (nx2 : Option Nat) (N : cN) (J : cJ) (P : cP) (F : Nat → Int32) (A : Nat → Nat → Int32) (L : Nat → Nat → Int64) (Mc : Nat) (ac : List Value) (Mr : Nat) (ar : List Value) (es : List Nat) (K : Option Value → Prop) : Prop :=
  ∃ N' J' P' F' A' L', Rel N' J' P' F' A' L' ∧ ((∃ v, K v ∧ Cl Mc ac (cpic b1 N J P) nx1 = some ((cpic b1 N' J' P', nx1, 0, 0), .inl v) ∧ Cl Mr ar (mpic b2 F A L) nx2 = some ((mpic b2 F' A' L', nx2, 0, 0), .inl v) ∧ F' 0 = nI 0) ∨
    ∃ i e v, es[i]? = some e ∧ K v ∧ Cl Mc ac (cpic b1 N J P) nx1 = some ((cpic b1 N' J' P', none, 1, 6), .inr e) ∧ Cl Mr ar (mpic b2 F A L) nx2 = some ((mpic b2 F' A' L', nx2, 0, 0), .inl v) ∧ F' 0 = nI (i + 1))
theorem RelR.F0 {n k : Nat} {φ : Nat → Nat} (hR : RelR N J P F A L nb nm sz op ai kd mg n k φ) (h : ∀ q, q = 9 ∨ q = 11 ∨ q = 12 ∨ q = 13 → F' q = F q) : RelR N J P F' A L nb nm sz op ai kd mg n k φ := by
  obtain ⟨a1, a2, a3, a4, a5, a6, a7, a8, a9, a10, ⟨br, a11, a12⟩, a13, a14⟩ := hR
  exact ⟨a1, a2, a3, a4, by rw [h 11 (by decide)]; exact a5, by rw [h 9 (by decide)]; exact a6, a7, a8, a9, by rw [h 12 (by decide)]; exact a10, ⟨br, a11, by rw [h 13 (by decide)]; exact a12⟩, a13, a14⟩
/-- the code alone is other -/
theorem Rel.F0 (hP : RelP N P F A nb nm lt sz op ai kd mg) (h : Idle N F ∨ ∃ n k φ, RelR N J P F A L nb nm sz op ai kd mg n k φ) (hF : ∀ q, q ≠ 0 → F' q = F q) : Rel N J P F' A L := by
  refine ⟨nb, nm, lt, sz, op, ai, kd, mg, hP.cg (fun _ _ _ => rfl) rfl ⟨hF 1 (by decide), hF 2 (by decide), hF 3 (by decide)⟩ (fun _ _ _ => rfl), ?_⟩
  rcases h with ⟨h1, h2, h3, h4, h5⟩ | ⟨n, k, φ, hR⟩
  · exact Or.inl ⟨h1, by rw [hF 11 (by decide)]; exact h2, by rw [hF 9 (by decide)]; exact h3, h4, h5⟩
  · exact Or.inr ⟨n, k, φ, hR.F0 (fun q hq => hF q (by omega))⟩
theorem Rel.num (h : Idle N F ∨ ∃ n k φ, RelR N J P F A L nb nm sz op ai kd mg n k φ) : ∃ n, n ≤ 12 ∧ N 11 0 0 = nI n ∧ F 11 = nI n ∧ F 9 = bI (decide (0 < n)) ∧ (n = 0 → Idle N F) ∧ (0 < n → ∃ k φ, RelR N J P F A L nb nm sz op ai kd mg n k φ) := by
  rcases h with h | ⟨n, k, φ, hR⟩
  · exact ⟨0, by decide, h.1, h.2.1, h.2.2.1, fun _ => h, fun q => by omega⟩
  · have h0 := hR.1
    refine ⟨n, hR.2.1, hR.2.2.2.1, hR.2.2.2.2.1, ?_, fun q => by omega, fun _ => ⟨k, φ, hR⟩⟩
    rw [hR.2.2.2.2.2.1]
    simp [h0, bI]
theorem call_block (hr : Rel N J P F A L) : Ans b1 nx1 b2 nx2 N J P F A L 69 [.ref 3] 88 [.ref 149] [0] KI := by
  obtain ⟨nb, nm, lt, sz, op, ai, kd, mg, hP, h⟩ := hr
  obtain ⟨n, n1, n2, n3, n4, n5, n6⟩ := Rel.num h
  have hP' := hP
  obtain ⟨p1, p2, p3, p4, p5, p6, p7, p8, p9, p10, p11, p12, p13, p14⟩ := hP'
  by_cases hq : 0 < n ∨ nb = 6
  · refine ⟨N, J, P, _, A, L, Rel.F0 (F' := up1 (up1 F 0 (nI 1)) 1 (nI nb)) hP h (fun q hq => ?_), Or.inr ⟨0, 0, _, rfl, ⟨_, rfl⟩, kl_block_no n2 n1 p3 p1 hq, cl_block_no p1 ?_ p4, by rw [up1_n (by decide)]; exact up1_s⟩⟩
    · by_cases e : q = 1
      · subst e; rw [up1_s, p4]
      · rw [up1_n e, up1_n hq]
    · rcases hq with q | q
      · exact Or.inr (by rw [n4]; simp [q, bI])
      · exact Or.inl q
  · have hn0 : n = 0 := by omega
    subst hn0
    have hi := n5 rfl
    have hnb : nb < 6 := by omega
    refine ⟨_, J, _, _, _, L, ⟨nb + 1, nm, some nb, sz, op, ai, kd, mg, ?_, Or.inl ?_⟩, Or.inl ⟨_, ⟨_, rfl⟩, kl_block n2 p3 hnb, cl_block_ok hnb hi.2.2.1 p4, by rw [up1_n (by decide), up1_n (by decide)]; exact up1_s⟩⟩
    · refine ⟨by omega, p2, up3_s, up1_s, p5, by rw [up1_n (by decide), up1_n (by decide), up1_n (by decide)]; exact p6, upP_s, by rw [up1_n (by decide)]; exact up1_s, fun j hj => by cases hj; omega, fun c hc => p10 c hc, fun c hc => ?_, fun j h1 h2 => p12 j (by omega) h2, p13, fun c hc => p14 c hc⟩
      obtain ⟨c1, c2, c3⟩ := p11 c hc
      refine ⟨?_, c2, fun p hp => c3 p hp⟩
      by_cases e : c = nb
      · subst e; rw [up2_s, p12 c (by omega) (by omega)]
      · rw [up2_o e]; exact c1
    · exact ⟨hi.1, by rw [up1_n (by decide), up1_n (by decide), up1_n (by decide)]; exact hi.2.1, by rw [up1_n (by decide), up1_n (by decide), up1_n (by decide)]; exact hi.2.2.1, hi.2.2.2.1, hi.2.2.2.2⟩
theorem call_merge (hr : Rel N J P F A L) : Ans b1 nx1 b2 nx2 N J P F A L 71 [.ref 3] 89 [.ref 149] [0] KI := by
  obtain ⟨nb, nm, lt, sz, op, ai, kd, mg, hP, h⟩ := hr
  obtain ⟨n, n1, n2, n3, n4, n5, n6⟩ := Rel.num h
  have hP' := hP
  obtain ⟨p1, p2, p3, p4, p5, p6, p7, p8, p9, p10, p11, p12, p13, p14⟩ := hP'
  by_cases hq : 0 < n ∨ nm = 2
  · refine ⟨N, J, P, _, A, L, Rel.F0 (F' := up1 (up1 F 0 (nI 1)) 2 (nI nm)) hP h (fun q hq => ?_), Or.inr ⟨0, 0, _, rfl, ⟨_, rfl⟩, kl_merge_no n2 n1 p5 p2 hq, cl_merge_no p2 ?_ p6, by rw [up1_n (by decide)]; exact up1_s⟩⟩
    · by_cases e : q = 2
      · subst e; rw [up1_s, p6]
      · rw [up1_n e, up1_n hq]
    · rcases hq with q | q
      · exact Or.inr (by rw [n4]; simp [q, bI])
      · exact Or.inl q
  · have hn0 : n = 0 := by omega
    subst hn0
    have hi := n5 rfl
    have hnb : nm < 2 := by omega
    refine ⟨_, J, _, _, _, L, ⟨nb, nm + 1, some (6 + nm), sz, op, ai, kd, mg, ?_, Or.inl ?_⟩, Or.inl ⟨_, ⟨_, rfl⟩, kl_merge n2 p5 hnb, cl_merge_ok hnb hi.2.2.1 p6, by rw [up1_n (by decide), up1_n (by decide)]; exact up1_s⟩⟩
    · refine ⟨p1, by omega, p3, by rw [up1_n (by decide), up1_n (by decide), up1_n (by decide)]; exact p4, up3_s, up1_s, upP_s, by rw [up1_n (by decide)]; exact up1_s, fun j hj => by cases hj; omega, fun c hc => p10 c hc, fun c hc => ?_, p12, fun j h1 h2 => p13 j (by omega) h2, fun c hc => p14 c hc⟩
      obtain ⟨c1, c2, c3⟩ := p11 c hc
      refine ⟨?_, c2, fun p hp => c3 p hp⟩
      by_cases e : c = 6 + nm
      · subst e; rw [up2_s, p13 (6 + nm) (by omega) (by omega)]
      · rw [up2_o e]; exact c1
    · exact ⟨hi.1, by rw [up1_n (by decide), up1_n (by decide), up1_n (by decide)]; exact hi.2.1, by rw [up1_n (by decide), up1_n (by decide), up1_n (by decide)]; exact hi.2.2.1, hi.2.2.2.1, hi.2.2.2.2⟩
set_option maxHeartbeats 4000000 in
theorem call_add {x y : Int32} (hs : bS b1) (hr : Rel N J P F A L) : Ans b1 nx1 b2 nx2 N J P F A L 70 [.ref 3, .int x, .int y] 90 [.ref 149, .int x, .int y] [1, 0] KI := by
  obtain ⟨nb, nm, lt, sz, op, ai, kd, mg, hP, h⟩ := hr
  obtain ⟨n, n1, n2, n3, n4, n5, n6⟩ := Rel.num h
  have hP' := hP
  obtain ⟨p1, p2, p3, p4, p5, p6, p7, p8, p9, p10, p11, p12, p13, p14⟩ := hP'
  have fF : ∀ z q, q ≠ 0 → up1 F 0 z q = F q := fun z q hq => up1_n hq
  cases hw : wi x 19 with
  | false =>
    refine ⟨N, J, P, _, A, L, Rel.F0 hP h (fF _), Or.inr ⟨0, 1, _, rfl, ⟨_, rfl⟩, kl_add_bad hs hw, cl_add_bad (by rw [wi_le (by omega)]; exact hw) p8 (fun j hj => by have := p9 j hj; omega) (fun j hj => ⟨(p11 j hj).1, (p11 j hj).2.1⟩), up1_s⟩⟩
  | true =>
    obtain ⟨o, ho, rfl⟩ := (wi_z (by decide)).mp hw
    by_cases hq : 0 < n ∨ lt = none ∨ ∃ j, lt = some j ∧ sz j = cap j
    · refine ⟨N, J, P, _, A, L, Rel.F0 hP h (fF _), Or.inr ⟨1, 0, _, rfl, ⟨_, rfl⟩, kl_add_no hs hw n2 n1 ?_, cl_add_no (sz := sz) ho p8 (fun j hj => ?_), up1_s⟩⟩
      · rcases hq with q | q | ⟨j, q1, q2⟩
        · exact Or.inl q
        · exact Or.inr (Or.inl (by rw [p7]; exact q))
        · have hj8 : j < 8 := by have := p9 j q1; omega
          exact Or.inr (Or.inr ⟨j, hj8, by rw [p7]; exact q1, by rw [(p10 j hj8).1, q2]⟩)
      · have hj8 : j < 8 := by have := p9 j hj; omega
        refine ⟨hj8, (p11 j hj8).1, (p11 j hj8).2.1, ?_⟩
        rcases hq with q | q | ⟨j', q1, q2⟩
        · exact Or.inl (by rw [n4]; simp [q, bI])
        · rw [q] at hj; cases hj
        · rw [q1] at hj; cases hj
          exact Or.inr q2
    · have hn0 : n = 0 := by omega
      subst hn0
      have hi := n5 rfl
      have hlt : ∃ j, lt = some j := by
        cases hl : lt with
        | none => exact absurd (Or.inr (Or.inl hl)) hq
        | some j => exact ⟨j, rfl⟩
      obtain ⟨j, hj⟩ := hlt
      have hj9 := p9 j hj
      have hj8 : j < 8 := by omega
      obtain ⟨c1, c2, c3⟩ := p10 j hj8
      have hne : sz j ≠ cap j := fun q => hq (Or.inr (Or.inr ⟨j, hj, q⟩))
      have hlt : sz j < cap j := by omega
      have hcap := cap_le j
      refine ⟨_, J, P, _, _, L, ⟨nb, nm, lt, fun c => if c = j then sz j + 1 else sz c, fun c p => if c = j ∧ p = sz j then o else op c p, fun c p => if c = j ∧ p = sz j then y else ai c p, kd, mg, ?_, Or.inl ?_⟩, Or.inl ⟨_, ⟨_, rfl⟩, kl_add hs hw n2 hj8 (by rw [p7]; exact hj) c1 hlt, cl_add_ok ho (by rw [p8, hj]; rfl) hj8 (p11 j hj8).1 hlt hi.2.2.1, up1_s⟩⟩
      · refine ⟨p1, p2, p3, by rw [fF _ 1 (by decide)]; exact p4, p5, by rw [fF _ 2 (by decide)]; exact p6, p7, by rw [fF _ 3 (by decide)]; exact p8, p9, fun c hc => ?_, fun c hc => ?_, fun i h1 h2 => ?_, fun i h1 h2 => ?_, fun c hc => p14 c hc⟩
        · obtain ⟨d1, d2, d3⟩ := p10 c hc
          by_cases e : c = j
          · subst e
            dsimp only
            rw [if_pos rfl]
            refine ⟨up3_s, by omega, fun p hp => ?_⟩
            have k3 : up3 (up3 (up3 N 3 c (sz c) (nI o)) 4 c (sz c) y) 2 c 0 (nI (sz c + 1)) 3 c = up3 N 3 c (sz c) (nI o) 3 c := by rw [up3_k (by decide), up3_k (by decide)]
            have k4 : up3 (up3 (up3 N 3 c (sz c) (nI o)) 4 c (sz c) y) 2 c 0 (nI (sz c + 1)) 4 c = up3 (up3 N 3 c (sz c) (nI o)) 4 c (sz c) y 4 c := by rw [up3_k (by decide)]
            rw [k3, k4]
            by_cases ep : p = sz c
            · subst ep
              rw [if_pos ⟨rfl, rfl⟩, if_pos ⟨rfl, rfl⟩, up3_s, up3_s]
              exact ⟨rfl, ho, rfl⟩
            · rw [if_neg (fun z => ep z.2), if_neg (fun z => ep z.2), up3_p ep, up3_p ep, up3_k (by decide)]
              exact d3 p (by omega)
          · dsimp only
            rw [if_neg e, up3_n e, up3_k (show 3 ≠ 2 by decide), up3_k (show 3 ≠ 4 by decide), up3_n e, up3_k (show 4 ≠ 2 by decide), up3_n e, up3_k (show 2 ≠ 4 by decide), up3_k (show 2 ≠ 3 by decide), up3_k (show 4 ≠ 3 by decide)]
            refine ⟨d1, d2, fun p hp => ?_⟩
            rw [if_neg (fun z => e z.1), if_neg (fun z => e z.1)]
            exact d3 p hp
        · obtain ⟨d1, d2, d3⟩ := p11 c hc
          by_cases e : c = j
          · subst e
            dsimp only
            rw [if_pos rfl]
            refine ⟨up2_s, by omega, fun p hp => ?_⟩
            rw [up2_n (show 5 ≠ 4 by decide), up2_n (show 5 ≠ 6 by decide), up2_n (show 6 ≠ 4 by decide)]
            by_cases ep : p = sz c
            · subst ep
              rw [if_pos ⟨rfl, rfl⟩, if_pos ⟨rfl, rfl⟩, up2_s, up2_s]
              exact ⟨rfl, ho, rfl⟩
            · rw [if_neg (fun z => ep z.2), if_neg (fun z => ep z.2), up2_o (by omega), up2_o (by omega), up2_n (by decide)]
              exact d3 p (by omega)
          · dsimp only
            rw [if_neg e, up2_o e, up2_n (show 5 ≠ 4 by decide), up2_n (show 5 ≠ 6 by decide), up2_n (show 6 ≠ 4 by decide), up2_n (show 4 ≠ 6 by decide), up2_n (show 4 ≠ 5 by decide)]
            refine ⟨d1, d2, fun p hp => ?_⟩
            have hcj := cap_le c
            have d2c := (p10 c hc).2.1
            rw [if_neg (fun z => e z.1), if_neg (fun z => e z.1), up2_o (by omega), up2_o (by omega), up2_n (by decide)]
            exact d3 p hp
        · dsimp only
          rw [if_neg (by omega)]
          exact p12 i h1 h2
        · dsimp only
          rw [if_neg (by omega)]
          exact p13 i h1 h2
      · exact ⟨hi.1, by rw [fF _ 11 (by decide)]; exact hi.2.1, by rw [fF _ 9 (by decide)]; exact hi.2.2.1, hi.2.2.2.1, hi.2.2.2.2⟩
theorem call_cell {x y z : Int32} (hr : Rel N J P F A L) : Ans b1 nx1 b2 nx2 N J P F A L 72 [.ref 3, .int x, .int y, .int z] 91 [.ref 149, .int x, .int y, .int z] [1, 0] KV := by
  obtain ⟨nb, nm, lt, sz, op, ai, kd, mg, hP, h⟩ := hr
  obtain ⟨n, n1, n2, n3, n4, n5, n6⟩ := Rel.num h
  have hP' := hP
  obtain ⟨p1, p2, p3, p4, p5, p6, p7, p8, p9, p10, p11, p12, p13, p14⟩ := hP'
  have fF : ∀ z q, q ≠ 0 → up1 F 0 z q = F q := fun z q hq => up1_n hq
  cases hw : (wi x 12 && (wi y 4 && wi z 2)) with
  | false =>
    refine ⟨N, J, P, _, A, L, Rel.F0 hP h (fF _), Or.inr ⟨0, 1, _, rfl, rfl, kl_cell_bad hw, cl_cell_bad (by rw [wi_le (by omega), wi_le (by omega), wi_le (by omega), Bool.and_assoc]; exact hw), up1_s⟩⟩
  | true =>
    simp only [Bool.and_eq_true] at hw
    obtain ⟨w1, w2, w3⟩ := hw
    obtain ⟨x, hx, rfl⟩ := (wi_z (by decide)).mp w1
    obtain ⟨y, hy, rfl⟩ := (wi_z (by decide)).mp w2
    obtain ⟨z, hz, rfl⟩ := (wi_z (by decide)).mp w3
    by_cases h0 : 0 < n
    · exact ⟨N, J, P, _, A, L, Rel.F0 hP h (fF _), Or.inr ⟨1, 0, _, rfl, rfl, kl_cell_run w1 w2 w3 n2 n1 h0, cl_cell_run hx hy hz (by rw [n4]; simp [h0, bI]), up1_s⟩⟩
    · have hn0 : n = 0 := by omega
      subst hn0
      have hi := n5 rfl
      refine ⟨_, J, P, _, _, L, ⟨nb, nm, lt, sz, op, ai, fun c => if c = x then y else kd c, fun c => if c = x then z else mg c, ?_, Or.inl ?_⟩, Or.inl ⟨_, rfl, kl_cell hx w1 w2 w3 n2, cl_cell_ok hx hy hz hi.2.2.1, up1_s⟩⟩
      · refine ⟨p1, p2, p3, by rw [fF _ 1 (by decide)]; exact p4, p5, by rw [fF _ 2 (by decide)]; exact p6, p7, by rw [fF _ 3 (by decide)]; exact p8, p9, fun c hc => p10 c hc, fun c hc => p11 c hc, p12, p13, fun c hc => ?_⟩
        obtain ⟨c1, c2, c3, c4, c5, c6⟩ := p14 c hc
        dsimp only
        by_cases e : c = x
        · subst e
          rw [if_pos rfl, if_pos rfl]
          exact ⟨by rw [up3_k (by decide)]; exact up3_s, by rw [up2_n (by decide)]; exact up2_s, hy, up3_s, up2_s, hz⟩
        · rw [if_neg e, if_neg e]
          exact ⟨by rw [up3_k (by decide), up3_p e]; exact c1, by rw [up2_n (by decide), up2_o e]; exact c2, c3, by rw [up3_p e, up3_k (by decide)]; exact c4, by rw [up2_o e, up2_n (by decide)]; exact c5, c6⟩
      · exact ⟨hi.1, by rw [fF _ 11 (by decide)]; exact hi.2.1, by rw [fF _ 9 (by decide)]; exact hi.2.2.1, hi.2.2.2.1, hi.2.2.2.2⟩
theorem call_reset (hr : Rel N J P F A L) : Ans b1 nx1 b2 nx2 N J P F A L 75 [.ref 3] 102 [.ref 149] [] KV := by
  obtain ⟨nb, nm, lt, sz, op, ai, kd, mg, hP, h⟩ := hr
  refine ⟨fgN N, J, P, _, A, L, ⟨nb, nm, lt, sz, op, ai, kd, mg, hP.cg (fun q i hq => ?_) rfl ⟨?_, ?_, ?_⟩ (fun _ _ _ => rfl), Or.inl ⟨rfl, up1_s, ?_, rfl, rfl⟩⟩, Or.inl ⟨none, rfl, kl_reset, cl_reset, ?_⟩⟩
  · unfold fgN
    rw [up3_k (by omega), up3_k (by omega), up3_k (by omega), up3_k (by omega)]
  · rw [up1_n (by decide), up1_n (by decide), up1_n (by decide)]
  · rw [up1_n (by decide), up1_n (by decide), up1_n (by decide)]
  · rw [up1_n (by decide), up1_n (by decide), up1_n (by decide)]
  · rw [up1_n (by decide)]; exact up1_s
  · rw [up1_n (by decide), up1_n (by decide)]; exact up1_s
theorem call_tasks (hr : Rel N J P F A L) : Ans b1 nx1 b2 nx2 N J P F A L 79 [.ref 3] 131 [.ref 149] [] KI := by
  obtain ⟨nb, nm, lt, sz, op, ai, kd, mg, hP, h⟩ := hr
  obtain ⟨n, n1, n2, n3, n4, n5, n6⟩ := Rel.num h
  refine ⟨N, J, P, _, A, L, Rel.F0 hP h (fun q hq => up1_n hq), Or.inl ⟨_, ⟨_, rfl⟩, kl_tasks, ?_, up1_s⟩⟩
  rw [n2]
  exact cl_tasks n3 n1 n4
end RL
