/-! the loop of run -/
section RK
variable {N N' : cN} {J J' : cJ} {P P' : cP} {F F' : Nat → Int32} {A A' : Nat → Nat → Int32} {L L' : Nat → Nat → Int64} {nb nm : Nat} {lt : Option Nat} {sz : Nat → Nat} {op : Nat → Nat → Nat} {ai : Nat → Nat → Int32} {kd mg : Nat → Nat} {b1 b2 : Nat → Option va_E} {nx1 nx2 : Option Nat}
theorem rdN_lt' {f f' : Nat → Bool} {t0 n : Nat} (ht : t0 < n) (h1 : f t0 = true) (h2 : f' t0 = false) (h3 : ∀ t, t < n → t ≠ t0 → f' t = f t) : rdN f' n < rdN f n := by
  have e : rdN f' n = rdN (fun t => if t < n then f' t else f t) n := rdN_cg n (fun t q => by rw [if_pos q])
  rw [e]
  refine rdN_lt h1 (by rw [if_pos ht]; exact h2) (fun t q => ?_) n ht
  by_cases htn : t < n
  · rw [if_pos htn]; exact h3 t htn q
  · rw [if_neg htn]
def rnB (N : cN) (t : Nat) : Bool := decide (N 16 t 0 = nI 0)
def meas (N : cN) (n k : Nat) : Nat := if k < 2000 then 2000 - k + 12 else rdN (rnB N) n
theorem bI_inj {a c : Bool} (h : bI a = bI c) : a = c := by
  cases a <;> cases c <;> first | rfl | exact absurd h (by decide)
set_option maxHeartbeats 4000000 in
theorem run_loop {x y : Int32} : ∀ (M : Nat) (N : cN) (J : cJ) (P : cP) (F : Nat → Int32) (A : Nat → Nat → Int32) (L : Nat → Nat → Int64) (n k : Nat) (φ : Nat → Nat) (zc zr : Int32) (j : Nat) (c5 c6 : Option Value), meas N n k ≤ M → j + M ≤ 2012 → (x ≠ nI 0 → zc = zr) → RelP N P F A nb nm lt sz op ai kd mg → RelR N J P F A L nb nm sz op ai kd mg n k φ →
    ∃ N' J' P' F' A' L' n' k' φ', RelP N' P' F' A' nb nm lt sz op ai kd mg ∧ RelR N' J' P' F' A' L' nb nm sz op ai kd mg n' k' φ' ∧ F' 0 = F 0 ∧ Ev 77 33 [some (.ref 3), some (.int x), some (.int y), some (.int zc), some (.int (nI j)), c5, c6] [] (cpic b1 N J P, nx1, 0, 0) ((cpic b1 N' J' P', nx1, 0, 0), .inl (some (.int (N' 13 0 0 - y)))) ∧ Ev 128 32 [some (.ref 149), some (.int x), some (.int y), some (.int zr)] [] (mpic b2 F A L, nx2, 0, 0) ((mpic b2 F' A' L', nx2, 0, 0), .inl (some (.int (F' 12 - y)))) := by
  intro M
  induction M with
  | zero =>
    intro N J P F A L n k φ zc zr j c5 c6 hme hj hz hP hR
    have h0 : N 16 0 0 ≠ nI 0 := by
      intro q
      unfold meas at hme
      split at hme
      · omega
      · have hm := rdN_mono (f := rnB N) (j := 1) (n - 1)
        have hn := hR.1
        rw [show 1 + (n - 1) = n by omega, rdN_s, show rnB N 0 = true from decide_eq_true q, if_pos rfl] at hm
        omega
    refine ⟨N, J, P, F, A, L, n, k, φ, hP, hR, rfl, ?_, ev_run_end (by rw [hR.st16 hR.1]; exact h0)⟩
    by_cases hj2 : j = 2012
    · subst hj2; exact kv_run_end2
    · exact kv_run_end (by omega) h0
  | succ M ih =>
    intro N J P F A L n k φ zc zr j c5 c6 hme hj hz hP hR
    have hn := hR.2.1
    by_cases h0 : N 16 0 0 = nI 0
    · have hA0 : A 16 0 = nI 0 := by rw [hR.st16 hR.1]; exact h0
      -- who waits
      have hw : ∀ t, ∃ w, t < n → N 16 t 0 = nI 0 → (∀ (b : Nat → Option va_E) (nx : Option Nat), Cl 116 [.ref 149, .int (nI t)] (mpic b F A L) nx = some ((mpic b F A L, nx, 0, 0), .inl (some (.int (bI w))))) ∧ (w = true → ∃ x, t < x ∧ x < n ∧ N 16 x 0 = nI 0) := by
        intro t
        by_cases ht : t < n
        · by_cases h16 : N 16 t 0 = nI 0
          · obtain ⟨w, -, w2, w3⟩ := both_waits hP hR ht h16
            exact ⟨w, fun _ _ => ⟨w2, w3⟩⟩
          · exact ⟨false, fun _ q => absurd q h16⟩
        · exact ⟨false, fun q => absurd q ht⟩
      obtain ⟨wt, hwt⟩ : ∃ wt : Nat → Bool, ∀ t, t < n → N 16 t 0 = nI 0 → (∀ (b : Nat → Option va_E) (nx : Option Nat), Cl 116 [.ref 149, .int (nI t)] (mpic b F A L) nx = some ((mpic b F A L, nx, 0, 0), .inl (some (.int (bI (wt t)))))) ∧ (wt t = true → ∃ x, t < x ∧ x < n ∧ N 16 x 0 = nI 0) := ⟨fun t => Classical.choose (hw t), fun t => Classical.choose_spec (hw t)⟩
      -- somebody can go on
      have hR1 : 0 < rdN (rnB N) n := by
        have hm := rdN_mono (f := rnB N) (j := 1) (n - 1)
        have hn := hR.1
        rw [show 1 + (n - 1) = n by omega, rdN_s, show rnB N 0 = true from decide_eq_true h0, if_pos rfl] at hm
        omega
      obtain ⟨tm, m1, m2, m3⟩ := rdN_pick (f := rnB N) n (rdN (rnB N) n - 1) (by omega)
      have m16 : N 16 tm 0 = nI 0 := of_decide_eq_true m2
      have mw : wt tm = false := by
        cases hq : wt tm with
        | false => rfl
        | true =>
          obtain ⟨x, x1, x2, x3⟩ := (hwt tm m1 m16).2 hq
          have a1 := rdN_mono (f := rnB N) (j := x + 1) (n - (x + 1))
          rw [show x + 1 + (n - (x + 1)) = n by omega, rdN_s, show rnB N x = true from decide_eq_true x3, if_pos rfl] at a1
          have a2 := rdN_mono (f := rnB N) (j := tm + 1) (x - (tm + 1))
          rw [show tm + 1 + (x - (tm + 1)) = x by omega, rdN_s, m2, if_pos rfl] at a2
          omega
      have hgo : ∃ f : Nat → Bool, f = fun t => rnB N t && !wt t := ⟨_, rfl⟩
      obtain ⟨f, hf⟩ := hgo
      have hRf : 0 < rdN f n := by
        have a1 := rdN_mono (f := f) (j := tm + 1) (n - (tm + 1))
        rw [show tm + 1 + (n - (tm + 1)) = n by omega, rdN_s, show f tm = true by rw [hf]; simp [m2, mw], if_pos rfl] at a1
        omega
      have hRle := rdN_le (f := f) (k := n)
      obtain ⟨P1, r1, r2, r3⟩ := kl_findReady (b := b1) (J := J) (P := P) (nx := nx1) (f := f) hn hR.2.2.2.1 (fun t ht h16 P' hP' => by
        obtain ⟨w, w1, w2, -⟩ := both_waits (hP.p7 hP') (hR.p7 hP') ht h16
        have e : w = wt t := by
          have q1 := w2 b2 nx2
          rw [(hwt t ht h16).1 b2 nx2] at q1
          have q2 := (Prod.mk.inj (Option.some.inj q1)).2
          exact (bI_inj (Value.int.inj (Option.some.inj (Sum.inl.inj q2)))).symm
        refine ⟨w, ?_, w1 b1 nx1⟩
        rw [hf, e]
        simp [rnB, h16]) (fun t ht h16 => by rw [hf]; simp [rnB, h16])
      have hcan : ∀ t, t < n → Cl 126 [.ref 149, .int (nI t)] (mpic b2 F A L) nx2 = some ((mpic b2 F A L, nx2, 0, 0), .inl (some (.int (bI (f t))))) := by
        intro t ht
        have q := cl_canGoOn (b := b2) (F := F) (A := A) (L := L) (nx := nx2) (w := wt t) (show t < 12 by omega) (fun h16 => (hwt t ht (by rw [← hR.st16 ht]; exact h16)).1 b2 nx2)
        rw [hR.st16 ht] at q
        rw [hf]
        exact q
      -- the one picked
      have hpk : ∃ pk, pk < rdN f n ∧ ((x = nI 0 ∧ pk = rdN f n - 1) ∨ (x ≠ nI 0 ∧ ∃ m, m < 2 ^ 31 ∧ rhi zc = nI m ∧ pk = m % rdN f n)) := by
        by_cases hx : x = nI 0
        · exact ⟨rdN f n - 1, by omega, Or.inl ⟨hx, rfl⟩⟩
        · obtain ⟨m, hm, hm2⟩ := rhi_nI (z := zc)
          exact ⟨m % rdN f n, Nat.mod_lt _ hRf, Or.inr ⟨hx, m, hm, hm2, rfl⟩⟩
      obtain ⟨pk, pk1, pk2⟩ := hpk
      obtain ⟨t0, t1, t2, t3⟩ := rdN_pick (f := f) n pk pk1
      have h16 : N 16 t0 0 = nI 0 := by
        rw [hf] at t2
        simp only [Bool.and_eq_true] at t2
        exact of_decide_eq_true t2.1
      obtain ⟨g, N1, J1, P2, F1, A1, L1, n1, k1, φ1, o1, o2, o3, o4, o5, o6, o7, o8⟩ := one_all (b1 := b1) (nx1 := nx1) (b2 := b2) (nx2 := nx2) (hP.p7 r1) (hR.p7 r1) t1 h16
      have hme1 : meas N1 n1 k1 ≤ M := by
        have hn1 := o5.2.1
        have hk1 := o5.2.2.2.2.2.2.2.1
        have hle := rdN_le (f := rnB N1) (k := n1)
        unfold meas at hme ⊢
        cases g with
        | true =>
          have e := o7 rfl
          rw [if_pos (by omega)] at hme
          split <;> omega
        | false =>
          obtain ⟨q1, q2, q3, q4, q5⟩ := o8 rfl
          rw [if_neg (by omega)] at hme ⊢
          rw [q3]
          have := rdN_lt' (f := rnB N) (f' := rnB N1) t1 (decide_eq_true h16) (by unfold rnB; rw [q4]; decide) (fun t ht hne => by unfold rnB; rw [q5 t ht hne])
          omega
      obtain ⟨N', J', P', F', A', L', n', k', φ', i1, i2, i3, i4, i5⟩ := ih N1 J1 P2 F1 A1 L1 n1 k1 φ1 (if x = nI 0 then zc else rnd zc) (rnd zr) (j + 1) (some (.int (nI (rdN f n)))) (some (.int (nI pk))) hme1 (by omega) (fun hx => by rw [if_neg hx, hz hx]) o4 o5
      refine ⟨N', J', P', F', A', L', n', k', φ', i1, i2, i3.trans o3, ?_, ?_⟩
      · exact kv_run_go (by omega) h0 (by omega) hRf r3 (show t0 < 12 by omega) (by rw [← t3]; exact r2 t0 t1 t2) pk1 pk2 o1 i4
      · refine (ev_run_go hA0 ?_ o2).mpr i5
        rcases pk2 with ⟨hx, hp⟩ | ⟨hx, m, hm, hm2, hp⟩
        · rw [show decide (x = nI 0) = true from decide_eq_true hx]
          exact cl_choose_last hn hR.2.2.2.2.1 hcan t1 t2 (by rw [t3, hp])
        · rw [show decide (x = nI 0) = false from decide_eq_false hx, ← hz hx, hm2]
          exact cl_choose_n hn hR.2.2.2.2.1 hcan t1 t2 hm (by rw [t3, hp])
    · refine ⟨N, J, P, F, A, L, n, k, φ, hP, hR, rfl, ?_, ev_run_end (by rw [hR.st16 hR.1]; exact h0)⟩
      by_cases hj2 : j = 2012
      · subst hj2; exact kv_run_end2
      · exact kv_run_end (by omega) h0
end RK
