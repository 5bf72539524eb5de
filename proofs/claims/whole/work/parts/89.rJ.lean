/-! one step of any task; waiting; the loops of step and run -/
section RJ
variable {N N' : cN} {J J' : cJ} {P P' : cP} {F F' : Nat → Int32} {A A' : Nat → Nat → Int32} {L L' : Nat → Nat → Int64} {nb nm : Nat} {lt : Option Nat} {sz : Nat → Nat} {op : Nat → Nat → Nat} {ai : Nat → Nat → Int32} {kd mg : Nat → Nat} {b1 b2 : Nat → Option va_E} {nx1 nx2 : Option Nat}
theorem one_all {n k t : Nat} {φ : Nat → Nat} (hP : RelP N P F A nb nm lt sz op ai kd mg) (hR : RelR N J P F A L nb nm sz op ai kd mg n k φ) (ht : t < n) (h16 : N 16 t 0 = nI 0) : One b1 nx1 b2 nx2 N J P F A L nb nm lt sz op ai kd mg n k t := by
  by_cases hk : k = 2000
  · subst hk
    exact one_four hP hR ht h16
  · have hk : k < 2000 := by have := hR.2.2.2.2.2.2.2.1; omega
    obtain ⟨blk, pl, h, hf, -, hb, hp, hsz, h1, h6, ho, hfat, e3, e4, e5, e6, hg, hok⟩ := RelR.at hP hR ht h16
    rcases (show op blk pl = 0 ∨ op blk pl = 1 ∨ op blk pl = 2 ∨ op blk pl = 3 ∨ op blk pl = 4 ∨ (5 ≤ op blk pl ∧ op blk pl ≤ 10) ∨ op blk pl = 11 ∨ op blk pl = 12 ∨ op blk pl = 13 ∨ op blk pl = 14 ∨ op blk pl = 15 ∨ op blk pl = 16 ∨ op blk pl = 17 ∨ op blk pl = 18 by omega) with q | q | q | q | q | q | q | q | q | q | q | q | q | q
    · exact one_push hP hR ht h16 hk hf hb hp hsz h1 h6 hfat e3 e4 e5 e6 hg hok q
    · exact one_load hP hR ht h16 hk hf hb hp hsz h1 h6 hfat e3 e4 e5 e6 hg hok q
    · exact one_store hP hR ht h16 hk hf hb hp hsz h1 h6 hfat e3 e4 e5 e6 hg hok q
    · exact one_read hP hR ht h16 hk hf hb hp hsz h1 h6 hfat e3 e4 e5 e6 hg hok q
    · exact one_write hP hR ht h16 hk hf hb hp hsz h1 h6 hfat e3 e4 e5 e6 hg hok q
    · exact one_bin hP hR ht h16 hk hf hb hp hsz h1 h6 hfat e3 e4 e5 e6 hg hok q
    · exact one_jump hP hR ht h16 hk hf hb hp hsz h1 h6 hfat e3 e4 e5 e6 hg hok q
    · exact one_zero hP hR ht h16 hk hf hb hp hsz h1 h6 hfat e3 e4 e5 e6 hg hok q
    · exact one_fork hP hR ht h16 hk hf hb hp hsz h1 h6 hfat e3 e4 e5 e6 hg hok q
    · exact one_join hP hR ht h16 hk hf hb hp hsz h1 h6 hfat e3 e5 q (one_bring hP hR ht h16 hk hf hb hp hsz h1 h6 hfat e3 e5 hg q)
    · exact one_print hP hR ht h16 hk hf hb hp hsz h1 h6 hfat e3 e4 e5 e6 hg hok q
    · exact one_end hP hR ht h16 hk hf hb hp hsz h1 h6 hfat e3 e4 e5 e6 hg hok q
    · exact one_dup hP hR ht h16 hk hf hb hp hsz h1 h6 hfat e3 e4 e5 e6 hg hok q
    · exact one_pop hP hR ht h16 hk hf hb hp hsz h1 h6 hfat e3 e4 e5 e6 hg hok q
/-- does a task wait -/
theorem both_waits {n k t : Nat} {φ : Nat → Nat} (hP : RelP N P F A nb nm lt sz op ai kd mg) (hR : RelR N J P F A L nb nm sz op ai kd mg n k φ) (ht : t < n) (h16 : N 16 t 0 = nI 0) : ∃ w, (∀ (b : Nat → Option va_E) (nx : Option Nat), Cl 53 [.ref 36, .ref (43 + 5 * t)] (cpic b N J P) nx = some ((cpic b N J P, nx, 0, 0), .inl (some (.int (bI w))))) ∧ (∀ (b : Nat → Option va_E) (nx : Option Nat), Cl 116 [.ref 149, .int (nI t)] (mpic b F A L) nx = some ((mpic b F A L, nx, 0, 0), .inl (some (.int (bI w))))) ∧ (w = true → ∃ x, t < x ∧ x < n ∧ N 16 x 0 = nI 0) := by
  obtain ⟨blk, pl, h, hf, -, hb, hp, hsz, h1, h6, ho, hfat, e3, e4, e5, e6, hg, hok⟩ := RelR.at hP hR ht h16
  obtain ⟨f1, f2, f3, f4, f5, f6, f7, f8, f9, f10⟩ := hf
  have hn := hR.2.1
  have h0 := hR.1
  have h11 := hR.2.2.2.1
  have hF11 := hR.2.2.2.2.1
  have ht12 : t < 12 := by omega
  by_cases h14 : op blk pl = 14
  · rw [h14] at e3 e5 h1
    obtain ⟨d, rfl⟩ : ∃ d, h = d + 1 := ⟨h - 1, by have : tkN 14 = 1 := rfl; omega⟩
    have ev : L 22 (8 * t + d) = J 0 t d := (f9 d (by omega)).symm
    rcases ttj_or (N1 := N) hR ht f6 h11 (by omega) with ⟨q1, q2⟩ | ⟨x, l, x1, x2, x3, x4, q1, q2⟩
    · refine ⟨false, fun b nx => ?_, fun b nx => ?_, fun q => by cases q⟩
      · exact kl_waits ht12 hfat e3 (kl_hind_n (q1 b nx))
      · rcases q2 with q2 | ⟨x, l, e, y1, y2, y3, y4, y5⟩
        · exact cl_waits_out ht12 (by omega) (by omega) f2 f5 e5 (show d < 8 by omega) f7 hF11 hn h0 (by rw [ev]; exact q2)
        · have q := cl_waits_in (b := b) (F := F) (L := L) (nx := nx) ht12 (show blk < 8 by omega) (show pl < 24 by omega) f2 f5 e5 (show d < 8 by omega) f7 hF11 hn y1 (by rw [ev]; exact y2) (hR.tk y1).2.2.2.2.1 y3 y4
          have : (decide (e = some t) && decide (A 16 x = nI 0)) = false := by simp [y5]
          rw [this] at q
          exact q
    · obtain ⟨⟨st, a1, a2, a3, a4, a5, a6⟩, ⟨no, b1', b2', b3', b4'⟩, c1, c2, c3, c4, c5, c6, c7⟩ := hR.tk x2
      obtain ⟨-, ⟨nt, d1, d2, d3, d4⟩, -⟩ := hR.tk ht
      have hx12 : x < 12 := by omega
      have hw : decide (hdr N t x nt no = -1) = decide (N 16 x 0 = nI 0) := by
        unfold hdr
        rw [a1]
        rcases (show st = 0 ∨ st = 1 ∨ st = 2 ∨ st = 3 by omega) with rfl | rfl | rfl | rfl
        · rw [if_neg (by decide), if_pos rfl]
          decide
        · rw [if_neg (by decide), if_neg (by decide), if_neg (by decide)]
          split <;> decide
        · obtain ⟨c, cc1, cc2, cc3⟩ := a5 rfl
          rw [if_neg (by decide), if_neg (by decide), if_pos rfl, cc3]
          have : ¬ nI c = -1 := fun z => (nI_m1 (by omega)).mp z
          simp [this]
          decide
        · rw [if_pos rfl]
          decide
      refine ⟨decide (N 16 x 0 = nI 0), fun b nx => ?_, fun b nx => ?_, fun q => ⟨x, x3, x2, of_decide_eq_true q⟩⟩
      · rw [← hw]
        exact kl_waits ht12 hfat e3 (kl_hind ht12 hx12 a1 a3 d1 b1' d3 b3' (q1 b nx))
      · have q := cl_waits_in (b := b) (F := F) (L := L) (nx := nx) ht12 (show blk < 8 by omega) (show pl < 24 by omega) f2 f5 e5 (show d < 8 by omega) f7 hF11 hn x2 (by rw [ev]; exact x4) c3 q2 (fun z hz => by cases hz; exact ht12)
        have : (decide (some t = some t) && decide (A 16 x = nI 0)) = decide (N 16 x 0 = nI 0) := by rw [a1, a2]; simp
        rw [this] at q
        exact q
  · refine ⟨false, fun b nx => kl_waits_no ht12 hfat ?_, fun b nx => cl_waits_no ht12 (by omega) (by omega) f2 f5 ?_, fun q => by cases q⟩
    · rw [e3]
      exact fun z => h14 ((nI_eq (by omega) (by decide)).mp z)
    · rw [e5]
      exact fun z => h14 ((nI_eq (by omega) (by decide)).mp z)
theorem RelR.st16 {n k t : Nat} {φ : Nat → Nat} (hR : RelR N J P F A L nb nm sz op ai kd mg n k φ) (ht : t < n) : A 16 t = N 16 t 0 := by
  obtain ⟨⟨st, c1, c2, -⟩, -⟩ := hR.tk ht
  rw [c1, c2]
theorem RelR.p7 {n k : Nat} {φ : Nat → Nat} (hR : RelR N J P F A L nb nm sz op ai kd mg n k φ) (h : fr7 P P') : RelR N J P' F A L nb nm sz op ai kd mg n k φ := by
  obtain ⟨a1, a2, a3, a4, a5, a6, a7, a8, a9, a10, a11, a13, a14⟩ := hR
  exact ⟨a1, a2, a3, a4, a5, a6, a7, a8, a9, a10, a11, fun t ht => (a13 t ht).cg a3.2.1 (fun _ _ _ => rfl) (fun _ _ => rfl) ⟨h 1 t (by decide), h 2 t (by decide), h 5 t (by decide)⟩ (fun _ _ _ => rfl) sL.refl, a14.cg (fun _ => rfl) (fun _ => rfl) (fun _ => rfl) (fun q i hq => h q i (by omega)) (fun _ _ _ => rfl) rfl (fun _ _ q => q)⟩
theorem RelP.p7 (hP : RelP N P F A nb nm lt sz op ai kd mg) (h : fr7 P P') : RelP N P' F A nb nm lt sz op ai kd mg := hP.cg (fun _ _ _ => rfl) (h 0 0 (by decide)) ⟨rfl, rfl, rfl⟩ (fun _ _ _ => rfl)
/-- the loop of step -/
theorem step_loop {t m : Nat} (hm : m ≤ 200) : ∀ (j c : Nat), c + j = m → ∀ (N : cN) (J : cJ) (P : cP) (F : Nat → Int32) (A : Nat → Nat → Int32) (L : Nat → Nat → Int64) (n k : Nat) (φ : Nat → Nat) (c5 : Option Value), t < n → RelP N P F A nb nm lt sz op ai kd mg → RelR N J P F A L nb nm sz op ai kd mg n k φ →
    ∃ c' N' J' P' F' A' L' n' k' φ', RelP N' P' F' A' nb nm lt sz op ai kd mg ∧ RelR N' J' P' F' A' L' nb nm sz op ai kd mg n' k' φ' ∧ F' 0 = F 0 ∧ Ev 76 56 [some (.ref 3), some (.int (nI t)), some (.int (nI m)), some (.ref (43 + 5 * t)), some (.int (nI c)), c5] [] (cpic b1 N J P, nx1, 0, 0) ((cpic b1 N' J' P', nx1, 0, 0), .inl (some (.int (nI c')))) ∧ Ev 124 61 [some (.ref 149), some (.int (nI t)), some (.int (nI m)), some (.int (nI c)), some (.int (bI true))] [] (mpic b2 F A L, nx2, 0, 0) ((mpic b2 F' A' L', nx2, 0, 0), .inl (some (.int (nI c')))) := by
  intro j
  induction j with
  | zero =>
    intro c hc N J P F A L n k φ c5 ht hP hR
    have hn := hR.2.1
    exact ⟨c, N, J, P, F, A, L, n, k, φ, hP, hR, rfl, kv_step_end (by omega) hm (by omega) (Or.inl (by omega)), ev_step_end (by omega) (by omega) (by omega) (Or.inr (Or.inl (by omega)))⟩
  | succ j ih =>
    intro c hc N J P F A L n k φ c5 ht hP hR
    have hn := hR.2.1
    by_cases h16 : N 16 t 0 = nI 0
    · obtain ⟨w, w1, w2, -⟩ := both_waits hP hR ht h16
      obtain ⟨g, N1, J1, P1, F1, A1, L1, n1, k1, φ1, o1, o2, o3, o4, o5, o6, o7, o8⟩ := one_all (b1 := b1) (nx1 := nx1) (b2 := b2) (nx2 := nx2) hP hR ht h16
      have hA16 : A 16 t = nI 0 := by rw [hR.st16 ht]; exact h16
      have go := fun r => ev_step_go (r := r) (show t < 12 by omega) (show m < 2 ^ 31 by omega) (show c < m by omega) hA16 (w2 b2 nx2) o2
      cases g with
      | true =>
        cases w with
        | false =>
          obtain ⟨c', N', J', P', F', A', L', n', k', φ', i1, i2, i3, i4, i5⟩ := ih (c + 1) (by omega) N1 J1 P1 F1 A1 L1 n1 k1 φ1 (some (.int (nI 0))) (by omega) o4 o5
          exact ⟨c', N', J', P', F', A', L', n', k', φ', i1, i2, i3.trans o3, kv_step_go (by omega) hm (by omega) h16 (w1 b1 nx1) o1 (Or.inl ⟨rfl, rfl, i4⟩), (go _).mpr i5⟩
        | true =>
          refine ⟨c + 1, N1, J1, P1, F1, A1, L1, n1, k1, φ1, o4, o5, o3, kv_step_go (by omega) hm (by omega) h16 (w1 b1 nx1) o1 (Or.inr ⟨Or.inr rfl, rfl⟩), (go _).mpr ?_⟩
          rw [if_pos rfl]
          exact ev_step_end (by omega) (by omega) (by omega) (Or.inl rfl)
      | false =>
        obtain ⟨q1, q2, q3, q4, q5⟩ := o8 rfl
        refine ⟨c, N1, J1, P1, F1, A1, L1, n1, k1, φ1, o4, o5, o3, kv_step_go (by omega) hm (by omega) h16 (w1 b1 nx1) o1 (Or.inr ⟨Or.inl rfl, rfl⟩), (go _).mpr ?_⟩
        rw [if_neg (by decide), Nat.add_zero]
        refine ev_step_end (by omega) (by omega) (by omega) (Or.inr (Or.inr ?_))
        rw [o5.st16 (by omega), q4]
        decide
    · refine ⟨c, N, J, P, F, A, L, n, k, φ, hP, hR, rfl, kv_step_end (by omega) hm (by omega) (Or.inr h16), ev_step_end (by omega) (by omega) (by omega) (Or.inr (Or.inr ?_))⟩
      rw [hR.st16 ht]
      exact h16
/-- counting -/
theorem rdN_lt {f f' : Nat → Bool} {t0 : Nat} (h1 : f t0 = true) (h2 : f' t0 = false) (h3 : ∀ t, t ≠ t0 → f' t = f t) : ∀ n, t0 < n → rdN f' n < rdN f n := by
  have eqb : ∀ n, n ≤ t0 → rdN f' n = rdN f n := by
    intro n
    induction n with
    | zero => intro _; rfl
    | succ n ih => intro h; rw [rdN_s, rdN_s, ih (by omega), h3 n (by omega)]
  intro n
  induction n with
  | zero => intro h; omega
  | succ n ih =>
    intro h
    rw [rdN_s, rdN_s]
    by_cases e : n = t0
    · subst e
      rw [h1, h2, eqb n (Nat.le_refl _)]
      simp
    · rw [h3 n e]
      have := ih (by omega)
      split <;> omega
theorem rdN_cg {f f' : Nat → Bool} : ∀ n, (∀ t, t < n → f' t = f t) → rdN f' n = rdN f n := by
  intro n
  induction n with
  | zero => intro _; rfl
  | succ n ih => intro h; rw [rdN_s, rdN_s, ih (fun t ht => h t (by omega)), h n (by omega)]
/-- the one at place p among those -/
theorem rdN_pick {f : Nat → Bool} : ∀ n p, p < rdN f n → ∃ t, t < n ∧ f t = true ∧ rdN f t = p := by
  intro n
  induction n with
  | zero => intro p h; exact absurd h (Nat.not_lt_zero _)
  | succ n ih =>
    intro p h
    rw [rdN_s] at h
    by_cases hp : p < rdN f n
    · obtain ⟨t, t1, t2, t3⟩ := ih p hp
      exact ⟨t, by omega, t2, t3⟩
    · by_cases hf : f n = true
      · rw [if_pos hf] at h
        exact ⟨n, by omega, hf, by omega⟩
      · rw [if_neg hf] at h
        omega
theorem rhi_nI {z : Int32} : ∃ m, m < 2 ^ 31 ∧ rhi z = nI m := by
  have hb : (rhi z).toBitVec.toNat < 2 ^ 16 := by
    unfold rhi
    have e : (((rnd z).toUInt32 >>> ((nI 16).toUInt32 &&& Int32.toUInt32 31)).toInt32).toBitVec.toNat = (rnd z).toBitVec.toNat >>> 16 := by
      have e2 : (nI 16).toUInt32 &&& Int32.toUInt32 31 = 16 := by decide
      rw [e2]
      show ((rnd z).toUInt32 >>> 16).toBitVec.toNat = _
      simp [UInt32.toBitVec_shiftRight]
    rw [e, Nat.shiftRight_eq_div_pow]
    have := (rnd z).toBitVec.isLt
    omega
  refine ⟨(rhi z).toBitVec.toNat, by omega, ?_⟩
  apply Int32.toBitVec_inj.mp
  apply BitVec.eq_of_toNat_eq
  rw [pk_tn (by omega)]
end RJ
