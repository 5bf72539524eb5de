/-! one step of a task: a join that brings -/
section RI
variable {N N' : cN} {J J' : cJ} {P P' : cP} {F F' : Nat → Int32} {A A' : Nat → Nat → Int32} {L L' : Nat → Nat → Int64} {nb nm : Nat} {lt : Option Nat} {sz : Nat → Nat} {op : Nat → Nat → Nat} {ai : Nat → Nat → Int32} {kd mg : Nat → Nat} {b1 b2 : Nat → Option va_E} {nx1 nx2 : Option Nat}
/-- what a brought cell gets, on both sides -/
theorem RelP.val (hP : RelP N P F A nb nm lt sz op ai kd mg) (hG : Gd nb nm sz op ai kd mg) {c : Nat} (hc : c < 12) (x y z : Int64) : ∃ v, vlC N c x y z v ∧ ∀ (b : Nat → Option va_E) (nx : Option Nat) (F1 : Nat → Int32) (A1 : Nat → Nat → Int32) (L1 : Nat → Nat → Int64), A1 5 = A 5 → A1 6 = A 6 → A1 7 = A 7 → A1 8 = A 8 → ∃ L2, (∀ k, k ≠ 33 → L2 k = L1 k) ∧ Cl 122 [.ref 149, .int (nI c), .long x, .long y, .long z] (mpic b F1 A1 L1) nx = some ((mpic b F1 A1 L2, nx, 0, 0), .inl (some (.long v))) := by
  obtain ⟨h1, h2, h3, h4, h5, h6, h7, h8, h9, h10, h11, h12, h13, h14⟩ := hP
  obtain ⟨k1, k2, k3, k4, k5, k6⟩ := h14 c hc
  by_cases hk : kd c = 3
  · have hm := hG.2.2.2 c hc hk
    have hg := hG.2.2.1 (mg c) hm
    obtain ⟨t1, t2, t3⟩ := h10 (6 + mg c) (by omega)
    obtain ⟨s1, s2, s3⟩ := h11 (6 + mg c) (by omega)
    obtain ⟨v, hv⟩ := mrn_ok hg (x := x) (y := y) (z := z) (sz (6 + mg c)) 0 [] (by omega) Rch.zero
    refine ⟨v, Or.inr ⟨by rw [k1, hk], mg c, sz (6 + mg c), sz (6 + mg c), k6, k4, t1, t2, hg.2.2.2.1, hg.fwd (fun p hp => ⟨(t3 p hp).1, (t3 p hp).2.2⟩), hv _ _ (fun p hp => ⟨(t3 p hp).1, (t3 p hp).2.2⟩)⟩, fun b nx F1 A1 L1 e5 e6 e7 e8 => ?_⟩
    exact cl_together3 hc (by rw [e7, k2, hk]) (by rw [e8]; exact k5) k6 (hv _ _ (fun p hp => ⟨by rw [e5]; exact (s3 p hp).1, by rw [e6]; exact (s3 p hp).2.2⟩))
  · refine ⟨tog (kd c) x y z, Or.inl ⟨kd c, by omega, k1, rfl⟩, fun b nx F1 A1 L1 e5 e6 e7 e8 => ⟨L1, fun _ _ => rfl, cl_together hc (by omega) (by rw [e7]; exact k2)⟩⟩
theorem orL_map {w w' : Nat → Nat} {φ : Nat → Nat} : ∀ (l : List Nat) (m : Nat), (∀ s ∈ l, w s = w' (φ s)) → orL w' (l.map φ) m = orL w l m := by
  intro l
  induction l with
  | nil => intro m _; rfl
  | cons s l ih =>
    intro m h
    rw [List.map_cons]
    unfold orL
    rw [h s List.mem_cons_self]
    exact ih _ (fun x hx => h x (List.mem_cons_of_mem _ hx))
set_option maxHeartbeats 16000000 in
theorem one_bring {n k t : Nat} {φ : Nat → Nat} (hP : RelP N P F A nb nm lt sz op ai kd mg) (hR : RelR N J P F A L nb nm sz op ai kd mg n k φ) (ht : t < n) (h16 : N 16 t 0 = nI 0) (hk : k < 2000) {blk pl h : Nat} (hf : FrT N J P A L nb op ai t blk pl h) (hb : blk < 6) (hp : pl < sz blk) (hsz : sz blk ≤ 24) (h1 : tkN (op blk pl) ≤ h) (h6 : h ≤ 6) (hfat : fat N P t blk (sz blk) pl) (e3 : N 3 blk pl = nI (op blk pl)) (e5 : A 5 (24 * blk + pl) = nI (op blk pl)) (hg : GdC false (op blk) (ai blk) (sz blk) nb) (ho : op blk pl = 14)
    (x : Nat) (l : List Nat) (d nt no : Nat) (hd : h = d + 1) (htx : t < x) (hx : x < n) (hv : J 0 t d = lN x) (hx16 : N 16 x 0 = nI 1) (hnt : N 15 t 0 = nI nt) (hno : N 15 x 0 = nI no) (h30 : nt + no ≤ 30) (hj : jch A (P 1 x) l (some t)) (hq1 : ∀ (b : Nat → Option va_E) (nx : Option Nat), Cl 59 [.ref 36, .ref (43 + 5 * t)] (cpic b (stN N t k) J P) nx = some ((cpic b (stN N t k) J P, nx, 0, 0), .inl (some (.ref (43 + 5 * x))))) (hq2 : ∀ (b : Nat → Option va_E) (nx : Option Nat), Cl 58 [.ref 36, .ref (43 + 5 * t)] (cpic b (stN N t k) J P) nx = some ((cpic b (stN N t k) J P, nx, 0, 0), .inl (some (.int (nI 0))))) : One b1 nx1 b2 nx2 N J P F A L nb nm lt sz op ai kd mg n k t := by
  subst hd
  have hf' := hf
  obtain ⟨f1, f2, f3, f4, f5, f6, f7, f8, f9, f10⟩ := hf'
  have hR' := hR
  obtain ⟨a1, a2, a3, a4, a5, a6, a7, a8, a9, a10, ⟨br, a11, a12⟩, a13, a14⟩ := hR'
  have on := hg.on f8 (by omega) (by omega)
  rw [ho] at e3 e5 on h1
  have ev : L 22 (8 * t + d) = J 0 t d := (f9 d (by omega)).symm
  have ht12 : t < 12 := by omega
  have hx12 : x < 12 := by omega
  have hm23 := hR.m23
  -- the segments
  obtain ⟨st, s1, s2, s3, -⟩ := a14.2.2.2.2 t ht (by rw [h16]; decide)
  obtain ⟨so, o1, o2, o3, o4⟩ := a14.2.2.2.2 x hx (by rw [hx16]; decide)
  rcases o4 with ⟨q, -⟩ | ⟨sb, p1, p2, p3, lp, p4⟩
  · omega
  obtain ⟨lt', ct1, ct2, ct3, ct4, ct5⟩ := a14.chain s2
  obtain ⟨lo, co1, co2, co3, co4, co5⟩ := a14.chain o2
  obtain ⟨lb, cb1, cb2, cb3, cb4, cb5⟩ := a14.chain p2
  obtain ⟨m1, m2, m3, m4, m5⟩ := a14
  have hM : RelM N J P A L n (2 * n - 1) φ := ⟨m1, m2, m3, m4, m5⟩
  have hst := (gC_of s2).1
  have hso := (gC_of o2).1
  have hsb := (gC_of p2).1
  have xst := hM.lt40 s2
  have xso := hM.lt40 o2
  have xsb := hM.lt40 p2
  obtain ⟨-, ⟨w0, hw0, hw0e⟩, -⟩ := m1 st hst
  obtain ⟨⟨w0', hw0', hw0e'⟩, -⟩ := (m2 (φ st) xst.1).2 xst.2
  -- masks
  have wC : ∀ s, gC N J P (2 * n - 1) s ≠ none → N 21 s 0 = nI (N 21 s 0).toNatClampNeg ∧ (N 21 s 0).toNatClampNeg < 4096 ∧ A 31 (φ s) = nI (A 31 (φ s)).toNatClampNeg ∧ (A 31 (φ s)).toNatClampNeg < 4096 ∧ (N 21 s 0).toNatClampNeg = (A 31 (φ s)).toNatClampNeg := by
    intro s hs
    obtain ⟨q1, q2⟩ := gC_of hs
    have q3 := hM.lt40 hs
    obtain ⟨-, ⟨w, hw, hwe⟩, -⟩ := m1 s q1
    obtain ⟨⟨w', hw', hwe'⟩, -⟩ := (m2 (φ s) q3.1).2 q3.2
    have e1 := m4.1 s _ _ (gC_some q1 q2)
    rw [gR_some q3.1 q3.2] at e1
    have e2 := (Prod.mk.inj (Option.some.inj e1)).1
    rw [hwe, hwe'] at e2
    have e3 := (cw_inj e2 hw' hw).1
    rw [hwe, hwe', nI_clamp (by omega), nI_clamp (by omega)]
    exact ⟨rfl, hw, rfl, hw', e3.symm⟩
  have hlp := pg_live lp so sb p4
  have pC : pth (P 6) (some so) lp (some sb) := pg_pth (fun y w t hy => by
    obtain ⟨q1, q2⟩ := gC_of (N := N) (J := J) (P := P) (m := 2 * n - 1) (s := y) (by rw [hy]; simp)
    rw [gC_some q1 q2] at hy
    exact (Prod.mk.inj (Option.some.inj hy)).2) lp so p4
  have p4R := pg_map m4 p2 lp so p4
  have hlpR := pg_live _ _ _ p4R
  have pR : pth (fun y => dI (A 30 y)) (some (φ so)) (lp.map φ) (some (φ sb)) := pg_pth (fun y w t hy => by
    obtain ⟨q1, q2⟩ := gR_of (A := A) (L := L) (x := y) (by rw [hy]; simp)
    rw [gR_some q1 q2] at hy
    exact (Prod.mk.inj (Option.some.inj hy)).2) _ _ p4R
  have bR : ∀ y, gR A L y ≠ none → y < 40 ∧ A 30 y = oI (dI (A 30 y)) := by
    intro y hy
    obtain ⟨q1, q2⟩ := gR_of hy
    obtain ⟨o, ho', hy'⟩ := ((m2 y q1).2 q2).2
    refine ⟨q1, ?_⟩
    rw [ho', dI_oI (fun z q => by have := hy' z q; omega)]
  have hcm : orL (fun y => (A 31 y).toNatClampNeg) (lp.map φ) 0 = orL (fun s => (N 21 s 0).toNatClampNeg) lp 0 := orL_map lp 0 (fun s hs => (wC s (hlp s hs)).2.2.2.2)
  have hcm4 : orL (fun s => (N 21 s 0).toNatClampNeg) lp 0 < 4096 := orL_lt lp 0 (by decide) (fun s hs => (wC s (hlp s hs)).2.1)
  -- the values
  have hval : ∀ c, ∃ v, c < 12 → vlC N c (rdC N J c lb) (rdC N J c lt') (rdC N J c lo) v ∧ ∀ (b : Nat → Option va_E) (nx : Option Nat) (F1 : Nat → Int32) (A1 : Nat → Nat → Int32) (L1 : Nat → Nat → Int64), A1 5 = A 5 → A1 6 = A 6 → A1 7 = A 7 → A1 8 = A 8 → ∃ L2, (∀ k, k ≠ 33 → L2 k = L1 k) ∧ Cl 122 [.ref 149, .int (nI c), .long (rdC N J c lb), .long (rdC N J c lt'), .long (rdC N J c lo)] (mpic b F1 A1 L1) nx = some ((mpic b F1 A1 L2, nx, 0, 0), .inl (some (.long v))) := by
    intro c
    by_cases hc : c < 12
    · obtain ⟨v, hv⟩ := hP.val a3 hc (rdC N J c lb) (rdC N J c lt') (rdC N J c lo)
      exact ⟨v, fun _ => hv⟩
    · exact ⟨0, fun q => absurd q hc⟩
  obtain ⟨v, hvv⟩ : ∃ v : Nat → Int64, ∀ c, c < 12 → vlC N c (rdC N J c lb) (rdC N J c lt') (rdC N J c lo) (v c) ∧ ∀ (b : Nat → Option va_E) (nx : Option Nat) (F1 : Nat → Int32) (A1 : Nat → Nat → Int32) (L1 : Nat → Nat → Int64), A1 5 = A 5 → A1 6 = A 6 → A1 7 = A 7 → A1 8 = A 8 → ∃ L2, (∀ k, k ≠ 33 → L2 k = L1 k) ∧ Cl 122 [.ref 149, .int (nI c), .long (rdC N J c lb), .long (rdC N J c lt'), .long (rdC N J c lo)] (mpic b F1 A1 L1) nx = some ((mpic b F1 A1 L2, nx, 0, 0), .inl (some (.long (v c)))) :=
    ⟨fun c => Classical.choose (hval c), fun c hc => Classical.choose_spec (hval c) hc⟩
  -- the class brings
  obtain ⟨N1, J1, P1, w1, hbr, hclB⟩ := kl_bringCells (b := b1) (N := stN N t k) (J := J) (P := P) (nx := nx1) (w := fun s => (N 21 s 0).toNatClampNeg) (v := v) (lb := lb) (lt := lt') (lo := lo) (lp := lp) ht12 hx12 (show st < 23 by omega) s1 o1 p1 (by omega) (by omega) hw0e hw0 a11 pC (fun s hs => ⟨by have := (gC_of (hlp s hs)).1; omega, (wC s (hlp s hs)).1, (wC s (hlp s hs)).2.1⟩) cb1 ct1 co1 (fun s hs => by
      rcases hs with q | q | q
      · have := (cb2 s q).1; omega
      · have := (ct2 s q).1; omega
      · have := (co2 s q).1; omega) (fun c hc _ => by
      have rs : ∀ l, rdC (stN N t k) J c l = rdC N J c l := fun l => rdC_congr l (fun x _ => ⟨rfl, fun _ => rfl⟩)
      rw [rs lb, rs lt', rs lo]
      exact (hvv c hc).1)
  -- the reference brings
  obtain ⟨F1, A1, L1, w1', hbrI, hclR⟩ := cl_bring (b := b2) (F := zF F) (A := zA A t) (L := L) (nx := nx2) (B := fun y => dI (A 30 y)) (w := fun y => (A 31 y).toNatClampNeg) (d := d) (p := pl) (v := v) (lb := lb.map φ) (lt := lt'.map φ) (lo := lo.map φ) (lp := lp.map φ) (ob := some (φ sb)) ht12 hx12 (show t ≠ x by omega) xst.1 s3 o3 p3 (fun s q => by cases q; exact xsb.1) hw0e' hw0' a12 pR (fun y hy => by
      obtain ⟨s, hs, rfl⟩ := List.mem_map.mp hy
      exact ⟨(bR _ (hlpR _ hy)).1, (bR _ (hlpR _ hy)).2, (wC s (hlp s hs)).2.2.1, (wC s (hlp s hs)).2.2.2.1⟩) cb3 ct3 co3 (fun y hy => by
      rcases hy with q | q | q
      · exact cb4 y q
      · exact ct4 y q
      · exact co4 y q) (fun c hc _ F1 A1 L1 e5 e6 e7 e8 => by
      have q := (hvv c hc).2 b2 nx2 F1 A1 L1 e5 e6 e7 e8
      have r1 : rdL (zA A t 31) (L 32) c (lb.map φ) = rdC N J c lb := cb5 c hc
      have r2 : rdL (zA A t 31) (L 32) c (lt'.map φ) = rdC N J c lt' := ct5 c hc
      have r3 : rdL (zA A t 31) (L 32) c (lo.map φ) = rdC N J c lo := co5 c hc
      rw [r1, r2, r3]
      exact q) (show d < 8 by omega) f7 f5 (show A 24 t = nI nt from by
      obtain ⟨-, ⟨pc, q1, q2, -⟩, -⟩ := a13 t ht
      rw [q2, ← q1]; exact hnt) (show A 24 x = nI no from by
      obtain ⟨-, ⟨pc, q1, q2, -⟩, -⟩ := a13 x hx
      rw [q2, ← q1]; exact hno) h30
  rw [hcm] at hbrI
  obtain ⟨i1, i2, i3, i4, i5, i6, i7, i8⟩ := hbr
  obtain ⟨k1, k2, k3, k4, k5, k6, k7, k8, k9, k10⟩ := hbrI
  generalize hcme : orL (fun s => (N 21 s 0).toNatClampNeg) lp 0 = cm at i2 i5 i7 k2 k7 k10 hcm4
  obtain ⟨⟨stt, c1, c2, c3, c4, c5, c6⟩, ⟨ntt, d1, d2, d3, d4⟩, g1, g2, g3, g4, g5, g6, g7⟩ := a13 t ht
  obtain ⟨⟨stx, u1, u2, u3, u4, u5, u6⟩, ⟨nox, v1, v2, v3, v4⟩, y1, y2, y3, y4, y5, y6, y7⟩ := a13 x hx
  have hstt : stt = 0 := (nI_eq (by omega) (by decide)).mp (c1.symm.trans h16)
  have hstx : stx = 1 := (nI_eq (by omega) (by decide)).mp (u1.symm.trans hx16)
  have ent : ntt = nt := (nI_eq (by omega) (by omega)).mp (d1.symm.trans hnt)
  have eno : nox = no := (nI_eq (by omega) (by omega)).mp (v1.symm.trans hno)
  subst hstt hstx ent eno
  have htx' : t ≠ x := by omega
  have hxt : x ≠ t := by omega
  -- what is other in the class
  have nN : ∀ q i, q ≠ 13 → q ≠ 14 → ¬ (q = 21 ∧ i = st) → ¬ (q = 18 ∧ i = t) → i ≠ 12 → N1 q i = N q i := by
    intro q i z1 z2 z3 z4 z5
    rw [i1 q i z2 z3 (fun z => z5 z.2)]
    unfold stN
    rw [up3_q z4, up3_k z1]
  have nJ : ∀ q i, q ≠ 4 → i ≠ 12 → J1 q i = J q i := fun q i z1 z2 => i6 q i (fun z => z1 z.1) (fun z => z2 z.2)
  have nA : ∀ q, q ≠ 20 → q ≠ 31 → A1 q = A q := by
    intro q z1 z2
    rw [k3 q z2]
    show up2 A 20 t _ q = A q
    exact up2_n z1
  have nA20 : ∀ i, A1 20 i = zA A t 20 i := fun i => by rw [k3 20 (by decide)]
  have nL : ∀ q, q ≠ 32 → q ≠ 33 → L1 q = L q := k8
  have hsx : st < 23 := by omega
  have N118 : N1 18 t 0 = N 18 t 0 + nI 1 := by
    rw [i1 18 t (by decide) (by omega) (by omega)]
    exact up3_s
  -- memory
  have hM1 : RelM (jnN N1 t x d pl (ntt + nox)) (jnJ J1 t x d ntt nox) (upP P1 2 x (some t)) (jnA A1 t x d pl (ntt + nox)) (jnL L1 t x d ntt nox) n (2 * n - 1) φ := by
    have q22 : ∀ i, jnN N1 t x d pl (ntt + nox) 22 i = N1 22 i := fun i => by simp (disch := omega) only [jnN, up3_k]
    have q21 : ∀ i, jnN N1 t x d pl (ntt + nox) 21 i = N1 21 i := fun i => by simp (disch := omega) only [jnN, up3_k]
    have qJ : ∀ i, jnJ J1 t x d ntt nox 4 i = J1 4 i := by
      intro i
      funext c
      unfold jnJ
      rw [up3_k (by decide)]
      unfold ptJ
      rw [if_neg (by omega)]
    have qA : ∀ q, 27 ≤ q → jnA A1 t x d pl (ntt + nox) q = A1 q := fun q hq => by simp (disch := omega) only [jnA, up2_n]
    have qL : jnL L1 t x d ntt nox 32 = L1 32 := by
      unfold jnL
      rw [upL_n (by decide), prL_n (by decide)]
    refine hM.set s2 (fun c => if c < 12 ∧ cm.testBit c = true then some (v c) else none) (fun i => ?_) (fun i hi => ?_) (fun i hi => ?_) ⟨w1, i4, by rw [q21]; exact i3⟩ ?_ (fun q i hq => ?_) (fun q z1 z2 => ?_) (fun y hy => ?_) (fun y c hy hc => ?_) ⟨w1', k6, by rw [qA 31 (by decide)]; exact k5⟩ ?_ (fun t' ht' hq => ?_)
    · rw [q22, i1 22 i (by decide) (by omega) (by omega)]; rfl
    · rw [q21, i1 21 i (by decide) (by omega) (by omega)]; rfl
    · rw [qJ, i6 4 i (by omega) (by omega)]
    · rw [q21, qJ, i3, hw0e]
      exact cw_set i4 hw0 i5 i7
    · have e : upP P1 2 x (some t) q i = P1 q i := by rw [upP_k (by omega)]
      rw [e, i8 q i (by omega)]
    · rw [qA q z1, nA q (by omega) (by omega)]
    · rw [qA 31 (by decide), k4 y hy]; rfl
    · rw [qL]
      exact k9 _ (fun d' hd' => by omega)
    · rw [qA 31 (by decide), qL, k5, hw0e']
      exact cw_set k6 hw0' k7 k10
    · by_cases e : t' = x
      · rw [e, hx16]; decide
      · have q16 : jnN N1 t x d pl (ntt + nox) 16 t' = N1 16 t' := by simp (disch := omega) only [jnN, up3_k, up3_n]
        rw [q16, nN 16 t' (by decide) (by decide) (by omega) (by omega) (by omega)] at hq
        exact hq
  have p2P : ∀ q i, q = 1 ∨ q = 5 → i ≠ 12 → upP P1 2 x (some t) q i = P q i := by
    intro q i hq hi
    have e : upP P1 2 x (some t) q i = P1 q i := by rw [upP_k (by omega)]
    rw [e, i8 q i (by omega)]
  have p2n : ∀ i, i ≠ x → upP P1 2 x (some t) 2 i = P 2 i := by
    intro i hi
    rw [upP_n hi, i8 2 i (by omega)]
  have qJ3 : ∀ q i, 0 < q → q ≤ 3 → q ≠ 2 → i ≠ 12 → jnJ J1 t x d ntt nox q i = J q i := by
    intro q i h1 h2 h3 h4
    funext p
    unfold jnJ
    rw [up3_k (by omega)]
    unfold ptJ
    rw [if_neg (by omega), nJ q i (by omega) h4]
  have qJ2 : ∀ i, i ≠ t → i ≠ 12 → jnJ J1 t x d ntt nox 2 i = J 2 i := by
    intro i h1 h2
    funext p
    unfold jnJ
    rw [up3_k (by omega)]
    unfold ptJ
    rw [if_neg (by omega), nJ 2 i (by omega) h2]
  have qJ0 : ∀ i, i ≠ t → i ≠ 12 → jnJ J1 t x d ntt nox 0 i = J 0 i := by
    intro i h1 h2
    funext p
    unfold jnJ
    rw [up3_n h1]
    unfold ptJ
    rw [if_neg (by omega), nJ 0 i (by omega) h2]
  have qL26 : ∀ i, jnL L1 t x d ntt nox 26 i = L 26 i := by
    intro i
    unfold jnL
    rw [upL_n (by decide), prL_n (by decide), nL 26 (by decide) (by decide)]
  have qL23 : ∀ i, jnL L1 t x d ntt nox 23 i = L 23 i := by
    intro i
    unfold jnL
    rw [upL_n (by decide), prL_n (by decide), nL 23 (by decide) (by decide)]
  have qL22 : ∀ i, i ≠ 8 * t + d → jnL L1 t x d ntt nox 22 i = L 22 i := by
    intro i hi
    unfold jnL
    rw [upL_o hi, prL_n (by decide), nL 22 (by decide) (by decide)]
  have qL25 : ∀ i, jnL L1 t x d ntt nox 25 i = if 30 * t + ntt ≤ i ∧ i < 30 * t + ntt + nox then L 25 (30 * x + (i - (30 * t + ntt))) else L 25 i := by
    intro i
    unfold jnL
    rw [upL_n (by decide), prL_25, nL 25 (by decide) (by decide)]
  have hR1 : RelR (jnN N1 t x d pl (ntt + nox)) (jnJ J1 t x d ntt nox) (upP P1 2 x (some t)) F1 (jnA A1 t x d pl (ntt + nox)) (jnL L1 t x d ntt nox) nb nm sz op ai kd mg n (k + 1) φ := by
    have F1e : ∀ q, q ≠ 12 → q ≠ 13 → F1 q = F q := fun q z1 z2 => by rw [k1 q z2]; exact zF_n z1
    refine ⟨a1, a2, a3, ?_, by rw [F1e 11 (by decide) (by decide)]; exact a5, by rw [F1e 9 (by decide) (by decide)]; exact a6, ?_, by omega, ?_, by rw [k1 12 (by decide)]; exact zF_12 a10, ⟨br + cntB cm 12, ?_, k2⟩, fun t' ht' => ?_, hM1⟩
    · have q : jnN N1 t x d pl (ntt + nox) 11 0 = N1 11 0 := by simp (disch := omega) only [jnN, up3_k]
      rw [q, nN 11 0 (by decide) (by decide) (by omega) (by omega) (by decide)]; exact a4
    · have q : jnN N1 t x d pl (ntt + nox) 12 0 = N1 12 0 := by simp (disch := omega) only [jnN, up3_k]
      rw [q, nN 12 0 (by decide) (by decide) (by omega) (by omega) (by decide)]; exact a7
    · have q : jnN N1 t x d pl (ntt + nox) 13 0 = N1 13 0 := by simp (disch := omega) only [jnN, up3_k]
      rw [q, i1 13 0 (by decide) (by omega) (by omega)]; rfl
    · have q : jnN N1 t x d pl (ntt + nox) 14 0 = N1 14 0 := by simp (disch := omega) only [jnN, up3_k]
      rw [q]; exact i2
    · by_cases e1 : t' = t
      · subst e1
        refine ⟨⟨0, ?_, ?_, by decide, ?_, fun q => by omega, fun _ => ⟨blk, pl + 1, d + 1, ?_, ?_, f3, up3_s, up2_s, ?_, ?_, on, fun p hp => ?_, fun q hq => ?_⟩⟩, ⟨ntt + nox, ?_, ?_, by omega, fun p hp => ?_⟩, ?_, ?_, ?_, ?_, ?_, ?_, ?_⟩
        · have q : jnN N1 t' x d pl (ntt + nox) 16 t' = N1 16 t' := by simp (disch := omega) only [jnN, up3_k, up3_n]
          rw [q, nN 16 t' (by decide) (by decide) (by omega) (by omega) (by omega)]; exact c1
        · have q : jnA A1 t' x d pl (ntt + nox) 16 t' = A1 16 t' := by simp (disch := omega) only [jnA, up2_n, up2_o]
          rw [q, nA 16 (by decide) (by decide)]; exact c2
        · rw [p2n t' htx']; exact c4
        · rw [p2P 5 t' (Or.inr rfl) (by omega)]; exact f1
        · have q : jnA A1 t' x d pl (ntt + nox) 14 t' = A1 14 t' := by simp (disch := omega) only [jnA, up2_n]
          rw [q, nA 14 (by decide) (by decide)]; exact f2
        · simp (disch := omega) only [jnN, up3_k, up3_s]
        · simp (disch := omega) only [jnA, up2_n, up2_s]
        · by_cases ep : p = d
          · subst ep
            unfold jnJ jnL
            rw [up3_s, upL_s, nJ 3 x (by decide) (by omega), nL 26 (by decide) (by decide)]
            exact y7.symm
          · rw [qL22 _ (by omega)]
            unfold jnJ
            rw [up3_p ep]
            unfold ptJ
            rw [if_neg (by omega), nJ 0 t' (by decide) (by omega)]
            exact f9 p (by omega)
        · rw [qJ3 1 t' (by decide) (by decide) (by decide) (by omega), qL23]
          exact f10 q hq
        · simp (disch := omega) only [jnN, up3_k, up3_s]
        · simp (disch := omega) only [jnA, up2_n, up2_s]
        · rw [qL25]
          unfold jnJ
          rw [up3_k (by decide)]
          unfold ptJ
          by_cases ep : p < ntt
          · rw [if_neg (by omega), if_neg (by omega), nJ 2 t' (by decide) (by omega)]
            exact d4 p ep
          · rw [if_pos ⟨rfl, rfl, by omega, hp⟩, if_pos ⟨by omega, by omega⟩, nJ 2 x (by decide) (by omega), show 30 * t' + p - (30 * t' + ntt) = p - ntt by omega]
            exact v4 (p - ntt) (by omega)
        · have q : jnA A1 t' x d pl (ntt + nox) 17 t' = A1 17 t' := by simp (disch := omega) only [jnA, up2_n]
          have q' : jnN N1 t' x d pl (ntt + nox) 17 t' = N1 17 t' := by simp (disch := omega) only [jnN, up3_k]
          rw [q, q', nA 17 (by decide) (by decide), nN 17 t' (by decide) (by decide) (by omega) (by omega) (by omega)]
          exact g1
        · have q : jnA A1 t' x d pl (ntt + nox) 20 t' = A1 20 t' := by simp (disch := omega) only [jnA, up2_n]
          have q' : jnN N1 t' x d pl (ntt + nox) 18 t' = N1 18 t' := by simp (disch := omega) only [jnN, up3_k]
          rw [q, q', N118, nA20]
          show up2 A 20 t' _ 20 t' = _
          rw [up2_s, g2]
        · have q : jnA A1 t' x d pl (ntt + nox) 18 t' = A1 18 t' := by simp (disch := omega) only [jnA, up2_n]
          rw [q, nA 18 (by decide) (by decide), p2P 1 t' (Or.inl rfl) (by omega)]; exact g3
        · rw [p2P 1 t' (Or.inl rfl) (by omega)]; exact g4
        · have q : jnA A1 t' x d pl (ntt + nox) 19 t' = A1 19 t' := by simp (disch := omega) only [jnA, up2_n, up2_o]
          rw [q, nA 19 (by decide) (by decide), p2n t' htx']; exact g5
        · rw [p2n t' htx']; exact g6
        · rw [qL26, qJ3 3 t' (by decide) (by decide) (by decide) (by omega)]; exact g7
      · by_cases e2 : t' = x
        · subst e2
          refine ⟨⟨3, ?_, ?_, by decide, ?_, fun q => by omega, fun q => by omega⟩, ⟨nox, ?_, ?_, v3, fun p hp => ?_⟩, ?_, ?_, ?_, ?_, ?_, ?_, ?_⟩
          · simp (disch := omega) only [jnN, up3_k, up3_n, up3_s]
          · simp (disch := omega) only [jnA, up2_n, up2_o, up2_s]
          · rw [upP_s]; simp
          · have q : jnN N1 t t' d pl (ntt + nox) 15 t' = N1 15 t' := by simp (disch := omega) only [jnN, up3_k, up3_n]
            rw [q, nN 15 t' (by decide) (by decide) (by omega) (by omega) (by omega)]; exact v1
          · have q : jnA A1 t t' d pl (ntt + nox) 24 t' = A1 24 t' := by simp (disch := omega) only [jnA, up2_n, up2_o]
            rw [q, nA 24 (by decide) (by decide)]; exact v2
          · rw [qJ2 t' hxt (by omega), qL25, if_neg (by omega)]; exact v4 p hp
          · have q : jnA A1 t t' d pl (ntt + nox) 17 t' = A1 17 t' := by simp (disch := omega) only [jnA, up2_n]
            have q' : jnN N1 t t' d pl (ntt + nox) 17 t' = N1 17 t' := by simp (disch := omega) only [jnN, up3_k]
            rw [q, q', nA 17 (by decide) (by decide), nN 17 t' (by decide) (by decide) (by omega) (by omega) (by omega)]
            exact y1
          · have q : jnA A1 t t' d pl (ntt + nox) 20 t' = A1 20 t' := by simp (disch := omega) only [jnA, up2_n]
            have q' : jnN N1 t t' d pl (ntt + nox) 18 t' = N1 18 t' := by simp (disch := omega) only [jnN, up3_k]
            rw [q, q', nN 18 t' (by decide) (by decide) (by omega) (by omega) (by omega), nA20]
            show up2 A 20 t _ 20 t' = _
            rw [up2_o hxt]
            exact y2
          · have q : jnA A1 t t' d pl (ntt + nox) 18 t' = A1 18 t' := by simp (disch := omega) only [jnA, up2_n]
            rw [q, nA 18 (by decide) (by decide), p2P 1 t' (Or.inl rfl) (by omega)]; exact y3
          · rw [p2P 1 t' (Or.inl rfl) (by omega)]; exact y4
          · rw [upP_s, oI_s]
            simp (disch := omega) only [jnA, up2_n, up2_o, up2_s]
          · intro q hq
            rw [upP_s] at hq
            cases hq
            exact htx
          · rw [qL26, qJ3 3 t' (by decide) (by decide) (by decide) (by omega)]; exact y7
        · refine (a13 t' ht').cg a3.2.1 (fun q z1 z2 => ?_) (fun q z1 => ?_) ⟨p2P 1 t' (Or.inl rfl) (by omega), p2n t' e2, p2P 5 t' (Or.inr rfl) (by omega)⟩ (fun q z1 z2 => ?_) ⟨fun p hp => qL22 _ (by omega), fun p hp => qL23 _, fun p hp => by rw [qL25, if_neg (by omega)], qL26 t'⟩
          · have q' : jnN N1 t x d pl (ntt + nox) q t' = N1 q t' := by
              unfold jnN
              rw [up3_q (by omega), up3_q (by omega), up3_q (by omega), up3_q (by omega), up3_q (by omega)]
            rw [q', nN q t' (by omega) (by omega) (by omega) (by omega) (by omega)]
          · rcases (show q = 0 ∨ q = 1 ∨ q = 2 ∨ q = 3 by omega) with rfl | rfl | rfl | rfl
            · exact qJ0 t' e1 (by omega)
            · exact qJ3 1 t' (by decide) (by decide) (by decide) (by omega)
            · exact qJ2 t' e1 (by omega)
            · exact qJ3 3 t' (by decide) (by decide) (by decide) (by omega)
          · have q' : jnA A1 t x d pl (ntt + nox) q t' = A1 q t' := by
              rcases (show q = 14 ∨ q = 15 ∨ q = 16 ∨ q = 17 ∨ q = 18 ∨ q = 19 ∨ q = 20 ∨ q = 21 ∨ q = 22 ∨ q = 23 ∨ q = 24 by omega) with rfl | rfl | rfl | rfl | rfl | rfl | rfl | rfl | rfl | rfl | rfl <;> simp (disch := omega) only [jnA, up2_n, up2_o]
            rw [q']
            by_cases e20 : q = 20
            · subst e20
              rw [nA20]
              show up2 A 20 t _ 20 t' = _
              exact up2_o e1
            · rw [nA q e20 (by omega)]
  have hP1 : RelP (jnN N1 t x d pl (ntt + nox)) (upP P1 2 x (some t)) F1 (jnA A1 t x d pl (ntt + nox)) nb nm lt sz op ai kd mg := by
    have F1e : ∀ q, q ≠ 12 → q ≠ 13 → F1 q = F q := fun q z1 z2 => by rw [k1 q z2]; exact zF_n z1
    refine hP.cg (fun q i q1 => ?_) ?_ ⟨F1e 1 (by decide) (by decide), F1e 2 (by decide) (by decide), F1e 3 (by decide) (by decide)⟩ (fun q q1 q2 => ?_)
    · have q' : jnN N1 t x d pl (ntt + nox) q i = N1 q i := by simp (disch := omega) only [jnN, up3_k]
      rw [q', i1 q i (by omega) (by omega) (by omega)]
      unfold stN
      rw [up3_k (by omega), up3_k (by omega)]
    · have e : upP P1 2 x (some t) 0 0 = P1 0 0 := by rw [upP_k (by decide)]
      rw [e, i8 0 0 (by omega)]
    · have q' : jnA A1 t x d pl (ntt + nox) q = A1 q := by simp (disch := omega) only [jnA, up2_n]
      rw [q', nA q (by omega) (by omega)]
  obtain ⟨N', J', P', A', L', t1, t2, -, t4, t5⟩ := hR1.tidy (b1 := b1) (nx1 := nx1) (b2 := b2) (nx2 := nx2) hP1
  have z15 : N1 15 t 0 = nI ntt := by rw [nN 15 t (by decide) (by decide) (by omega) (by omega) (by omega)]; exact d1
  have z15x : N1 15 x 0 = nI nox := by rw [nN 15 x (by decide) (by decide) (by omega) (by omega) (by omega)]; exact v1
  have z20 : N1 20 t 0 = nI (d + 1) := by rw [nN 20 t (by decide) (by decide) (by omega) (by omega) (by omega)]; exact f6
  have z19 : N1 19 t 0 = nI pl := by rw [nN 19 t (by decide) (by decide) (by omega) (by omega) (by omega)]; exact f4
  refine ⟨true, N', J', P', F1, A', L', n, k + 1, φ, kl_adv_join ht12 a9 hk hfat e3 (kl_join_b ht12 hx12 htx' (hq2 b1 nx1) (hq1 b1 nx1) hclB z15 z15x h30 z20 (by omega) z19 t4), cl_go a10 hk (cl_stepJoin ht12 (by omega) (by omega) f2 f5 e5 (cl_join_b (F := zF F) (A := zA A t) ht12 (show d < 8 by omega) f7 a5 a2 hx (by rw [ev]; exact hv) y3 (jch_cg (A := A) (A' := zA A t) rfl rfl l _ hj) u2 d2 v2 d3 v3 h30 (hclR A' L' t5))), ?_, t1, t2, Nat.le_refl _, fun _ => rfl, fun q => by cases q⟩
  rw [k1 0 (by decide)]
  exact zF_n (by decide)
end RI
