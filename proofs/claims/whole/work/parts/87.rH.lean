/-! one step of a task: a fork -/
section RH
variable {N N' : cN} {J J' : cJ} {P P' : cP} {F F' : Nat → Int32} {A A' : Nat → Nat → Int32} {L L' : Nat → Nat → Int64} {nb nm : Nat} {lt : Option Nat} {sz : Nat → Nat} {op : Nat → Nat → Nat} {ai : Nat → Nat → Int32} {kd mg : Nat → Nat} {b1 b2 : Nat → Option va_E} {nx1 nx2 : Option Nat}
theorem adF_ne {k s j : Nat} {g : FG} (h : g j ≠ none) : adF k s g j ≠ none := by
  unfold adF
  split
  · simp
  · exact h
set_option maxHeartbeats 16000000 in
theorem RelM.fork {n m k t s a d pl s1 s2 : Nat} {φ : Nat → Nat} (h : RelM N J P A L n m φ) (ht : t < n) (h16 : N 16 t 0 = nI 0) (hs : P 4 t = some s) (hg : gC N J P m s ≠ none) (hA : A 27 t = nI (φ s)) (h12 : s1 < s2) (h40 : s2 < 40) (f1 : A 29 s1 = nI 0) (f2 : A 29 s2 = nI 0) :
    RelM (fkN (stN N t k) t n m d pl) (fkJ J t n d) (fkP P t n m s a) (fkA (up2 (zA A t) 15 t (nI (pl + 1))) t n d s1 s2 (nI a) (nI (φ s))) (fkL L t n d) (n + 1) (m + 2) (fun j => if j = m + 1 then s2 else (fun j => if j = m then s1 else φ j) j) := by
  have hx40 := (h.lt40 hg).1
  obtain ⟨a1, a2, a3, a4, a5⟩ := h
  obtain ⟨hsm, hs22⟩ := gC_of hg
  have htn : t ≠ n := by omega
  have gm : gC N J P m m = none := by unfold gC; rw [if_neg (by omega)]
  have gm1 : gC N J P m (m + 1) = none := by unfold gC; rw [if_neg (by omega)]
  have r1 : gR A L s1 = none := by unfold gR; rw [f1, if_neg (by rintro ⟨-, q⟩; exact absurd q (by decide))]
  have r2 : gR A L s2 = none := by unfold gR; rw [f2, if_neg (by rintro ⟨-, q⟩; exact absurd q (by decide))]
  -- the class's forest
  have e1 : gC (fkN (stN N t k) t n m d pl) (fkJ J t n d) (fkP P t n m s a) (m + 2) = adF (m + 1) s (adF m s (gC N J P m)) := by
    funext x
    by_cases x1 : x = m + 1
    · subst x1
      rw [adF_s, gC_some (by omega) (by simp (disch := omega) only [fkN, f3N, fbN, tbN, osN, stN, up3_k, up3_n, up3_s])]
      have q1 : fkN (stN N t k) t n m d pl 21 (m + 1) 0 = nI 0 := by simp (disch := omega) only [fkN, f3N, fbN, tbN, osN, stN, up3_k, up3_n, up3_s]
      have q2 : fkP P t n m s a 6 (m + 1) = some s := by simp (disch := omega) only [fkP, f3P, tbP, upP_k, upP_n, upP_s]
      rw [q1, q2, cw_0]
    · rw [adF_n x1]
      by_cases x2 : x = m
      · subst x2
        rw [adF_s, gC_some (by omega) (by simp (disch := omega) only [fkN, f3N, fbN, tbN, osN, stN, up3_k, up3_n, up3_s])]
        have q1 : fkN (stN N t k) t n x d pl 21 x 0 = nI 0 := by simp (disch := omega) only [fkN, f3N, fbN, tbN, osN, stN, up3_k, up3_n, up3_s]
        have q2 : fkP P t n x s a 6 x = some s := by simp (disch := omega) only [fkP, f3P, tbP, upP_k, upP_n, upP_s]
        rw [q1, q2, cw_0]
      · rw [adF_n x2]
        have q1 : fkN (stN N t k) t n m d pl 21 x = N 21 x := by simp (disch := omega) only [fkN, f3N, fbN, tbN, osN, stN, up3_k, up3_n, up3_s]
        have q2 : fkN (stN N t k) t n m d pl 22 x = N 22 x := by simp (disch := omega) only [fkN, f3N, fbN, tbN, osN, stN, up3_k, up3_n, up3_s]
        have q3 : fkP P t n m s a 6 x = P 6 x := by simp (disch := omega) only [fkP, f3P, tbP, upP_k, upP_n, upP_s]
        have q4 : fkJ J t n d 4 x = J 4 x := by simp (disch := omega) only [fkJ, fbJ, up3_k]
        unfold gC
        rw [q1, q2, q3, q4]
        by_cases x3 : x < m
        · have x4 : x < m + 2 := by omega
          simp only [x3, x4]
        · have x4 : ¬ x < m + 2 := by omega
          simp only [x3, x4]
  -- the reference's
  have e2 : gR (fkA (up2 (zA A t) 15 t (nI (pl + 1))) t n d s1 s2 (nI a) (nI (φ s))) (fkL L t n d) = adF s2 (φ s) (adF s1 (φ s) (gR A L)) := by
    have dI1 : dI (nI (φ s)) = some (φ s) := dI_oI (o := some (φ s)) (fun y q => by cases q; omega)
    have qL : ∀ i, fkL L t n d 32 i = L 32 i := by intro i; simp (disch := omega) only [fkL, bgL, upL_n]
    funext x
    by_cases x1 : x = s2
    · subst x1
      rw [adF_s, gR_some (by omega) (by simp (disch := omega) only [fkA, bgA, opA, zA, up2_n, up2_o, up2_s])]
      have q1 : fkA (up2 (zA A t) 15 t (nI (pl + 1))) t n d s1 x (nI a) (nI (φ s)) 31 x = nI 0 := by simp (disch := omega) only [fkA, bgA, opA, zA, up2_n, up2_o, up2_s]
      have q2 : fkA (up2 (zA A t) 15 t (nI (pl + 1))) t n d s1 x (nI a) (nI (φ s)) 30 x = nI (φ s) := by simp (disch := omega) only [fkA, bgA, opA, zA, up2_n, up2_o, up2_s]
      rw [q1, q2, cw_0, dI1]
    · rw [adF_n x1]
      by_cases x2 : x = s1
      · subst x2
        rw [adF_s, gR_some (by omega) (by simp (disch := omega) only [fkA, bgA, opA, zA, up2_n, up2_o, up2_s])]
        have q1 : fkA (up2 (zA A t) 15 t (nI (pl + 1))) t n d x s2 (nI a) (nI (φ s)) 31 x = nI 0 := by simp (disch := omega) only [fkA, bgA, opA, zA, up2_n, up2_o, up2_s]
        have q2 : fkA (up2 (zA A t) 15 t (nI (pl + 1))) t n d x s2 (nI a) (nI (φ s)) 30 x = nI (φ s) := by simp (disch := omega) only [fkA, bgA, opA, zA, up2_n, up2_o, up2_s]
        rw [q1, q2, cw_0, dI1]
      · rw [adF_n x2]
        have q1 : fkA (up2 (zA A t) 15 t (nI (pl + 1))) t n d s1 s2 (nI a) (nI (φ s)) 31 x = A 31 x := by simp (disch := omega) only [fkA, bgA, opA, zA, up2_n, up2_o, up2_s]
        have q2 : fkA (up2 (zA A t) 15 t (nI (pl + 1))) t n d s1 s2 (nI a) (nI (φ s)) 30 x = A 30 x := by simp (disch := omega) only [fkA, bgA, opA, zA, up2_n, up2_o, up2_s]
        have q3 : fkA (up2 (zA A t) 15 t (nI (pl + 1))) t n d s1 s2 (nI a) (nI (φ s)) 29 x = A 29 x := by simp (disch := omega) only [fkA, bgA, opA, zA, up2_n, up2_o, up2_s]
        unfold gR
        rw [q1, q2, q3]
        simp only [qL]
  have c1 : Cld (adF m s (gC N J P m)) := a3.add hg gm
  have g1 : adF m s (gC N J P m) s ≠ none := adF_ne hg
  have g2 : adF m s (gC N J P m) (m + 1) = none := by rw [adF_n (by omega)]; exact gm1
  have i1 := a4.add hg gm r1 a3
  have i2 := i1.add (x := s2) g1 g2 (by rw [adF_n (by omega)]; exact r2) c1
  have hsφ : (if s = m then s1 else φ s) = φ s := if_neg (by omega)
  have live : ∀ x, gC N J P m x ≠ none → x < m := fun x hx => (gC_of hx).1
  have φe : ∀ x, gC N J P m x ≠ none → (fun j => if j = m + 1 then s2 else (fun j => if j = m then s1 else φ j) j) x = φ x := by
    intro x hx
    have := live x hx
    dsimp only
    rw [if_neg (by omega), if_neg (by omega)]
  refine ⟨fun x hx => ?_, fun x hx => ?_, by rw [e1]; exact c1.add g1 g2, ?_, fun t' ht' hq => ?_⟩
  · by_cases x1 : x = m + 1
    · subst x1
      refine ⟨Or.inr (by simp (disch := omega) only [fkN, f3N, fbN, tbN, osN, stN, up3_k, up3_n, up3_s]), ⟨0, by decide, by simp (disch := omega) only [fkN, f3N, fbN, tbN, osN, stN, up3_k, up3_n, up3_s]⟩, fun y hy => ?_⟩
      have q2 : fkP P t n m s a 6 (m + 1) = some s := by simp (disch := omega) only [fkP, f3P, tbP, upP_k, upP_n, upP_s]
      rw [q2] at hy; cases hy; omega
    · by_cases x2 : x = m
      · subst x2
        refine ⟨Or.inr (by simp (disch := omega) only [fkN, f3N, fbN, tbN, osN, stN, up3_k, up3_n, up3_s]), ⟨0, by decide, by simp (disch := omega) only [fkN, f3N, fbN, tbN, osN, stN, up3_k, up3_n, up3_s]⟩, fun y hy => ?_⟩
        have q2 : fkP P t n x s a 6 x = some s := by simp (disch := omega) only [fkP, f3P, tbP, upP_k, upP_n, upP_s]
        rw [q2] at hy; cases hy; omega
      · have q1 : fkN (stN N t k) t n m d pl 21 x = N 21 x := by simp (disch := omega) only [fkN, f3N, fbN, tbN, osN, stN, up3_k, up3_n, up3_s]
        have q2 : fkN (stN N t k) t n m d pl 22 x = N 22 x := by simp (disch := omega) only [fkN, f3N, fbN, tbN, osN, stN, up3_k, up3_n, up3_s]
        have q3 : fkP P t n m s a 6 x = P 6 x := by simp (disch := omega) only [fkP, f3P, tbP, upP_k, upP_n, upP_s]
        rw [q1, q2, q3]
        exact a1 x (by omega)
  · by_cases x1 : x = s2
    · subst x1
      refine ⟨Or.inr (by simp (disch := omega) only [fkA, bgA, opA, zA, up2_n, up2_o, up2_s]), fun _ => ⟨⟨0, by decide, by simp (disch := omega) only [fkA, bgA, opA, zA, up2_n, up2_o, up2_s]⟩, some (φ s), by simp (disch := omega) only [fkA, bgA, opA, zA, up2_n, up2_o, up2_s, oI_s], fun y hy => by cases hy; omega⟩⟩
    · by_cases x2 : x = s1
      · subst x2
        refine ⟨Or.inr (by simp (disch := omega) only [fkA, bgA, opA, zA, up2_n, up2_o, up2_s]), fun _ => ⟨⟨0, by decide, by simp (disch := omega) only [fkA, bgA, opA, zA, up2_n, up2_o, up2_s]⟩, some (φ s), by simp (disch := omega) only [fkA, bgA, opA, zA, up2_n, up2_o, up2_s, oI_s], fun y hy => by cases hy; omega⟩⟩
      · have q1 : fkA (up2 (zA A t) 15 t (nI (pl + 1))) t n d s1 s2 (nI a) (nI (φ s)) 31 x = A 31 x := by simp (disch := omega) only [fkA, bgA, opA, zA, up2_n, up2_o, up2_s]
        have q2 : fkA (up2 (zA A t) 15 t (nI (pl + 1))) t n d s1 s2 (nI a) (nI (φ s)) 30 x = A 30 x := by simp (disch := omega) only [fkA, bgA, opA, zA, up2_n, up2_o, up2_s]
        have q3 : fkA (up2 (zA A t) 15 t (nI (pl + 1))) t n d s1 s2 (nI a) (nI (φ s)) 29 x = A 29 x := by simp (disch := omega) only [fkA, bgA, opA, zA, up2_n, up2_o, up2_s]
        rw [q1, q2, q3]
        exact a2 x hx
  · rw [e1, e2]
    rw [hsφ] at i2
    exact i2
  · rw [e1]
    by_cases t1 : t' = n
    · subst t1
      refine ⟨m, by simp (disch := omega) only [fkP, f3P, tbP, upP_k, upP_n, upP_s], by rw [adF_n (by omega), adF_s]; simp, ?_, Or.inr ⟨s, by simp (disch := omega) only [fkP, f3P, tbP, upP_k, upP_n, upP_s], adF_ne (adF_ne hg), ?_, [m], rfl, by omega, fun _ => none, s, by rw [adF_n (by omega), adF_s], rfl⟩⟩
      · dsimp only
        rw [if_neg (by omega), if_pos rfl]
        simp (disch := omega) only [fkA, bgA, opA, zA, up2_n, up2_o, up2_s]
      · dsimp only
        rw [if_neg (by omega), if_neg (by omega)]
        simp (disch := omega) only [fkA, bgA, opA, zA, up2_n, up2_o, up2_s]
    · by_cases t2 : t' = t
      · subst t2
        obtain ⟨s', u1, u2, u3, u4⟩ := a5 t' ht (by rw [h16]; decide)
        rw [hs] at u1
        cases u1
        have qP : fkP P t' n m s a 3 t' = P 3 t' := by simp (disch := omega) only [fkP, f3P, tbP, upP_k, upP_n, upP_s]
        have qA : fkA (up2 (zA A t') 15 t' (nI (pl + 1))) t' n d s1 s2 (nI a) (nI (φ s)) 28 t' = A 28 t' := by simp (disch := omega) only [fkA, bgA, opA, zA, up2_n, up2_o, up2_s]
        refine ⟨m + 1, by simp (disch := omega) only [fkP, f3P, tbP, upP_k, upP_n, upP_s], by rw [adF_s]; simp, ?_, ?_⟩
        · dsimp only
          rw [if_pos rfl]
          simp (disch := omega) only [fkA, bgA, opA, zA, up2_n, up2_o, up2_s]
        · rw [qP, qA]
          rcases u4 with u4 | ⟨e, z1, z2, z3, l, z4⟩
          · exact Or.inl u4
          · refine Or.inr ⟨e, z1, adF_ne (adF_ne z2), by rw [φe e z2]; exact z3, (m + 1) :: l, rfl, ?_, fun _ => none, s, adF_s, pg_add g2 l s (pg_add gm l s z4)⟩
            have := live e z2
            omega
      · have q16 : fkN (stN N t k) t n m d pl 16 t' = N 16 t' := by simp (disch := omega) only [fkN, f3N, fbN, tbN, osN, stN, up3_k, up3_n, up3_s]
        rw [q16] at hq
        obtain ⟨s', u1, u2, u3, u4⟩ := a5 t' (by omega) hq
        have qP : fkP P t n m s a 3 t' = P 3 t' := by simp (disch := omega) only [fkP, f3P, tbP, upP_k, upP_n, upP_s]
        have qP4 : fkP P t n m s a 4 t' = P 4 t' := by simp (disch := omega) only [fkP, f3P, tbP, upP_k, upP_n, upP_s]
        have qA : fkA (up2 (zA A t) 15 t (nI (pl + 1))) t n d s1 s2 (nI a) (nI (φ s)) 28 t' = A 28 t' := by simp (disch := omega) only [fkA, bgA, opA, zA, up2_n, up2_o, up2_s]
        have qA7 : fkA (up2 (zA A t) 15 t (nI (pl + 1))) t n d s1 s2 (nI a) (nI (φ s)) 27 t' = A 27 t' := by simp (disch := omega) only [fkA, bgA, opA, zA, up2_n, up2_o, up2_s]
        rw [qP, qA, qP4, qA7]
        refine ⟨s', u1, adF_ne (adF_ne u2), by rw [φe s' u2]; exact u3, ?_⟩
        rcases u4 with u4 | ⟨e, z1, z2, z3, l, z4⟩
        · exact Or.inl u4
        · exact Or.inr ⟨e, z1, adF_ne (adF_ne z2), by rw [φe e z2]; exact z3, l, pg_add g2 l s' (pg_add gm l s' z4)⟩
set_option maxHeartbeats 16000000 in
theorem one_fork {n k t : Nat} {φ : Nat → Nat} (hP : RelP N P F A nb nm lt sz op ai kd mg) (hR : RelR N J P F A L nb nm sz op ai kd mg n k φ) (ht : t < n) (h16 : N 16 t 0 = nI 0) (hk : k < 2000) {blk pl h : Nat} (hf : FrT N J P A L nb op ai t blk pl h) (hb : blk < 6) (hp : pl < sz blk) (hsz : sz blk ≤ 24) (h1 : tkN (op blk pl) ≤ h) (h6 : h ≤ 6) (hfat : fat N P t blk (sz blk) pl) (e3 : N 3 blk pl = nI (op blk pl)) (e4 : N 4 blk pl = ai blk pl) (e5 : A 5 (24 * blk + pl) = nI (op blk pl)) (e6 : A 6 (24 * blk + pl) = ai blk pl) (hg : GdC false (op blk) (ai blk) (sz blk) nb) (hok : okA false (op blk pl) (ai blk pl) pl (sz blk) nb = true) (ho : op blk pl = 13) : One b1 nx1 b2 nx2 N J P F A L nb nm lt sz op ai kd mg n k t := by
  have hf' := hf
  obtain ⟨f1, f2, f3, f4, f5, f6, f7, f8, f9, f10⟩ := hf'
  have hR' := hR
  obtain ⟨a1, a2, a3, a4, a5, a6, a7, a8, a9, a10, ⟨br, a11, a12⟩, a13, a14⟩ := hR'
  have hnb := hP.1
  have hN0 := hP.2.2.1
  have on := hg.on f8 (by omega) (by omega)
  rw [ho] at e3 e5 on h1 hok
  obtain ⟨a, ha, hai⟩ := okA_fork hnb hok
  rw [hai] at e4 e6
  obtain ⟨d, rfl⟩ : ∃ d, h = d + 1 := ⟨h - 1, by have : tkN 13 = 1 := rfl; omega⟩
  have ev : L 22 (8 * t + d) = J 0 t d := (f9 d (by omega)).symm
  by_cases h12 : n = 12
  · subst h12
    exact one_fail (c := 3) hP hR ht h16 hk (by decide) (fun b nx => kl_adv_fork (by omega) a9 hk hfat e3 (kl_fork3 (N := stN N t k) (by omega) a4)) (fun b nx => cl_go a10 hk (cl_stepFork3 (by omega) (by omega) (by omega) f2 f5 e5 a5))
  · have htn : t ≠ n := by omega
    obtain ⟨s, s1, s2, s3, -⟩ := a14.2.2.2.2 t ht (by rw [h16]; decide)
    obtain ⟨z1, z2, y1, y2, y3, y4, y5, y6⟩ := a14.free hR.m23
    have hM := a14.fork (k := k) (a := a) (d := d) (pl := pl) ht h16 s1 s2 s3 y1 y2 y4 y6
    have hm2 : 2 * (n + 1) - 1 = 2 * n - 1 + 2 := by omega
    -- the task that forks
    have hT : RelT (fkN (stN N t k) t n (2 * n - 1) d pl) (fkJ J t n d) (fkP P t n (2 * n - 1) s a) (fkA (up2 (zA A t) 15 t (nI (pl + 1))) t n d z1 z2 (nI a) (nI (φ s))) (fkL L t n d) nb op ai t := by
      have q := RelT.run (N' := fkN (stN N t k) t n (2 * n - 1) d pl) (J' := fkJ J t n d) (A' := fkA (up2 (zA A t) 15 t (nI (pl + 1))) t n d z1 z2 (nI a) (nI (φ s))) (L' := fkL L t n d) (a13 t ht) h16 (fun q q1 q2 => by simp (disch := omega) only [fkN, f3N, fbN, tbN, osN, stN, up3_k, up3_q]) (by simp (disch := omega) only [fkN, f3N, fbN, tbN, osN, stN, up3_k, up3_n, up3_s]) ⟨by simp (disch := omega) only [fkJ, fbJ, up3_k], by simp (disch := omega) only [fkJ, fbJ, up3_k, up3_n]⟩ (fun q q1 => by rcases q1 with rfl | rfl | rfl | rfl | rfl <;> simp (disch := omega) only [fkA, bgA, opA, zA, up2_n, up2_o, up2_s]) (by simp (disch := omega) only [fkA, bgA, opA, zA, up2_n, up2_o, up2_s]) ⟨fun p hp => by simp (disch := omega) only [fkL, bgL, upL_n], by simp (disch := omega) only [fkL, bgL, upL_n, upL_o]⟩ ⟨blk, pl + 1, d + 1, f1, by simp (disch := omega) only [fkA, bgA, opA, zA, up2_n, up2_o, up2_s]; exact f2, f3, by simp (disch := omega) only [fkN, f3N, fbN, tbN, osN, stN, up3_k, up3_n, up3_s], by simp (disch := omega) only [fkA, bgA, opA, zA, up2_n, up2_o, up2_s], by simp (disch := omega) only [fkN, f3N, fbN, tbN, osN, stN, up3_k, up3_n, up3_s], by simp (disch := omega) only [fkA, bgA, opA, zA, up2_n, up2_o, up2_s], on, fun p hp => ?_, fun q hq => ?_⟩
      · exact q.cg a3.2.1 (fun _ _ _ => rfl) (fun _ _ => rfl) ⟨by simp (disch := omega) only [fkP, f3P, tbP, upP_k, upP_n, upP_s], by simp (disch := omega) only [fkP, f3P, tbP, upP_k, upP_n, upP_s], by simp (disch := omega) only [fkP, f3P, tbP, upP_k, upP_n, upP_s]⟩ (fun _ _ _ => rfl) sL.refl
      · by_cases e : p = d
        · subst e
          simp (disch := omega) only [fkJ, up3_s, fkL, upL_s]
        · have q1 : fkJ J t n d 0 t p = J 0 t p := by simp (disch := omega) only [fkJ, fbJ, up3_k, up3_p]
          have q2 : fkL L t n d 22 (8 * t + p) = L 22 (8 * t + p) := by simp (disch := omega) only [fkL, bgL, upL_n, upL_o]
          rw [q1, q2]
          exact f9 p (by omega)
      · have q1 : fkJ J t n d 1 t q = J 1 t q := by simp (disch := omega) only [fkJ, fbJ, up3_k, up3_n]
        have q2 : fkL L t n d 23 (4 * t + q) = L 23 (4 * t + q) := by simp (disch := omega) only [fkL, bgL, upL_n, upL_o]
        rw [q1, q2]
        exact f10 q hq
    -- the new task
    have hT2 : RelT (fkN (stN N t k) t n (2 * n - 1) d pl) (fkJ J t n d) (fkP P t n (2 * n - 1) s a) (fkA (up2 (zA A t) 15 t (nI (pl + 1))) t n d z1 z2 (nI a) (nI (φ s))) (fkL L t n d) nb op ai n := by
      have p2 : fkP P t n (2 * n - 1) s a 2 n = none := by simp (disch := omega) only [fkP, f3P, tbP, upP_k, upP_n, upP_s]
      have p1 : fkP P t n (2 * n - 1) s a 1 n = some t := by simp (disch := omega) only [fkP, f3P, tbP, upP_k, upP_n, upP_s]
      refine ⟨⟨0, by simp (disch := omega) only [fkN, f3N, fbN, tbN, osN, stN, up3_k, up3_n, up3_s], by simp (disch := omega) only [fkA, bgA, opA, zA, up2_n, up2_o, up2_s], by decide, ⟨fun q => by omega, fun q => absurd p2 q⟩, fun q => by omega, fun _ => ⟨a, 0, 0, by simp (disch := omega) only [fkP, f3P, tbP, upP_k, upP_n, upP_s], by simp (disch := omega) only [fkA, bgA, opA, zA, up2_n, up2_o, up2_s], ha, by simp (disch := omega) only [fkN, f3N, fbN, tbN, osN, stN, up3_k, up3_n, up3_s], by simp (disch := omega) only [fkA, bgA, opA, zA, up2_n, up2_o, up2_s], by simp (disch := omega) only [fkN, f3N, fbN, tbN, osN, stN, up3_k, up3_n, up3_s], by simp (disch := omega) only [fkA, bgA, opA, zA, up2_n, up2_o, up2_s], Rch.zero, fun p hp => by omega, fun q hq => ?_⟩⟩, ⟨0, by simp (disch := omega) only [fkN, f3N, fbN, tbN, osN, stN, up3_k, up3_n, up3_s], by simp (disch := omega) only [fkA, bgA, opA, zA, up2_n, up2_o, up2_s], by decide, fun p hp => by omega⟩, ?_, ?_, ?_, fun q hq => ?_, ?_, fun q hq => ?_, ?_⟩
      · rcases (show q = 0 ∨ q = 1 ∨ q = 2 ∨ q = 3 by omega) with rfl | rfl | rfl | rfl
        · simp (disch := omega) only [fkJ, fbJ, up3_k, up3_s, up3_p, fkL, bgL, upL_n, upL_o, upL_s, Nat.add_zero]
          exact ev.symm
        · simp (disch := omega) only [fkJ, fbJ, up3_k, up3_s, up3_p, fkL, bgL, upL_n, upL_o, upL_s]
        · simp (disch := omega) only [fkJ, fbJ, up3_k, up3_s, up3_p, fkL, bgL, upL_n, upL_o, upL_s]
        · simp (disch := omega) only [fkJ, fbJ, up3_k, up3_s, up3_p, fkL, bgL, upL_n, upL_o, upL_s]
      · simp (disch := omega) only [fkA, bgA, opA, zA, up2_n, up2_o, up2_s, fkN, f3N, fbN, tbN, osN, stN, up3_k, up3_n, up3_s]
      · simp (disch := omega) only [fkA, bgA, opA, zA, up2_n, up2_o, up2_s, fkN, f3N, fbN, tbN, osN, stN, up3_k, up3_n, up3_s]
      · rw [p1, oI_s]; simp (disch := omega) only [fkA, bgA, opA, zA, up2_n, up2_o, up2_s]
      · rw [p1] at hq; cases hq; exact ht
      · rw [p2, oI_n]; simp (disch := omega) only [fkA, bgA, opA, zA, up2_n, up2_o, up2_s]
      · rw [p2] at hq; cases hq
      · simp (disch := omega) only [fkJ, fbJ, up3_k, up3_s, fkL, bgL, upL_n, upL_o, upL_s]
    have hR1 : RelR (fkN (stN N t k) t n (2 * n - 1) d pl) (fkJ J t n d) (fkP P t n (2 * n - 1) s a) (up1 (zF F) 11 (nI (n + 1))) (fkA (up2 (zA A t) 15 t (nI (pl + 1))) t n d z1 z2 (nI a) (nI (φ s))) (fkL L t n d) nb nm sz op ai kd mg (n + 1) (k + 1) (fun j => if j = 2 * n - 1 + 1 then z2 else (fun j => if j = 2 * n - 1 then z1 else φ j) j) := by
      refine ⟨by omega, by omega, a3, by simp (disch := omega) only [fkN, f3N, fbN, tbN, osN, stN, up3_k, up3_n, up3_s], up1_s, by rw [up1_n (by decide)]; exact a6, ?_, by omega, by simp (disch := omega) only [fkN, f3N, fbN, tbN, osN, stN, up3_k, up3_n, up3_s], by rw [up1_n (by decide)]; exact zF_12 a10, ⟨br, by simp (disch := omega) only [fkN, f3N, fbN, tbN, osN, stN, up3_k, up3_n, up3_s]; exact a11, by rw [up1_n (by decide)]; exact a12⟩, fun t' ht' => ?_, by rw [hm2]; exact hM⟩
      · rw [hm2]
        simp (disch := omega) only [fkN, f3N, fbN, tbN, osN, stN, up3_k, up3_n, up3_s]
      · by_cases t1 : t' = n
        · rw [t1]; exact hT2
        · by_cases t2 : t' = t
          · rw [t2]; exact hT
          · refine (a13 t' (by omega)).cg a3.2.1 (fun q q1 q2 => by simp (disch := omega) only [fkN, f3N, fbN, tbN, osN, stN, up3_k, up3_q]) (fun q q1 => by simp (disch := omega) only [fkJ, fbJ, up3_k, up3_q]) ⟨by simp (disch := omega) only [fkP, f3P, tbP, upP_k, upP_n, upP_s], by simp (disch := omega) only [fkP, f3P, tbP, upP_k, upP_n, upP_s], by simp (disch := omega) only [fkP, f3P, tbP, upP_k, upP_n, upP_s]⟩ (fun q q1 q2 => ?_) ⟨fun p hp => by simp (disch := omega) only [fkL, bgL, upL_n, upL_o], fun p hp => by simp (disch := omega) only [fkL, bgL, upL_n, upL_o], fun p hp => by simp (disch := omega) only [fkL, bgL, upL_n, upL_o], by simp (disch := omega) only [fkL, bgL, upL_n, upL_o]⟩
            rcases (show q = 14 ∨ q = 15 ∨ q = 16 ∨ q = 17 ∨ q = 18 ∨ q = 19 ∨ q = 20 ∨ q = 21 ∨ q = 22 ∨ q = 23 ∨ q = 24 by omega) with rfl | rfl | rfl | rfl | rfl | rfl | rfl | rfl | rfl | rfl | rfl <;> simp (disch := omega) only [fkA, bgA, opA, zA, up2_n, up2_o, up2_s]
    have hP1 : RelP (fkN (stN N t k) t n (2 * n - 1) d pl) (fkP P t n (2 * n - 1) s a) (up1 (zF F) 11 (nI (n + 1))) (fkA (up2 (zA A t) 15 t (nI (pl + 1))) t n d z1 z2 (nI a) (nI (φ s))) nb nm lt sz op ai kd mg := by
      refine hP.cg (fun q i q1 => by simp (disch := omega) only [fkN, f3N, fbN, tbN, osN, stN, up3_k]) (by simp (disch := omega) only [fkP, f3P, tbP, upP_k]) ⟨rfl, rfl, rfl⟩ (fun q q1 q2 => by simp (disch := omega) only [fkA, bgA, opA, zA, up2_n])
    obtain ⟨N', J', P', A', L', t1, t2, -, t4, t5⟩ := hR1.tidy (b1 := b1) (nx1 := nx1) (b2 := b2) (nx2 := nx2) hP1
    refine ⟨true, N', J', P', _, A', L', n + 1, k + 1, _, kl_adv_fork (by omega) a9 hk hfat e3 (kl_fork (N := stN N t k) (a := a) ht (by omega) a4 a7 (by omega) s1 hfat e4 hnb hN0 ha f6 (by omega) t4), cl_go a10 hk (cl_stepFork (by omega) (by omega) (by omega) f2 f5 e5 e6 a5 (by omega) (cl_fork (F := zF F) (A := up2 (zA A t) 15 t (nI (pl + 1))) ht (by omega) a5 (show d < 8 by omega) f7 s3 y1 y2 y3 y4 y5 y6 t5)), ?_, t1, t2, by omega, fun _ => rfl, fun q => by cases q⟩
    rw [up1_n (by decide)]
    exact zF_n (by decide)
end RH
