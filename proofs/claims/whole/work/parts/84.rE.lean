/-! one step of a task: memory, prints, ends, failures -/
section RE
variable {N N' : cN} {J J' : cJ} {P P' : cP} {F F' : Nat → Int32} {A A' : Nat → Nat → Int32} {L L' : Nat → Nat → Int64} {nb nm : Nat} {lt : Option Nat} {sz : Nat → Nat} {op : Nat → Nat → Nat} {ai : Nat → Nat → Int32} {kd mg : Nat → Nat} {b1 b2 : Nat → Option va_E} {nx1 nx2 : Option Nat}
/-- the way down from a live segment, on both sides -/
theorem RelM.chain {n m : Nat} {φ : Nat → Nat} (h : RelM N J P A L n m φ) {s : Nat} (hs : gC N J P m s ≠ none) : ∃ l, chn (P 6) (some s) l ∧ (∀ x ∈ l, x < m ∧ gC N J P m x ≠ none) ∧ chn (fun x => dI (A 30 x)) (some (φ s)) (l.map φ) ∧ (∀ x ∈ l.map φ, x < 40 ∧ A 30 x = oI (dI (A 30 x))) ∧ ∀ c, c < 12 → rdL (A 31) (L 32) c (l.map φ) = rdC N J c l := by
  obtain ⟨a1, a2, a3, a4, -⟩ := h
  obtain ⟨l, hl⟩ := cg_ex (gC_Ak a1) a3 (s + 1) s (by omega) hs
  have lv := cg_live l _ hl
  have hl2 := cg_map a4 l _ hl
  have lv2 := cg_live _ _ hl2
  refine ⟨l, cg_chn (fun x w t hx => ?_) l _ hl, fun x hx => ⟨(gC_of (lv x hx)).1, lv x hx⟩, cg_chn (fun x w t hx => ?_) _ _ hl2, fun x hx => ?_, fun c hc => ?_⟩
  · obtain ⟨q1, q2⟩ := gC_of (N := N) (J := J) (P := P) (m := m) (s := x) (by rw [hx]; simp)
    rw [gC_some q1 q2] at hx
    exact (Prod.mk.inj (Option.some.inj hx)).2
  · obtain ⟨q1, q2⟩ := gR_of (A := A) (L := L) (x := x) (by rw [hx]; simp)
    rw [gR_some q1 q2] at hx
    exact (Prod.mk.inj (Option.some.inj hx)).2
  · obtain ⟨q1, q2⟩ := gR_of (lv2 x hx)
    obtain ⟨o, ho, hy⟩ := ((a2 x q1).2 q2).2
    refine ⟨q1, ?_⟩
    rw [ho, dI_oI (fun y q => by have := hy y q; omega)]
  · rw [rg_R hc _ lv2, rg_C hc l lv, rg_map a4 l lv]
theorem RelR.m23 {n k : Nat} {φ : Nat → Nat} (hR : RelR N J P F A L nb nm sz op ai kd mg n k φ) : 2 * n - 1 ≤ 23 := by have := hR.2.1; omega
theorem RelR.mem {n k : Nat} {φ : Nat → Nat} (hR : RelR N J P F A L nb nm sz op ai kd mg n k φ) : RelM N J P A L n (2 * n - 1) φ := hR.2.2.2.2.2.2.2.2.2.2.2.2
theorem RelR.tk {n k t : Nat} {φ : Nat → Nat} (hR : RelR N J P F A L nb nm sz op ai kd mg n k φ) (ht : t < n) : RelT N J P A L nb op ai t := hR.2.2.2.2.2.2.2.2.2.2.2.1 t ht
set_option maxHeartbeats 4000000 in
theorem one_read {n k t : Nat} {φ : Nat → Nat} (hP : RelP N P F A nb nm lt sz op ai kd mg) (hR : RelR N J P F A L nb nm sz op ai kd mg n k φ) (ht : t < n) (h16 : N 16 t 0 = nI 0) (hk : k < 2000) {blk pl h : Nat} (hf : FrT N J P A L nb op ai t blk pl h) (hb : blk < 6) (hp : pl < sz blk) (hsz : sz blk ≤ 24) (h1 : tkN (op blk pl) ≤ h) (h6 : h ≤ 6) (hfat : fat N P t blk (sz blk) pl) (e3 : N 3 blk pl = nI (op blk pl)) (e4 : N 4 blk pl = ai blk pl) (e5 : A 5 (24 * blk + pl) = nI (op blk pl)) (e6 : A 6 (24 * blk + pl) = ai blk pl) (hg : GdC false (op blk) (ai blk) (sz blk) nb) (hok : okA false (op blk pl) (ai blk pl) pl (sz blk) nb = true) (ho : op blk pl = 3) : One b1 nx1 b2 nx2 N J P F A L nb nm lt sz op ai kd mg n k t := by
  have hf' := hf
  obtain ⟨f1, f2, f3, f4, f5, f6, f7, f8, f9, f10⟩ := hf'
  have hn := hR.2.1
  have hs := hR.2.2.2.2.2.2.2.2.1
  have hs2 := hR.2.2.2.2.2.2.2.2.2.1
  have on := hg.on f8 (by omega) (by omega)
  rw [ho] at e3 e5 on h1 hok
  obtain ⟨c, hc, hai⟩ := okA_cell (Or.inl rfl) hok
  rw [hai] at e4 e6
  have hm := hR.m23
  obtain ⟨s, s1, s2, s3, -⟩ := hR.mem.2.2.2.2 t ht (by rw [h16]; decide)
  have hsm := (gC_of s2).1
  obtain ⟨l, c1, c2, c3, c4, c5⟩ := hR.mem.chain s2
  have ev := c5 c hc
  refine one_fr (pl' := pl + 1) (h' := h + 1) hP hR ht h16 hk hf (gJ.u (q := 0) (p := h) (x := rdC N J c l) (by decide)) (gL.u22 (d := h) (v := rdC N J c l) (by omega)) on (st_put f9) (fun a ha => ?_) ?_ ?_
  · rw [upL_n (by decide), up3_k (by decide)]; exact f10 a ha
  · intro b nx
    have q := kl_adv_read (b := b) (J := J) (nx := nx) (show t < 12 by omega) hs hk hfat e3 e4 hc s1 c1 (fun x hx => by have := (c2 x hx).1; omega) (by omega) f6 (by omega)
    rw [up3_c (k := 20) (k' := 19) (by decide)] at q
    exact q
  · intro b nx
    have q := cl_simple_read (b := b) (F := zF F) (A := up2 (zA A t) 15 t (nI (pl + 1))) (L := L) (nx := nx) (show t < 12 by omega) (show h < 8 by omega) f7 hc (o := some (φ s)) s3 c3 c4
    have ev' : rdL (up2 (zA A t) 15 t (nI (pl + 1)) 31) (L 32) c (l.map φ) = rdC N J c l := ev
    rw [ev'] at q
    exact cl_go hs2 hk (cl_stepS (by omega) (by omega) (by omega) f2 f5 e5 e6 (by decide) q)
/-- cells written at a live segment, on both sides -/
theorem RelM.set {n m : Nat} {φ : Nat → Nat} (h : RelM N J P A L n m φ) {s : Nat} (hs : gC N J P m s ≠ none) (f : Nat → Option Int64) (n22 : ∀ i, N' 22 i = N 22 i) (n21 : ∀ i, i ≠ s → N' 21 i = N 21 i) (j4 : ∀ i, i ≠ s → J' 4 i = J 4 i) (hw : ∃ w, w < 4096 ∧ N' 21 s 0 = nI w) (hc : cw (N' 21 s 0) (J' 4 s) = ovr f (cw (N 21 s 0) (J 4 s))) (hPe : ∀ k i, k = 3 ∨ k = 4 ∨ k = 6 → P' k i = P k i) (a27 : ∀ k, 27 ≤ k → k ≤ 30 → A' k = A k) (a31 : ∀ x, x ≠ φ s → A' 31 x = A 31 x) (l32 : ∀ x c, x ≠ φ s → c < 12 → L' 32 (12 * x + c) = L 32 (12 * x + c)) (hw' : ∃ w, w < 4096 ∧ A' 31 (φ s) = nI w) (hc' : cw (A' 31 (φ s)) (fun c => L' 32 (12 * φ s + c)) = ovr f (cw (A 31 (φ s)) (fun c => L 32 (12 * φ s + c)))) (hst : ∀ t, t < n → N' 16 t 0 ≠ nI 3 → N 16 t 0 ≠ nI 3) : RelM N' J' P' A' L' n m φ := by
  obtain ⟨a1, a2, a3, a4, a5⟩ := h
  obtain ⟨s1, s2⟩ := gC_of hs
  have hφ := a4.1 s _ _ (gC_some s1 s2)
  obtain ⟨x1, x2⟩ := gR_of (A := A) (L := L) (x := φ s) (by rw [hφ]; simp)
  have e1 : gC N' J' P' m = wrF s f (gC N J P m) := by
    funext x
    unfold wrF
    by_cases hx : x = s
    · subst hx
      rw [if_pos rfl, gC_some s1 s2, gC_some s1 (by rw [n22]; exact s2), hPe 6 x (by omega), hc]
      rfl
    · rw [if_neg hx]
      unfold gC
      rw [n22, n21 x hx, j4 x hx, hPe 6 x (by omega)]
  have e2 : gR A' L' = wrF (φ s) f (gR A L) := by
    funext x
    unfold wrF
    by_cases hx : x = φ s
    · subst hx
      rw [if_pos rfl, gR_some x1 x2, gR_some x1 (by rw [a27 29 (by decide) (by decide)]; exact x2), a27 30 (by decide) (by decide), hc']
      rfl
    · rw [if_neg hx]
      unfold gR
      rw [a27 29 (by decide) (by decide), a27 30 (by decide) (by decide), a31 x hx]
      have : cw (A 31 x) (fun c => L' 32 (12 * x + c)) = cw (A 31 x) (fun c => L 32 (12 * x + c)) := by
        funext c
        unfold cw
        by_cases hc : c < 12
        · simp only [l32 x c hx hc]
        · rw [if_neg (fun z => hc z.1), if_neg (fun z => hc z.1)]
      rw [this]
  refine ⟨fun x hx => ?_, fun x hx => ?_, by rw [e1]; exact a3.set, by rw [e1, e2]; exact a4.set hs f, fun t ht q => ?_⟩
  · obtain ⟨b1, b2, b3⟩ := a1 x hx
    rw [n22, hPe 6 x (by omega)]
    refine ⟨b1, ?_, b3⟩
    by_cases e : x = s
    · subst e; exact hw
    · rw [n21 x e]; exact b2
  · obtain ⟨b1, b2⟩ := a2 x hx
    rw [a27 29 (by decide) (by decide), a27 30 (by decide) (by decide)]
    refine ⟨b1, fun q => ⟨?_, (b2 q).2⟩⟩
    by_cases e : x = φ s
    · subst e; exact hw'
    · rw [a31 x e]; exact (b2 q).1
  · obtain ⟨u, u1, u2, u3, u4⟩ := a5 t ht (hst t ht q)
    rw [e1, hPe 3 t (by omega), hPe 4 t (by omega), a27 27 (by decide) (by decide), a27 28 (by decide) (by decide)]
    refine ⟨u, u1, wrF_ne.mpr u2, u3, ?_⟩
    rcases u4 with u4 | ⟨e, v1, v2, v3, l, v4⟩
    · exact Or.inl u4
    · exact Or.inr ⟨e, v1, wrF_ne.mpr v2, v3, l, pg_set l u v4⟩
set_option maxHeartbeats 4000000 in
theorem one_write {n k t : Nat} {φ : Nat → Nat} (hP : RelP N P F A nb nm lt sz op ai kd mg) (hR : RelR N J P F A L nb nm sz op ai kd mg n k φ) (ht : t < n) (h16 : N 16 t 0 = nI 0) (hk : k < 2000) {blk pl h : Nat} (hf : FrT N J P A L nb op ai t blk pl h) (hb : blk < 6) (hp : pl < sz blk) (hsz : sz blk ≤ 24) (h1 : tkN (op blk pl) ≤ h) (h6 : h ≤ 6) (hfat : fat N P t blk (sz blk) pl) (e3 : N 3 blk pl = nI (op blk pl)) (e4 : N 4 blk pl = ai blk pl) (e5 : A 5 (24 * blk + pl) = nI (op blk pl)) (e6 : A 6 (24 * blk + pl) = ai blk pl) (hg : GdC false (op blk) (ai blk) (sz blk) nb) (hok : okA false (op blk pl) (ai blk pl) pl (sz blk) nb = true) (ho : op blk pl = 4) : One b1 nx1 b2 nx2 N J P F A L nb nm lt sz op ai kd mg n k t := by
  have hf' := hf
  obtain ⟨f1, f2, f3, f4, f5, f6, f7, f8, f9, f10⟩ := hf'
  have hn := hR.2.1
  have hs := hR.2.2.2.2.2.2.2.2.1
  have hs2 := hR.2.2.2.2.2.2.2.2.2.1
  have on := hg.on f8 (by omega) (by omega)
  rw [ho] at e3 e5 on h1 hok
  obtain ⟨c, hc, hai⟩ := okA_cell (Or.inr rfl) hok
  rw [hai] at e4 e6
  obtain ⟨d, rfl⟩ : ∃ d, h = d + 1 := ⟨h - 1, by have : tkN 4 = 1 := rfl; omega⟩
  have hm := hR.m23
  have hM := hR.mem
  obtain ⟨s, s1, s2, s3, -⟩ := hM.2.2.2.2 t ht (by rw [h16]; decide)
  obtain ⟨hsm, hs22⟩ := gC_of s2
  have hφ := hM.2.2.2.1.1 s _ _ (gC_some hsm hs22)
  obtain ⟨x1, x2⟩ := gR_of (A := A) (L := L) (x := φ s) (by rw [hφ]; simp)
  obtain ⟨-, ⟨w, hw, hw2⟩, -⟩ := hM.1 s hsm
  obtain ⟨⟨w', hw', hw2'⟩, -⟩ := (hM.2.1 (φ s) x1).2 x2
  have ev : L 22 (8 * t + d) = J 0 t d := (f9 d (by omega)).symm
  have q1 : Adv N J P (up3 (up3 (up3 (stN N t k) 19 t 0 (nI (pl + 1))) 20 t 0 (nI d)) 21 s 0 (nI (w ||| 2 ^ c))) (up3 J 4 s c (J 0 t d)) P t true := by
    intro b nx
    have q := kl_adv_write (b := b) (J := J) (nx := nx) (show t < 12 by omega) hs hk hfat e3 e4 hc s1 (by omega) hw2 hw f6 (by omega)
    rw [up3_c (k := 21) (k' := 19) (by decide), up3_c (k := 20) (k' := 19) (by decide)] at q
    exact q
  have q2 : Goo F A L (zF F) (up2 (up2 (up2 (zA A t) 15 t (nI (pl + 1))) 21 t (nI d)) 31 (φ s) (nI (w' ||| 2 ^ c))) (upL L 32 (12 * φ s + c) (J 0 t d)) t true := by
    intro b nx
    have q := cl_simple_write (b := b) (F := zF F) (A := up2 (zA A t) 15 t (nI (pl + 1))) (L := L) (nx := nx) (show t < 12 by omega) (show d < 8 by omega) f7 hc s3 x1 hw2' hw'
    rw [ev] at q
    exact cl_go hs2 hk (cl_stepS (by omega) (by omega) (by omega) f2 f5 e5 e6 (by decide) q)
  -- first the task's own things
  have g1 : gN t N (up3 (up3 (stN N t k) 19 t 0 (nI (pl + 1))) 20 t 0 (nI d)) := ((gN.st (k := k)).trans (gN.u (by decide))).trans (gN.u (by decide))
  have g2 : gA t A (up2 (up2 (zA A t) 15 t (nI (pl + 1))) 21 t (nI d)) := ((gA.u (q := 20) (x := A 20 t + nI 1) (by decide)).trans (gA.u (by decide))).trans (gA.u (by decide))
  have hT : RelT (up3 (up3 (stN N t k) 19 t 0 (nI (pl + 1))) 20 t 0 (nI d)) J P (up2 (up2 (zA A t) 15 t (nI (pl + 1))) 21 t (nI d)) L nb op ai t :=
    RelT.run (hR.tk ht) h16 (fun q a1 a2 => g1 q t (by omega) (by omega)) (by rw [up3_k (by decide), up3_k (by decide)]; exact up3_s) ⟨rfl, rfl⟩ (fun q a1 => g2 q t (by omega)) (by rw [up2_n (by decide), up2_n (by decide)]; exact up2_s) ⟨fun _ _ => rfl, rfl⟩ ⟨blk, pl + 1, d, f1, by rw [g2 14 t (by omega)]; exact f2, f3, by rw [up3_k (by decide)]; exact up3_s, by rw [up2_n (by decide)]; exact up2_s, up3_s, up2_s, on, fun p hp => f9 p (by omega), f10⟩
  have hR1 := hR.loc (N' := up3 (up3 (stN N t k) 19 t 0 (nI (pl + 1))) 20 t 0 (nI d)) (J' := J) (A' := up2 (up2 (zA A t) 15 t (nI (pl + 1))) 21 t (nI d)) (L' := L) (F' := zF F) (k' := k + 1) ht (by rw [h16]; decide) (fun q i a c => g1 q i a (by omega)) fJ.refl (fun q i a => g2 q i (by omega)) fL.refl (fun q hq => zF_n hq) (by omega) rfl (zF_12 hs2) hT
  have hP1 := hP.loc (N' := up3 (up3 (stN N t k) 19 t 0 (nI (pl + 1))) 20 t 0 (nI d)) (A' := up2 (up2 (zA A t) 15 t (nI (pl + 1))) 21 t (nI d)) (F' := zF F) (t := t) (fun q i a c => g1 q i a (by omega)) (fun q i a => g2 q i (by omega)) (fun q hq => zF_n hq)
  -- then the cell
  obtain ⟨r1, r2, r3, r4, r5, r6, r7, r8, r9, r10, r11, r12, r13⟩ := hR1
  refine ⟨true, _, _, P, _, _, _, n, k + 1, φ, q1 b1 nx1, q2 b2 nx2, zF_n (by decide), hP1.cg (fun q i a => congrFun (up3_k (by omega)) i) rfl ⟨rfl, rfl, rfl⟩ (fun q a1 a2 => up2_n (by omega)), ⟨r1, r2, r3, r4, r5, r6, r7, r8, r9, r10, r11, fun t' ht' => (r12 t' ht').cg r3.2.1 (fun q a1 a2 => congrFun (up3_k (by omega)) t') (fun q a => congrFun (up3_k (by omega)) t') ⟨rfl, rfl, rfl⟩ (fun q a1 a2 => by rw [up2_n (by omega)]) ⟨fun p hp => by rw [upL_n (by decide)], fun p hp => by rw [upL_n (by decide)], fun p hp => by rw [upL_n (by decide)], by rw [upL_n (by decide)]⟩, ?_⟩, Nat.le_refl _, fun _ => rfl, fun q => by cases q⟩
  refine r13.set (s := s) s2 (fun d' => if d' = c then some (J 0 t d) else none) (fun i => congrFun (up3_k (by decide)) i) (fun i hi => up3_n hi) (fun i hi => up3_n hi) ⟨w ||| 2 ^ c, Nat.or_lt_two_pow (n := 12) hw (Nat.pow_lt_pow_right (by decide) hc), up3_s⟩ ?_ (fun _ _ _ => rfl) (fun q a1 a2 => up2_n (by omega)) (fun x hx => up2_o hx) (fun x c' hx hc' => upL_o (by omega)) ⟨w' ||| 2 ^ c, Nat.or_lt_two_pow (n := 12) hw' (Nat.pow_lt_pow_right (by decide) hc), up2_s⟩ ?_ (fun t' ht' q => q)
  · rw [up3_s]
    have e21 : up3 (up3 (stN N t k) 19 t 0 (nI (pl + 1))) 20 t 0 (nI d) 21 s 0 = nI w := hw2
    rw [e21]
    refine cw_one hw hc (fun d' => ?_)
    by_cases e : d' = c
    · subst e; rw [up3_s, if_pos rfl]
    · rw [up3_p e, if_neg e]
  · rw [up2_s]
    have e31 : up2 (up2 (zA A t) 15 t (nI (pl + 1))) 21 t (nI d) 31 (φ s) = nI w' := hw2'
    rw [e31]
    refine cw_one hw' hc (fun d' => ?_)
    by_cases e : d' = c
    · subst e; rw [upL_s, if_pos rfl]
    · rw [upL_o (by omega), if_neg e]
set_option maxHeartbeats 4000000 in
theorem one_fail {n k t c : Nat} {φ : Nat → Nat} (hP : RelP N P F A nb nm lt sz op ai kd mg) (hR : RelR N J P F A L nb nm sz op ai kd mg n k φ) (ht : t < n) (h16 : N 16 t 0 = nI 0) (hk : k < 2000) (hc : 1 ≤ c ∧ c ≤ 4) (ha : Adv N J P (up3 (up3 (stN N t k) 17 t 0 (nI c)) 16 t 0 (nI 2)) J P t true) (hg : Goo F A L (zF F) (up2 (up2 (zA A t) 16 t (nI 2)) 17 t (nI c)) L t true) : One b1 nx1 b2 nx2 N J P F A L nb nm lt sz op ai kd mg n k t := by
  refine One.loc hP hR ht h16 hk ((fN.st.trans (fN.u (by decide) (by decide))).trans (fN.u (by decide) (by decide))) fJ.refl (((fA.u (k := 20) (x := A 20 t + nI 1) (by decide) (by decide)).trans (fA.u (by decide) (by decide))).trans (fA.u (by decide) (by decide))) fL.refl rfl ?_ ha hg
  refine RelT.fail (hR.tk ht) h16 hc rfl up3_s (by rw [up3_k (by decide)]; exact up3_s) ?_ ⟨rfl, rfl⟩ (fun q a => ?_) (by rw [up2_n (by decide)]; exact up2_s) up2_s ⟨fun _ _ => rfl, rfl⟩
  · have h18 := (hR.tk ht).2.2.2.1
    rw [up2_n (by decide), up2_n (by decide), up3_k (by decide), up3_k (by decide)]
    show up2 A 20 t (A 20 t + nI 1) 20 t = stN N t k 18 t 0
    rw [up2_s, h18]
    exact up3_s.symm
  · rw [up2_n (by omega), up2_n (by omega)]
    show up2 A 20 t (A 20 t + nI 1) q t = A q t
    rw [up2_n (by omega)]
set_option maxHeartbeats 4000000 in
theorem one_four {n t : Nat} {φ : Nat → Nat} (hP : RelP N P F A nb nm lt sz op ai kd mg) (hR : RelR N J P F A L nb nm sz op ai kd mg n 2000 φ) (ht : t < n) (h16 : N 16 t 0 = nI 0) : One b1 nx1 b2 nx2 N J P F A L nb nm lt sz op ai kd mg n 2000 t := by
  have hn := hR.2.1
  have hs := hR.2.2.2.2.2.2.2.2.1
  have hs2 := hR.2.2.2.2.2.2.2.2.2.1
  have g1 : fN t N (up3 (up3 N 17 t 0 (nI 4)) 16 t 0 (nI 2)) := (fN.u (by decide) (by decide)).trans (fN.u (by decide) (by decide))
  have g2 : fA t A (up2 (up2 A 16 t (nI 2)) 17 t (nI 4)) := (fA.u (by decide) (by decide)).trans (fA.u (by decide) (by decide))
  refine ⟨false, _, J, P, F, _, L, n, 2000, φ, kl_adv4 (by omega) hs, cl_go4 (by omega) hs2, rfl, hP.loc g1 g2 (fun _ _ => rfl), hR.loc ht (by rw [h16]; decide) g1 fJ.refl g2 fL.refl (fun _ _ => rfl) (Nat.le_refl _) hs hs2 ?_, Nat.le_refl _, (fun q => by cases q), fun _ => ⟨rfl, rfl, rfl, up3_s, fun t' _ q => by rw [up3_n q, up3_k (by decide)]⟩⟩
  refine RelT.fail (c := 4) (hR.tk ht) h16 (by decide) rfl up3_s (by rw [up3_k (by decide)]; exact up3_s) (hR.tk ht).2.2.2.1 ⟨rfl, rfl⟩ (fun q a => ?_) (by rw [up2_n (by decide)]; exact up2_s) up2_s ⟨fun _ _ => rfl, rfl⟩
  rw [up2_n (by omega), up2_n (by omega)]
set_option maxHeartbeats 4000000 in
theorem one_end {n k t : Nat} {φ : Nat → Nat} (hP : RelP N P F A nb nm lt sz op ai kd mg) (hR : RelR N J P F A L nb nm sz op ai kd mg n k φ) (ht : t < n) (h16 : N 16 t 0 = nI 0) (hk : k < 2000) {blk pl h : Nat} (hf : FrT N J P A L nb op ai t blk pl h) (hb : blk < 6) (hp : pl < sz blk) (hsz : sz blk ≤ 24) (h1 : tkN (op blk pl) ≤ h) (h6 : h ≤ 6) (hfat : fat N P t blk (sz blk) pl) (e3 : N 3 blk pl = nI (op blk pl)) (e4 : N 4 blk pl = ai blk pl) (e5 : A 5 (24 * blk + pl) = nI (op blk pl)) (e6 : A 6 (24 * blk + pl) = ai blk pl) (hg : GdC false (op blk) (ai blk) (sz blk) nb) (hok : okA false (op blk pl) (ai blk pl) pl (sz blk) nb = true) (ho : op blk pl = 16) : One b1 nx1 b2 nx2 N J P F A L nb nm lt sz op ai kd mg n k t := by
  have hf' := hf
  obtain ⟨f1, f2, f3, f4, f5, f6, f7, f8, f9, f10⟩ := hf'
  have hn := hR.2.1
  have hs := hR.2.2.2.2.2.2.2.2.1
  have hs2 := hR.2.2.2.2.2.2.2.2.2.1
  rw [ho] at e3 e5 h1 hok
  obtain ⟨d, rfl⟩ : ∃ d, h = d + 1 := ⟨h - 1, by have : tkN 16 = 1 := rfl; omega⟩
  have ev : L 22 (8 * t + d) = J 0 t d := (f9 d (by omega)).symm
  have g1 : fN t N (up3 (up3 (stN N t k) 20 t 0 (nI d)) 16 t 0 (nI 1)) := (fN.st.trans (fN.u (by decide) (by decide))).trans (fN.u (by decide) (by decide))
  have g2 : fA t A (up2 (up2 (up2 (zA A t) 15 t (nI (pl + 1))) 21 t (nI d)) 16 t (nI 1)) := (((fA.u (k := 20) (x := A 20 t + nI 1) (by decide) (by decide)).trans (fA.u (by decide) (by decide))).trans (fA.u (by decide) (by decide))).trans (fA.u (by decide) (by decide))
  obtain ⟨⟨st, a1, a2, a3, a4, a5, a6⟩, ⟨pc, b1, b2, b3, b4⟩, c1, c2, c3, c4, c5, c6, c7⟩ := hR.tk ht
  have hst : st = 0 := (nI_eq (by omega) (by decide)).mp (a1.symm.trans h16)
  subst hst
  refine One.loc hP hR ht h16 hk g1 (fJ.u (k := 3) (p := 0) (x := J 0 t d) (by decide)) g2 (fL.u26 (v := J 0 t d)) rfl ?_ (fun b nx => kl_adv_end (by omega) hs hk hfat e3 f6 (by omega)) ?_
  · refine ⟨⟨1, up3_s, up2_s, by decide, ⟨fun q => by omega, fun q => absurd (a4.mpr q) (by decide)⟩, fun q => by omega, fun q => by omega⟩, ⟨pc, b1, b2, b3, fun p hp => ?_⟩, c1, ?_, c3, c4, c5, c6, ?_⟩
    · rw [up3_k (by decide), upL_n (by decide)]; exact b4 p hp
    · rw [up2_n (by decide), up2_n (by decide), up2_n (by decide), up3_k (by decide), up3_k (by decide)]
      show up2 A 20 t (A 20 t + nI 1) 20 t = stN N t k 18 t 0
      rw [up2_s, c2]
      exact up3_s.symm
    · rw [upL_s, up3_s]
  · intro b nx
    have q := cl_simple_end (b := b) (F := zF F) (A := up2 (zA A t) 15 t (nI (pl + 1))) (L := L) (nx := nx) (a := ai blk pl) (show t < 12 by omega) (show d < 8 by omega) f7
    rw [ev] at q
    exact cl_go hs2 hk (cl_stepS (by omega) (by omega) (by omega) f2 f5 e5 e6 (by decide) q)
set_option maxHeartbeats 4000000 in
theorem one_print {n k t : Nat} {φ : Nat → Nat} (hP : RelP N P F A nb nm lt sz op ai kd mg) (hR : RelR N J P F A L nb nm sz op ai kd mg n k φ) (ht : t < n) (h16 : N 16 t 0 = nI 0) (hk : k < 2000) {blk pl h : Nat} (hf : FrT N J P A L nb op ai t blk pl h) (hb : blk < 6) (hp : pl < sz blk) (hsz : sz blk ≤ 24) (h1 : tkN (op blk pl) ≤ h) (h6 : h ≤ 6) (hfat : fat N P t blk (sz blk) pl) (e3 : N 3 blk pl = nI (op blk pl)) (e4 : N 4 blk pl = ai blk pl) (e5 : A 5 (24 * blk + pl) = nI (op blk pl)) (e6 : A 6 (24 * blk + pl) = ai blk pl) (hg : GdC false (op blk) (ai blk) (sz blk) nb) (hok : okA false (op blk pl) (ai blk pl) pl (sz blk) nb = true) (ho : op blk pl = 15) : One b1 nx1 b2 nx2 N J P F A L nb nm lt sz op ai kd mg n k t := by
  have hf' := hf
  obtain ⟨f1, f2, f3, f4, f5, f6, f7, f8, f9, f10⟩ := hf'
  have hn := hR.2.1
  have hs := hR.2.2.2.2.2.2.2.2.1
  have hs2 := hR.2.2.2.2.2.2.2.2.2.1
  have on := hg.on f8 (by omega) (by omega)
  rw [ho] at e3 e5 on h1 hok
  obtain ⟨d, rfl⟩ : ∃ d, h = d + 1 := ⟨h - 1, by have : tkN 15 = 1 := rfl; omega⟩
  have ev : L 22 (8 * t + d) = J 0 t d := (f9 d (by omega)).symm
  obtain ⟨⟨st, a1, a2, a3, a4, a5, a6⟩, ⟨pc, b1, b2, b3, b4⟩, c1, c2, c3, c4, c5, c6, c7⟩ := hR.tk ht
  by_cases h30 : pc = 30
  · subst h30
    refine one_fail (c := 4) hP hR ht h16 hk (by decide) (fun b nx => kl_adv_print (by omega) hs hk hfat e3 (kl_printTop4 (N := stN N t k) (by omega) b1)) (fun b nx => cl_go hs2 hk (cl_stepPrint4 (by omega) (by omega) (by omega) f2 f5 e5 b2))
  · have hst : st = 0 := (nI_eq (by omega) (by decide)).mp (a1.symm.trans h16)
    subst hst
    have g1 : fN t N (up3 (up3 (up3 (stN N t k) 20 t 0 (nI d)) 15 t 0 (nI (pc + 1))) 19 t 0 (nI (pl + 1))) := ((fN.st.trans (fN.u (by decide) (by decide))).trans (fN.u (by decide) (by decide))).trans (fN.u (by decide) (by decide))
    have g2 : fA t A (up2 (up2 (up2 (zA A t) 15 t (nI (pl + 1))) 21 t (nI d)) 24 t (nI (pc + 1))) := (((fA.u (k := 20) (x := A 20 t + nI 1) (by decide) (by decide)).trans (fA.u (by decide) (by decide))).trans (fA.u (by decide) (by decide))).trans (fA.u (by decide) (by decide))
    refine One.loc hP hR ht h16 hk g1 (fJ.u (k := 2) (p := pc) (x := J 0 t d) (by decide)) g2 (fL.u25 (d := pc) (v := J 0 t d) (by omega)) rfl ?_ (fun b nx => kl_adv_print (by omega) hs hk hfat e3 (kl_printTop (N := stN N t k) (by omega) b1 (by omega) f6 (by omega) f4)) ?_
    · refine ⟨⟨0, a1, a2, by decide, a4, fun q => by omega, fun _ => ⟨blk, pl + 1, d, f1, f2, f3, up3_s, by rw [up2_n (by decide), up2_n (by decide)]; exact up2_s, by rw [up3_k (by decide), up3_k (by decide)]; exact up3_s, by rw [up2_n (by decide)]; exact up2_s, on, fun p hp => ?_, fun a ha => ?_⟩⟩, ⟨pc + 1, by rw [up3_k (by decide)]; exact up3_s, up2_s, by omega, fun p hp => ?_⟩, c1, ?_, c3, c4, c5, c6, ?_⟩
      · rw [up3_k (by decide), upL_n (by decide)]; exact f9 p (by omega)
      · rw [up3_k (by decide), upL_n (by decide)]; exact f10 a ha
      · by_cases e : p = pc
        · subst e; rw [up3_s, upL_s]
        · rw [up3_p e, upL_o (by omega)]; exact b4 p (by omega)
      · rw [up2_n (by decide), up2_n (by decide), up2_n (by decide), up3_k (by decide), up3_k (by decide), up3_k (by decide)]
        show up2 A 20 t (A 20 t + nI 1) 20 t = stN N t k 18 t 0
        rw [up2_s, c2]
        exact up3_s.symm
      · rw [upL_n (by decide), up3_k (by decide)]; exact c7
    · intro b nx
      have q := cl_simple_print (b := b) (F := zF F) (A := up2 (zA A t) 15 t (nI (pl + 1))) (L := L) (nx := nx) (a := ai blk pl) (show t < 12 by omega) (show d < 8 by omega) f7 b2 (show pc < 30 by omega)
      rw [ev] at q
      exact cl_go hs2 hk (cl_stepPrint (by omega) (by omega) (by omega) f2 f5 e5 e6 b2 (by omega) q)
end RE
