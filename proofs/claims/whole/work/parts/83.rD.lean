/-! one step of a task: its own things -/
section RD
variable {N N' : cN} {J J' : cJ} {P P' : cP} {F F' : Nat → Int32} {A A' : Nat → Nat → Int32} {L L' : Nat → Nat → Int64} {nb nm : Nat} {lt : Option Nat} {sz : Nat → Nat} {op : Nat → Nat → Nat} {ai : Nat → Nat → Int32} {kd mg : Nat → Nat} {b1 b2 : Nat → Option va_E} {nx1 nx2 : Option Nat}
def Adv (N : cN) (J : cJ) (P : cP) (N' : cN) (J' : cJ) (P' : cP) (t : Nat) (g : Bool) : Prop := ∀ (b : Nat → Option va_E) (nx : Option Nat), Cl 54 [.ref 36, .ref (43 + 5 * t)] (cpic b N J P) nx = some ((cpic b N' J' P', nx, 0, 0), .inl (some (.int (bI g))))
def Goo (F : Nat → Int32) (A : Nat → Nat → Int32) (L : Nat → Nat → Int64) (F' : Nat → Int32) (A' : Nat → Nat → Int32) (L' : Nat → Nat → Int64) (t : Nat) (g : Bool) : Prop := ∀ (b : Nat → Option va_E) (nx : Option Nat), Cl 125 [.ref 149, .int (nI t)] (mpic b F A L) nx = some ((mpic b F' A' L', nx, 0, 0), .inl (some (.int (bI g))))
/-- one step on both sides -/
def One (b1 : Nat → Option va_E) (nx1 : Option Nat) (b2 : Nat → Option va_E) (nx2 : Option Nat) (N : cN) (J : cJ) (P : cP) (F : Nat → Int32) (A : Nat → Nat → Int32) (L : Nat → Nat → Int64) (nb nm : Nat) (lt : Option Nat) (sz : Nat → Nat) (op : Nat → Nat → Nat) (ai : Nat → Nat → Int32) (kd mg : Nat → Nat) (n k t : Nat) : Prop :=
  ∃ g N' J' P' F' A' L' n' k' φ', Cl 54 [.ref 36, .ref (43 + 5 * t)] (cpic b1 N J P) nx1 = some ((cpic b1 N' J' P', nx1, 0, 0), .inl (some (.int (bI g)))) ∧ Cl 125 [.ref 149, .int (nI t)] (mpic b2 F A L) nx2 = some ((mpic b2 F' A' L', nx2, 0, 0), .inl (some (.int (bI g)))) ∧ F' 0 = F 0 ∧ RelP N' P' F' A' nb nm lt sz op ai kd mg ∧ RelR N' J' P' F' A' L' nb nm sz op ai kd mg n' k' φ' ∧ n ≤ n' ∧ (g = true → k' = k + 1) ∧ (g = false → k = 2000 ∧ k' = 2000 ∧ n' = n ∧ N' 16 t 0 = nI 2 ∧ ∀ t', t' < n → t' ≠ t → N' 16 t' 0 = N 16 t' 0)
theorem zF_n {q : Nat} (h : q ≠ 12) : zF F q = F q := up1_n h
theorem zF_12 {k : Nat} (h : F 12 = nI k) : zF F 12 = nI (k + 1) := by
  show up1 F 12 (F 12 + nI 1) 12 = _
  rw [up1_s, h, nI_add]
/-- what holds of a task that runs -/
theorem RelR.at {n k t : Nat} {φ : Nat → Nat} (hP : RelP N P F A nb nm lt sz op ai kd mg) (hR : RelR N J P F A L nb nm sz op ai kd mg n k φ) (ht : t < n) (h16 : N 16 t 0 = nI 0) : ∃ blk pl h, FrT N J P A L nb op ai t blk pl h ∧ A 16 t = nI 0 ∧ blk < 6 ∧ pl < sz blk ∧ sz blk ≤ 24 ∧ tkN (op blk pl) ≤ h ∧ h ≤ 6 ∧ op blk pl < 19 ∧ fat N P t blk (sz blk) pl ∧ N 3 blk pl = nI (op blk pl) ∧ N 4 blk pl = ai blk pl ∧ A 5 (24 * blk + pl) = nI (op blk pl) ∧ A 6 (24 * blk + pl) = ai blk pl ∧ GdC false (op blk) (ai blk) (sz blk) nb ∧ okA false (op blk pl) (ai blk pl) pl (sz blk) nb = true := by
  obtain ⟨h1, h2, h3, h4, h5, h6, h7, h8, h9, h10, h11, h12, h13, h14⟩ := hP
  obtain ⟨a1, a2, a3, a4, a5, a6, a7, a8, a9, a10, a11, a13, a14⟩ := hR
  obtain ⟨⟨st, c1, c2, c3, c4, c5, c6⟩, -⟩ := a13 t ht
  have hst : st = 0 := (nI_eq (by omega) (by decide)).mp (c1.symm.trans h16)
  subst hst
  obtain ⟨blk, pl, h, hf⟩ := c6 rfl
  have hf' := hf
  obtain ⟨f1, f2, f3, f4, f5, f6, f7, f8, f9, f10⟩ := hf'
  have hg := a3.2.1 blk f3
  obtain ⟨g1, g2, g3⟩ := hg.at f8
  obtain ⟨t1, t2, t3⟩ := h10 blk (by omega)
  obtain ⟨t4, t5, t6⟩ := t3 pl g1
  obtain ⟨s1, s2, s3⟩ := h11 blk (by omega)
  obtain ⟨s4, s5, s6⟩ := s3 pl g1
  exact ⟨blk, pl, h, hf, c2, by omega, g1, s2, g2, g3, t5, ⟨by omega, by omega, f1, t1, t2, f4, g1⟩, t4, t6, s4, s6, hg, hg.2.2.1 pl g1⟩
theorem One.loc {n k t : Nat} {φ : Nat → Nat} (hP : RelP N P F A nb nm lt sz op ai kd mg) (hR : RelR N J P F A L nb nm sz op ai kd mg n k φ) (ht : t < n) (h16 : N 16 t 0 = nI 0) (hk : k < 2000) (hN : fN t N N') (hJ : fJ t J J') (hA : fA t A A') (hL : fL t L L') (e1 : N' 13 0 0 = nI (k + 1)) (hT : RelT N' J' P A' L' nb op ai t) (ha : Adv N J P N' J' P t true) (hg : Goo F A L (zF F) A' L' t true) : One b1 nx1 b2 nx2 N J P F A L nb nm lt sz op ai kd mg n k t := by
  refine ⟨true, N', J', P, zF F, A', L', n, k + 1, φ, ha b1 nx1, hg b2 nx2, zF_n (by decide), hP.loc hN hA (fun q hq => zF_n hq), hR.loc ht (by rw [h16]; decide) hN hJ hA hL (fun q hq => zF_n hq) (by omega) e1 (zF_12 hR.2.2.2.2.2.2.2.2.2.1) hT, Nat.le_refl _, fun _ => rfl, fun q => by cases q⟩
/-- what changes while it runs on -/
def gN (t : Nat) (N N' : cN) : Prop := ∀ q i, q ≠ 13 → ¬ ((q = 18 ∨ q = 19 ∨ q = 20) ∧ i = t) → N' q i = N q i
def gJ (t : Nat) (J J' : cJ) : Prop := ∀ q i, ¬ (q ≤ 1 ∧ i = t) → J' q i = J q i
def gA (t : Nat) (A A' : Nat → Nat → Int32) : Prop := ∀ q i, ¬ ((q = 15 ∨ q = 20 ∨ q = 21) ∧ i = t) → A' q i = A q i
def gL (t : Nat) (L L' : Nat → Nat → Int64) : Prop := (∀ q, q ≠ 22 → q ≠ 23 → L' q = L q) ∧ fL t L L'
theorem gN.trans {t : Nat} {N1 : cN} (h : gN t N N1) (h' : gN t N1 N') : gN t N N' := fun k i a c => (h' k i a c).trans (h k i a c)
theorem gA.trans {t : Nat} {A1 : Nat → Nat → Int32} (h : gA t A A1) (h' : gA t A1 A') : gA t A A' := fun k i a => (h' k i a).trans (h k i a)
theorem gN.u {t q p : Nat} {x : Int32} (h : q = 18 ∨ q = 19 ∨ q = 20) : gN t N (up3 N q t p x) := fun k' i' _ z => up3_q (fun w => z ⟨by rw [w.1]; exact h, w.2⟩)
theorem gN.st {t k : Nat} : gN t N (stN N t k) := by
  refine gN.trans (N1 := up3 N 13 0 0 (nI (k + 1))) (fun k' i' q _ => congrFun (up3_k q) i') (gN.u (by decide))
theorem gA.u {t q : Nat} {x : Int32} (h : q = 15 ∨ q = 20 ∨ q = 21) : gA t A (up2 A q t x) := by
  intro k' i' z
  by_cases hk : k' = q
  · subst hk
    exact up2_o (fun w => z ⟨h, w⟩)
  · rw [up2_n hk]
theorem gJ.refl {t : Nat} : gJ t J J := fun _ _ _ => rfl
theorem gJ.u {t q p : Nat} {x : Int64} (h : q ≤ 1) : gJ t J (up3 J q t p x) := fun k' i' z => up3_q (fun w => z ⟨by omega, w.2⟩)
theorem gL.refl {t : Nat} : gL t L L := ⟨fun _ _ _ => rfl, fL.refl⟩
theorem gL.u22 {t d : Nat} {v : Int64} (hd : d < 8) : gL t L (upL L 22 (8 * t + d) v) := ⟨fun q a _ => upL_n a, fL.u22 hd⟩
theorem gL.u23 {t d : Nat} {v : Int64} (hd : d < 4) : gL t L (upL L 23 (4 * t + d) v) := ⟨fun q _ a => upL_n a, fL.u23 hd⟩
theorem One.run {n k t : Nat} {φ : Nat → Nat} (hP : RelP N P F A nb nm lt sz op ai kd mg) (hR : RelR N J P F A L nb nm sz op ai kd mg n k φ) (ht : t < n) (h16 : N 16 t 0 = nI 0) (hk : k < 2000) (hN : gN t N N') (hJ : gJ t J J') (hA : gA t A A') (hL : gL t L L') (e1 : N' 13 0 0 = nI (k + 1)) (e2 : N' 18 t 0 = N 18 t 0 + nI 1) (e3 : A' 20 t = A 20 t + nI 1) {blk pl h pl' h' : Nat} (hf : FrT N J P A L nb op ai t blk pl h) (f1 : N' 19 t 0 = nI pl') (f2 : A' 15 t = nI pl') (f3 : N' 20 t 0 = nI h') (f4 : A' 21 t = nI h') (f5 : Rch (op blk) (fun k => (ai blk k).toNatClampNeg) pl' h') (f6 : ∀ p, p < h' → J' 0 t p = L' 22 (8 * t + p)) (f7 : ∀ a, a < 4 → J' 1 t a = L' 23 (4 * t + a)) (ha : Adv N J P N' J' P t true) (hg : Goo F A L (zF F) A' L' t true) : One b1 nx1 b2 nx2 N J P F A L nb nm lt sz op ai kd mg n k t := by
  refine One.loc hP hR ht h16 hk (fun q i a c => hN q i a (by omega)) (fun q i a => hJ q i (by omega)) (fun q i a => hA q i (by omega)) hL.2 e1 ?_ ha hg
  obtain ⟨g1, g2, g3, -⟩ := hf
  refine RelT.run (hR.2.2.2.2.2.2.2.2.2.2.2.1 t ht) h16 (fun q a1 a2 => hN q t (by omega) (by omega)) e2 ⟨hJ 2 t (by omega), hJ 3 t (by omega)⟩ (fun q a1 => hA q t (by omega)) e3 ⟨fun p hp => by rw [hL.1 25 (by decide) (by decide)], by rw [hL.1 26 (by decide) (by decide)]⟩ ⟨blk, pl', h', g1, by rw [hA 14 t (by omega)]; exact g2, g3, f1, f2, f3, f4, f5, f6, f7⟩
/-- stack below its new top -/
theorem st_put {t h : Nat} {v : Int64} (h9 : ∀ p, p < h → J 0 t p = L 22 (8 * t + p)) : ∀ p, p < h + 1 → up3 J 0 t h v 0 t p = upL L 22 (8 * t + h) v 22 (8 * t + p) := by
  intro p hp
  by_cases e : p = h
  · subst e; rw [up3_s, upL_s]
  · rw [up3_p e, upL_o (by omega)]
    exact h9 p (by omega)
theorem up3_c {α : Type} {N : Nat → Nat → Nat → α} {k i p k' i' p' : Nat} {x y : α} (h : k ≠ k') : up3 (up3 N k i p x) k' i' p' y = up3 (up3 N k' i' p' y) k i p x := by
  funext a c d
  unfold up3
  by_cases h1 : a = k
  · have h2 : ¬ a = k' := fun q => h (h1.symm.trans q)
    have h3 : ¬ k = k' := h
    simp [h1, h3]
  · by_cases h2 : a = k'
    · have h3 : ¬ k' = k := fun q => h q.symm
      simp [h2, h3]
    · simp [h1, h2]
theorem up2_2 {k i : Nat} {x y : Int32} : up2 (up2 A k i x) k i y = up2 A k i y := by
  funext a c
  by_cases h1 : a = k
  · subst h1
    by_cases h2 : c = i
    · subst h2; rw [up2_s, up2_s]
    · rw [up2_o h2, up2_o h2, up2_o h2]
  · rw [up2_n h1, up2_n h1, up2_n h1]
theorem up2_c {k i k' i' : Nat} {x y : Int32} (h : k ≠ k') : up2 (up2 A k i x) k' i' y = up2 (up2 A k' i' y) k i x := by
  funext a c
  by_cases h1 : a = k
  · subst h1
    rw [up2_n h]
    by_cases h2 : c = i
    · subst h2; rw [up2_s, up2_s]
    · rw [up2_o h2, up2_o h2, up2_n h]
  · by_cases h2 : a = k'
    · subst h2
      rw [up2_n h1]
      by_cases h3 : c = i'
      · subst h3; rw [up2_s, up2_s]
      · rw [up2_o h3, up2_o h3, up2_n h1]
    · rw [up2_n h2, up2_n h1, up2_n h1, up2_n h2]
theorem up2_id {k i : Nat} {x : Int32} (h : A k i = x) : up2 A k i x = A := by
  subst h
  funext a c
  by_cases h1 : a = k
  · subst h1
    by_cases h2 : c = i
    · subst h2; rw [up2_s]
    · rw [up2_o h2]
  · rw [up2_n h1]
theorem one_fr {n k t : Nat} {φ : Nat → Nat} (hP : RelP N P F A nb nm lt sz op ai kd mg) (hR : RelR N J P F A L nb nm sz op ai kd mg n k φ) (ht : t < n) (h16 : N 16 t 0 = nI 0) (hk : k < 2000) {blk pl h pl' h' : Nat} (hf : FrT N J P A L nb op ai t blk pl h) (hJ : gJ t J J') (hL : gL t L L') (f5 : Rch (op blk) (fun k => (ai blk k).toNatClampNeg) pl' h') (f6 : ∀ p, p < h' → J' 0 t p = L' 22 (8 * t + p)) (f7 : ∀ a, a < 4 → J' 1 t a = L' 23 (4 * t + a)) (ha : Adv N J P (up3 (up3 (stN N t k) 19 t 0 (nI pl')) 20 t 0 (nI h')) J' P t true) (hg : Goo F A L (zF F) (up2 (up2 (zA A t) 15 t (nI pl')) 21 t (nI h')) L' t true) : One b1 nx1 b2 nx2 N J P F A L nb nm lt sz op ai kd mg n k t :=
  One.run hP hR ht h16 hk (((gN.st (k := k)).trans (gN.u (by decide))).trans (gN.u (by decide))) hJ (((gA.u (q := 20) (x := A 20 t + nI 1) (by decide)).trans (gA.u (by decide))).trans (gA.u (by decide))) hL rfl (by rw [up3_k (by decide), up3_k (by decide)]; exact up3_s) (by rw [up2_n (by decide), up2_n (by decide)]; exact up2_s) hf (by rw [up3_k (by decide)]; exact up3_s) (by rw [up2_n (by decide)]; exact up2_s) up3_s up2_s f5 f6 f7 ha hg
set_option maxHeartbeats 4000000 in
theorem one_push {n k t : Nat} {φ : Nat → Nat} (hP : RelP N P F A nb nm lt sz op ai kd mg) (hR : RelR N J P F A L nb nm sz op ai kd mg n k φ) (ht : t < n) (h16 : N 16 t 0 = nI 0) (hk : k < 2000) {blk pl h : Nat} (hf : FrT N J P A L nb op ai t blk pl h) (hb : blk < 6) (hp : pl < sz blk) (hsz : sz blk ≤ 24) (h1 : tkN (op blk pl) ≤ h) (h6 : h ≤ 6) (hfat : fat N P t blk (sz blk) pl) (e3 : N 3 blk pl = nI (op blk pl)) (e4 : N 4 blk pl = ai blk pl) (e5 : A 5 (24 * blk + pl) = nI (op blk pl)) (e6 : A 6 (24 * blk + pl) = ai blk pl) (hg : GdC false (op blk) (ai blk) (sz blk) nb) (hok : okA false (op blk pl) (ai blk pl) pl (sz blk) nb = true) (ho : op blk pl = 0) : One b1 nx1 b2 nx2 N J P F A L nb nm lt sz op ai kd mg n k t := by
  have hf' := hf
  obtain ⟨f1, f2, f3, f4, f5, f6, f7, f8, f9, f10⟩ := hf'
  have hn := hR.2.1
  have hs := hR.2.2.2.2.2.2.2.2.1
  have hs2 := hR.2.2.2.2.2.2.2.2.2.1
  have on := hg.on f8 (by omega) (by omega)
  rw [ho] at e3 e5 on h1 hok
  refine one_fr (pl' := pl + 1) (h' := h + 1) hP hR ht h16 hk hf (gJ.u (q := 0) (p := h) (x := (ai blk pl).toInt64) (by decide)) (gL.u22 (d := h) (v := (ai blk pl).toInt64) (by omega)) on (st_put f9) (fun a ha => ?_) ?_ ?_
  · rw [upL_n (by decide), up3_k (by decide)]; exact f10 a ha
  · intro b nx
    exact kl_adv_go (by omega) hs hk hfat e3 (by decide) (kl_go_push (N := stN N t k) hfat e3 e4 f6 (by omega))
  · intro b nx
    exact cl_go hs2 hk (cl_stepS (by omega) (by omega) (by omega) f2 f5 e5 e6 (by decide) (cl_simple_push (A := up2 (zA A t) 15 t (nI (pl + 1))) (by omega) (by omega) f7))
set_option maxHeartbeats 4000000 in
theorem one_load {n k t : Nat} {φ : Nat → Nat} (hP : RelP N P F A nb nm lt sz op ai kd mg) (hR : RelR N J P F A L nb nm sz op ai kd mg n k φ) (ht : t < n) (h16 : N 16 t 0 = nI 0) (hk : k < 2000) {blk pl h : Nat} (hf : FrT N J P A L nb op ai t blk pl h) (hb : blk < 6) (hp : pl < sz blk) (hsz : sz blk ≤ 24) (h1 : tkN (op blk pl) ≤ h) (h6 : h ≤ 6) (hfat : fat N P t blk (sz blk) pl) (e3 : N 3 blk pl = nI (op blk pl)) (e4 : N 4 blk pl = ai blk pl) (e5 : A 5 (24 * blk + pl) = nI (op blk pl)) (e6 : A 6 (24 * blk + pl) = ai blk pl) (hg : GdC false (op blk) (ai blk) (sz blk) nb) (hok : okA false (op blk pl) (ai blk pl) pl (sz blk) nb = true) (ho : op blk pl = 1) : One b1 nx1 b2 nx2 N J P F A L nb nm lt sz op ai kd mg n k t := by
  have hf' := hf
  obtain ⟨f1, f2, f3, f4, f5, f6, f7, f8, f9, f10⟩ := hf'
  have hn := hR.2.1
  have hs := hR.2.2.2.2.2.2.2.2.1
  have hs2 := hR.2.2.2.2.2.2.2.2.2.1
  have on := hg.on f8 (by omega) (by omega)
  rw [ho] at e3 e5 on h1 hok
  obtain ⟨a0, ha0, hai⟩ := okA_load hok
  rw [hai] at e4 e6
  have ha4 : a0 < 4 := ha0
  have ev : L 23 (4 * t + a0) = J 1 t a0 := (f10 a0 ha4).symm
  refine one_fr (pl' := pl + 1) (h' := h + 1) hP hR ht h16 hk hf (gJ.u (q := 0) (p := h) (x := J 1 t a0) (by decide)) (gL.u22 (d := h) (v := J 1 t a0) (by omega)) on (st_put f9) (fun a ha => ?_) ?_ ?_
  · rw [upL_n (by decide), up3_k (by decide)]; exact f10 a ha
  · intro b nx
    exact kl_adv_go (by omega) hs hk hfat e3 (by decide) (kl_go_load (N := stN N t k) hfat e3 e4 ha4 f6 (by omega))
  · intro b nx
    have q := cl_simple_load (b := b) (F := zF F) (A := up2 (zA A t) 15 t (nI (pl + 1))) (L := L) (nx := nx) (show t < 12 by omega) (show h < 8 by omega) f7 ha4
    rw [ev] at q
    exact cl_go hs2 hk (cl_stepS (by omega) (by omega) (by omega) f2 f5 e5 e6 (by decide) q)
set_option maxHeartbeats 4000000 in
theorem one_store {n k t : Nat} {φ : Nat → Nat} (hP : RelP N P F A nb nm lt sz op ai kd mg) (hR : RelR N J P F A L nb nm sz op ai kd mg n k φ) (ht : t < n) (h16 : N 16 t 0 = nI 0) (hk : k < 2000) {blk pl h : Nat} (hf : FrT N J P A L nb op ai t blk pl h) (hb : blk < 6) (hp : pl < sz blk) (hsz : sz blk ≤ 24) (h1 : tkN (op blk pl) ≤ h) (h6 : h ≤ 6) (hfat : fat N P t blk (sz blk) pl) (e3 : N 3 blk pl = nI (op blk pl)) (e4 : N 4 blk pl = ai blk pl) (e5 : A 5 (24 * blk + pl) = nI (op blk pl)) (e6 : A 6 (24 * blk + pl) = ai blk pl) (hg : GdC false (op blk) (ai blk) (sz blk) nb) (hok : okA false (op blk pl) (ai blk pl) pl (sz blk) nb = true) (ho : op blk pl = 2) : One b1 nx1 b2 nx2 N J P F A L nb nm lt sz op ai kd mg n k t := by
  have hf' := hf
  obtain ⟨f1, f2, f3, f4, f5, f6, f7, f8, f9, f10⟩ := hf'
  have hn := hR.2.1
  have hs := hR.2.2.2.2.2.2.2.2.1
  have hs2 := hR.2.2.2.2.2.2.2.2.2.1
  have on := hg.on f8 (by omega) (by omega)
  rw [ho] at e3 e5 on h1 hok
  obtain ⟨a0, ha4, hai⟩ := okA_store hok
  rw [hai] at e4 e6
  obtain ⟨d, rfl⟩ : ∃ d, h = d + 1 := ⟨h - 1, by have : tkN 2 = 1 := rfl; omega⟩
  have ev : L 22 (8 * t + d) = J 0 t d := (f9 d (by omega)).symm
  refine one_fr (pl' := pl + 1) (h' := d) hP hR ht h16 hk hf (gJ.u (q := 1) (p := a0) (x := J 0 t d) (by decide)) (gL.u23 (d := a0) (v := J 0 t d) ha4) on (fun p hp => ?_) (fun a ha => ?_) ?_ ?_
  · rw [upL_n (by decide), up3_k (by decide)]; exact f9 p (by omega)
  · by_cases e : a = a0
    · subst e; rw [up3_s, upL_s]
    · rw [up3_p e, upL_o (by omega)]; exact f10 a ha
  · intro b nx
    exact kl_adv_go (by omega) hs hk hfat e3 (by decide) (kl_go_store (N := stN N t k) hfat e3 e4 ha4 f6 (by omega))
  · intro b nx
    have q := cl_simple_store (b := b) (F := zF F) (A := up2 (zA A t) 15 t (nI (pl + 1))) (L := L) (nx := nx) (show t < 12 by omega) (show d < 8 by omega) f7 ha4
    rw [ev] at q
    exact cl_go hs2 hk (cl_stepS (by omega) (by omega) (by omega) f2 f5 e5 e6 (by decide) q)
set_option maxHeartbeats 4000000 in
theorem one_dup {n k t : Nat} {φ : Nat → Nat} (hP : RelP N P F A nb nm lt sz op ai kd mg) (hR : RelR N J P F A L nb nm sz op ai kd mg n k φ) (ht : t < n) (h16 : N 16 t 0 = nI 0) (hk : k < 2000) {blk pl h : Nat} (hf : FrT N J P A L nb op ai t blk pl h) (hb : blk < 6) (hp : pl < sz blk) (hsz : sz blk ≤ 24) (h1 : tkN (op blk pl) ≤ h) (h6 : h ≤ 6) (hfat : fat N P t blk (sz blk) pl) (e3 : N 3 blk pl = nI (op blk pl)) (e4 : N 4 blk pl = ai blk pl) (e5 : A 5 (24 * blk + pl) = nI (op blk pl)) (e6 : A 6 (24 * blk + pl) = ai blk pl) (hg : GdC false (op blk) (ai blk) (sz blk) nb) (hok : okA false (op blk pl) (ai blk pl) pl (sz blk) nb = true) (ho : op blk pl = 17) : One b1 nx1 b2 nx2 N J P F A L nb nm lt sz op ai kd mg n k t := by
  have hf' := hf
  obtain ⟨f1, f2, f3, f4, f5, f6, f7, f8, f9, f10⟩ := hf'
  have hn := hR.2.1
  have hs := hR.2.2.2.2.2.2.2.2.1
  have hs2 := hR.2.2.2.2.2.2.2.2.2.1
  have on := hg.on f8 (by omega) (by omega)
  rw [ho] at e3 e5 on h1 hok
  obtain ⟨d, rfl⟩ : ∃ d, h = d + 1 := ⟨h - 1, by have : tkN 17 = 1 := rfl; omega⟩
  have ev : L 22 (8 * t + d) = J 0 t d := (f9 d (by omega)).symm
  refine one_fr (pl' := pl + 1) (h' := d + 2) hP hR ht h16 hk hf (gJ.u (q := 0) (p := d + 1) (x := J 0 t d) (by decide)) (gL.u22 (d := d + 1) (v := J 0 t d) (by omega)) on (st_put f9) (fun a ha => ?_) ?_ ?_
  · rw [upL_n (by decide), up3_k (by decide)]; exact f10 a ha
  · intro b nx
    exact kl_adv_go (by omega) hs hk hfat e3 (by decide) (kl_go_dup (N := stN N t k) hfat e3 f6 (by omega))
  · intro b nx
    have q := cl_simple_dup (b := b) (F := zF F) (A := up2 (zA A t) 15 t (nI (pl + 1))) (L := L) (nx := nx) (a := ai blk pl) (show t < 12 by omega) (show d < 7 by omega) f7
    rw [ev] at q
    exact cl_go hs2 hk (cl_stepS (by omega) (by omega) (by omega) f2 f5 e5 e6 (by decide) q)
set_option maxHeartbeats 4000000 in
theorem one_pop {n k t : Nat} {φ : Nat → Nat} (hP : RelP N P F A nb nm lt sz op ai kd mg) (hR : RelR N J P F A L nb nm sz op ai kd mg n k φ) (ht : t < n) (h16 : N 16 t 0 = nI 0) (hk : k < 2000) {blk pl h : Nat} (hf : FrT N J P A L nb op ai t blk pl h) (hb : blk < 6) (hp : pl < sz blk) (hsz : sz blk ≤ 24) (h1 : tkN (op blk pl) ≤ h) (h6 : h ≤ 6) (hfat : fat N P t blk (sz blk) pl) (e3 : N 3 blk pl = nI (op blk pl)) (e4 : N 4 blk pl = ai blk pl) (e5 : A 5 (24 * blk + pl) = nI (op blk pl)) (e6 : A 6 (24 * blk + pl) = ai blk pl) (hg : GdC false (op blk) (ai blk) (sz blk) nb) (hok : okA false (op blk pl) (ai blk pl) pl (sz blk) nb = true) (ho : op blk pl = 18) : One b1 nx1 b2 nx2 N J P F A L nb nm lt sz op ai kd mg n k t := by
  have hf' := hf
  obtain ⟨f1, f2, f3, f4, f5, f6, f7, f8, f9, f10⟩ := hf'
  have hn := hR.2.1
  have hs := hR.2.2.2.2.2.2.2.2.1
  have hs2 := hR.2.2.2.2.2.2.2.2.2.1
  have on := hg.on f8 (by omega) (by omega)
  rw [ho] at e3 e5 on h1 hok
  obtain ⟨d, rfl⟩ : ∃ d, h = d + 1 := ⟨h - 1, by have : tkN 18 = 1 := rfl; omega⟩
  refine one_fr (pl' := pl + 1) (h' := d) hP hR ht h16 hk hf gJ.refl gL.refl on (fun p hp => f9 p (by omega)) f10 ?_ ?_
  · intro b nx
    exact kl_adv_go (by omega) hs hk hfat e3 (by decide) (kl_go_pop (N := stN N t k) hfat e3 f6 (by omega))
  · intro b nx
    exact cl_go hs2 hk (cl_stepS (by omega) (by omega) (by omega) f2 f5 e5 e6 (by decide) (cl_simple_pop (A := up2 (zA A t) 15 t (nI (pl + 1))) (a := ai blk pl) (by omega) (by omega) f7))
set_option maxHeartbeats 4000000 in
theorem one_jump {n k t : Nat} {φ : Nat → Nat} (hP : RelP N P F A nb nm lt sz op ai kd mg) (hR : RelR N J P F A L nb nm sz op ai kd mg n k φ) (ht : t < n) (h16 : N 16 t 0 = nI 0) (hk : k < 2000) {blk pl h : Nat} (hf : FrT N J P A L nb op ai t blk pl h) (hb : blk < 6) (hp : pl < sz blk) (hsz : sz blk ≤ 24) (h1 : tkN (op blk pl) ≤ h) (h6 : h ≤ 6) (hfat : fat N P t blk (sz blk) pl) (e3 : N 3 blk pl = nI (op blk pl)) (e4 : N 4 blk pl = ai blk pl) (e5 : A 5 (24 * blk + pl) = nI (op blk pl)) (e6 : A 6 (24 * blk + pl) = ai blk pl) (hg : GdC false (op blk) (ai blk) (sz blk) nb) (hok : okA false (op blk pl) (ai blk pl) pl (sz blk) nb = true) (ho : op blk pl = 11) : One b1 nx1 b2 nx2 N J P F A L nb nm lt sz op ai kd mg n k t := by
  have hf' := hf
  obtain ⟨f1, f2, f3, f4, f5, f6, f7, f8, f9, f10⟩ := hf'
  have hn := hR.2.1
  have hs := hR.2.2.2.2.2.2.2.2.1
  have hs2 := hR.2.2.2.2.2.2.2.2.2.1
  have on := hg.to f8 (Or.inl ho)
  have hai := hg.wf.2 pl hp (Or.inl ho)
  have hlt := (hg.at on).1
  rw [ho] at e3 e5 on h1 hok
  rw [hai] at e4 e6
  have x1 : up3 (up3 (stN N t k) 19 t 0 (nI (ai blk pl).toNatClampNeg)) 20 t 0 (nI h) = up3 (stN N t k) 19 t 0 (nI (ai blk pl).toNatClampNeg) := up3_id f6
  have x2 : up2 (up2 (zA A t) 15 t (nI (ai blk pl).toNatClampNeg)) 21 t (nI h) = up2 (zA A t) 15 t (nI (ai blk pl).toNatClampNeg) := up2_id f7
  refine one_fr (pl' := (ai blk pl).toNatClampNeg) (h' := h) hP hR ht h16 hk hf gJ.refl gL.refl on f9 f10 ?_ ?_
  · intro b nx
    have q := kl_go_jump (b := b) (N := stN N t k) (J := J) (nx := nx) hfat e3 e4
    rw [up3_2] at q
    rw [x1]
    exact kl_adv_go (by omega) hs hk hfat e3 (by decide) q
  · intro b nx
    have q := cl_stepJump (b := b) (F := F) (L := L) (nx := nx) (show t < 12 by omega) (show blk < 8 by omega) (show pl < 24 by omega) f2 f5 e5 e6
    rw [up2_2] at q
    rw [x2]
    exact cl_go hs2 hk q
set_option maxHeartbeats 4000000 in
theorem one_zero {n k t : Nat} {φ : Nat → Nat} (hP : RelP N P F A nb nm lt sz op ai kd mg) (hR : RelR N J P F A L nb nm sz op ai kd mg n k φ) (ht : t < n) (h16 : N 16 t 0 = nI 0) (hk : k < 2000) {blk pl h : Nat} (hf : FrT N J P A L nb op ai t blk pl h) (hb : blk < 6) (hp : pl < sz blk) (hsz : sz blk ≤ 24) (h1 : tkN (op blk pl) ≤ h) (h6 : h ≤ 6) (hfat : fat N P t blk (sz blk) pl) (e3 : N 3 blk pl = nI (op blk pl)) (e4 : N 4 blk pl = ai blk pl) (e5 : A 5 (24 * blk + pl) = nI (op blk pl)) (e6 : A 6 (24 * blk + pl) = ai blk pl) (hg : GdC false (op blk) (ai blk) (sz blk) nb) (hok : okA false (op blk pl) (ai blk pl) pl (sz blk) nb = true) (ho : op blk pl = 12) : One b1 nx1 b2 nx2 N J P F A L nb nm lt sz op ai kd mg n k t := by
  have hf' := hf
  obtain ⟨f1, f2, f3, f4, f5, f6, f7, f8, f9, f10⟩ := hf'
  have hn := hR.2.1
  have hs := hR.2.2.2.2.2.2.2.2.1
  have hs2 := hR.2.2.2.2.2.2.2.2.2.1
  have on := hg.on f8 (by omega) (by omega)
  have to := hg.to f8 (Or.inr ho)
  have hai := hg.wf.2 pl hp (Or.inr ho)
  have hlt := (hg.at to).1
  rw [ho] at e3 e5 on to h1 hok
  rw [hai] at e4 e6
  obtain ⟨d, rfl⟩ : ∃ d, h = d + 1 := ⟨h - 1, by have : tkN 12 = 1 := rfl; omega⟩
  have ev : L 22 (8 * t + d) = J 0 t d := (f9 d (by omega)).symm
  have q2 := fun (b : Nat → Option va_E) (nx : Option Nat) => cl_stepZero (b := b) (F := F) (L := L) (nx := nx) (d := d) (show t < 12 by omega) (show blk < 8 by omega) (show pl < 24 by omega) f2 f5 e5 e6 (by omega) f7
  by_cases hz : J 0 t d = 0
  · refine one_fr (pl' := (ai blk pl).toNatClampNeg) (h' := d) hP hR ht h16 hk hf gJ.refl gL.refl to (fun p hp => f9 p (by omega)) f10 ?_ ?_
    · intro b nx
      have q := kl_go_zero1 (b := b) (N := stN N t k) (J := J) (nx := nx) hfat e3 e4 f6 (by omega) hz
      rw [up3_c (k := 20) (k' := 19) (by decide), up3_2] at q
      exact kl_adv_go (by omega) hs hk hfat e3 (by decide) q
    · intro b nx
      have q := q2 b nx
      rw [ev, if_pos hz, up2_c (k := 21) (k' := 15) (by decide), up2_2] at q
      exact cl_go hs2 hk q
  · refine one_fr (pl' := pl + 1) (h' := d) hP hR ht h16 hk hf gJ.refl gL.refl on (fun p hp => f9 p (by omega)) f10 ?_ ?_
    · intro b nx
      have q := kl_go_zero0 (b := b) (N := stN N t k) (J := J) (nx := nx) hfat e3 f6 (by omega) hz
      exact kl_adv_go (by omega) hs hk hfat e3 (by decide) q
    · intro b nx
      have q := q2 b nx
      rw [ev, if_neg hz, up2_c (k := 21) (k' := 15) (by decide), up2_2] at q
      exact cl_go hs2 hk q
set_option maxHeartbeats 4000000 in
theorem one_bin {n k t : Nat} {φ : Nat → Nat} (hP : RelP N P F A nb nm lt sz op ai kd mg) (hR : RelR N J P F A L nb nm sz op ai kd mg n k φ) (ht : t < n) (h16 : N 16 t 0 = nI 0) (hk : k < 2000) {blk pl h : Nat} (hf : FrT N J P A L nb op ai t blk pl h) (hb : blk < 6) (hp : pl < sz blk) (hsz : sz blk ≤ 24) (h1 : tkN (op blk pl) ≤ h) (h6 : h ≤ 6) (hfat : fat N P t blk (sz blk) pl) (e3 : N 3 blk pl = nI (op blk pl)) (e4 : N 4 blk pl = ai blk pl) (e5 : A 5 (24 * blk + pl) = nI (op blk pl)) (e6 : A 6 (24 * blk + pl) = ai blk pl) (hg : GdC false (op blk) (ai blk) (sz blk) nb) (hok : okA false (op blk pl) (ai blk pl) pl (sz blk) nb = true) (ho : 5 ≤ op blk pl ∧ op blk pl ≤ 10) : One b1 nx1 b2 nx2 N J P F A L nb nm lt sz op ai kd mg n k t := by
  have hf' := hf
  obtain ⟨f1, f2, f3, f4, f5, f6, f7, f8, f9, f10⟩ := hf'
  have hn := hR.2.1
  have hs := hR.2.2.2.2.2.2.2.2.1
  have hs2 := hR.2.2.2.2.2.2.2.2.2.1
  have on := hg.on f8 (by omega) (by omega)
  have htk : tkN (op blk pl) = 2 ∧ puN (op blk pl) = 1 := by
    rcases (show op blk pl = 5 ∨ op blk pl = 6 ∨ op blk pl = 7 ∨ op blk pl = 8 ∨ op blk pl = 9 ∨ op blk pl = 10 by omega) with q | q | q | q | q | q <;> rw [q] <;> decide
  rw [htk.1, htk.2] at on
  rw [htk.1] at h1
  obtain ⟨d, rfl⟩ : ∃ d, h = d + 2 := ⟨h - 2, by omega⟩
  have ev : L 22 (8 * t + d) = J 0 t d := (f9 d (by omega)).symm
  have ev2 : L 22 (8 * t + (d + 1)) = J 0 t (d + 1) := (f9 (d + 1) (by omega)).symm
  refine one_fr (pl' := pl + 1) (h' := d + 1) hP hR ht h16 hk hf (gJ.u (q := 0) (p := d) (x := rk (op blk pl) (J 0 t d) (J 0 t (d + 1))) (by decide)) (gL.u22 (d := d) (v := rk (op blk pl) (J 0 t d) (J 0 t (d + 1))) (by omega)) on (st_put (fun p hp => f9 p (by omega))) (fun a ha => ?_) ?_ ?_
  · rw [upL_n (by decide), up3_k (by decide)]; exact f10 a ha
  · intro b nx
    have q := kl_go_bin (b := b) (N := stN N t k) (J := J) (nx := nx) hfat e3 ho.1 ho.2 f6 (by omega)
    rw [up3_2, up3_2] at q
    exact kl_adv_go (by omega) hs hk hfat e3 (by omega) q
  · intro b nx
    have q := cl_stepBin (b := b) (F := F) (L := L) (nx := nx) (d := d) (show t < 12 by omega) (show blk < 8 by omega) (show pl < 24 by omega) f2 f5 e5 ho.1 ho.2 (by omega) f7
    rw [up2_2, up2_2, ev, ev2] at q
    exact cl_go hs2 hk q
end RD
