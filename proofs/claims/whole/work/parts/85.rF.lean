/-! joins that cannot be, or wait -/
section RF
variable {N N' : cN} {J J' : cJ} {P P' : cP} {F F' : Nat → Int32} {A A' : Nat → Nat → Int32} {L L' : Nat → Nat → Int64} {nb nm : Nat} {lt : Option Nat} {sz : Nat → Nat} {op : Nat → Nat → Nat} {ai : Nat → Nat → Int32} {kd mg : Nat → Nat} {b1 b2 : Nat → Option va_E} {nx1 nx2 : Option Nat}
theorem jch_cg (h16 : A' 16 = A 16) (h19 : A' 19 = A 19) {e : Option Nat} : ∀ (l : List Nat) (o : Option Nat), jch A o l e → jch A' o l e := by
  intro l
  induction l with
  | nil => intro o h; exact ⟨h.1, fun q hq => by rw [h16]; exact h.2 q hq⟩
  | cons s l ih =>
    intro o h
    obtain ⟨h1, h2, h3, o', h4, h5⟩ := h
    exact ⟨h1, h2, by rw [h16]; exact h3, o', by rw [h19]; exact h4, ih o' h5⟩
/-- the way of the joiners, on both sides -/
theorem RelR.heir {n k : Nat} {φ : Nat → Nat} (hR : RelR N J P F A L nb nm sz op ai kd mg n k φ) : ∀ (M : Nat) (o : Option Nat), (∀ q, o = some q → q < M) → M ≤ n → ∃ l e, hch (P 2) o l e ∧ jch A o l e ∧ l.length ≤ M ∧ ∀ q, e = some q → q < M := by
  have hn := hR.2.1
  intro M
  induction M using Nat.strongRecOn with
  | _ M ih =>
    intro o ho hM
    cases o with
    | none => exact ⟨[], none, ⟨rfl, fun h q => by cases q⟩, ⟨rfl, fun h q => by cases q⟩, Nat.zero_le _, fun q z => by cases z⟩
    | some q =>
      have hq := ho q rfl
      obtain ⟨⟨st, a1, a2, a3, a4, a5, a6⟩, -, -, -, -, -, c5, c6, -⟩ := hR.tk (show q < n by omega)
      cases h2 : P 2 q with
      | none =>
        have hst : st ≠ 3 := fun z => (a4.mp z) h2
        refine ⟨[], some q, ⟨rfl, fun h z => ?_⟩, ⟨rfl, fun h z => ?_⟩, Nat.zero_le _, fun h z => ?_⟩
        · cases z; exact ⟨by omega, h2⟩
        · cases z
          refine ⟨by omega, ?_⟩
          rw [a2]
          exact fun z => hst ((nI_eq (by omega) (by decide)).mp z)
        · cases z; exact hq
      | some q' =>
        have hst : st = 3 := a4.mpr (by rw [h2]; simp)
        have hq' := c6 q' h2
        obtain ⟨l, e, b1, b2, b3, b4⟩ := ih q hq (some q') (fun z hz => by cases hz; exact hq') (by omega)
        refine ⟨q :: l, e, ⟨rfl, by omega, q', h2, b1⟩, ⟨rfl, by omega, by rw [a2, hst], some q', by rw [c5, h2], b2⟩, by rw [List.length_cons]; omega, fun z hz => by have := b4 z hz; omega⟩
theorem one_of_lN {v : Int64} {n : Nat} (hn : n ≤ 12) (h : 1 ≤ v ∧ v < lN n) : ∃ x, 1 ≤ x ∧ x < n ∧ v = lN x := by
  obtain ⟨x, hx, rfl⟩ := pk_lOf (x := v) (by
    rw [Int64.not_lt]
    exact Int64.le_trans (by decide) h.1)
  have h1 := h.1
  rw [show (1 : Int64) = lN 1 from rfl, pk_lLE (by decide) (by omega)] at h1
  have h2 := h.2
  rw [pk_lLT (by omega) (by omega)] at h2
  exact ⟨x, h1, h2, rfl⟩
/-- whom a join would take -/
theorem ttj_or {n k t d : Nat} {φ : Nat → Nat} {N1 : cN} (hR : RelR N J P F A L nb nm sz op ai kd mg n k φ) (ht : t < n) (h20 : N1 20 t 0 = nI (d + 1)) (h11 : N1 11 0 0 = nI n) (hd : d < 7) :
    ((∀ (b : Nat → Option va_E) (nx : Option Nat), Cl 59 [.ref 36, .ref (43 + 5 * t)] (cpic b N1 J P) nx = some ((cpic b N1 J P, nx, 0, 0), .inl (some .null))) ∧ (isT n (J 0 t d) = false ∨ ∃ x l e, x < n ∧ J 0 t d = lN x ∧ jch A (P 1 x) l e ∧ (∀ q, e = some q → q < 12) ∧ e ≠ some t)) ∨
    ∃ x l, 1 ≤ x ∧ x < n ∧ t < x ∧ J 0 t d = lN x ∧ (∀ (b : Nat → Option va_E) (nx : Option Nat), Cl 59 [.ref 36, .ref (43 + 5 * t)] (cpic b N1 J P) nx = some ((cpic b N1 J P, nx, 0, 0), .inl (some (.ref (43 + 5 * x))))) ∧ jch A (P 1 x) l (some t) := by
  have hn := hR.2.1
  by_cases hv : 1 ≤ J 0 t d ∧ J 0 t d < lN n
  · obtain ⟨x, x1, x2, x3⟩ := one_of_lN hn hv
    obtain ⟨-, -, -, -, c3, c4, -⟩ := hR.tk x2
    obtain ⟨l, e, b1, b2, b3, b4⟩ := hR.heir x (P 1 x) c4 (by omega)
    have key := fun (b : Nat → Option va_E) (nx : Option Nat) => kl_ttj (b := b) (J := J) (nx := nx) (show t < 12 by omega) h20 hd h11 hn x1 x2 x3 b1 (by omega)
    by_cases he : e = some t
    · refine Or.inr ⟨x, l, x1, x2, b4 t he, x3, fun b nx => ?_, by rw [← he]; exact b2⟩
      have q := key b nx
      rw [if_pos he] at q
      exact q
    · refine Or.inl ⟨fun b nx => ?_, Or.inr ⟨x, l, e, x2, x3, b2, fun q hq => by have := b4 q hq; omega, he⟩⟩
      have q := key b nx
      rw [if_neg he] at q
      exact q
  · refine Or.inl ⟨fun b nx => kl_ttj_out (by omega) h20 hd h11 hn hv, ?_⟩
    cases hT : isT n (J 0 t d) with
    | false => exact Or.inl rfl
    | true =>
      obtain ⟨x, hx, hxv⟩ := isT_of hT (by omega) hn
      by_cases h0 : x = 0
      · subst h0
        obtain ⟨-, -, -, -, c3, c4, -⟩ := hR.tk (show 0 < n by omega)
        have hp : P 1 0 = none := by
          cases h : P 1 0 with
          | none => rfl
          | some q => exact absurd (c4 q h) (by omega)
        exact Or.inr ⟨0, [], none, by omega, hxv, ⟨hp, fun h z => by cases z⟩, fun q z => (by cases z), by simp⟩
      · refine absurd ?_ hv
        rw [hxv, show (1 : Int64) = lN 1 from rfl, pk_lLE (by decide) (by omega), lN_lt (by omega) (by omega)]
        omega
theorem fat_st {t k j n p f : Nat} (h : fat N P f j n p) : fat (stN N t k) P f j n p := h
-- joins but those that bring
set_option maxHeartbeats 4000000 in
theorem one_join {n k t : Nat} {φ : Nat → Nat} (hP : RelP N P F A nb nm lt sz op ai kd mg) (hR : RelR N J P F A L nb nm sz op ai kd mg n k φ) (ht : t < n) (h16 : N 16 t 0 = nI 0) (hk : k < 2000) {blk pl h : Nat} (hf : FrT N J P A L nb op ai t blk pl h) (hb : blk < 6) (hp : pl < sz blk) (hsz : sz blk ≤ 24) (h1 : tkN (op blk pl) ≤ h) (h6 : h ≤ 6) (hfat : fat N P t blk (sz blk) pl) (e3 : N 3 blk pl = nI (op blk pl)) (e5 : A 5 (24 * blk + pl) = nI (op blk pl)) (ho : op blk pl = 14)
    (hbr : ∀ x l d nt no, h = d + 1 → t < x → x < n → J 0 t d = lN x → N 16 x 0 = nI 1 → N 15 t 0 = nI nt → N 15 x 0 = nI no → nt + no ≤ 30 → jch A (P 1 x) l (some t) → (∀ (b : Nat → Option va_E) (nx : Option Nat), Cl 59 [.ref 36, .ref (43 + 5 * t)] (cpic b (stN N t k) J P) nx = some ((cpic b (stN N t k) J P, nx, 0, 0), .inl (some (.ref (43 + 5 * x))))) → (∀ (b : Nat → Option va_E) (nx : Option Nat), Cl 58 [.ref 36, .ref (43 + 5 * t)] (cpic b (stN N t k) J P) nx = some ((cpic b (stN N t k) J P, nx, 0, 0), .inl (some (.int (nI 0))))) → One b1 nx1 b2 nx2 N J P F A L nb nm lt sz op ai kd mg n k t) : One b1 nx1 b2 nx2 N J P F A L nb nm lt sz op ai kd mg n k t := by
  have hf' := hf
  obtain ⟨f1, f2, f3, f4, f5, f6, f7, f8, f9, f10⟩ := hf'
  have hn := hR.2.1
  have h0 := hR.1
  have hs := hR.2.2.2.2.2.2.2.2.1
  have hs2 := hR.2.2.2.2.2.2.2.2.2.1
  have h11 := hR.2.2.2.1
  have hF11 := hR.2.2.2.2.1
  rw [ho] at e3 e5 h1
  obtain ⟨d, rfl⟩ : ∃ d, h = d + 1 := ⟨h - 1, by have : tkN 14 = 1 := rfl; omega⟩
  have ev : L 22 (8 * t + d) = J 0 t d := (f9 d (by omega)).symm
  have ht12 : t < 12 := by omega
  rcases ttj_or (N1 := stN N t k) hR ht f6 h11 (by omega) with ⟨q1, q2⟩ | ⟨x, l, x1, x2, x3, x4, q1, q2⟩
  · refine one_fail (c := 1) hP hR ht h16 hk (by decide) (fun b nx => ?_) (fun b nx => ?_)
    · exact kl_adv_join ht12 hs hk hfat e3 (kl_join_f (o := none) ht12 (kl_hind_n (q1 b nx)) (q1 b nx) (by decide) (by decide))
    · refine cl_go hs2 hk (cl_stepJoin ht12 (by omega) (by omega) f2 f5 e5 ?_)
      rcases q2 with q2 | ⟨x, l, e, y1, y2, y3, y4, y5⟩
      · exact cl_join_out (F := zF F) (A := zA A t) ht12 (show d < 8 by omega) f7 hF11 hn h0 (by rw [ev]; exact q2)
      · exact cl_join_not (F := zF F) (A := zA A t) ht12 (show d < 8 by omega) f7 hF11 hn y1 (by rw [ev]; exact y2) (hR.tk y1).2.2.2.2.1 (jch_cg (A := A) (A' := zA A t) rfl rfl l _ y3) y4 y5
  · obtain ⟨⟨st, a1, a2, a3, a4, a5, a6⟩, ⟨no, b1, b2, b3, b4⟩, c1, c2, c3, c4, c5, c6, c7⟩ := hR.tk x2
    obtain ⟨-, ⟨nt, b1', b2', b3', b4'⟩, -⟩ := hR.tk ht
    have hx12 : x < 12 := by omega
    have hh := fun (b : Nat → Option va_E) (nx : Option Nat) => kl_hind (b := b) (N := stN N t k) (J := J) (P := P) (nx := nx) (s := st) (nt := nt) (no := no) ht12 hx12 a1 a3 b1' b1 b3' b3 (q1 b nx)
    have hj := jch_cg (A := A) (A' := zA A t) rfl rfl l _ q2
    have hA18 : zA A t 18 x = oI (P 1 x) := c3
    rcases (show st = 0 ∨ st = 1 ∨ st = 2 ∨ st = 3 by omega) with rfl | rfl | rfl | rfl
    · -- it waits
      have e : hdr (stN N t k) t x nt no = -1 := by
        unfold hdr
        rw [show stN N t k 16 x 0 = nI 0 from a1, if_neg (by decide), if_pos rfl]
      refine One.run (N' := stN N t k) (J' := J) (A' := zA A t) (L' := L) hP hR ht h16 hk (gN.st (k := k)) gJ.refl (gA.u (q := 20) (x := A 20 t + nI 1) (by decide)) gL.refl rfl up3_s up2_s hf f4 f5 f6 f7 f8 f9 f10 (fun b nx => ?_) (fun b nx => ?_)
      · have q := hh b nx
        rw [e] at q
        exact kl_adv_join ht12 hs hk hfat e3 (kl_join_w q)
      · exact cl_go hs2 hk (cl_stepJoin ht12 (by omega) (by omega) f2 f5 e5 (cl_join_w (F := zF F) (A := zA A t) ht12 (show d < 8 by omega) f7 hF11 hn x2 (by rw [ev]; exact x4) hA18 hj a2))
    · by_cases h30 : nt + no ≤ 30
      · refine hbr x l d nt no rfl x3 x2 x4 a1 b1' b1 h30 q2 q1 (fun b nx => ?_)
        have q := hh b nx
        have e : hdr (stN N t k) t x nt no = nI 0 := by
          unfold hdr
          rw [show stN N t k 16 x 0 = nI 1 from a1, if_neg (by decide), if_neg (by decide), if_neg (by decide), if_pos h30]
        rw [e] at q
        exact q
      · have e : hdr (stN N t k) t x nt no = nI 4 := by
          unfold hdr
          rw [show stN N t k 16 x 0 = nI 1 from a1, if_neg (by decide), if_neg (by decide), if_neg (by decide), if_neg h30]
        refine one_fail (c := 4) hP hR ht h16 hk (by decide) (fun b nx => ?_) (fun b nx => ?_)
        · have q := hh b nx
          rw [e] at q
          exact kl_adv_join ht12 hs hk hfat e3 (kl_join_f (o := some x) ht12 q (q1 b nx) (by decide) (by decide))
        · exact cl_go hs2 hk (cl_stepJoin ht12 (by omega) (by omega) f2 f5 e5 (cl_join_4 (F := zF F) (A := zA A t) ht12 (show d < 8 by omega) f7 hF11 hn x2 (by rw [ev]; exact x4) hA18 hj a2 b2' b2 b3' b3 (by omega)))
    · obtain ⟨c, cc1, cc2, cc3⟩ := a5 rfl
      have e : hdr (stN N t k) t x nt no = nI c := by
        unfold hdr
        rw [show stN N t k 16 x 0 = nI 2 from a1, if_neg (by decide), if_neg (by decide), if_pos rfl]
        exact cc3
      have eA : zA A t 17 x = nI c := by
        show A 17 x = _
        rw [c1, cc3]
      refine one_fail (c := c) hP hR ht h16 hk ⟨cc1, cc2⟩ (fun b nx => ?_) (fun b nx => ?_)
      · have q := hh b nx
        rw [e] at q
        exact kl_adv_join ht12 hs hk hfat e3 (kl_join_f (o := some x) ht12 q (q1 b nx) (fun z => (nI_m1 (by omega)).mp z) (fun z => by have := (nI_eq (by omega) (by decide)).mp z; omega))
      · have q := cl_join_f (b := b) (F := zF F) (A := zA A t) (L := L) (nx := nx) ht12 (show d < 8 by omega) f7 hF11 hn x2 (by rw [ev]; exact x4) hA18 hj a2
        rw [eA] at q
        exact cl_go hs2 hk (cl_stepJoin ht12 (by omega) (by omega) f2 f5 e5 q)
    · have e : hdr (stN N t k) t x nt no = nI 2 := by
        unfold hdr
        rw [show stN N t k 16 x 0 = nI 3 from a1, if_pos rfl]
      refine one_fail (c := 2) hP hR ht h16 hk (by decide) (fun b nx => ?_) (fun b nx => ?_)
      · have q := hh b nx
        rw [e] at q
        exact kl_adv_join ht12 hs hk hfat e3 (kl_join_f (o := some x) ht12 q (q1 b nx) (by decide) (by decide))
      · exact cl_go hs2 hk (cl_stepJoin ht12 (by omega) (by omega) f2 f5 e5 (cl_join_2 (F := zF F) (A := zA A t) ht12 (show d < 8 by omega) f7 hF11 hn x2 (by rw [ev]; exact x4) hA18 hj a2))
end RF
