/-! making things: the class's object -/
section SB
variable {b : Nat → Option va_E} {r : mn_Res}
def Nz : cN := fun _ _ _ => 0
def Jz : cJ := fun _ _ _ => 0
def Pz : cP := fun _ _ => none
/-- the first codes below m made -/
def cpp (b : Nat → Option va_E) (m : Nat) : Nat → Option va_E := fun k => if 3 ≤ k ∧ k < m then some (cc Nz Jz Pz (cd_dec k).1 (cd_dec k).2.1 (cd_dec k).2.2) else b k
theorem cpp_at {m k f i s : Nat} (h : cd_of k f i s) (hm : k < m) : cpp b m k = some (cc Nz Jz Pz f i s) := by
  obtain ⟨h1, h2, h3⟩ := h
  unfold cpp
  rw [if_pos ⟨h1, hm⟩, h3]
theorem cpp_o {m m' k : Nat} (hm : m ≤ m') (h : k < m ∨ m' ≤ k) : cpp b m' k = cpp b m k := by
  unfold cpp
  by_cases h1 : 3 ≤ k ∧ k < m
  · rw [if_pos h1, if_pos ⟨h1.1, by omega⟩]
  · rw [if_neg h1, if_neg (by omega)]
theorem cpp_b {m k : Nat} (h : k < 3 ∨ m ≤ k) : cpp b m k = b k := by
  unfold cpp
  rw [if_neg (by omega)]
theorem lp_add {z k : Nat} {l : List va_E} {e : va_E} (hk : k = z + l.length) : mn_up (lpic b z l) k e = lpic b z (l ++ [e]) := by
  subst hk
  funext j
  unfold mn_up lpic
  rw [List.length_append, List.length_singleton]
  by_cases hj : j = z + l.length
  · subst hj
    rw [if_pos rfl, if_pos (by omega), Nat.add_sub_cancel_left, List.getElem?_append_right (Nat.le_refl _), Nat.sub_self]
    rfl
  · rw [if_neg hj]
    by_cases hz : z ≤ j ∧ j < z + l.length
    · rw [if_pos hz, if_pos (by omega), List.getElem?_append_left (by omega)]
    · rw [if_neg hz, if_neg (by omega)]
theorem lp_one {z : Nat} {e : va_E} : mn_up b z e = lpic b z [e] := by
  have : lpic b z [] = b := by
    funext k
    unfold lpic
    rw [if_neg (by simp)]
  have h := lp_add (b := b) (z := z) (k := z) (l := []) (e := e) (by simp)
  rw [this] at h
  exact h
theorem pf_l {z j ci k : Nat} {l : List va_E} {fs : List Value} {v : Value} {q : Option Nat × Nat × Nat} (hl : l[j]? = some (.inr (ci, fs))) (hk : k < fs.length) (h3 : 3 ≤ z + j) (ho : mn_ok (mn_fty ci k) v = true) : mn_pf (lpic b z l, q) (z + j) ci k v = some (lpic b z (l.set j (.inr (ci, fs.set k v))), q) := by
  rw [pf_at (lp_get j rfl hl) hk h3 ho, lp_up j rfl (List.getElem?_eq_some_iff.mp hl).1 rfl]
abbrev M0 : va_E := .inr (7, [.null, .null])
abbrev M1 : va_E := .inr (7, [.ref 4, .null])
abbrev qA (t n : Nat) (f : Nat → Option Nat) : va_E := .inl (t, n, .inr (.inr (.inr (.inr f))))
abbrev iA (n : Nat) : va_E := .inl (0, n, .inl (fun _ => 0))
abbrev lA (n : Nat) : va_E := .inl (1, n, .inr (.inl (fun _ => 0)))
abbrev PR : va_E := .inr (3, [.ref 5, .ref 6, .ref 7, .ref 8, .ref 9, .int 0, .int 0, .null])
abbrev WR : va_E := .inr (6, [.ref 4, .ref 37, .ref 38, .ref 39, .ref 40, .int 0, .int 0, .int 0, .int 0])
theorem ra_s {g : Nat → Nat} {i : Nat} : va_up (ra g i) i (some (g i)) = ra g (i + 1) := by
  funext j
  unfold va_up ra
  by_cases h : j = i
  · subst h; simp
  · have : (j < i + 1) ↔ j < i := by omega
    simp [h, this]
theorem ra_0 {g : Nat → Nat} : ra g 0 = fun _ => none := by
  funext j
  unfold ra
  rw [if_neg (by omega)]
def pq (b : Nat → Option va_E) (m i j : Nat) : Nat → Option va_E := mn_up (mn_up (mn_up (mn_up (cpp b m) 3 M0) 4 PR) 5 (qA 3 6 (ra (fun i => 12 + 3 * i) i))) 6 (qA 3 2 (ra (fun i => 12 + 3 * (6 + i)) j))
/-- one code more -/
theorem pq_code {m i j i' j' : Nat} {mb : Bool} {x y : Nat} (hm : m = 12 + 3 * x) (hx : x < 8) (hmb : mb = decide (6 ≤ x)) (hy : y = (if mb = true then 12 else 24))
    (h5 : i' = i ∨ i' = i + 1) :
    mn_up (mn_up (mn_up (mn_up (mn_up (pq b m i j) m (.inr (1, [.int (bI mb), .ref (m + 1), .ref (m + 1 + 1), .int 0]))) (m + 1) (iA y)) (m + 1 + 1) (iA y)) 5 (qA 3 6 (ra (fun i => 12 + 3 * i) i'))) 6 (qA 3 2 (ra (fun i => 12 + 3 * (6 + i)) j')) = pq b (m + 3) i' j' := by
  subst hm
  have hcap : y = cap x := by
    rw [hy, hmb]
    unfold cap
    by_cases h : 6 ≤ x <;> simp [h]
  funext k
  by_cases k6 : k = 6
  · subst k6; rw [up_s]; unfold pq; rw [up_s]
  · by_cases k5 : k = 5
    · subst k5; rw [up_o (by decide), up_s]; unfold pq; rw [up_o (by decide), up_s]
    · rw [up_o k6, up_o k5]
      by_cases c2 : k = 12 + 3 * x + 1 + 1
      · subst c2
        rw [up_s]; unfold pq
        rw [up_o (by omega), up_o (by omega), up_o (by omega), up_o (by omega), show 12 + 3 * x + 1 + 1 = 12 + 3 * x + 2 from rfl, cpp_at (co_code2 hx) (by omega), hcap]
        rfl
      · rw [up_o c2]
        by_cases c1 : k = 12 + 3 * x + 1
        · subst c1
          rw [up_s]; unfold pq
          rw [up_o (by omega), up_o (by omega), up_o (by omega), up_o (by omega), cpp_at (co_code1 hx) (by omega), hcap]
          rfl
        · rw [up_o c1]
          by_cases c0 : k = 12 + 3 * x
          · subst c0
            rw [up_s]; unfold pq
            rw [up_o (by omega), up_o (by omega), up_o (by omega), up_o (by omega), cpp_at (co_code0 hx) (by omega), hmb]
            rfl
          · rw [up_o c0]
            unfold pq
            simp only [up_o k6, up_o k5]
            by_cases k4 : k = 4
            · subst k4; rw [up_s, up_s]
            · rw [up_o k4, up_o k4]
              by_cases k3 : k = 3
              · subst k3; rw [up_s, up_s]
              · rw [up_o k3, up_o k3]
                exact (cpp_o (by omega) (by omega)).symm
theorem gf_at {p : Nat → Option va_E} {q : Option Nat × Nat × Nat} {a ci k : Nat} {fs : List Value} {v : Value} (ha : p a = some (.inr (ci, fs))) (hv : fs[k]? = some v) : mn_gf (p, q) a ci k = some v := mn_gf_of (h := (p, q)) ha hv
theorem asq_at {p : Nat → Option va_E} {q : Option Nat × Nat × Nat} {a t n i o : Nat} {f : Nat → Option Nat} (ha : p a = some (qA t n f)) (ht : 3 ≤ t ∧ t < 6) (hi : i < n) (hn : n < 2 ^ 31) (h3 : 3 ≤ a) (hs : mn_isc (p, q) o (mn_tc t) = true) : mn_asq (p, q) a (nI i) o = some (mn_up p a (qA t n (va_up f i (some o))), q) := by
  have hx : mn_in (nI i) n = true := mn_in_iff.mpr (vp_in_nI hi hn)
  unfold mn_asq
  dsimp only
  rw [ha]
  dsimp only
  rw [if_pos ⟨ht.1, ht.2, hx, h3, hs⟩, nI_clamp (by omega)]
theorem isc_at {p : Nat → Option va_E} {q : Option Nat × Nat × Nat} {a ci : Nat} {fs : List Value} (ha : p a = some (.inr (ci, fs))) : mn_isc (p, q) a ci = true := mn_isc_of (h := (p, q)) ha
set_option maxHeartbeats 4000000 in
theorem kv_merges {c w : Nat} : ∀ (d i : Nat), i + d = 2 → ∀ (c w : Nat), Ev 22 78 [some (.ref 4), some (.int (nI i))] [] (pq b (30 + 3 * i) 6 i, some (30 + 3 * i), c, w) ((pq b 36 6 2, some 36, c + 3 * d, w + 28 * d), .inl none) := by
  intro d
  induction d with
  | zero =>
    intro i hi c w
    have hi : i = 2 := by omega
    subst hi
    refine eX3_init_78.mpr ?_
    simp (disch := first | omega | decide) only [eX3_init_79, eX3_init_80, eX3_init_103, ↓reduceIte, Evk_some, Evh_some, Evn_some, Evr_v, Evr_n, mk_i, mk_r, mk_0, mk_n, mk_l, mc0, mc1, mc2, mc3, mc4, mi_obj, Bool.and_self, Bool.true_and, Nat.add_zero, Nat.zero_add, nI_add, pk_mul, pk_sub, Nat.add_sub_cancel, eq_self, if_true, if_false, n10, bI_t, bI_f, bI_0, Nat.reduceAdd, Nat.reduceMul, Nat.reduceSub, nI_eq, nI_ltI, nI_leI, Nat.reduceEqDiff, Nat.reduceLT, Nat.reduceDiv, Nat.reduceMod, Nat.reduceLeDiff, Nat.mul_zero]
  | succ d ih =>
    intro i hi c w
    have i1 := ih (i + 1) (by omega) (c + 3) (w + 28)
    have hlt : ¬ 2 ≤ i := by omega
    have e1 : mn_gf (pq b (30 + 3 * i) 6 i, some (30 + 3 * i), c, w) 4 3 1 = some (.ref 6) := gf_at (fs := [.ref 5, .ref 6, .ref 7, .ref 8, .ref 9, .int 0, .int 0, .null]) (by unfold pq; rw [up_o (by decide), up_o (by decide), up_s]) rfl
    have h1 : (mn_new (pq b (30 + 3 * i) 6 i, some (30 + 3 * i), c, w) 1).isSome = true := rfl
    have e2 := nw_1 (p := pq b (30 + 3 * i) 6 i) (n := 30 + 3 * i) (c := c) (w := w)
    have e3 := kc_code (m := true) (p := pq b (30 + 3 * i) 6 i) (a := 30 + 3 * i) (n := 30 + 3 * i + 1) (by omega) (by omega)
    have hp6 : mn_up (mn_up (mn_up (pq b (30 + 3 * i) 6 i) (30 + 3 * i) (.inr (1, [.int (bI true), .ref (30 + 3 * i + 1), .ref (30 + 3 * i + 1 + 1), .int 0]))) (30 + 3 * i + 1) (iA 12)) (30 + 3 * i + 1 + 1) (iA 12) 6 = some (qA 3 2 (ra (fun i => 12 + 3 * (6 + i)) i)) := by
      rw [up_o (by omega), up_o (by omega), up_o (by omega)]
      unfold pq
      rw [up_s]
    have e4 := asq_at (q := (some (30 + 3 * i + 1 + 2), c + 1 + 2, w + 4 + 24)) (i := i) (o := 30 + 3 * i) hp6 (by decide) (by omega) (by decide) (by decide) (isc_at (fs := [.int (bI true), .ref (30 + 3 * i + 1), .ref (30 + 3 * i + 1 + 1), .int 0]) (by rw [up_o (by omega), up_o (by omega)]; exact up_s))
    rw [show some (30 + 3 * i) = some ((fun i => 12 + 3 * (6 + i)) i) from by dsimp only; rw [show 12 + 3 * (6 + i) = 30 + 3 * i by omega], ra_s] at e4
    have hq := pq_code (b := b) (m := 30 + 3 * i) (i := 6) (j := i) (i' := 6) (j' := i + 1) (mb := true) (x := 6 + i) (y := 12) (by omega) (by omega) (by simp) (by simp) (Or.inl rfl)
    have e5 : mn_up (mn_up (mn_up (mn_up (pq b (30 + 3 * i) 6 i) (30 + 3 * i) (.inr (1, [.int (bI true), .ref (30 + 3 * i + 1), .ref (30 + 3 * i + 1 + 1), .int 0]))) (30 + 3 * i + 1) (iA 12)) (30 + 3 * i + 1 + 1) (iA 12)) 6 (qA 3 2 (ra (fun i => 12 + 3 * (6 + i)) (i + 1))) = pq b (30 + 3 * (i + 1)) 6 (i + 1) := by
      rw [show 30 + 3 * (i + 1) = 30 + 3 * i + 3 by omega, ← hq]
      congr 1
      funext k
      by_cases k5 : k = 5
      · subst k5
        rw [up_s, up_o (by omega), up_o (by omega), up_o (by omega)]
        unfold pq
        rw [up_o (by decide), up_s]
      · rw [up_o k5]
    rw [e5] at e4
    refine eX3_init_78.mpr ?_
    simp only [if_true, bI_t] at e3 e4
    rw [show c + 3 + 3 * d = c + 3 * (d + 1) by omega, show w + 28 + 28 * d = w + 28 * (d + 1) by omega] at i1
    simp (disch := first | omega | decide | exact h1) only [eX3_init_79, eX3_init_80, eX3_init_83, eX3_init_84, eX3_init_87, eX3_init_88, eX3_init_91, eX3_init_92, eX3_init_93, eX3_init_96, eX3_init_97, eX3_init_100, ↓reduceIte, Evk_some, Evh_some, Evn_some, Evr_n, mk_i, mk_r, mc0, mc1, mc2, mc3, mc4, nI_leI, nI_add, Nat.reduceAdd, hlt, e1, e2, e3, e4]
    exact i1
set_option maxHeartbeats 4000000 in
theorem kv_blocks : ∀ (d i : Nat), i + d = 6 → ∀ (c w : Nat), (∀ r : mn_Res, Ev 22 50 [some (.ref 4), some (.int (nI i))] [] (pq b (12 + 3 * i) i 0, some (12 + 3 * i), c, w) r ↔ Ev 22 76 [some (.ref 4), some (.int (nI 6))] [] (pq b 30 6 0, some 30, c + 3 * d, w + 52 * d) r) := by
  intro d
  induction d with
  | zero =>
    intro i hi c w r
    have hi : i = 6 := by omega
    subst hi
    refine eX3_init_50.trans ?_
    simp (disch := first | omega | decide) only [eX3_init_51, eX3_init_53, ↓reduceIte, Evk_some, Evh_some, Evn_some, Evr_v, Evr_n, mk_i, mk_r, mk_0, mk_n, mk_l, mc0, mc1, mc2, mc3, mc4, mi_obj, Bool.and_self, Bool.true_and, Nat.add_zero, Nat.zero_add, nI_add, pk_mul, pk_sub, Nat.add_sub_cancel, eq_self, if_true, if_false, n10, bI_t, bI_f, bI_0, Nat.reduceAdd, Nat.reduceMul, Nat.reduceSub, nI_eq, nI_ltI, nI_leI, Nat.reduceEqDiff, Nat.reduceLT, Nat.reduceDiv, Nat.reduceMod, Nat.reduceLeDiff, Nat.mul_zero]
  | succ d ih =>
    intro i hi c w r
    have i1 := ih (i + 1) (by omega) (c + 3) (w + 52) r
    have hlt : ¬ 6 ≤ i := by omega
    have e1 : mn_gf (pq b (12 + 3 * i) i 0, some (12 + 3 * i), c, w) 4 3 0 = some (.ref 5) := gf_at (fs := [.ref 5, .ref 6, .ref 7, .ref 8, .ref 9, .int 0, .int 0, .null]) (by unfold pq; rw [up_o (by decide), up_o (by decide), up_s]) rfl
    have h1 : (mn_new (pq b (12 + 3 * i) i 0, some (12 + 3 * i), c, w) 1).isSome = true := rfl
    have e2 := nw_1 (p := pq b (12 + 3 * i) i 0) (n := 12 + 3 * i) (c := c) (w := w)
    have e3 := kc_code (m := false) (p := pq b (12 + 3 * i) i 0) (a := 12 + 3 * i) (n := 12 + 3 * i + 1) (by omega) (by omega)
    have hp5 : mn_up (mn_up (mn_up (pq b (12 + 3 * i) i 0) (12 + 3 * i) (.inr (1, [.int (bI false), .ref (12 + 3 * i + 1), .ref (12 + 3 * i + 1 + 1), .int 0]))) (12 + 3 * i + 1) (iA 24)) (12 + 3 * i + 1 + 1) (iA 24) 5 = some (qA 3 6 (ra (fun i => 12 + 3 * i) i)) := by
      rw [up_o (by omega), up_o (by omega), up_o (by omega)]
      unfold pq
      rw [up_o (by decide), up_s]
    have e4 := asq_at (q := (some (12 + 3 * i + 1 + 2), c + 1 + 2, w + 4 + 48)) (i := i) (o := 12 + 3 * i) hp5 (by decide) (by omega) (by decide) (by decide) (isc_at (fs := [.int (bI false), .ref (12 + 3 * i + 1), .ref (12 + 3 * i + 1 + 1), .int 0]) (by rw [up_o (by omega), up_o (by omega)]; exact up_s))
    rw [show some (12 + 3 * i) = some ((fun i => 12 + 3 * i) i) from rfl, ra_s] at e4
    have hq := pq_code (b := b) (m := 12 + 3 * i) (i := i) (j := 0) (i' := i + 1) (j' := 0) (mb := false) (x := i) (y := 24) (by omega) (by omega) (by simp; omega) (by simp) (Or.inr rfl)
    have e5 : mn_up (mn_up (mn_up (mn_up (pq b (12 + 3 * i) i 0) (12 + 3 * i) (.inr (1, [.int (bI false), .ref (12 + 3 * i + 1), .ref (12 + 3 * i + 1 + 1), .int 0]))) (12 + 3 * i + 1) (iA 24)) (12 + 3 * i + 1 + 1) (iA 24)) 5 (qA 3 6 (ra (fun i => 12 + 3 * i) (i + 1))) = pq b (12 + 3 * (i + 1)) (i + 1) 0 := by
      rw [show 12 + 3 * (i + 1) = 12 + 3 * i + 3 by omega, ← hq]
      funext k
      by_cases k6 : k = 6
      · subst k6
        rw [up_s, up_o (by omega), up_o (by omega), up_o (by omega), up_o (by omega)]
        unfold pq
        rw [up_s]
      · rw [up_o (a := 6) k6]
    rw [e5] at e4
    simp only [if_false, Bool.false_eq_true, bI_f] at e3 e4
    refine eX3_init_50.trans ?_
    rw [show c + 3 + 3 * d = c + 3 * (d + 1) by omega, show w + 52 + 52 * d = w + 52 * (d + 1) by omega] at i1
    refine Iff.trans ?_ i1
    simp (disch := first | omega | decide | exact h1) only [eX3_init_51, eX3_init_53, eX3_init_56, eX3_init_57, eX3_init_60, eX3_init_61, eX3_init_64, eX3_init_65, eX3_init_66, eX3_init_69, eX3_init_70, eX3_init_73, ↓reduceIte, Evk_some, Evh_some, Evn_some, Evr_n, mk_i, mk_r, mc0, mc1, mc2, mc3, mc4, nI_leI, nI_add, Nat.reduceAdd, Nat.reduceMul, hlt, e1, e2, e3, e4]
    exact Iff.rfl
set_option maxHeartbeats 8000000 in
theorem kc_program : Cl 22 [.ref 4] (mn_up (mn_up b 3 M0) 4 (.inr (3, [.null, .null, .null, .null, .null, .int 0, .int 0, .null]))) (some 5) = some ((mn_up (cpp b 36) 3 M0, some 36, 31, 620), .inl none) := by
  refine Cl_of (x := mnI_X3_init) rfl ?_
  show Ev 22 0 [some (.ref 4), none] [] _ _
  rw [lp_one (b := b) (z := 3) (e := M0), lp_add (z := 3) (k := 4) rfl]
  simp only [List.cons_append, List.nil_append]
  have o0 : ∀ {k x : Nat}, k < 5 → mn_ok (mn_fty 3 k) (.ref x) = true := by
    intro k x hk
    rcases (show k = 0 ∨ k = 1 ∨ k = 2 ∨ k = 3 ∨ k = 4 by omega) with rfl | rfl | rfl | rfl | rfl <;> rfl
  -- the rows, one after the other
  have e1 : mn_na (lpic b 3 [M0, .inr (3, [.null, .null, .null, .null, .null, .int 0, .int 0, .null])], some 5, 0, 0) 3 (nI 6) = some (5, lpic b 3 [M0, .inr (3, [.null, .null, .null, .null, .null, .int 0, .int 0, .null]), qA 3 6 (fun _ => none)], some 6, 1, 6) := by
    rw [na_q (by decide) (by decide), lp_add (z := 3) (k := 5) rfl]; rfl
  have e2 := pf_l (b := b) (z := 3) (j := 1) (k := 0) (v := .ref 5) (q := (some 6, 1, 6)) (l := [M0, .inr (3, [.null, .null, .null, .null, .null, .int 0, .int 0, .null]), qA 3 6 (fun _ => none)]) rfl (by decide) (by decide) (o0 (by decide))
  have e3 : mn_na (lpic b 3 [M0, .inr (3, [.ref 5, .null, .null, .null, .null, .int 0, .int 0, .null]), qA 3 6 (fun _ => none)], some 6, 1, 6) 3 (nI 2) = some (6, lpic b 3 [M0, .inr (3, [.ref 5, .null, .null, .null, .null, .int 0, .int 0, .null]), qA 3 6 (fun _ => none), qA 3 2 (fun _ => none)], some 7, 2, 8) := by
    rw [na_q (by decide) (by decide), lp_add (z := 3) (k := 6) rfl]; rfl
  have e4 := pf_l (b := b) (z := 3) (j := 1) (k := 1) (v := .ref 6) (q := (some 7, 2, 8)) (l := [M0, .inr (3, [.ref 5, .null, .null, .null, .null, .int 0, .int 0, .null]), qA 3 6 (fun _ => none), qA 3 2 (fun _ => none)]) rfl (by decide) (by decide) (o0 (by decide))
  have e5 : mn_na (lpic b 3 [M0, .inr (3, [.ref 5, .ref 6, .null, .null, .null, .int 0, .int 0, .null]), qA 3 6 (fun _ => none), qA 3 2 (fun _ => none)], some 7, 2, 8) 0 (nI 12) = some (7, lpic b 3 [M0, .inr (3, [.ref 5, .ref 6, .null, .null, .null, .int 0, .int 0, .null]), qA 3 6 (fun _ => none), qA 3 2 (fun _ => none), iA 12], some 8, 3, 20) := by
    rw [na_0 (by decide), lp_add (z := 3) (k := 7) rfl]; rfl
  have e6 := pf_l (b := b) (z := 3) (j := 1) (k := 2) (v := .ref 7) (q := (some 8, 3, 20)) (l := [M0, .inr (3, [.ref 5, .ref 6, .null, .null, .null, .int 0, .int 0, .null]), qA 3 6 (fun _ => none), qA 3 2 (fun _ => none), iA 12]) rfl (by decide) (by decide) (o0 (by decide))
  have e7 : mn_na (lpic b 3 [M0, .inr (3, [.ref 5, .ref 6, .ref 7, .null, .null, .int 0, .int 0, .null]), qA 3 6 (fun _ => none), qA 3 2 (fun _ => none), iA 12], some 8, 3, 20) 0 (nI 12) = some (8, lpic b 3 [M0, .inr (3, [.ref 5, .ref 6, .ref 7, .null, .null, .int 0, .int 0, .null]), qA 3 6 (fun _ => none), qA 3 2 (fun _ => none), iA 12, iA 12], some 9, 4, 32) := by
    rw [na_0 (by decide), lp_add (z := 3) (k := 8) rfl]; rfl
  have e8 := pf_l (b := b) (z := 3) (j := 1) (k := 3) (v := .ref 8) (q := (some 9, 4, 32)) (l := [M0, .inr (3, [.ref 5, .ref 6, .ref 7, .null, .null, .int 0, .int 0, .null]), qA 3 6 (fun _ => none), qA 3 2 (fun _ => none), iA 12, iA 12]) rfl (by decide) (by decide) (o0 (by decide))
  have e9 := nw_0 (p := lpic b 3 [M0, .inr (3, [.ref 5, .ref 6, .ref 7, .ref 8, .null, .int 0, .int 0, .null]), qA 3 6 (fun _ => none), qA 3 2 (fun _ => none), iA 12, iA 12]) (n := 9) (c := 4) (w := 32)
  have h9 : (mn_new (lpic b 3 [M0, .inr (3, [.ref 5, .ref 6, .ref 7, .ref 8, .null, .int 0, .int 0, .null]), qA 3 6 (fun _ => none), qA 3 2 (fun _ => none), iA 12, iA 12], some 9, 4, 32) 0).isSome = true := rfl
  have e10 := kc_checker (p := lpic b 3 [M0, .inr (3, [.ref 5, .ref 6, .ref 7, .ref 8, .null, .int 0, .int 0, .null]), qA 3 6 (fun _ => none), qA 3 2 (fun _ => none), iA 12, iA 12]) (a := 9) (n := 10) (by decide) (by decide)
  rw [lp_add (z := 3) (k := 9) (e := .inr (0, [.ref 10, .ref (10 + 1), .int 0, .int 0])) rfl, lp_add (z := 3) (k := 10) rfl, lp_add (z := 3) (k := 10 + 1) rfl] at e10
  simp only [List.cons_append, List.nil_append] at e10
  have e11 := pf_l (b := b) (z := 3) (j := 1) (k := 4) (v := .ref 9) (q := (some 12, 7, 252)) (l := [M0, .inr (3, [.ref 5, .ref 6, .ref 7, .ref 8, .null, .int 0, .int 0, .null]), qA 3 6 (fun _ => none), qA 3 2 (fun _ => none), iA 12, iA 12, .inr (0, [.ref 10, .ref (10 + 1), .int 0, .int 0]), iA 24, iA 192]) rfl (by decide) (by decide) (o0 (by decide))
  simp only [List.set, Nat.reduceAdd] at e2 e4 e6 e8 e10 e11
  have hst : lpic b 3 [M0, PR, qA 3 6 (fun _ => none), qA 3 2 (fun _ => none), iA 12, iA 12, .inr (0, [.ref 10, .ref 11, .int 0, .int 0]), iA 24, iA 192] = pq b 12 0 0 := by
    funext k
    unfold pq
    rw [ra_0, ra_0]
    by_cases hk : 3 ≤ k ∧ k < 12
    · rcases (show k = 3 ∨ k = 4 ∨ k = 5 ∨ k = 6 ∨ k = 7 ∨ k = 8 ∨ k = 9 ∨ k = 10 ∨ k = 11 by omega) with rfl | rfl | rfl | rfl | rfl | rfl | rfl | rfl | rfl
      · rw [up_o (by decide), up_o (by decide), up_o (by decide), up_s]; rfl
      · rw [up_o (by decide), up_o (by decide), up_s]; rfl
      · rw [up_o (by decide), up_s]; rfl
      · rw [up_s]; rfl
      · rw [up_o (by decide), up_o (by decide), up_o (by decide), up_o (by decide)]; rfl
      · rw [up_o (by decide), up_o (by decide), up_o (by decide), up_o (by decide)]; rfl
      · rw [up_o (by decide), up_o (by decide), up_o (by decide), up_o (by decide)]; rfl
      · rw [up_o (by decide), up_o (by decide), up_o (by decide), up_o (by decide)]; rfl
      · rw [up_o (by decide), up_o (by decide), up_o (by decide), up_o (by decide)]; rfl
    · rw [up_o (by omega), up_o (by omega), up_o (by omega), up_o (by omega), cpp_b (by omega), lp_out (by simp only [List.length_cons, List.length_nil]; omega)]
  have hfin : pq b 36 6 2 = mn_up (cpp b 36) 3 M0 := by
    funext k
    unfold pq
    by_cases k6 : k = 6
    · subst k6; rw [up_s, up_o (by decide)]; rfl
    · rw [up_o k6]
      by_cases k5 : k = 5
      · subst k5; rw [up_s, up_o (by decide)]; rfl
      · rw [up_o k5]
        by_cases k4 : k = 4
        · subst k4; rw [up_s, up_o (by decide)]; rfl
        · rw [up_o k4]
  have l1 := kv_blocks (b := b) 6 0 (by omega) 7 252 ((mn_up (cpp b 36) 3 M0, some 36, 31, 620), .inl none)
  have l2 := kv_merges (b := b) (c := 0) (w := 0) 2 0 (by omega) 25 564
  rw [hfin] at l2
  simp only [Nat.reduceMul, Nat.reduceAdd] at l1 l2
  simp (disch := first | omega | decide | exact h9) only [eX3_init_0, eX3_init_1, eX3_init_4, eX3_init_5, eX3_init_7, eX3_init_10, eX3_init_13, eX3_init_14, eX3_init_15, eX3_init_18, eX3_init_21, eX3_init_22, eX3_init_24, eX3_init_26, eX3_init_29, eX3_init_30, eX3_init_32, eX3_init_34, eX3_init_37, eX3_init_38, eX3_init_41, eX3_init_42, eX3_init_45, eX3_init_48, eX3_init_49, ↓reduceIte, Evk_some, Evh_some, Evn_some, Evr_n, mk_i, mk_r, mc0, mc1, mc2, mc3, mc4, Nat.reduceAdd, e1, e2, e3, e4, e5, e6, e7, e8, e9, e10, e11]
  rw [hst]
  refine l1.mpr ?_
  rw [eX3_init_76, eX3_init_77]
  simp only [mk_r]
  exact l2
end SB
