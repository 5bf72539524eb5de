/-! making things: the world, the whole object -/
section SC
variable {b : Nat → Option va_E} {r : mn_Res}
def pw (b : Nat → Option va_E) (m i j : Nat) : Nat → Option va_E := mn_up (mn_up (mn_up (mn_up (cpp b m) 3 M1) 36 WR) 37 (qA 4 12 (ra (fun i => 43 + 5 * i) i))) 39 (qA 5 23 (ra (fun i => 103 + 2 * i) j))
theorem pw_k {m i j k : Nat} (h3 : k ≠ 3) (h36 : k ≠ 36) (h37 : k ≠ 37) (h39 : k ≠ 39) : pw b m i j k = cpp b m k := by
  unfold pw
  rw [up_o h39, up_o h37, up_o h36, up_o h3]
theorem pw_36 {m i j : Nat} : pw b m i j 36 = some WR := by
  unfold pw
  rw [up_o (by decide), up_o (by decide), up_s]
theorem pw_37 {m i j : Nat} : pw b m i j 37 = some (qA 4 12 (ra (fun i => 43 + 5 * i) i)) := by
  unfold pw
  rw [up_o (by decide), up_s]
theorem pw_39 {m i j : Nat} : pw b m i j 39 = some (qA 5 23 (ra (fun i => 103 + 2 * i) j)) := by
  unfold pw
  rw [up_s]
theorem pw_3 {m i j : Nat} : pw b m i j 3 = some M1 := by
  unfold pw
  rw [up_o (by decide), up_o (by decide), up_o (by decide), up_s]
/-- one task more -/
theorem pw_task {i n : Nat} (hi : i < 12) (hn : n = 43 + 5 * i + 1) : mn_up (mn_up (mn_up (mn_up (mn_up (mn_up (pw b (43 + 5 * i) i 0) (43 + 5 * i) (.inr (5, [.int (nI i), .ref n, .ref (n + 3), .int 0, .int 0, .int 0, .int 0, .long 0, .null, .null, .null, .null]))) n (.inr (2, [.ref (n + 1), .ref (n + 2), .null, .int 0, .int 0]))) (n + 1) (lA 7)) (n + 2) (lA 4)) (n + 3) (lA 30)) 37 (qA 4 12 (ra (fun i => 43 + 5 * i) (i + 1))) = pw b (43 + 5 * (i + 1)) (i + 1) 0 := by
  have hfr := fr_t hi
  have en : n = fr i := by omega
  funext k
  by_cases k37 : k = 37
  · subst k37; rw [up_s, pw_37]
  · rw [up_o k37]
    by_cases c4 : k = n + 3
    · rw [c4, up_s, pw_k (by omega) (by omega) (by omega) (by omega), show n + 3 = 43 + 5 * i + 4 by omega, cpp_at (co_prints hi) (by omega)]
      rfl
    · rw [up_o c4]
      by_cases c3 : k = n + 2
      · rw [c3, up_s, pw_k (by omega) (by omega) (by omega) (by omega), en, cpp_at (co_frame2 (by omega)) (by omega)]
        rfl
      · rw [up_o c3]
        by_cases c2 : k = n + 1
        · rw [c2, up_s, pw_k (by omega) (by omega) (by omega) (by omega), en, cpp_at (co_frame1 (by omega)) (by omega)]
          rfl
        · rw [up_o c2]
          by_cases c1 : k = n
          · rw [c1, up_s, pw_k (by omega) (by omega) (by omega) (by omega), en, cpp_at (co_frame0 (by omega)) (by omega)]
            rfl
          · rw [up_o c1]
            by_cases c0 : k = 43 + 5 * i
            · rw [c0, up_s, pw_k (by omega) (by omega) (by omega) (by omega), cpp_at (co_task hi) (by omega), show n + 3 = 43 + 5 * i + 4 by omega, en]
              rfl
            · rw [up_o c0]
              by_cases k3 : k = 3
              · subst k3; rw [pw_3, pw_3]
              · by_cases k36 : k = 36
                · subst k36; rw [pw_36, pw_36]
                · by_cases k39 : k = 39
                  · subst k39; rw [pw_39, pw_39]
                  · rw [pw_k k3 k36 k37 k39, pw_k k3 k36 k37 k39]
                    exact (cpp_o (by omega) (by omega)).symm
/-- one segment more -/
theorem pw_seg {j : Nat} (hj : j < 23) : mn_up (mn_up (mn_up (pw b (103 + 2 * j) 12 j) (103 + 2 * j) (.inr (4, [.ref (103 + 2 * j + 1), .int 0, .null, .int 0, .int 0]))) (103 + 2 * j + 1) (lA 12)) 39 (qA 5 23 (ra (fun i => 103 + 2 * i) (j + 1))) = pw b (103 + 2 * (j + 1)) 12 (j + 1) := by
  funext k
  by_cases k39 : k = 39
  · subst k39; rw [up_s, pw_39]
  · rw [up_o k39]
    by_cases c1 : k = 103 + 2 * j + 1
    · rw [c1, up_s, pw_k (by omega) (by omega) (by omega) (by omega), cpp_at (co_seg1 hj) (by omega)]
      rfl
    · rw [up_o c1]
      by_cases c0 : k = 103 + 2 * j
      · rw [c0, up_s, pw_k (by omega) (by omega) (by omega) (by omega), cpp_at (co_seg0 hj) (by omega)]
        rfl
      · rw [up_o c0]
        by_cases k3 : k = 3
        · subst k3; rw [pw_3, pw_3]
        · by_cases k36 : k = 36
          · subst k36; rw [pw_36, pw_36]
          · by_cases k37 : k = 37
            · subst k37; rw [pw_37, pw_37]
            · rw [pw_k k3 k36 k37 k39, pw_k k3 k36 k37 k39]
              exact (cpp_o (by omega) (by omega)).symm
set_option maxHeartbeats 4000000 in
theorem kv_tasks : ∀ (d i : Nat), i + d = 12 → ∀ (c w : Nat) (r : mn_Res), Ev 45 49 [some (.ref 36), some (.ref 4), some (.int (nI i))] [] (pw b (43 + 5 * i) i 0, some (43 + 5 * i), c, w) r ↔ Ev 45 78 [some (.ref 36), some (.ref 4), some (.int (nI 12))] [] (pw b 103 12 0, some 103, c + 5 * d, w + 58 * d) r := by
  intro d
  induction d with
  | zero =>
    intro i hi c w r
    have hi : i = 12 := by omega
    subst hi
    refine eX6_init_49.trans ?_
    have e1 : mn_gf (pw b (43 + 5 * 12) 12 0, some (43 + 5 * 12), c, w) 36 6 1 = some (.ref 37) := gf_at pw_36 rfl
    have e2 : mn_len (pw b (43 + 5 * 12) 12 0, some (43 + 5 * 12), c, w) 37 = some (.int (nI 12)) := mn_len_of (h := (pw b (43 + 5 * 12) 12 0, some (43 + 5 * 12), c, w)) (pw_37 (b := b) (m := 43 + 5 * 12) (i := 12) (j := 0)) (by decide)
    simp only [Nat.reduceMul, Nat.reduceAdd] at e1 e2
    simp (disch := first | omega | decide) only [eX6_init_50, eX6_init_51, eX6_init_54, eX6_init_55, ↓reduceIte, Evk_some, Evh_some, Evn_some, Evr_v, Evr_n, mk_i, mk_r, mk_0, mk_n, mk_l, mc0, mc1, mc2, mc3, mc4, mi_obj, Bool.and_self, Bool.true_and, Nat.add_zero, Nat.zero_add, nI_add, pk_mul, pk_sub, Nat.add_sub_cancel, eq_self, if_true, if_false, n10, bI_t, bI_f, bI_0, Nat.reduceAdd, Nat.reduceMul, Nat.reduceSub, nI_eq, nI_ltI, nI_leI, Nat.reduceEqDiff, Nat.reduceLT, Nat.reduceDiv, Nat.reduceMod, Nat.reduceLeDiff, Nat.mul_zero, e1, e2]
  | succ d ih =>
    intro i hi c w r
    have i1 := ih (i + 1) (by omega) (c + 5) (w + 58) r
    have hlt : ¬ 12 ≤ i := by omega
    have e0 : mn_gf (pw b (43 + 5 * i) i 0, some (43 + 5 * i), c, w) 36 6 1 = some (.ref 37) := gf_at pw_36 rfl
    have e1 : mn_len (pw b (43 + 5 * i) i 0, some (43 + 5 * i), c, w) 37 = some (.int (nI 12)) := mn_len_of (h := (pw b (43 + 5 * i) i 0, some (43 + 5 * i), c, w)) (pw_37 (b := b) (m := 43 + 5 * i) (i := i) (j := 0)) (by decide)
    have h1 : (mn_new (pw b (43 + 5 * i) i 0, some (43 + 5 * i), c, w) 5).isSome = true := rfl
    have e2 := nw_5 (p := pw b (43 + 5 * i) i 0) (n := 43 + 5 * i) (c := c) (w := w)
    have e3 := kc_task (x := nI i) (p := pw b (43 + 5 * i) i 0) (a := 43 + 5 * i) (n := 43 + 5 * i + 1) (by omega) (by omega)
    have e4 := asq_at (p := mn_up (mn_up (mn_up (mn_up (mn_up (pw b (43 + 5 * i) i 0) (43 + 5 * i) (.inr (5, [.int (nI i), .ref (43 + 5 * i + 1), .ref (43 + 5 * i + 1 + 3), .int 0, .int 0, .int 0, .int 0, .long 0, .null, .null, .null, .null]))) (43 + 5 * i + 1) (.inr (2, [.ref (43 + 5 * i + 1 + 1), .ref (43 + 5 * i + 1 + 2), .null, .int 0, .int 0]))) (43 + 5 * i + 1 + 1) (lA 7)) (43 + 5 * i + 1 + 2) (lA 4)) (43 + 5 * i + 1 + 3) (lA 30)) (a := 37) (t := 4) (n := 12) (f := ra (fun i => 43 + 5 * i) i) (q := (some (43 + 5 * i + 1 + 4), c + 1 + 4, w + 12 + 46)) (i := i) (o := 43 + 5 * i) (by rw [up_o (by omega), up_o (by omega), up_o (by omega), up_o (by omega), up_o (by omega), pw_37]) (by decide) (by omega) (by decide) (by decide) (isc_at (fs := [.int (nI i), .ref (43 + 5 * i + 1), .ref (43 + 5 * i + 1 + 3), .int 0, .int 0, .int 0, .int 0, .long 0, .null, .null, .null, .null]) (by rw [up_o (by omega), up_o (by omega), up_o (by omega), up_o (by omega)]; exact up_s))
    rw [show some (43 + 5 * i) = some ((fun i => 43 + 5 * i) i) from rfl, ra_s, pw_task (by omega) rfl] at e4
    refine eX6_init_49.trans ?_
    rw [show c + 5 + 5 * d = c + 5 * (d + 1) by omega, show w + 58 + 58 * d = w + 58 * (d + 1) by omega] at i1
    refine Iff.trans ?_ i1
    simp (disch := first | omega | decide | exact h1) only [eX6_init_50, eX6_init_51, eX6_init_54, eX6_init_55, eX6_init_58, eX6_init_59, eX6_init_62, eX6_init_63, eX6_init_66, eX6_init_67, eX6_init_68, eX6_init_71, eX6_init_72, eX6_init_75, ↓reduceIte, Evk_some, Evh_some, Evn_some, Evr_n, mk_i, mk_r, mc0, mc1, mc2, mc3, mc4, nI_leI, nI_add, Nat.reduceAdd, hlt, e0, e1, e2, e3, e4]
    exact Iff.rfl
set_option maxHeartbeats 4000000 in
theorem kv_segs : ∀ (d i : Nat), i + d = 23 → ∀ (c w : Nat), Ev 45 80 [some (.ref 36), some (.ref 4), some (.int (nI i))] [] (pw b (103 + 2 * i) 12 i, some (103 + 2 * i), c, w) ((pw b 149 12 23, some 149, c + 2 * d, w + 17 * d), .inl none) := by
  intro d
  induction d with
  | zero =>
    intro i hi c w
    have hi : i = 23 := by omega
    subst hi
    refine eX6_init_80.mpr ?_
    have e1 : mn_gf (pw b (103 + 2 * 23) 12 23, some (103 + 2 * 23), c, w) 36 6 3 = some (.ref 39) := gf_at pw_36 rfl
    have e2 : mn_len (pw b (103 + 2 * 23) 12 23, some (103 + 2 * 23), c, w) 39 = some (.int (nI 23)) := mn_len_of (h := (pw b (103 + 2 * 23) 12 23, some (103 + 2 * 23), c, w)) (pw_39 (b := b) (m := 103 + 2 * 23) (i := 12) (j := 23)) (by decide)
    simp only [Nat.reduceMul, Nat.reduceAdd] at e1 e2
    simp (disch := first | omega | decide) only [eX6_init_81, eX6_init_82, eX6_init_85, eX6_init_86, eX6_init_108, ↓reduceIte, Evk_some, Evh_some, Evn_some, Evr_v, Evr_n, mk_i, mk_r, mk_0, mk_n, mk_l, mc0, mc1, mc2, mc3, mc4, mi_obj, Bool.and_self, Bool.true_and, Nat.add_zero, Nat.zero_add, nI_add, pk_mul, pk_sub, Nat.add_sub_cancel, eq_self, if_true, if_false, n10, bI_t, bI_f, bI_0, Nat.reduceAdd, Nat.reduceMul, Nat.reduceSub, nI_eq, nI_ltI, nI_leI, Nat.reduceEqDiff, Nat.reduceLT, Nat.reduceDiv, Nat.reduceMod, Nat.reduceLeDiff, Nat.mul_zero, e1, e2]
  | succ d ih =>
    intro i hi c w
    have i1 := ih (i + 1) (by omega) (c + 2) (w + 17)
    have hlt : ¬ 23 ≤ i := by omega
    have e0 : mn_gf (pw b (103 + 2 * i) 12 i, some (103 + 2 * i), c, w) 36 6 3 = some (.ref 39) := gf_at pw_36 rfl
    have e1 : mn_len (pw b (103 + 2 * i) 12 i, some (103 + 2 * i), c, w) 39 = some (.int (nI 23)) := mn_len_of (h := (pw b (103 + 2 * i) 12 i, some (103 + 2 * i), c, w)) (pw_39 (b := b) (m := 103 + 2 * i) (i := 12) (j := i)) (by decide)
    have h1 : (mn_new (pw b (103 + 2 * i) 12 i, some (103 + 2 * i), c, w) 4).isSome = true := rfl
    have e2 := nw_4 (p := pw b (103 + 2 * i) 12 i) (n := 103 + 2 * i) (c := c) (w := w)
    have e3 := kc_segment (p := pw b (103 + 2 * i) 12 i) (a := 103 + 2 * i) (n := 103 + 2 * i + 1) (by omega) (by omega)
    have e4 := asq_at (p := mn_up (mn_up (pw b (103 + 2 * i) 12 i) (103 + 2 * i) (.inr (4, [.ref (103 + 2 * i + 1), .int 0, .null, .int 0, .int 0]))) (103 + 2 * i + 1) (lA 12)) (a := 39) (t := 5) (n := 23) (f := ra (fun i => 103 + 2 * i) i) (q := (some (103 + 2 * i + 1 + 1), c + 1 + 1, w + 5 + 12)) (i := i) (o := 103 + 2 * i) (by rw [up_o (by omega), up_o (by omega), pw_39]) (by decide) (by omega) (by decide) (by decide) (isc_at (fs := [.ref (103 + 2 * i + 1), .int 0, .null, .int 0, .int 0]) (by rw [up_o (by omega)]; exact up_s))
    rw [show some (103 + 2 * i) = some ((fun i => 103 + 2 * i) i) from rfl, ra_s, pw_seg (by omega)] at e4
    refine eX6_init_80.mpr ?_
    rw [show c + 2 + 2 * d = c + 2 * (d + 1) by omega, show w + 17 + 17 * d = w + 17 * (d + 1) by omega] at i1
    simp (disch := first | omega | decide | exact h1) only [eX6_init_81, eX6_init_82, eX6_init_85, eX6_init_86, eX6_init_89, eX6_init_90, eX6_init_93, eX6_init_94, eX6_init_97, eX6_init_98, eX6_init_101, eX6_init_102, eX6_init_105, ↓reduceIte, Evk_some, Evh_some, Evn_some, Evr_n, mk_i, mk_r, mc0, mc1, mc2, mc3, mc4, nI_leI, nI_add, Nat.reduceAdd, hlt, e0, e1, e2, e3, e4]
    exact i1
set_option maxHeartbeats 8000000 in
theorem kc_world : Cl 45 [.ref 36, .ref 4] (mn_up (mn_up (cpp b 36) 3 M1) 36 (.inr (6, [.null, .null, .null, .null, .null, .int 0, .int 0, .int 0, .int 0]))) (some 37) = some ((mn_up (cpp b 149) 3 M1, some 149, 112, 1150), .inl none) := by
  refine Cl_of (x := mnI_X6_init) rfl ?_
  show Ev 45 0 [some (.ref 36), some (.ref 4), none] [] _ _
  rw [lp_one (b := mn_up (cpp b 36) 3 M1) (z := 36)]
  have o0 : ∀ {k x : Nat}, k < 5 → mn_ok (mn_fty 6 k) (.ref x) = true := by
    intro k x hk
    rcases (show k = 0 ∨ k = 1 ∨ k = 2 ∨ k = 3 ∨ k = 4 by omega) with rfl | rfl | rfl | rfl | rfl <;> rfl
  have hb0 : ∃ B, B = mn_up (cpp b 36) 3 M1 := ⟨_, rfl⟩
  obtain ⟨B, hB⟩ := hb0
  rw [← hB]
  have e1 : mn_na (lpic B 36 [.inr (6, [.null, .null, .null, .null, .null, .int 0, .int 0, .int 0, .int 0])], some 37, 0, 0) 4 (nI 12) = some (37, lpic B 36 [.inr (6, [.null, .null, .null, .null, .null, .int 0, .int 0, .int 0, .int 0]), qA 4 12 (fun _ => none)], some 38, 1, 12) := by
    rw [na_q (by decide) (by decide), lp_add (z := 36) (k := 37) rfl]; rfl
  have e2 := pf_l (b := B) (z := 36) (j := 0) (k := 1) (v := .ref 37) (q := (some 38, 1, 12)) (l := [.inr (6, [.null, .null, .null, .null, .null, .int 0, .int 0, .int 0, .int 0]), qA 4 12 (fun _ => none)]) rfl (by decide) (by decide) (o0 (by decide))
  have e3 : mn_na (lpic B 36 [.inr (6, [.null, .ref 37, .null, .null, .null, .int 0, .int 0, .int 0, .int 0]), qA 4 12 (fun _ => none)], some 38, 1, 12) 4 (nI 12) = some (38, lpic B 36 [.inr (6, [.null, .ref 37, .null, .null, .null, .int 0, .int 0, .int 0, .int 0]), qA 4 12 (fun _ => none), qA 4 12 (fun _ => none)], some 39, 2, 24) := by
    rw [na_q (by decide) (by decide), lp_add (z := 36) (k := 38) rfl]; rfl
  have e4 := pf_l (b := B) (z := 36) (j := 0) (k := 2) (v := .ref 38) (q := (some 39, 2, 24)) (l := [.inr (6, [.null, .ref 37, .null, .null, .null, .int 0, .int 0, .int 0, .int 0]), qA 4 12 (fun _ => none), qA 4 12 (fun _ => none)]) rfl (by decide) (by decide) (o0 (by decide))
  have e5 : mn_na (lpic B 36 [.inr (6, [.null, .ref 37, .ref 38, .null, .null, .int 0, .int 0, .int 0, .int 0]), qA 4 12 (fun _ => none), qA 4 12 (fun _ => none)], some 39, 2, 24) 5 (nI 23) = some (39, lpic B 36 [.inr (6, [.null, .ref 37, .ref 38, .null, .null, .int 0, .int 0, .int 0, .int 0]), qA 4 12 (fun _ => none), qA 4 12 (fun _ => none), qA 5 23 (fun _ => none)], some 40, 3, 47) := by
    rw [na_q (by decide) (by decide), lp_add (z := 36) (k := 39) rfl]; rfl
  have e6 := pf_l (b := B) (z := 36) (j := 0) (k := 3) (v := .ref 39) (q := (some 40, 3, 47)) (l := [.inr (6, [.null, .ref 37, .ref 38, .null, .null, .int 0, .int 0, .int 0, .int 0]), qA 4 12 (fun _ => none), qA 4 12 (fun _ => none), qA 5 23 (fun _ => none)]) rfl (by decide) (by decide) (o0 (by decide))
  have e7 := nw_2 (p := lpic B 36 [.inr (6, [.null, .ref 37, .ref 38, .ref 39, .null, .int 0, .int 0, .int 0, .int 0]), qA 4 12 (fun _ => none), qA 4 12 (fun _ => none), qA 5 23 (fun _ => none)]) (n := 40) (c := 3) (w := 47)
  have h7 : (mn_new (lpic B 36 [.inr (6, [.null, .ref 37, .ref 38, .ref 39, .null, .int 0, .int 0, .int 0, .int 0]), qA 4 12 (fun _ => none), qA 4 12 (fun _ => none), qA 5 23 (fun _ => none)], some 40, 3, 47) 2).isSome = true := rfl
  have e8 := kc_frame (p := lpic B 36 [.inr (6, [.null, .ref 37, .ref 38, .ref 39, .null, .int 0, .int 0, .int 0, .int 0]), qA 4 12 (fun _ => none), qA 4 12 (fun _ => none), qA 5 23 (fun _ => none)]) (a := 40) (n := 41) (by decide) (by decide)
  rw [lp_add (z := 36) (k := 40) (e := .inr (2, [.ref 41, .ref (41 + 1), .null, .int 0, .int 0])) rfl, lp_add (z := 36) (k := 41) rfl, lp_add (z := 36) (k := 41 + 1) rfl] at e8
  simp only [List.cons_append, List.nil_append] at e8
  have e9 := pf_l (b := B) (z := 36) (j := 0) (k := 4) (v := .ref 40) (q := (some 43, 6, 63)) (l := [.inr (6, [.null, .ref 37, .ref 38, .ref 39, .null, .int 0, .int 0, .int 0, .int 0]), qA 4 12 (fun _ => none), qA 4 12 (fun _ => none), qA 5 23 (fun _ => none), .inr (2, [.ref 41, .ref (41 + 1), .null, .int 0, .int 0]), lA 7, lA 4]) rfl (by decide) (by decide) (o0 (by decide))
  have e10 := pf_l (b := B) (z := 36) (j := 0) (k := 0) (v := .ref 4) (q := (some 43, 6, 63)) (l := [.inr (6, [.null, .ref 37, .ref 38, .ref 39, .ref 40, .int 0, .int 0, .int 0, .int 0]), qA 4 12 (fun _ => none), qA 4 12 (fun _ => none), qA 5 23 (fun _ => none), .inr (2, [.ref 41, .ref (41 + 1), .null, .int 0, .int 0]), lA 7, lA 4]) rfl (by decide) (by decide) (o0 (by decide))
  simp only [List.set, Nat.reduceAdd] at e2 e4 e6 e8 e9 e10
  have hst : lpic B 36 [WR, qA 4 12 (fun _ => none), qA 4 12 (fun _ => none), qA 5 23 (fun _ => none), .inr (2, [.ref 41, .ref 42, .null, .int 0, .int 0]), lA 7, lA 4] = pw b 43 0 0 := by
    funext k
    by_cases hk : 36 ≤ k ∧ k < 43
    · rcases (show k = 36 ∨ k = 37 ∨ k = 38 ∨ k = 39 ∨ k = 40 ∨ k = 41 ∨ k = 42 by omega) with rfl | rfl | rfl | rfl | rfl | rfl | rfl
      · rw [pw_36]; rfl
      · rw [pw_37, ra_0]; rfl
      · rw [pw_k (by decide) (by decide) (by decide) (by decide)]; rfl
      · rw [pw_39, ra_0]; rfl
      · rw [pw_k (by decide) (by decide) (by decide) (by decide)]; rfl
      · rw [pw_k (by decide) (by decide) (by decide) (by decide)]; rfl
      · rw [pw_k (by decide) (by decide) (by decide) (by decide)]; rfl
    · rw [lp_out (by simp only [List.length_cons, List.length_nil]; omega), hB]
      by_cases k3 : k = 3
      · subst k3; rw [pw_3, up_s]
      · rw [pw_k k3 (by omega) (by omega) (by omega), up_o k3]
        exact (cpp_o (by omega) (by omega)).symm
  have hfin : pw b 149 12 23 = mn_up (cpp b 149) 3 M1 := by
    funext k
    by_cases k3 : k = 3
    · subst k3; rw [pw_3, up_s]
    · rw [up_o k3]
      by_cases k36 : k = 36
      · subst k36; rw [pw_36]; rfl
      · by_cases k37 : k = 37
        · subst k37; rw [pw_37]; rfl
        · by_cases k39 : k = 39
          · subst k39; rw [pw_39]; rfl
          · rw [pw_k k3 k36 k37 k39]
  have l1 := kv_tasks (b := b) 12 0 (by omega) 6 63 ((mn_up (cpp b 149) 3 M1, some 149, 112, 1150), .inl none)
  have l2 := kv_segs (b := b) 23 0 (by omega) 66 759
  rw [hfin] at l2
  simp only [Nat.reduceMul, Nat.reduceAdd] at l1 l2
  simp (disch := first | omega | decide | exact h7) only [eX6_init_0, eX6_init_1, eX6_init_4, eX6_init_5, eX6_init_7, eX6_init_10, eX6_init_13, eX6_init_14, eX6_init_16, eX6_init_19, eX6_init_22, eX6_init_23, eX6_init_25, eX6_init_28, eX6_init_31, eX6_init_32, eX6_init_35, eX6_init_36, eX6_init_39, eX6_init_42, eX6_init_43, eX6_init_43n, eX6_init_43t, eX6_init_43s, eX6_init_43c, eX6_init_44, eX6_init_47, eX6_init_48, ↓reduceIte, Evk_some, Evh_some, Evn_some, Evr_n, mk_i, mk_r, mc0, mc1, mc2, mc3, mc4, Nat.reduceAdd, e1, e2, e3, e4, e5, e6, e7, e8, e9, e10]
  rw [hst]
  refine l1.mpr ?_
  rw [eX6_init_78, eX6_init_79]
  simp only [mk_r]
  exact l2
set_option maxHeartbeats 4000000 in
theorem kc_main : Cl 68 [.ref 3] (mn_up b 3 M0) (some 4) = some ((cpic b Nz Jz Pz, some 149, 145, 1787), .inl none) := by
  refine Cl_of (x := mnI_X7_init) rfl ?_
  show Ev 68 0 [some (.ref 3)] [] _ _
  have e1 := nw_3 (p := mn_up b 3 M0) (n := 4) (c := 0) (w := 0)
  have h1 : (mn_new (mn_up b 3 M0, some 4, 0, 0) 3).isSome = true := rfl
  have e2 := kc_program (b := b)
  have e3 := pf_u0 (p := cpp b 36) (a := 3) (q := (some 36, 32, 628)) (ci := 7) (k := 0) (fs := [.null, .null]) (v := .ref 4) (by decide) (by decide) rfl
  have e4 := nw_6 (p := mn_up (cpp b 36) 3 M1) (n := 36) (c := 32) (w := 628)
  have h4 : (mn_new (mn_up (cpp b 36) 3 M1, some 36, 32, 628) 6).isSome = true := rfl
  have e5 : mn_gf (mn_up (mn_up (cpp b 36) 3 M1) 36 (.inr (6, [.null, .null, .null, .null, .null, .int 0, .int 0, .int 0, .int 0])), some 37, 33, 637) 3 7 0 = some (.ref 4) := gf_at (fs := [.ref 4, .null]) (by rw [up_o (by decide)]; exact up_s) rfl
  have e6 := kc_world (b := b)
  have e7 := pf_u0 (p := cpp b 149) (a := 3) (q := (some 149, 145, 1787)) (ci := 7) (k := 1) (fs := [.ref 4, .null]) (v := .ref 36) (by decide) (by decide) rfl
  simp only [List.set] at e3 e7
  have hfin : mn_up (cpp b 149) 3 (.inr (7, [.ref 4, .ref 36])) = cpic b Nz Jz Pz := by
    funext k
    by_cases k3 : k = 3
    · subst k3; rw [up_s]; rfl
    · rw [up_o k3]; rfl
  rw [hfin] at e7
  simp (disch := first | omega | decide | exact h1 | exact h4) only [eX7_init_0, eX7_init_1, eX7_init_4, eX7_init_5, eX7_init_8, eX7_init_9, eX7_init_12, eX7_init_15, eX7_init_16, eX7_init_19, eX7_init_20, eX7_init_21, eX7_init_24, eX7_init_27, eX7_init_30, ↓reduceIte, Evk_some, Evh_some, Evn_some, Evr_n, mk_i, mk_r, mc0, mc1, mc2, mc3, mc4, Nat.reduceAdd, e1, e2, e3, e4, e5, e6, e7]
end SC
