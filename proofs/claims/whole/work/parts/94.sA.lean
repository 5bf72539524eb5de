/-! making things: leaves -/
section SA
variable {p : Nat → Option va_E} {n c w a : Nat} {r : mn_Res}
theorem up_o {α : Type} {f : Nat → Option α} {a k : Nat} {x : α} (h : k ≠ a) : mn_up f a x k = f k := by unfold mn_up; rw [if_neg h]
theorem up_s {α : Type} {f : Nat → Option α} {a : Nat} {x : α} : mn_up f a x a = some x := by unfold mn_up; rw [if_pos rfl]
theorem na_0 {m : Nat} (hm : m ≤ 100000) : mn_na (p, some n, c, w) 0 (nI m) = some (n, mn_up p n (.inl (0, m, .inl (fun _ => 0))), some (n + 1), c + 1, w + m) := by
  have h1 : ¬ (nI m < 0 ∨ 100000 < (nI m).toNatClampNeg ∨ 6 ≤ 0) := by
    rw [nI_clamp (by omega)]
    rintro (q | q | q)
    · exact absurd (nI_pos' (n := m) (by omega)) (Int32.not_le.mpr q)
    · omega
    · omega
  unfold mn_na
  rw [if_neg h1, nI_clamp (by omega)]
  rfl
theorem na_1 {m : Nat} (hm : m ≤ 100000) : mn_na (p, some n, c, w) 1 (nI m) = some (n, mn_up p n (.inl (1, m, .inr (.inl (fun _ => 0)))), some (n + 1), c + 1, w + m) := by
  have h1 : ¬ (nI m < 0 ∨ 100000 < (nI m).toNatClampNeg ∨ 6 ≤ 1) := by
    rw [nI_clamp (by omega)]
    rintro (q | q | q)
    · exact absurd (nI_pos' (n := m) (by omega)) (Int32.not_le.mpr q)
    · omega
    · omega
  unfold mn_na
  rw [if_neg h1, nI_clamp (by omega)]
  rfl
theorem na_2 {m : Nat} (hm : m ≤ 100000) : mn_na (p, some n, c, w) 2 (nI m) = some (n, mn_up p n (.inl (2, m, .inl (fun _ => 0))), some (n + 1), c + 1, w + m) := by
  have h1 : ¬ (nI m < 0 ∨ 100000 < (nI m).toNatClampNeg ∨ 6 ≤ 2) := by
    rw [nI_clamp (by omega)]
    rintro (q | q | q)
    · exact absurd (nI_pos' (n := m) (by omega)) (Int32.not_le.mpr q)
    · omega
    · omega
  unfold mn_na
  rw [if_neg h1, nI_clamp (by omega)]
  rfl
theorem na_q {t m : Nat} (ht : t = 3 ∨ t = 4 ∨ t = 5) (hm : m ≤ 100000) : mn_na (p, some n, c, w) t (nI m) = some (n, mn_up p n (.inl (t, m, .inr (.inr (.inr (.inr (fun _ => none)))))), some (n + 1), c + 1, w + m) := by
  have h1 : ¬ (nI m < 0 ∨ 100000 < (nI m).toNatClampNeg ∨ 6 ≤ t) := by
    rw [nI_clamp (by omega)]
    rintro (q | q | q)
    · exact absurd (nI_pos' (n := m) (by omega)) (Int32.not_le.mpr q)
    · omega
    · omega
  unfold mn_na
  rw [if_neg h1, nI_clamp (by omega)]
  rcases ht with rfl | rfl | rfl <;> rfl
theorem nw_0 : mn_new (p, some n, c, w) 0 = some (n, mn_up p n (.inr (0, [.null, .null, .int 0, .int 0])), some (n + 1), c + 1, w + 4) := rfl
theorem nw_1 : mn_new (p, some n, c, w) 1 = some (n, mn_up p n (.inr (1, [.int 0, .null, .null, .int 0])), some (n + 1), c + 1, w + 4) := rfl
theorem nw_2 : mn_new (p, some n, c, w) 2 = some (n, mn_up p n (.inr (2, [.null, .null, .null, .int 0, .int 0])), some (n + 1), c + 1, w + 5) := rfl
theorem nw_3 : mn_new (p, some n, c, w) 3 = some (n, mn_up p n (.inr (3, [.null, .null, .null, .null, .null, .int 0, .int 0, .null])), some (n + 1), c + 1, w + 8) := rfl
theorem nw_4 : mn_new (p, some n, c, w) 4 = some (n, mn_up p n (.inr (4, [.null, .int 0, .null, .int 0, .int 0])), some (n + 1), c + 1, w + 5) := rfl
theorem nw_5 : mn_new (p, some n, c, w) 5 = some (n, mn_up p n (.inr (5, [.int 0, .null, .null, .int 0, .int 0, .int 0, .int 0, .long 0, .null, .null, .null, .null])), some (n + 1), c + 1, w + 12) := rfl
theorem nw_6 : mn_new (p, some n, c, w) 6 = some (n, mn_up p n (.inr (6, [.null, .null, .null, .null, .null, .int 0, .int 0, .int 0, .int 0])), some (n + 1), c + 1, w + 9) := rfl
theorem nw_7 : mn_new (p, some n, c, w) 7 = some (n, mn_up p n (.inr (7, [.null, .null])), some (n + 1), c + 1, w + 2) := rfl
/-- a field put -/
theorem pf_at {p : Nat → Option va_E} {q : Option Nat × Nat × Nat} {a ci k : Nat} {fs : List Value} {v : Value} (ha : p a = some (.inr (ci, fs))) (hk : k < fs.length) (h3 : 3 ≤ a) (ho : mn_ok (mn_fty ci k) v = true) : mn_pf (p, q) a ci k v = some (mn_up p a (.inr (ci, fs.set k v)), q) := mn_pf_of (h := (p, q)) ha hk h3 ho
theorem up_up {α : Type} {f : Nat → Option α} {a : Nat} {x y : α} : mn_up (mn_up f a x) a y = mn_up f a y := by
  funext k
  unfold mn_up
  by_cases h : k = a <;> simp [h]
theorem up_c {α : Type} {f : Nat → Option α} {a a' : Nat} {x y : α} (h : a ≠ a') : mn_up (mn_up f a x) a' y = mn_up (mn_up f a' y) a x := by
  funext k
  unfold mn_up
  by_cases h1 : k = a
  · have : ¬ k = a' := fun q => h (h1.symm.trans q)
    have h' : ¬ a = a' := h
    simp [h1, h']
  · simp [h1]
theorem pf_u0 {q : Option Nat × Nat × Nat} {ci k : Nat} {fs : List Value} {v : Value} (hk : k < fs.length) (h3 : 3 ≤ a) (ho : mn_ok (mn_fty ci k) v = true) : mn_pf (mn_up p a (.inr (ci, fs)), q) a ci k v = some (mn_up p a (.inr (ci, fs.set k v)), q) := by
  rw [pf_at up_s hk h3 ho, up_up]
theorem pf_u1 {q : Option Nat × Nat × Nat} {ci k x1 : Nat} {e1 : va_E} {fs : List Value} {v : Value} (d1 : x1 ≠ a) (hk : k < fs.length) (h3 : 3 ≤ a) (ho : mn_ok (mn_fty ci k) v = true) : mn_pf (mn_up (mn_up p a (.inr (ci, fs))) x1 e1, q) a ci k v = some (mn_up (mn_up p a (.inr (ci, fs.set k v))) x1 e1, q) := by
  rw [pf_at ((up_o (Ne.symm d1)).trans up_s) hk h3 ho]
  refine congrArg (fun z => some (z, q)) ?_
  rw [up_c (a := x1) (a' := a) d1, up_up]
theorem pf_u2 {q : Option Nat × Nat × Nat} {ci k x1 x2 : Nat} {e1 e2 : va_E} {fs : List Value} {v : Value} (d1 : x1 ≠ a) (d2 : x2 ≠ a) (hk : k < fs.length) (h3 : 3 ≤ a) (ho : mn_ok (mn_fty ci k) v = true) : mn_pf (mn_up (mn_up (mn_up p a (.inr (ci, fs))) x1 e1) x2 e2, q) a ci k v = some (mn_up (mn_up (mn_up p a (.inr (ci, fs.set k v))) x1 e1) x2 e2, q) := by
  rw [pf_at ((up_o (Ne.symm d2)).trans ((up_o (Ne.symm d1)).trans up_s)) hk h3 ho]
  refine congrArg (fun z => some (z, q)) ?_
  rw [up_c (a := x2) (a' := a) d2, up_c (a := x1) (a' := a) d1, up_up]
theorem pf_u3 {q : Option Nat × Nat × Nat} {ci k x1 x2 x3 : Nat} {e1 e2 e3 : va_E} {fs : List Value} {v : Value} (d1 : x1 ≠ a) (d2 : x2 ≠ a) (d3 : x3 ≠ a) (hk : k < fs.length) (h3 : 3 ≤ a) (ho : mn_ok (mn_fty ci k) v = true) : mn_pf (mn_up (mn_up (mn_up (mn_up p a (.inr (ci, fs))) x1 e1) x2 e2) x3 e3, q) a ci k v = some (mn_up (mn_up (mn_up (mn_up p a (.inr (ci, fs.set k v))) x1 e1) x2 e2) x3 e3, q) := by
  rw [pf_at ((up_o (Ne.symm d3)).trans ((up_o (Ne.symm d2)).trans ((up_o (Ne.symm d1)).trans up_s))) hk h3 ho]
  refine congrArg (fun z => some (z, q)) ?_
  rw [up_c (a := x3) (a' := a) d3, up_c (a := x2) (a' := a) d2, up_c (a := x1) (a' := a) d1, up_up]
theorem pf_u4 {q : Option Nat × Nat × Nat} {ci k x1 x2 x3 x4 : Nat} {e1 e2 e3 e4 : va_E} {fs : List Value} {v : Value} (d1 : x1 ≠ a) (d2 : x2 ≠ a) (d3 : x3 ≠ a) (d4 : x4 ≠ a) (hk : k < fs.length) (h3 : 3 ≤ a) (ho : mn_ok (mn_fty ci k) v = true) : mn_pf (mn_up (mn_up (mn_up (mn_up (mn_up p a (.inr (ci, fs))) x1 e1) x2 e2) x3 e3) x4 e4, q) a ci k v = some (mn_up (mn_up (mn_up (mn_up (mn_up p a (.inr (ci, fs.set k v))) x1 e1) x2 e2) x3 e3) x4 e4, q) := by
  rw [pf_at ((up_o (Ne.symm d4)).trans ((up_o (Ne.symm d3)).trans ((up_o (Ne.symm d2)).trans ((up_o (Ne.symm d1)).trans up_s)))) hk h3 ho]
  refine congrArg (fun z => some (z, q)) ?_
  rw [up_c (a := x4) (a' := a) d4, up_c (a := x3) (a' := a) d3, up_c (a := x2) (a' := a) d2, up_c (a := x1) (a' := a) d1, up_up]
set_option maxHeartbeats 4000000 in
theorem kc_checker (h3 : 3 ≤ a) (han : a < n) : Cl 0 [.ref a] (mn_up p a (.inr (0, [.null, .null, .int 0, .int 0]))) (some n) = some ((mn_up (mn_up (mn_up p a (.inr (0, [.ref n, .ref (n + 1), .int 0, .int 0]))) n (.inl (0, 24, .inl (fun _ => 0)))) (n + 1) (.inl (0, 192, .inl (fun _ => 0))), some (n + 2), 2, 216), .inl none) := by
  refine Cl_of (x := mnI_X0_init) rfl ?_
  show Ev 0 0 [some (.ref a)] [] _ _
  have o0_0 : ∀ {x : Nat}, mn_ok (mn_fty 0 0) (.ref x) = true := fun {x} => rfl
  have o0_1 : ∀ {x : Nat}, mn_ok (mn_fty 0 1) (.ref x) = true := fun {x} => rfl
  have hna : n ≠ a := by omega
  have hnb : n + 1 ≠ a := by omega
  have l4 : ∀ {v0 v1 v2 v3 : Value} {k : Nat}, k < 4 → k < [v0, v1, v2, v3].length := fun h => h
  simp (disch := first | exact o0_0 | exact o0_1 | exact hna | exact hnb | exact h3 | exact l4 (by decide) | decide | rfl) only [eX0_init_0, eX0_init_1, eX0_init_4, eX0_init_5, eX0_init_7, eX0_init_9, eX0_init_12, eX0_init_13, eX0_init_16, eX0_init_18, eX0_init_21, Evn_some, Evh_some, na_0, pf_u1, pf_u2, List.set]
set_option maxHeartbeats 4000000 in
theorem kc_frame (h3 : 3 ≤ a) (han : a < n) : Cl 11 [.ref a] (mn_up p a (.inr (2, [.null, .null, .null, .int 0, .int 0]))) (some n) = some ((mn_up (mn_up (mn_up p a (.inr (2, [.ref n, .ref (n + 1), .null, .int 0, .int 0]))) n (.inl (1, 7, .inr (.inl (fun _ => 0))))) (n + 1) (.inl (1, 4, .inr (.inl (fun _ => 0)))), some (n + 2), 2, 11), .inl none) := by
  refine Cl_of (x := mnI_X2_init) rfl ?_
  show Ev 11 0 [some (.ref a)] [] _ _
  have o2_0 : ∀ {x : Nat}, mn_ok (mn_fty 2 0) (.ref x) = true := fun {x} => rfl
  have o2_1 : ∀ {x : Nat}, mn_ok (mn_fty 2 1) (.ref x) = true := fun {x} => rfl
  have hna : n ≠ a := by omega
  have hnb : n + 1 ≠ a := by omega
  have l4 : ∀ {v0 v1 v2 v3 v4 : Value} {k : Nat}, k < 5 → k < [v0, v1, v2, v3, v4].length := fun h => h
  simp (disch := first | exact o2_0 | exact o2_1 | exact hna | exact hnb | exact h3 | exact l4 (by decide) | decide | rfl) only [eX2_init_0, eX2_init_1, eX2_init_4, eX2_init_5, eX2_init_7, eX2_init_9, eX2_init_12, eX2_init_13, eX2_init_14, eX2_init_16, eX2_init_19, Evn_some, Evh_some, na_1, pf_u1, pf_u2, List.set]
set_option maxHeartbeats 4000000 in
theorem kc_segment (h3 : 3 ≤ a) (han : a < n) : Cl 32 [.ref a] (mn_up p a (.inr (4, [.null, .int 0, .null, .int 0, .int 0]))) (some n) = some ((mn_up (mn_up p a (.inr (4, [.ref n, .int 0, .null, .int 0, .int 0]))) n (.inl (1, 12, .inr (.inl (fun _ => 0)))), some (n + 1), 1, 12), .inl none) := by
  refine Cl_of (x := mnI_X4_init) rfl ?_
  show Ev 32 0 [some (.ref a)] [] _ _
  have o4_0 : ∀ {x : Nat}, mn_ok (mn_fty 4 0) (.ref x) = true := fun {x} => rfl
  have hna : n ≠ a := by omega
  have l4 : ∀ {v0 v1 v2 v3 v4 : Value} {k : Nat}, k < 5 → k < [v0, v1, v2, v3, v4].length := fun h => h
  simp (disch := first | exact o4_0 | exact hna | exact h3 | exact l4 (by decide) | decide | rfl) only [eX4_init_0, eX4_init_1, eX4_init_4, eX4_init_5, eX4_init_7, eX4_init_9, eX4_init_12, Evn_some, Evh_some, na_1, pf_u1, List.set]
set_option maxHeartbeats 4000000 in
theorem kc_code {m : Bool} (h3 : 3 ≤ a) (han : a < n) : Cl 6 [.ref a, .int (bI m)] (mn_up p a (.inr (1, [.int 0, .null, .null, .int 0]))) (some n) = some ((mn_up (mn_up (mn_up p a (.inr (1, [.int (bI m), .ref n, .ref (n + 1), .int 0]))) n (.inl (0, if m = true then 12 else 24, .inl (fun _ => 0)))) (n + 1) (.inl (0, if m = true then 12 else 24, .inl (fun _ => 0))), some (n + 2), 2, 2 * (if m = true then 12 else 24)), .inl none) := by
  refine Cl_of (x := mnI_X1_init) rfl ?_
  show Ev 6 0 [some (.ref a), some (.int (bI m)), none] [] _ _
  have o1_1 : ∀ {x : Nat}, mn_ok (mn_fty 1 1) (.ref x) = true := fun {x} => rfl
  have o1_2 : ∀ {x : Nat}, mn_ok (mn_fty 1 2) (.ref x) = true := fun {x} => rfl
  have o1_0 : mn_ok (mn_fty 1 0) (.int (nI 0)) = true := rfl
  have o1_0' : mn_ok (mn_fty 1 0) (.int (nI 1)) = true := rfl
  have hna : n ≠ a := by omega
  have hnb : n + 1 ≠ a := by omega
  have l4 : ∀ {v0 v1 v2 v3 : Value} {k : Nat}, k < 4 → k < [v0, v1, v2, v3].length := fun h => h
  cases m with
  | true => simp (disch := first | exact o1_0 | exact o1_0' | exact o1_1 | exact o1_2 | exact hna | exact hnb | exact h3 | exact l4 (by decide) | decide | rfl) only [eX1_init_0, eX1_init_1, eX1_init_4, eX1_init_5, eX1_init_6, eX1_init_9, eX1_init_10, eX1_init_13, eX1_init_15, eX1_init_18, eX1_init_20, eX1_init_21, eX1_init_22, eX1_init_23, eX1_init_25, eX1_init_28, eX1_init_29, eX1_init_30, eX1_init_32, eX1_init_35, ↓reduceIte, bI_t, n10, mk_i, mk_r, Evn_some, Evh_some, na_0, pf_u0, pf_u1, pf_u2, List.set]
  | false => simp (disch := first | exact o1_0 | exact o1_0' | exact o1_1 | exact o1_2 | exact hna | exact hnb | exact h3 | exact l4 (by decide) | decide | rfl) only [eX1_init_0, eX1_init_1, eX1_init_4, eX1_init_5, eX1_init_6, eX1_init_9, eX1_init_10, eX1_init_13, eX1_init_15, eX1_init_18, eX1_init_20, eX1_init_21, eX1_init_22, eX1_init_23, eX1_init_25, eX1_init_28, eX1_init_29, eX1_init_30, eX1_init_32, eX1_init_35, ↓reduceIte, bI_f, Bool.false_eq_true, mk_i, mk_r, Evn_some, Evh_some, na_0, pf_u0, pf_u1, pf_u2, List.set]
set_option maxHeartbeats 4000000 in
theorem kc_task {x : Int32} (h3 : 3 ≤ a) (han : a < n) : Cl 40 [.ref a, .int x] (mn_up p a (.inr (5, [.int 0, .null, .null, .int 0, .int 0, .int 0, .int 0, .long 0, .null, .null, .null, .null]))) (some n) = some ((mn_up (mn_up (mn_up (mn_up (mn_up p a (.inr (5, [.int x, .ref n, .ref (n + 3), .int 0, .int 0, .int 0, .int 0, .long 0, .null, .null, .null, .null]))) n (.inr (2, [.ref (n + 1), .ref (n + 2), .null, .int 0, .int 0]))) (n + 1) (.inl (1, 7, .inr (.inl (fun _ => 0))))) (n + 2) (.inl (1, 4, .inr (.inl (fun _ => 0))))) (n + 3) (.inl (1, 30, .inr (.inl (fun _ => 0)))), some (n + 4), 4, 46), .inl none) := by
  refine Cl_of (x := mnI_X5_init) rfl ?_
  show Ev 40 0 [some (.ref a), some (.int x)] [] _ _
  have o5_1 : ∀ {x : Nat}, mn_ok (mn_fty 5 1) (.ref x) = true := fun {x} => rfl
  have o5_2 : ∀ {x : Nat}, mn_ok (mn_fty 5 2) (.ref x) = true := fun {x} => rfl
  have o5_0 : ∀ {x : Int32}, mn_ok (mn_fty 5 0) (.int x) = true := fun {x} => rfl
  have d0 : n ≠ a := by omega
  have d1 : n + 1 ≠ a := by omega
  have d2 : n + 2 ≠ a := by omega
  have d2' : n + 1 + 1 ≠ a := by omega
  have d3 : n + 1 + 2 ≠ a := by omega
  have l4 : ∀ {v0 v1 v2 v3 v4 v5 v6 v7 v8 v9 va vb : Value} {k : Nat}, k < 12 → k < [v0, v1, v2, v3, v4, v5, v6, v7, v8, v9, va, vb].length := fun h => h
  have h1 : ∀ {p : Nat → Option va_E}, (mn_new (p, some n, 0, 0) 2).isSome = true := fun {p} => rfl
  have e2 := fun (p : Nat → Option va_E) => kc_frame (p := p) (a := n) (n := n + 1) (by omega) (by omega)
  simp (disch := first | exact o5_1 | exact o5_2 | exact o5_0 | exact d0 | exact d1 | exact d2 | exact d2' | exact d3 | exact h3 | exact l4 (by decide) | decide | exact h1 | rfl) only [eX5_init_0, eX5_init_1, eX5_init_4, eX5_init_5, eX5_init_8, eX5_init_9, eX5_init_12, eX5_init_15, eX5_init_16, eX5_init_18, eX5_init_20, eX5_init_23, eX5_init_24, eX5_init_25, eX5_init_28, Evn_some, Evh_some, Evr_n, mc0, mc1, mc2, Nat.reduceAdd, nw_2, e2, na_1, pf_u3, pf_u4, List.set]
end SA
