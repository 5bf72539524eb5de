/-! THE CLASS'S PICTURE. N kind index place: ints; J: longs; P: links, as numbers of tasks, segments, codes. -/
def up3 {α : Type} (N : Nat → Nat → Nat → α) (k i p : Nat) (x : α) : Nat → Nat → Nat → α := fun k' => if k' = k then (fun i' => if i' = i then (fun p' => if p' = p then x else N k i p') else N k i') else N k'
def upP (P : Nat → Nat → Option Nat) (k i : Nat) (x : Option Nat) : Nat → Nat → Option Nat := fun k' => if k' = k then (fun i' => if i' = i then x else P k i') else P k'
theorem up3_s {α : Type} {N : Nat → Nat → Nat → α} {k i p : Nat} {x : α} : up3 N k i p x k i p = x := by simp [up3]
theorem upP_s {P : Nat → Nat → Option Nat} {k i : Nat} {x : Option Nat} : upP P k i x k i = x := by simp [upP]
theorem up3_r {N : Nat → Nat → Nat → Int32} {k i p : Nat} {x : Int32} : up3 N k i p x k i = upd (N k i) p x := by funext p'; simp [up3, upd]
theorem up3_rL {N : Nat → Nat → Nat → Int64} {k i p : Nat} {x : Int64} : up3 N k i p x k i = vp_updL (N k i) p x := by funext p'; simp [up3, vp_updL]
theorem up3_n {α : Type} {N : Nat → Nat → Nat → α} {k i p i' : Nat} {x : α} (h : i' ≠ i) : up3 N k i p x k i' = N k i' := by simp [up3, h]
theorem upP_n {P : Nat → Nat → Option Nat} {k i i' : Nat} {x : Option Nat} (h : i' ≠ i) : upP P k i x k i' = P k i' := by simp [upP, h]
def ra (g : Nat → Nat) (n : Nat) : Nat → Option Nat := fun j => if j < n then some (g j) else none
theorem ra_lt {g : Nat → Nat} {n j : Nat} (h : j < n) : ra g n j = some (g j) := if_pos h
def tkv (o : Option Nat) : Value := va_rf (o.map (fun i => 43 + 5 * i))
def sgv (o : Option Nat) : Value := va_rf (o.map (fun i => 103 + 2 * i))
def cdv (o : Option Nat) : Value := va_rf (o.map (fun i => 12 + 3 * i))
theorem tkv_s {i : Nat} : tkv (some i) = .ref (43 + 5 * i) := rfl
theorem sgv_s {i : Nat} : sgv (some i) = .ref (103 + 2 * i) := rfl
theorem cdv_s {i : Nat} : cdv (some i) = .ref (12 + 3 * i) := rfl
theorem tkv_n : tkv none = .null := rfl
theorem sgv_n : sgv none = .null := rfl
theorem cdv_n : cdv none = .null := rfl
theorem tkv_k {o : Option Nat} : mn_k (some (tkv o)) = some (tkv o) := by cases o <;> rfl
theorem sgv_k {o : Option Nat} : mn_k (some (sgv o)) = some (sgv o) := by cases o <;> rfl
theorem cdv_k {o : Option Nat} : mn_k (some (cdv o)) = some (cdv o) := by cases o <;> rfl
theorem tkv_r {o : Option Nat} : (mn_r (tkv o)).isSome = true := by cases o <;> rfl
theorem sgv_r {o : Option Nat} : (mn_r (sgv o)).isSome = true := by cases o <;> rfl
theorem cdv_r {o : Option Nat} : (mn_r (cdv o)).isSome = true := by cases o <;> rfl
/-- how long a code may be -/
def cap (j : Nat) : Nat := if 6 ≤ j then 12 else 24
theorem cap_le (j : Nat) : cap j ≤ 24 ∧ 12 ≤ cap j := by unfold cap; split <;> omega
/-- where a frame lies -/
def fr (f : Nat) : Nat := if f < 12 then 44 + 5 * f else 40
theorem fr_t {t : Nat} (h : t < 12) : 44 + 5 * t = fr t := by unfold fr; rw [if_pos h]
theorem fr_m : 40 = fr 12 := rfl
abbrev cN : Type := Nat → Nat → Nat → Int32
abbrev cJ : Type := Nat → Nat → Nat → Int64
abbrev cP : Type := Nat → Nat → Option Nat
def cc (N : cN) (J : cJ) (P : cP) (f i s : Nat) : va_E := match f, s with
  | 0, 3 => .inr (7, [.ref 4, .ref 36])
  | 0, 4 => .inr (3, [.ref 5, .ref 6, .ref 7, .ref 8, .ref 9, .int (N 0 0 0), .int (N 1 0 0), cdv (P 0 0)])
  | 0, 5 => .inl (3, 6, .inr (.inr (.inr (.inr (ra (fun i => 12 + 3 * i) 6)))))
  | 0, 6 => .inl (3, 2, .inr (.inr (.inr (.inr (ra (fun i => 12 + 3 * (6 + i)) 2)))))
  | 0, 7 => .inl (0, 12, .inl (N 5 0))
  | 0, 8 => .inl (0, 12, .inl (N 6 0))
  | 0, 9 => .inr (0, [.ref 10, .ref 11, .int (N 9 0 0), .int (N 10 0 0)])
  | 0, 10 => .inl (0, 24, .inl (N 7 0))
  | 0, 11 => .inl (0, 192, .inl (N 8 0))
  | 0, 36 => .inr (6, [.ref 4, .ref 37, .ref 38, .ref 39, .ref 40, .int (N 11 0 0), .int (N 12 0 0), .int (N 13 0 0), .int (N 14 0 0)])
  | 0, 37 => .inl (4, 12, .inr (.inr (.inr (.inr (ra (fun i => 43 + 5 * i) 12)))))
  | 0, 38 => .inl (4, 12, .inr (.inr (.inr (.inr (fun i => (P 7 i).map (fun i => 43 + 5 * i))))))
  | 0, 39 => .inl (5, 23, .inr (.inr (.inr (.inr (ra (fun i => 103 + 2 * i) 23)))))
  | 1, 0 => .inr (1, [.int (bI (decide (6 ≤ i))), .ref (12 + 3 * i + 1), .ref (12 + 3 * i + 2), .int (N 2 i 0)])
  | 1, 1 => .inl (0, cap i, .inl (N 3 i))
  | 1, 2 => .inl (0, cap i, .inl (N 4 i))
  | 2, 0 => .inr (2, [.ref (fr i + 1), .ref (fr i + 2), cdv (P 5 i), .int (N 19 i 0), .int (N 20 i 0)])
  | 2, 1 => .inl (1, 7, .inr (.inl (J 0 i)))
  | 2, 2 => .inl (1, 4, .inr (.inl (J 1 i)))
  | 3, 0 => .inr (5, [.int (nI i), .ref (fr i), .ref (43 + 5 * i + 4), .int (N 15 i 0), .int (N 16 i 0), .int (N 17 i 0), .int (N 18 i 0), .long (J 3 i 0), tkv (P 1 i), tkv (P 2 i), sgv (P 3 i), sgv (P 4 i)])
  | 3, 1 => .inl (1, 30, .inr (.inl (J 2 i)))
  | 4, 0 => .inr (4, [.ref (103 + 2 * i + 1), .int (N 21 i 0), sgv (P 6 i), .int (N 22 i 0), .int (N 23 i 0)])
  | 4, 1 => .inl (1, 12, .inr (.inl (J 4 i)))
  | _, _ => .inl (0, 0, .inl (fun _ => 0))
def cd_dec (k : Nat) : Nat × Nat × Nat :=
  if k < 12 then (0, 0, k) else if k < 36 then (1, (k - 12) / 3, (k - 12) % 3) else if k < 40 then (0, 0, k) else if k < 43 then (2, 12, k - 40) else if k < 103 then (if (k - 43) % 5 = 0 then (3, (k - 43) / 5, 0) else if (k - 43) % 5 = 4 then (3, (k - 43) / 5, 1) else (2, (k - 43) / 5, (k - 43) % 5 - 1)) else (4, (k - 103) / 2, (k - 103) % 2)
/-- the codes of valid places -/
def cd_of (k f i s : Nat) : Prop := 3 ≤ k ∧ k < 149 ∧ cd_dec k = (f, i, s)
theorem cd_inj {k k' f i s : Nat} (h : cd_of k f i s) (h' : cd_of k' f i s) : k = k' := by
  obtain ⟨h1, h2, h3⟩ := h
  obtain ⟨h1', h2', h3'⟩ := h'
  have h4 := h3.trans h3'.symm
  unfold cd_dec at h4
  repeat' split at h4
  all_goals (simp only [Prod.mk.injEq] at h4; omega)
theorem cd_z (k : Nat) : (cd_dec k).1 = 0 → (cd_dec k).2.1 = 0 := by
  unfold cd_dec
  repeat' split
  all_goals simp
def cpic (b : Nat → Option va_E) (N : cN) (J : cJ) (P : cP) : Nat → Option va_E := fun k => if 3 ≤ k ∧ k < 149 then some (cc N J P (cd_dec k).1 (cd_dec k).2.1 (cd_dec k).2.2) else b k
section CP
variable {b : Nat → Option va_E} {N N' : cN} {J J' : cJ} {P P' : cP} {q : Option Nat × Nat × Nat} {x y : Int32} {u : Int64} {f i s k t j p : Nat} {o : Option Nat}
theorem c_get (h : cd_of k f i s) : cpic b N J P k = some (cc N J P f i s) := by
  obtain ⟨h1, h2, h3⟩ := h
  unfold cpic
  rw [if_pos ⟨h1, h2⟩, h3]
theorem c_out (h : ¬ (3 ≤ k ∧ k < 149)) : cpic b N J P k = b k := by unfold cpic; rw [if_neg h]
theorem c_up {e : va_E} (h : cd_of k f i s) (h1 : cc N' J' P' f i s = e) (h2 : ∀ f' i' s', (f' = 0 → i' = 0) → ¬ (f' = f ∧ i' = i ∧ s' = s) → cc N' J' P' f' i' s' = cc N J P f' i' s') : mn_up (cpic b N J P) k e = cpic b N' J' P' := by
  funext k'
  unfold mn_up
  by_cases hk : k' = k
  · subst hk
    rw [if_pos rfl, c_get h, h1]
  · rw [if_neg hk]
    unfold cpic
    by_cases hr : 3 ≤ k' ∧ k' < 149
    · rw [if_pos hr, if_pos hr]
      refine congrArg some (h2 _ _ _ (cd_z k') (fun hq => hk ?_)).symm
      refine cd_inj ⟨hr.1, hr.2, ?_⟩ h
      rw [← hq.1, ← hq.2.1, ← hq.2.2]
    · rw [if_neg hr, if_neg hr]
theorem co_code (hj : j < 8) (hs : s < 3) : cd_of (12 + 3 * j + s) 1 j s := by
  refine ⟨by omega, by omega, ?_⟩
  unfold cd_dec
  rw [if_neg (by omega), if_pos (by omega), show (12 + 3 * j + s - 12) / 3 = j by omega, show (12 + 3 * j + s - 12) % 3 = s by omega]
theorem co_frame (hf : f < 13) (hs : s < 3) : cd_of (fr f + s) 2 f s := by
  unfold fr
  by_cases h : f < 12
  · rw [if_pos h]
    refine ⟨by omega, by omega, ?_⟩
    unfold cd_dec
    rw [if_neg (by omega), if_neg (by omega), if_neg (by omega), if_neg (by omega), if_pos (by omega), if_neg (by omega), if_neg (by omega), show (44 + 5 * f + s - 43) / 5 = f by omega, show (44 + 5 * f + s - 43) % 5 - 1 = s by omega]
  · rw [if_neg h, show f = 12 by omega]
    refine ⟨by omega, by omega, ?_⟩
    unfold cd_dec
    rw [if_neg (by omega), if_neg (by omega), if_neg (by omega), if_pos (by omega), show 40 + s - 40 = s by omega]
theorem co_task (ht : t < 12) : cd_of (43 + 5 * t) 3 t 0 := by
  refine ⟨by omega, by omega, ?_⟩
  unfold cd_dec
  rw [if_neg (by omega), if_neg (by omega), if_neg (by omega), if_neg (by omega), if_pos (by omega), if_pos (by omega), show (43 + 5 * t - 43) / 5 = t by omega]
theorem co_prints (ht : t < 12) : cd_of (43 + 5 * t + 4) 3 t 1 := by
  refine ⟨by omega, by omega, ?_⟩
  unfold cd_dec
  rw [if_neg (by omega), if_neg (by omega), if_neg (by omega), if_neg (by omega), if_pos (by omega), if_neg (by omega), if_pos (by omega), show (43 + 5 * t + 4 - 43) / 5 = t by omega]
theorem co_seg (hi : i < 23) (hs : s < 2) : cd_of (103 + 2 * i + s) 4 i s := by
  refine ⟨by omega, by omega, ?_⟩
  unfold cd_dec
  rw [if_neg (by omega), if_neg (by omega), if_neg (by omega), if_neg (by omega), if_neg (by omega), show (103 + 2 * i + s - 103) / 2 = i by omega, show (103 + 2 * i + s - 103) % 2 = s by omega]
theorem co_code0 (hj : j < 8) : cd_of (12 + 3 * j) 1 j 0 := co_code (s := 0) hj (by decide)
theorem co_code1 (hj : j < 8) : cd_of (12 + 3 * j + 1) 1 j 1 := co_code (s := 1) hj (by decide)
theorem co_code2 (hj : j < 8) : cd_of (12 + 3 * j + 2) 1 j 2 := co_code (s := 2) hj (by decide)
theorem co_frame0 (hf : f < 13) : cd_of (fr f) 2 f 0 := co_frame (s := 0) hf (by decide)
theorem co_frame1 (hf : f < 13) : cd_of (fr f + 1) 2 f 1 := co_frame (s := 1) hf (by decide)
theorem co_frame2 (hf : f < 13) : cd_of (fr f + 2) 2 f 2 := co_frame (s := 2) hf (by decide)
theorem co_seg0 (hi : i < 23) : cd_of (103 + 2 * i) 4 i 0 := co_seg (s := 0) hi (by decide)
theorem co_seg1 (hi : i < 23) : cd_of (103 + 2 * i + 1) 4 i 1 := co_seg (s := 1) hi (by decide)
theorem cdo_3 : cd_of 3 0 0 3 := ⟨by decide, by decide, by decide⟩
theorem cdo_4 : cd_of 4 0 0 4 := ⟨by decide, by decide, by decide⟩
theorem cdo_5 : cd_of 5 0 0 5 := ⟨by decide, by decide, by decide⟩
theorem cdo_6 : cd_of 6 0 0 6 := ⟨by decide, by decide, by decide⟩
theorem cdo_7 : cd_of 7 0 0 7 := ⟨by decide, by decide, by decide⟩
theorem cdo_8 : cd_of 8 0 0 8 := ⟨by decide, by decide, by decide⟩
theorem cdo_9 : cd_of 9 0 0 9 := ⟨by decide, by decide, by decide⟩
theorem cdo_10 : cd_of 10 0 0 10 := ⟨by decide, by decide, by decide⟩
theorem cdo_11 : cd_of 11 0 0 11 := ⟨by decide, by decide, by decide⟩
theorem cdo_36 : cd_of 36 0 0 36 := ⟨by decide, by decide, by decide⟩
theorem cdo_37 : cd_of 37 0 0 37 := ⟨by decide, by decide, by decide⟩
theorem cdo_38 : cd_of 38 0 0 38 := ⟨by decide, by decide, by decide⟩
theorem cdo_39 : cd_of 39 0 0 39 := ⟨by decide, by decide, by decide⟩
theorem mn_gf_of {h : mn_S} {a ci k : Nat} {fs : List Value} {v : Value} (ha : h.1 a = some (.inr (ci, fs))) (hv : fs[k]? = some v) : mn_gf h a ci k = some v := by unfold mn_gf; rw [ha]; dsimp only; rw [if_pos rfl, hv]
theorem mn_pf_of {h : mn_S} {a ci k : Nat} {fs : List Value} {v : Value} (ha : h.1 a = some (.inr (ci, fs))) (hk : k < fs.length) (h3 : 3 ≤ a) (ho : mn_ok (mn_fty ci k) v = true) : mn_pf h a ci k v = some (mn_up h.1 a (.inr (ci, fs.set k v)), h.2) := by unfold mn_pf; rw [ha]; dsimp only; rw [if_pos ⟨rfl, hk, h3, ho⟩]
theorem mn_al_of {h : mn_S} {a t n k : Nat} {x : (Nat → Int32) ⊕ (Nat → Int64) ⊕ (Nat → UInt32) ⊕ (Nat → UInt64) ⊕ (Nat → Option Nat)} (ha : h.1 a = some (.inl (t, n, x))) (hk : k < n) (hn : n < 2 ^ 31) : mn_al h a t (nI k) = some (mn_e x k) := by
  have hx : mn_in (nI k) n = true := mn_in_iff.mpr (vp_in_nI hk hn)
  unfold mn_al; rw [ha]; dsimp only; rw [if_pos ⟨rfl, hx⟩, nI_clamp (by omega)]
theorem mn_aq_of {h : mn_S} {a t n k : Nat} {f : Nat → Option Nat} (ha : h.1 a = some (.inl (t, n, .inr (.inr (.inr (.inr f)))))) (ht : 3 ≤ t ∧ t < 6) (hk : k < n) (hn : n < 2 ^ 31) : mn_aq h a (nI k) = some (va_rf (f k)) := by
  have hx : mn_in (nI k) n = true := mn_in_iff.mpr (vp_in_nI hk hn)
  unfold mn_aq; rw [ha]; dsimp only; rw [if_pos ⟨ht.1, ht.2, hx⟩, nI_clamp (by omega)]
theorem mn_len_of {h : mn_S} {a t n : Nat} {x : (Nat → Int32) ⊕ (Nat → Int64) ⊕ (Nat → UInt32) ⊕ (Nat → UInt64) ⊕ (Nat → Option Nat)} (ha : h.1 a = some (.inl (t, n, x))) (ht : t < 6) : mn_len h a = some (.int (nI n)) := by unfold mn_len; rw [ha]; dsimp only; rw [if_pos ht]; rfl
theorem mn_isc_of {h : mn_S} {a ci : Nat} {fs : List Value} (ha : h.1 a = some (.inr (ci, fs))) : mn_isc h a ci = true := by unfold mn_isc; rw [ha]; simp
theorem ci_Code (hi : i < 8) : mn_isc (cpic b N J P, q) (12 + 3 * i) 1 = true := mn_isc_of (h := (cpic b N J P, q)) (c_get (b := b) (co_code0 hi))
theorem cg_Code_isMerge (hi : i < 8) : mn_gf (cpic b N J P, q) (12 + 3 * i) 1 0 = some (.int (bI (decide (6 ≤ i)))) := mn_gf_of (h := (cpic b N J P, q)) (c_get (b := b) (co_code0 hi)) rfl
theorem cg_Code_operations (hi : i < 8) : mn_gf (cpic b N J P, q) (12 + 3 * i) 1 1 = some (.ref (12 + 3 * i + 1)) := mn_gf_of (h := (cpic b N J P, q)) (c_get (b := b) (co_code0 hi)) rfl
theorem cg_Code_arguments (hi : i < 8) : mn_gf (cpic b N J P, q) (12 + 3 * i) 1 2 = some (.ref (12 + 3 * i + 2)) := mn_gf_of (h := (cpic b N J P, q)) (c_get (b := b) (co_code0 hi)) rfl
theorem cg_Code_length (hi : i < 8) : mn_gf (cpic b N J P, q) (12 + 3 * i) 1 3 = some (.int (N 2 i 0)) := mn_gf_of (h := (cpic b N J P, q)) (c_get (b := b) (co_code0 hi)) rfl
theorem cp_Code_length (hi : i < 8) : mn_pf (cpic b N J P, q) (12 + 3 * i) 1 3 (.int x) = some (cpic b (up3 N 2 i 0 x) J P, q) := by
  rw [mn_pf_of (h := (cpic b N J P, q)) (c_get (b := b) (co_code0 hi)) (Nat.le_of_ble_eq_true rfl) (co_code0 hi).1 (rfl)]
  refine congrArg (fun z => some (z, q)) (c_up (co_code0 hi) ?_ (fun f' i' s' hz hne => by
    unfold cc
    split <;> first | rfl | (exact absurd ⟨rfl, rfl, rfl⟩ hne) | (have hi' : i' ≠ i := fun q => hne ⟨rfl, q, rfl⟩; simp only [up3_n hi', upP_n hi'] <;> rfl)))
  show cc _ _ _ 1 i 0 = _
  unfold cc
  simp only [up3_s, upP_s] <;> rfl
theorem ci_Frame (hi : i < 13) : mn_isc (cpic b N J P, q) (fr i) 2 = true := mn_isc_of (h := (cpic b N J P, q)) (c_get (b := b) (co_frame0 hi))
theorem cg_Frame_stack (hi : i < 13) : mn_gf (cpic b N J P, q) (fr i) 2 0 = some (.ref (fr i + 1)) := mn_gf_of (h := (cpic b N J P, q)) (c_get (b := b) (co_frame0 hi)) rfl
theorem cg_Frame_locals (hi : i < 13) : mn_gf (cpic b N J P, q) (fr i) 2 1 = some (.ref (fr i + 2)) := mn_gf_of (h := (cpic b N J P, q)) (c_get (b := b) (co_frame0 hi)) rfl
theorem cg_Frame_code (hi : i < 13) : mn_gf (cpic b N J P, q) (fr i) 2 2 = some (cdv (P 5 i)) := mn_gf_of (h := (cpic b N J P, q)) (c_get (b := b) (co_frame0 hi)) rfl
theorem cp_Frame_code (hi : i < 13) : mn_pf (cpic b N J P, q) (fr i) 2 2 (cdv o) = some (cpic b N J (upP P 5 i o), q) := by
  rw [mn_pf_of (h := (cpic b N J P, q)) (c_get (b := b) (co_frame0 hi)) (Nat.le_of_ble_eq_true rfl) (co_frame0 hi).1 (by cases o <;> rfl)]
  refine congrArg (fun z => some (z, q)) (c_up (co_frame0 hi) ?_ (fun f' i' s' hz hne => by
    unfold cc
    split <;> first | rfl | (exact absurd ⟨rfl, rfl, rfl⟩ hne) | (have hi' : i' ≠ i := fun q => hne ⟨rfl, q, rfl⟩; simp only [up3_n hi', upP_n hi'] <;> rfl)))
  show cc _ _ _ 2 i 0 = _
  unfold cc
  simp only [up3_s, upP_s] <;> rfl
theorem cp_Frame_code_r (hi : i < 13) : mn_pf (cpic b N J P, q) (fr i) 2 2 (.ref (12 + 3 * j)) = some (cpic b N J (upP P 5 i (some j)), q) := cp_Frame_code (o := some j) hi
theorem cp_Frame_code_0 (hi : i < 13) : mn_pf (cpic b N J P, q) (fr i) 2 2 .null = some (cpic b N J (upP P 5 i none), q) := cp_Frame_code (o := none) hi
theorem cg_Frame_place (hi : i < 13) : mn_gf (cpic b N J P, q) (fr i) 2 3 = some (.int (N 19 i 0)) := mn_gf_of (h := (cpic b N J P, q)) (c_get (b := b) (co_frame0 hi)) rfl
theorem cp_Frame_place (hi : i < 13) : mn_pf (cpic b N J P, q) (fr i) 2 3 (.int x) = some (cpic b (up3 N 19 i 0 x) J P, q) := by
  rw [mn_pf_of (h := (cpic b N J P, q)) (c_get (b := b) (co_frame0 hi)) (Nat.le_of_ble_eq_true rfl) (co_frame0 hi).1 (rfl)]
  refine congrArg (fun z => some (z, q)) (c_up (co_frame0 hi) ?_ (fun f' i' s' hz hne => by
    unfold cc
    split <;> first | rfl | (exact absurd ⟨rfl, rfl, rfl⟩ hne) | (have hi' : i' ≠ i := fun q => hne ⟨rfl, q, rfl⟩; simp only [up3_n hi', upP_n hi'] <;> rfl)))
  show cc _ _ _ 2 i 0 = _
  unfold cc
  simp only [up3_s, upP_s] <;> rfl
theorem cg_Frame_height (hi : i < 13) : mn_gf (cpic b N J P, q) (fr i) 2 4 = some (.int (N 20 i 0)) := mn_gf_of (h := (cpic b N J P, q)) (c_get (b := b) (co_frame0 hi)) rfl
theorem cp_Frame_height (hi : i < 13) : mn_pf (cpic b N J P, q) (fr i) 2 4 (.int x) = some (cpic b (up3 N 20 i 0 x) J P, q) := by
  rw [mn_pf_of (h := (cpic b N J P, q)) (c_get (b := b) (co_frame0 hi)) (Nat.le_of_ble_eq_true rfl) (co_frame0 hi).1 (rfl)]
  refine congrArg (fun z => some (z, q)) (c_up (co_frame0 hi) ?_ (fun f' i' s' hz hne => by
    unfold cc
    split <;> first | rfl | (exact absurd ⟨rfl, rfl, rfl⟩ hne) | (have hi' : i' ≠ i := fun q => hne ⟨rfl, q, rfl⟩; simp only [up3_n hi', upP_n hi'] <;> rfl)))
  show cc _ _ _ 2 i 0 = _
  unfold cc
  simp only [up3_s, upP_s] <;> rfl
theorem ci_Task (hi : i < 12) : mn_isc (cpic b N J P, q) (43 + 5 * i) 5 = true := mn_isc_of (h := (cpic b N J P, q)) (c_get (b := b) (co_task hi))
theorem cg_Task_number (hi : i < 12) : mn_gf (cpic b N J P, q) (43 + 5 * i) 5 0 = some (.int (nI i)) := mn_gf_of (h := (cpic b N J P, q)) (c_get (b := b) (co_task hi)) rfl
theorem cg_Task_frame (hi : i < 12) : mn_gf (cpic b N J P, q) (43 + 5 * i) 5 1 = some (.ref (fr i)) := mn_gf_of (h := (cpic b N J P, q)) (c_get (b := b) (co_task hi)) rfl
theorem cg_Task_prints (hi : i < 12) : mn_gf (cpic b N J P, q) (43 + 5 * i) 5 2 = some (.ref (43 + 5 * i + 4)) := mn_gf_of (h := (cpic b N J P, q)) (c_get (b := b) (co_task hi)) rfl
theorem cg_Task_printCount (hi : i < 12) : mn_gf (cpic b N J P, q) (43 + 5 * i) 5 3 = some (.int (N 15 i 0)) := mn_gf_of (h := (cpic b N J P, q)) (c_get (b := b) (co_task hi)) rfl
theorem cp_Task_printCount (hi : i < 12) : mn_pf (cpic b N J P, q) (43 + 5 * i) 5 3 (.int x) = some (cpic b (up3 N 15 i 0 x) J P, q) := by
  rw [mn_pf_of (h := (cpic b N J P, q)) (c_get (b := b) (co_task hi)) (Nat.le_of_ble_eq_true rfl) (co_task hi).1 (rfl)]
  refine congrArg (fun z => some (z, q)) (c_up (co_task hi) ?_ (fun f' i' s' hz hne => by
    unfold cc
    split <;> first | rfl | (exact absurd ⟨rfl, rfl, rfl⟩ hne) | (have hi' : i' ≠ i := fun q => hne ⟨rfl, q, rfl⟩; simp only [up3_n hi', upP_n hi'] <;> rfl)))
  show cc _ _ _ 3 i 0 = _
  unfold cc
  simp only [up3_s, upP_s] <;> rfl
theorem cg_Task_status (hi : i < 12) : mn_gf (cpic b N J P, q) (43 + 5 * i) 5 4 = some (.int (N 16 i 0)) := mn_gf_of (h := (cpic b N J P, q)) (c_get (b := b) (co_task hi)) rfl
theorem cp_Task_status (hi : i < 12) : mn_pf (cpic b N J P, q) (43 + 5 * i) 5 4 (.int x) = some (cpic b (up3 N 16 i 0 x) J P, q) := by
  rw [mn_pf_of (h := (cpic b N J P, q)) (c_get (b := b) (co_task hi)) (Nat.le_of_ble_eq_true rfl) (co_task hi).1 (rfl)]
  refine congrArg (fun z => some (z, q)) (c_up (co_task hi) ?_ (fun f' i' s' hz hne => by
    unfold cc
    split <;> first | rfl | (exact absurd ⟨rfl, rfl, rfl⟩ hne) | (have hi' : i' ≠ i := fun q => hne ⟨rfl, q, rfl⟩; simp only [up3_n hi', upP_n hi'] <;> rfl)))
  show cc _ _ _ 3 i 0 = _
  unfold cc
  simp only [up3_s, upP_s] <;> rfl
theorem cg_Task_code (hi : i < 12) : mn_gf (cpic b N J P, q) (43 + 5 * i) 5 5 = some (.int (N 17 i 0)) := mn_gf_of (h := (cpic b N J P, q)) (c_get (b := b) (co_task hi)) rfl
theorem cp_Task_code (hi : i < 12) : mn_pf (cpic b N J P, q) (43 + 5 * i) 5 5 (.int x) = some (cpic b (up3 N 17 i 0 x) J P, q) := by
  rw [mn_pf_of (h := (cpic b N J P, q)) (c_get (b := b) (co_task hi)) (Nat.le_of_ble_eq_true rfl) (co_task hi).1 (rfl)]
  refine congrArg (fun z => some (z, q)) (c_up (co_task hi) ?_ (fun f' i' s' hz hne => by
    unfold cc
    split <;> first | rfl | (exact absurd ⟨rfl, rfl, rfl⟩ hne) | (have hi' : i' ≠ i := fun q => hne ⟨rfl, q, rfl⟩; simp only [up3_n hi', upP_n hi'] <;> rfl)))
  show cc _ _ _ 3 i 0 = _
  unfold cc
  simp only [up3_s, upP_s] <;> rfl
theorem cg_Task_steps (hi : i < 12) : mn_gf (cpic b N J P, q) (43 + 5 * i) 5 6 = some (.int (N 18 i 0)) := mn_gf_of (h := (cpic b N J P, q)) (c_get (b := b) (co_task hi)) rfl
theorem cp_Task_steps (hi : i < 12) : mn_pf (cpic b N J P, q) (43 + 5 * i) 5 6 (.int x) = some (cpic b (up3 N 18 i 0 x) J P, q) := by
  rw [mn_pf_of (h := (cpic b N J P, q)) (c_get (b := b) (co_task hi)) (Nat.le_of_ble_eq_true rfl) (co_task hi).1 (rfl)]
  refine congrArg (fun z => some (z, q)) (c_up (co_task hi) ?_ (fun f' i' s' hz hne => by
    unfold cc
    split <;> first | rfl | (exact absurd ⟨rfl, rfl, rfl⟩ hne) | (have hi' : i' ≠ i := fun q => hne ⟨rfl, q, rfl⟩; simp only [up3_n hi', upP_n hi'] <;> rfl)))
  show cc _ _ _ 3 i 0 = _
  unfold cc
  simp only [up3_s, upP_s] <;> rfl
theorem cg_Task_result (hi : i < 12) : mn_gf (cpic b N J P, q) (43 + 5 * i) 5 7 = some (.long (J 3 i 0)) := mn_gf_of (h := (cpic b N J P, q)) (c_get (b := b) (co_task hi)) rfl
theorem cp_Task_result (hi : i < 12) : mn_pf (cpic b N J P, q) (43 + 5 * i) 5 7 (.long u) = some (cpic b N (up3 J 3 i 0 u) P, q) := by
  rw [mn_pf_of (h := (cpic b N J P, q)) (c_get (b := b) (co_task hi)) (Nat.le_of_ble_eq_true rfl) (co_task hi).1 (rfl)]
  refine congrArg (fun z => some (z, q)) (c_up (co_task hi) ?_ (fun f' i' s' hz hne => by
    unfold cc
    split <;> first | rfl | (exact absurd ⟨rfl, rfl, rfl⟩ hne) | (have hi' : i' ≠ i := fun q => hne ⟨rfl, q, rfl⟩; simp only [up3_n hi', upP_n hi'] <;> rfl)))
  show cc _ _ _ 3 i 0 = _
  unfold cc
  simp only [up3_s, upP_s] <;> rfl
theorem cg_Task_parent (hi : i < 12) : mn_gf (cpic b N J P, q) (43 + 5 * i) 5 8 = some (tkv (P 1 i)) := mn_gf_of (h := (cpic b N J P, q)) (c_get (b := b) (co_task hi)) rfl
theorem cp_Task_parent (hi : i < 12) : mn_pf (cpic b N J P, q) (43 + 5 * i) 5 8 (tkv o) = some (cpic b N J (upP P 1 i o), q) := by
  rw [mn_pf_of (h := (cpic b N J P, q)) (c_get (b := b) (co_task hi)) (Nat.le_of_ble_eq_true rfl) (co_task hi).1 (by cases o <;> rfl)]
  refine congrArg (fun z => some (z, q)) (c_up (co_task hi) ?_ (fun f' i' s' hz hne => by
    unfold cc
    split <;> first | rfl | (exact absurd ⟨rfl, rfl, rfl⟩ hne) | (have hi' : i' ≠ i := fun q => hne ⟨rfl, q, rfl⟩; simp only [up3_n hi', upP_n hi'] <;> rfl)))
  show cc _ _ _ 3 i 0 = _
  unfold cc
  simp only [up3_s, upP_s] <;> rfl
theorem cp_Task_parent_r (hi : i < 12) : mn_pf (cpic b N J P, q) (43 + 5 * i) 5 8 (.ref (43 + 5 * j)) = some (cpic b N J (upP P 1 i (some j)), q) := cp_Task_parent (o := some j) hi
theorem cp_Task_parent_0 (hi : i < 12) : mn_pf (cpic b N J P, q) (43 + 5 * i) 5 8 .null = some (cpic b N J (upP P 1 i none), q) := cp_Task_parent (o := none) hi
theorem cg_Task_joiner (hi : i < 12) : mn_gf (cpic b N J P, q) (43 + 5 * i) 5 9 = some (tkv (P 2 i)) := mn_gf_of (h := (cpic b N J P, q)) (c_get (b := b) (co_task hi)) rfl
theorem cp_Task_joiner (hi : i < 12) : mn_pf (cpic b N J P, q) (43 + 5 * i) 5 9 (tkv o) = some (cpic b N J (upP P 2 i o), q) := by
  rw [mn_pf_of (h := (cpic b N J P, q)) (c_get (b := b) (co_task hi)) (Nat.le_of_ble_eq_true rfl) (co_task hi).1 (by cases o <;> rfl)]
  refine congrArg (fun z => some (z, q)) (c_up (co_task hi) ?_ (fun f' i' s' hz hne => by
    unfold cc
    split <;> first | rfl | (exact absurd ⟨rfl, rfl, rfl⟩ hne) | (have hi' : i' ≠ i := fun q => hne ⟨rfl, q, rfl⟩; simp only [up3_n hi', upP_n hi'] <;> rfl)))
  show cc _ _ _ 3 i 0 = _
  unfold cc
  simp only [up3_s, upP_s] <;> rfl
theorem cp_Task_joiner_r (hi : i < 12) : mn_pf (cpic b N J P, q) (43 + 5 * i) 5 9 (.ref (43 + 5 * j)) = some (cpic b N J (upP P 2 i (some j)), q) := cp_Task_joiner (o := some j) hi
theorem cp_Task_joiner_0 (hi : i < 12) : mn_pf (cpic b N J P, q) (43 + 5 * i) 5 9 .null = some (cpic b N J (upP P 2 i none), q) := cp_Task_joiner (o := none) hi
theorem cg_Task_forkedIn (hi : i < 12) : mn_gf (cpic b N J P, q) (43 + 5 * i) 5 10 = some (sgv (P 3 i)) := mn_gf_of (h := (cpic b N J P, q)) (c_get (b := b) (co_task hi)) rfl
theorem cp_Task_forkedIn (hi : i < 12) : mn_pf (cpic b N J P, q) (43 + 5 * i) 5 10 (sgv o) = some (cpic b N J (upP P 3 i o), q) := by
  rw [mn_pf_of (h := (cpic b N J P, q)) (c_get (b := b) (co_task hi)) (Nat.le_of_ble_eq_true rfl) (co_task hi).1 (by cases o <;> rfl)]
  refine congrArg (fun z => some (z, q)) (c_up (co_task hi) ?_ (fun f' i' s' hz hne => by
    unfold cc
    split <;> first | rfl | (exact absurd ⟨rfl, rfl, rfl⟩ hne) | (have hi' : i' ≠ i := fun q => hne ⟨rfl, q, rfl⟩; simp only [up3_n hi', upP_n hi'] <;> rfl)))
  show cc _ _ _ 3 i 0 = _
  unfold cc
  simp only [up3_s, upP_s] <;> rfl
theorem cp_Task_forkedIn_r (hi : i < 12) : mn_pf (cpic b N J P, q) (43 + 5 * i) 5 10 (.ref (103 + 2 * j)) = some (cpic b N J (upP P 3 i (some j)), q) := cp_Task_forkedIn (o := some j) hi
theorem cp_Task_forkedIn_0 (hi : i < 12) : mn_pf (cpic b N J P, q) (43 + 5 * i) 5 10 .null = some (cpic b N J (upP P 3 i none), q) := cp_Task_forkedIn (o := none) hi
theorem cg_Task_segment (hi : i < 12) : mn_gf (cpic b N J P, q) (43 + 5 * i) 5 11 = some (sgv (P 4 i)) := mn_gf_of (h := (cpic b N J P, q)) (c_get (b := b) (co_task hi)) rfl
theorem cp_Task_segment (hi : i < 12) : mn_pf (cpic b N J P, q) (43 + 5 * i) 5 11 (sgv o) = some (cpic b N J (upP P 4 i o), q) := by
  rw [mn_pf_of (h := (cpic b N J P, q)) (c_get (b := b) (co_task hi)) (Nat.le_of_ble_eq_true rfl) (co_task hi).1 (by cases o <;> rfl)]
  refine congrArg (fun z => some (z, q)) (c_up (co_task hi) ?_ (fun f' i' s' hz hne => by
    unfold cc
    split <;> first | rfl | (exact absurd ⟨rfl, rfl, rfl⟩ hne) | (have hi' : i' ≠ i := fun q => hne ⟨rfl, q, rfl⟩; simp only [up3_n hi', upP_n hi'] <;> rfl)))
  show cc _ _ _ 3 i 0 = _
  unfold cc
  simp only [up3_s, upP_s] <;> rfl
theorem cp_Task_segment_r (hi : i < 12) : mn_pf (cpic b N J P, q) (43 + 5 * i) 5 11 (.ref (103 + 2 * j)) = some (cpic b N J (upP P 4 i (some j)), q) := cp_Task_segment (o := some j) hi
theorem cp_Task_segment_0 (hi : i < 12) : mn_pf (cpic b N J P, q) (43 + 5 * i) 5 11 .null = some (cpic b N J (upP P 4 i none), q) := cp_Task_segment (o := none) hi
theorem ci_Segment (hi : i < 23) : mn_isc (cpic b N J P, q) (103 + 2 * i) 4 = true := mn_isc_of (h := (cpic b N J P, q)) (c_get (b := b) (co_seg0 hi))
theorem cg_Segment_values (hi : i < 23) : mn_gf (cpic b N J P, q) (103 + 2 * i) 4 0 = some (.ref (103 + 2 * i + 1)) := mn_gf_of (h := (cpic b N J P, q)) (c_get (b := b) (co_seg0 hi)) rfl
theorem cg_Segment_written (hi : i < 23) : mn_gf (cpic b N J P, q) (103 + 2 * i) 4 1 = some (.int (N 21 i 0)) := mn_gf_of (h := (cpic b N J P, q)) (c_get (b := b) (co_seg0 hi)) rfl
theorem cp_Segment_written (hi : i < 23) : mn_pf (cpic b N J P, q) (103 + 2 * i) 4 1 (.int x) = some (cpic b (up3 N 21 i 0 x) J P, q) := by
  rw [mn_pf_of (h := (cpic b N J P, q)) (c_get (b := b) (co_seg0 hi)) (Nat.le_of_ble_eq_true rfl) (co_seg0 hi).1 (rfl)]
  refine congrArg (fun z => some (z, q)) (c_up (co_seg0 hi) ?_ (fun f' i' s' hz hne => by
    unfold cc
    split <;> first | rfl | (exact absurd ⟨rfl, rfl, rfl⟩ hne) | (have hi' : i' ≠ i := fun q => hne ⟨rfl, q, rfl⟩; simp only [up3_n hi', upP_n hi'] <;> rfl)))
  show cc _ _ _ 4 i 0 = _
  unfold cc
  simp only [up3_s, upP_s] <;> rfl
theorem cg_Segment_below (hi : i < 23) : mn_gf (cpic b N J P, q) (103 + 2 * i) 4 2 = some (sgv (P 6 i)) := mn_gf_of (h := (cpic b N J P, q)) (c_get (b := b) (co_seg0 hi)) rfl
theorem cp_Segment_below (hi : i < 23) : mn_pf (cpic b N J P, q) (103 + 2 * i) 4 2 (sgv o) = some (cpic b N J (upP P 6 i o), q) := by
  rw [mn_pf_of (h := (cpic b N J P, q)) (c_get (b := b) (co_seg0 hi)) (Nat.le_of_ble_eq_true rfl) (co_seg0 hi).1 (by cases o <;> rfl)]
  refine congrArg (fun z => some (z, q)) (c_up (co_seg0 hi) ?_ (fun f' i' s' hz hne => by
    unfold cc
    split <;> first | rfl | (exact absurd ⟨rfl, rfl, rfl⟩ hne) | (have hi' : i' ≠ i := fun q => hne ⟨rfl, q, rfl⟩; simp only [up3_n hi', upP_n hi'] <;> rfl)))
  show cc _ _ _ 4 i 0 = _
  unfold cc
  simp only [up3_s, upP_s] <;> rfl
theorem cp_Segment_below_r (hi : i < 23) : mn_pf (cpic b N J P, q) (103 + 2 * i) 4 2 (.ref (103 + 2 * j)) = some (cpic b N J (upP P 6 i (some j)), q) := cp_Segment_below (o := some j) hi
theorem cp_Segment_below_0 (hi : i < 23) : mn_pf (cpic b N J P, q) (103 + 2 * i) 4 2 .null = some (cpic b N J (upP P 6 i none), q) := cp_Segment_below (o := none) hi
theorem cg_Segment_isLive (hi : i < 23) : mn_gf (cpic b N J P, q) (103 + 2 * i) 4 3 = some (.int (N 22 i 0)) := mn_gf_of (h := (cpic b N J P, q)) (c_get (b := b) (co_seg0 hi)) rfl
theorem cp_Segment_isLive (hi : i < 23) (hx : x = nI 0 ∨ x = nI 1) : mn_pf (cpic b N J P, q) (103 + 2 * i) 4 3 (.int x) = some (cpic b (up3 N 22 i 0 x) J P, q) := by
  rw [mn_pf_of (h := (cpic b N J P, q)) (c_get (b := b) (co_seg0 hi)) (Nat.le_of_ble_eq_true rfl) (co_seg0 hi).1 (by rcases hx with rfl | rfl <;> rfl)]
  refine congrArg (fun z => some (z, q)) (c_up (co_seg0 hi) ?_ (fun f' i' s' hz hne => by
    unfold cc
    split <;> first | rfl | (exact absurd ⟨rfl, rfl, rfl⟩ hne) | (have hi' : i' ≠ i := fun q => hne ⟨rfl, q, rfl⟩; simp only [up3_n hi', upP_n hi'] <;> rfl)))
  show cc _ _ _ 4 i 0 = _
  unfold cc
  simp only [up3_s, upP_s] <;> rfl
theorem cp_Segment_isLive0 (hi : i < 23) : mn_pf (cpic b N J P, q) (103 + 2 * i) 4 3 (.int (nI 0)) = some (cpic b (up3 N 22 i 0 (nI 0)) J P, q) := cp_Segment_isLive hi (Or.inl rfl)
theorem cp_Segment_isLive1 (hi : i < 23) : mn_pf (cpic b N J P, q) (103 + 2 * i) 4 3 (.int (nI 1)) = some (cpic b (up3 N 22 i 0 (nI 1)) J P, q) := cp_Segment_isLive hi (Or.inr rfl)
theorem cg_Segment_isNeeded (hi : i < 23) : mn_gf (cpic b N J P, q) (103 + 2 * i) 4 4 = some (.int (N 23 i 0)) := mn_gf_of (h := (cpic b N J P, q)) (c_get (b := b) (co_seg0 hi)) rfl
theorem cp_Segment_isNeeded (hi : i < 23) (hx : x = nI 0 ∨ x = nI 1) : mn_pf (cpic b N J P, q) (103 + 2 * i) 4 4 (.int x) = some (cpic b (up3 N 23 i 0 x) J P, q) := by
  rw [mn_pf_of (h := (cpic b N J P, q)) (c_get (b := b) (co_seg0 hi)) (Nat.le_of_ble_eq_true rfl) (co_seg0 hi).1 (by rcases hx with rfl | rfl <;> rfl)]
  refine congrArg (fun z => some (z, q)) (c_up (co_seg0 hi) ?_ (fun f' i' s' hz hne => by
    unfold cc
    split <;> first | rfl | (exact absurd ⟨rfl, rfl, rfl⟩ hne) | (have hi' : i' ≠ i := fun q => hne ⟨rfl, q, rfl⟩; simp only [up3_n hi', upP_n hi'] <;> rfl)))
  show cc _ _ _ 4 i 0 = _
  unfold cc
  simp only [up3_s, upP_s] <;> rfl
theorem cp_Segment_isNeeded0 (hi : i < 23) : mn_pf (cpic b N J P, q) (103 + 2 * i) 4 4 (.int (nI 0)) = some (cpic b (up3 N 23 i 0 (nI 0)) J P, q) := cp_Segment_isNeeded hi (Or.inl rfl)
theorem cp_Segment_isNeeded1 (hi : i < 23) : mn_pf (cpic b N J P, q) (103 + 2 * i) 4 4 (.int (nI 1)) = some (cpic b (up3 N 23 i 0 (nI 1)) J P, q) := cp_Segment_isNeeded hi (Or.inr rfl)
theorem ci_Main : mn_isc (cpic b N J P, q) 3 7 = true := mn_isc_of (h := (cpic b N J P, q)) (c_get (b := b) cdo_3)
theorem cg_Main_program : mn_gf (cpic b N J P, q) (3) 7 0 = some (.ref 4) := mn_gf_of (h := (cpic b N J P, q)) (c_get (b := b) (cdo_3)) rfl
theorem cg_Main_world : mn_gf (cpic b N J P, q) (3) 7 1 = some (.ref 36) := mn_gf_of (h := (cpic b N J P, q)) (c_get (b := b) (cdo_3)) rfl
theorem ci_Program : mn_isc (cpic b N J P, q) 4 3 = true := mn_isc_of (h := (cpic b N J P, q)) (c_get (b := b) cdo_4)
theorem cg_Program_blocks : mn_gf (cpic b N J P, q) (4) 3 0 = some (.ref 5) := mn_gf_of (h := (cpic b N J P, q)) (c_get (b := b) (cdo_4)) rfl
theorem cg_Program_merges : mn_gf (cpic b N J P, q) (4) 3 1 = some (.ref 6) := mn_gf_of (h := (cpic b N J P, q)) (c_get (b := b) (cdo_4)) rfl
theorem cg_Program_kinds : mn_gf (cpic b N J P, q) (4) 3 2 = some (.ref 7) := mn_gf_of (h := (cpic b N J P, q)) (c_get (b := b) (cdo_4)) rfl
theorem cg_Program_mergeNumbers : mn_gf (cpic b N J P, q) (4) 3 3 = some (.ref 8) := mn_gf_of (h := (cpic b N J P, q)) (c_get (b := b) (cdo_4)) rfl
theorem cg_Program_checker : mn_gf (cpic b N J P, q) (4) 3 4 = some (.ref 9) := mn_gf_of (h := (cpic b N J P, q)) (c_get (b := b) (cdo_4)) rfl
theorem cg_Program_blockCount : mn_gf (cpic b N J P, q) (4) 3 5 = some (.int (N 0 0 0)) := mn_gf_of (h := (cpic b N J P, q)) (c_get (b := b) (cdo_4)) rfl
theorem cp_Program_blockCount : mn_pf (cpic b N J P, q) (4) 3 5 (.int x) = some (cpic b (up3 N 0 0 0 x) J P, q) := by
  rw [mn_pf_of (h := (cpic b N J P, q)) (c_get (b := b) (cdo_4)) (Nat.le_of_ble_eq_true rfl) (cdo_4).1 (rfl)]
  refine congrArg (fun z => some (z, q)) (c_up (cdo_4) ?_ (fun f' i' s' hz hne => by
    unfold cc
    split <;> first | rfl | (exact absurd ⟨rfl, hz rfl, rfl⟩ hne)))
  show cc _ _ _ 0 0 4 = _
  unfold cc
  simp only [up3_s, upP_s] <;> rfl
theorem cg_Program_mergeCount : mn_gf (cpic b N J P, q) (4) 3 6 = some (.int (N 1 0 0)) := mn_gf_of (h := (cpic b N J P, q)) (c_get (b := b) (cdo_4)) rfl
theorem cp_Program_mergeCount : mn_pf (cpic b N J P, q) (4) 3 6 (.int x) = some (cpic b (up3 N 1 0 0 x) J P, q) := by
  rw [mn_pf_of (h := (cpic b N J P, q)) (c_get (b := b) (cdo_4)) (Nat.le_of_ble_eq_true rfl) (cdo_4).1 (rfl)]
  refine congrArg (fun z => some (z, q)) (c_up (cdo_4) ?_ (fun f' i' s' hz hne => by
    unfold cc
    split <;> first | rfl | (exact absurd ⟨rfl, hz rfl, rfl⟩ hne)))
  show cc _ _ _ 0 0 4 = _
  unfold cc
  simp only [up3_s, upP_s] <;> rfl
theorem cg_Program_latest : mn_gf (cpic b N J P, q) (4) 3 7 = some (cdv (P 0 0)) := mn_gf_of (h := (cpic b N J P, q)) (c_get (b := b) (cdo_4)) rfl
theorem cp_Program_latest : mn_pf (cpic b N J P, q) (4) 3 7 (cdv o) = some (cpic b N J (upP P 0 0 o), q) := by
  rw [mn_pf_of (h := (cpic b N J P, q)) (c_get (b := b) (cdo_4)) (Nat.le_of_ble_eq_true rfl) (cdo_4).1 (by cases o <;> rfl)]
  refine congrArg (fun z => some (z, q)) (c_up (cdo_4) ?_ (fun f' i' s' hz hne => by
    unfold cc
    split <;> first | rfl | (exact absurd ⟨rfl, hz rfl, rfl⟩ hne)))
  show cc _ _ _ 0 0 4 = _
  unfold cc
  simp only [up3_s, upP_s] <;> rfl
theorem cp_Program_latest_r : mn_pf (cpic b N J P, q) (4) 3 7 (.ref (12 + 3 * j)) = some (cpic b N J (upP P 0 0 (some j)), q) := cp_Program_latest (o := some j) 
theorem cp_Program_latest_0 : mn_pf (cpic b N J P, q) (4) 3 7 .null = some (cpic b N J (upP P 0 0 none), q) := cp_Program_latest (o := none) 
theorem ci_Checker : mn_isc (cpic b N J P, q) 9 0 = true := mn_isc_of (h := (cpic b N J P, q)) (c_get (b := b) cdo_9)
theorem cg_Checker_heights : mn_gf (cpic b N J P, q) (9) 0 0 = some (.ref 10) := mn_gf_of (h := (cpic b N J P, q)) (c_get (b := b) (cdo_9)) rfl
theorem cg_Checker_found : mn_gf (cpic b N J P, q) (9) 0 1 = some (.ref 11) := mn_gf_of (h := (cpic b N J P, q)) (c_get (b := b) (cdo_9)) rfl
theorem cg_Checker_foundCount : mn_gf (cpic b N J P, q) (9) 0 2 = some (.int (N 9 0 0)) := mn_gf_of (h := (cpic b N J P, q)) (c_get (b := b) (cdo_9)) rfl
theorem cp_Checker_foundCount : mn_pf (cpic b N J P, q) (9) 0 2 (.int x) = some (cpic b (up3 N 9 0 0 x) J P, q) := by
  rw [mn_pf_of (h := (cpic b N J P, q)) (c_get (b := b) (cdo_9)) (Nat.le_of_ble_eq_true rfl) (cdo_9).1 (rfl)]
  refine congrArg (fun z => some (z, q)) (c_up (cdo_9) ?_ (fun f' i' s' hz hne => by
    unfold cc
    split <;> first | rfl | (exact absurd ⟨rfl, hz rfl, rfl⟩ hne)))
  show cc _ _ _ 0 0 9 = _
  unfold cc
  simp only [up3_s, upP_s] <;> rfl
theorem cg_Checker_lowest : mn_gf (cpic b N J P, q) (9) 0 3 = some (.int (N 10 0 0)) := mn_gf_of (h := (cpic b N J P, q)) (c_get (b := b) (cdo_9)) rfl
theorem cp_Checker_lowest : mn_pf (cpic b N J P, q) (9) 0 3 (.int x) = some (cpic b (up3 N 10 0 0 x) J P, q) := by
  rw [mn_pf_of (h := (cpic b N J P, q)) (c_get (b := b) (cdo_9)) (Nat.le_of_ble_eq_true rfl) (cdo_9).1 (rfl)]
  refine congrArg (fun z => some (z, q)) (c_up (cdo_9) ?_ (fun f' i' s' hz hne => by
    unfold cc
    split <;> first | rfl | (exact absurd ⟨rfl, hz rfl, rfl⟩ hne)))
  show cc _ _ _ 0 0 9 = _
  unfold cc
  simp only [up3_s, upP_s] <;> rfl
theorem ci_World : mn_isc (cpic b N J P, q) 36 6 = true := mn_isc_of (h := (cpic b N J P, q)) (c_get (b := b) cdo_36)
theorem cg_World_program : mn_gf (cpic b N J P, q) (36) 6 0 = some (.ref 4) := mn_gf_of (h := (cpic b N J P, q)) (c_get (b := b) (cdo_36)) rfl
theorem cg_World_tasks : mn_gf (cpic b N J P, q) (36) 6 1 = some (.ref 37) := mn_gf_of (h := (cpic b N J P, q)) (c_get (b := b) (cdo_36)) rfl
theorem cg_World_ready : mn_gf (cpic b N J P, q) (36) 6 2 = some (.ref 38) := mn_gf_of (h := (cpic b N J P, q)) (c_get (b := b) (cdo_36)) rfl
theorem cg_World_segments : mn_gf (cpic b N J P, q) (36) 6 3 = some (.ref 39) := mn_gf_of (h := (cpic b N J P, q)) (c_get (b := b) (cdo_36)) rfl
theorem cg_World_merger : mn_gf (cpic b N J P, q) (36) 6 4 = some (.ref 40) := mn_gf_of (h := (cpic b N J P, q)) (c_get (b := b) (cdo_36)) rfl
theorem cg_World_taskCount : mn_gf (cpic b N J P, q) (36) 6 5 = some (.int (N 11 0 0)) := mn_gf_of (h := (cpic b N J P, q)) (c_get (b := b) (cdo_36)) rfl
theorem cp_World_taskCount : mn_pf (cpic b N J P, q) (36) 6 5 (.int x) = some (cpic b (up3 N 11 0 0 x) J P, q) := by
  rw [mn_pf_of (h := (cpic b N J P, q)) (c_get (b := b) (cdo_36)) (Nat.le_of_ble_eq_true rfl) (cdo_36).1 (rfl)]
  refine congrArg (fun z => some (z, q)) (c_up (cdo_36) ?_ (fun f' i' s' hz hne => by
    unfold cc
    split <;> first | rfl | (exact absurd ⟨rfl, hz rfl, rfl⟩ hne)))
  show cc _ _ _ 0 0 36 = _
  unfold cc
  simp only [up3_s, upP_s] <;> rfl
theorem cg_World_opened : mn_gf (cpic b N J P, q) (36) 6 6 = some (.int (N 12 0 0)) := mn_gf_of (h := (cpic b N J P, q)) (c_get (b := b) (cdo_36)) rfl
theorem cp_World_opened : mn_pf (cpic b N J P, q) (36) 6 6 (.int x) = some (cpic b (up3 N 12 0 0 x) J P, q) := by
  rw [mn_pf_of (h := (cpic b N J P, q)) (c_get (b := b) (cdo_36)) (Nat.le_of_ble_eq_true rfl) (cdo_36).1 (rfl)]
  refine congrArg (fun z => some (z, q)) (c_up (cdo_36) ?_ (fun f' i' s' hz hne => by
    unfold cc
    split <;> first | rfl | (exact absurd ⟨rfl, hz rfl, rfl⟩ hne)))
  show cc _ _ _ 0 0 36 = _
  unfold cc
  simp only [up3_s, upP_s] <;> rfl
theorem cg_World_steps : mn_gf (cpic b N J P, q) (36) 6 7 = some (.int (N 13 0 0)) := mn_gf_of (h := (cpic b N J P, q)) (c_get (b := b) (cdo_36)) rfl
theorem cp_World_steps : mn_pf (cpic b N J P, q) (36) 6 7 (.int x) = some (cpic b (up3 N 13 0 0 x) J P, q) := by
  rw [mn_pf_of (h := (cpic b N J P, q)) (c_get (b := b) (cdo_36)) (Nat.le_of_ble_eq_true rfl) (cdo_36).1 (rfl)]
  refine congrArg (fun z => some (z, q)) (c_up (cdo_36) ?_ (fun f' i' s' hz hne => by
    unfold cc
    split <;> first | rfl | (exact absurd ⟨rfl, hz rfl, rfl⟩ hne)))
  show cc _ _ _ 0 0 36 = _
  unfold cc
  simp only [up3_s, upP_s] <;> rfl
theorem cg_World_brought : mn_gf (cpic b N J P, q) (36) 6 8 = some (.int (N 14 0 0)) := mn_gf_of (h := (cpic b N J P, q)) (c_get (b := b) (cdo_36)) rfl
theorem cp_World_brought : mn_pf (cpic b N J P, q) (36) 6 8 (.int x) = some (cpic b (up3 N 14 0 0 x) J P, q) := by
  rw [mn_pf_of (h := (cpic b N J P, q)) (c_get (b := b) (cdo_36)) (Nat.le_of_ble_eq_true rfl) (cdo_36).1 (rfl)]
  refine congrArg (fun z => some (z, q)) (c_up (cdo_36) ?_ (fun f' i' s' hz hne => by
    unfold cc
    split <;> first | rfl | (exact absurd ⟨rfl, hz rfl, rfl⟩ hne)))
  show cc _ _ _ 0 0 36 = _
  unfold cc
  simp only [up3_s, upP_s] <;> rfl
theorem cn_kinds : mn_len (cpic b N J P, q) (7) = some (.int (nI 12)) := mn_len_of (h := (cpic b N J P, q)) (c_get (b := b) (cdo_7)) (by decide)
theorem ca_kinds (hp : p < 12) : mn_al (cpic b N J P, q) (7) 0 (nI p) = some (.int (N 5 0 p)) := mn_al_of (h := (cpic b N J P, q)) (a := 7) (t := 0) (n := 12) (x := .inl (N 5 0)) (c_get (b := b) (cdo_7)) hp (by decide)
theorem cs_kinds (hp : p < 12) : mn_asi (cpic b N J P, q) (7) (nI p) y = some (cpic b (up3 N 5 0 p y) J P, q) := by
  have hx : mn_in (nI p) 12 = true := mn_in_iff.mpr (vp_in_nI hp (by decide))
  rw [mn_asi_of (h := (cpic b N J P, q)) (c_get (b := b) (cdo_7)) hx (cdo_7).1, nI_clamp (by omega)]
  refine congrArg (fun z => some (z, q)) (c_up (cdo_7) ?_ (fun f' i' s' hz hne => by
    unfold cc
    split <;> first | rfl | (exact absurd ⟨rfl, hz rfl, rfl⟩ hne)))
  show cc _ _ _ 0 0 7 = _
  unfold cc
  rw [up3_r]
  rfl
theorem cn_mergeNumbers : mn_len (cpic b N J P, q) (8) = some (.int (nI 12)) := mn_len_of (h := (cpic b N J P, q)) (c_get (b := b) (cdo_8)) (by decide)
theorem ca_mergeNumbers (hp : p < 12) : mn_al (cpic b N J P, q) (8) 0 (nI p) = some (.int (N 6 0 p)) := mn_al_of (h := (cpic b N J P, q)) (a := 8) (t := 0) (n := 12) (x := .inl (N 6 0)) (c_get (b := b) (cdo_8)) hp (by decide)
theorem cs_mergeNumbers (hp : p < 12) : mn_asi (cpic b N J P, q) (8) (nI p) y = some (cpic b (up3 N 6 0 p y) J P, q) := by
  have hx : mn_in (nI p) 12 = true := mn_in_iff.mpr (vp_in_nI hp (by decide))
  rw [mn_asi_of (h := (cpic b N J P, q)) (c_get (b := b) (cdo_8)) hx (cdo_8).1, nI_clamp (by omega)]
  refine congrArg (fun z => some (z, q)) (c_up (cdo_8) ?_ (fun f' i' s' hz hne => by
    unfold cc
    split <;> first | rfl | (exact absurd ⟨rfl, hz rfl, rfl⟩ hne)))
  show cc _ _ _ 0 0 8 = _
  unfold cc
  rw [up3_r]
  rfl
theorem cn_heights : mn_len (cpic b N J P, q) (10) = some (.int (nI 24)) := mn_len_of (h := (cpic b N J P, q)) (c_get (b := b) (cdo_10)) (by decide)
theorem ca_heights (hp : p < 24) : mn_al (cpic b N J P, q) (10) 0 (nI p) = some (.int (N 7 0 p)) := mn_al_of (h := (cpic b N J P, q)) (a := 10) (t := 0) (n := 24) (x := .inl (N 7 0)) (c_get (b := b) (cdo_10)) hp (by decide)
theorem cs_heights (hp : p < 24) : mn_asi (cpic b N J P, q) (10) (nI p) y = some (cpic b (up3 N 7 0 p y) J P, q) := by
  have hx : mn_in (nI p) 24 = true := mn_in_iff.mpr (vp_in_nI hp (by decide))
  rw [mn_asi_of (h := (cpic b N J P, q)) (c_get (b := b) (cdo_10)) hx (cdo_10).1, nI_clamp (by omega)]
  refine congrArg (fun z => some (z, q)) (c_up (cdo_10) ?_ (fun f' i' s' hz hne => by
    unfold cc
    split <;> first | rfl | (exact absurd ⟨rfl, hz rfl, rfl⟩ hne)))
  show cc _ _ _ 0 0 10 = _
  unfold cc
  rw [up3_r]
  rfl
theorem cn_found : mn_len (cpic b N J P, q) (11) = some (.int (nI 192)) := mn_len_of (h := (cpic b N J P, q)) (c_get (b := b) (cdo_11)) (by decide)
theorem ca_found (hp : p < 192) : mn_al (cpic b N J P, q) (11) 0 (nI p) = some (.int (N 8 0 p)) := mn_al_of (h := (cpic b N J P, q)) (a := 11) (t := 0) (n := 192) (x := .inl (N 8 0)) (c_get (b := b) (cdo_11)) hp (by decide)
theorem cs_found (hp : p < 192) : mn_asi (cpic b N J P, q) (11) (nI p) y = some (cpic b (up3 N 8 0 p y) J P, q) := by
  have hx : mn_in (nI p) 192 = true := mn_in_iff.mpr (vp_in_nI hp (by decide))
  rw [mn_asi_of (h := (cpic b N J P, q)) (c_get (b := b) (cdo_11)) hx (cdo_11).1, nI_clamp (by omega)]
  refine congrArg (fun z => some (z, q)) (c_up (cdo_11) ?_ (fun f' i' s' hz hne => by
    unfold cc
    split <;> first | rfl | (exact absurd ⟨rfl, hz rfl, rfl⟩ hne)))
  show cc _ _ _ 0 0 11 = _
  unfold cc
  rw [up3_r]
  rfl
theorem cn_stack (hi : i < 13) : mn_len (cpic b N J P, q) (fr i + 1) = some (.int (nI 7)) := mn_len_of (h := (cpic b N J P, q)) (c_get (b := b) (co_frame1 hi)) (by decide)
theorem ca_stack (hi : i < 13) (hp : p < 7) : mn_al (cpic b N J P, q) (fr i + 1) 1 (nI p) = some (.long (J 0 i p)) := mn_al_of (h := (cpic b N J P, q)) (a := fr i + 1) (t := 1) (n := 7) (x := .inr (.inl (J 0 i))) (c_get (b := b) (co_frame1 hi)) hp (by decide)
theorem cs_stack (hi : i < 13) (hp : p < 7) : mn_asl (cpic b N J P, q) (fr i + 1) (nI p) u = some (cpic b N (up3 J 0 i p u) P, q) := by
  have hx : mn_in (nI p) 7 = true := mn_in_iff.mpr (vp_in_nI hp (by decide))
  rw [mn_asl_of (h := (cpic b N J P, q)) (c_get (b := b) (co_frame1 hi)) hx (co_frame1 hi).1, nI_clamp (by omega)]
  refine congrArg (fun z => some (z, q)) (c_up (co_frame1 hi) ?_ (fun f' i' s' hz hne => by
    unfold cc
    split <;> first | rfl | (exact absurd ⟨rfl, rfl, rfl⟩ hne) | (have hi' : i' ≠ i := fun q => hne ⟨rfl, q, rfl⟩; simp only [up3_n hi', upP_n hi'] <;> rfl)))
  show cc _ _ _ 2 i 1 = _
  unfold cc
  rw [up3_rL]
  rfl
theorem cn_locals (hi : i < 13) : mn_len (cpic b N J P, q) (fr i + 2) = some (.int (nI 4)) := mn_len_of (h := (cpic b N J P, q)) (c_get (b := b) (co_frame2 hi)) (by decide)
theorem ca_locals (hi : i < 13) (hp : p < 4) : mn_al (cpic b N J P, q) (fr i + 2) 1 (nI p) = some (.long (J 1 i p)) := mn_al_of (h := (cpic b N J P, q)) (a := fr i + 2) (t := 1) (n := 4) (x := .inr (.inl (J 1 i))) (c_get (b := b) (co_frame2 hi)) hp (by decide)
theorem cs_locals (hi : i < 13) (hp : p < 4) : mn_asl (cpic b N J P, q) (fr i + 2) (nI p) u = some (cpic b N (up3 J 1 i p u) P, q) := by
  have hx : mn_in (nI p) 4 = true := mn_in_iff.mpr (vp_in_nI hp (by decide))
  rw [mn_asl_of (h := (cpic b N J P, q)) (c_get (b := b) (co_frame2 hi)) hx (co_frame2 hi).1, nI_clamp (by omega)]
  refine congrArg (fun z => some (z, q)) (c_up (co_frame2 hi) ?_ (fun f' i' s' hz hne => by
    unfold cc
    split <;> first | rfl | (exact absurd ⟨rfl, rfl, rfl⟩ hne) | (have hi' : i' ≠ i := fun q => hne ⟨rfl, q, rfl⟩; simp only [up3_n hi', upP_n hi'] <;> rfl)))
  show cc _ _ _ 2 i 2 = _
  unfold cc
  rw [up3_rL]
  rfl
theorem cn_prints (hi : i < 12) : mn_len (cpic b N J P, q) (43 + 5 * i + 4) = some (.int (nI 30)) := mn_len_of (h := (cpic b N J P, q)) (c_get (b := b) (co_prints hi)) (by decide)
theorem ca_prints (hi : i < 12) (hp : p < 30) : mn_al (cpic b N J P, q) (43 + 5 * i + 4) 1 (nI p) = some (.long (J 2 i p)) := mn_al_of (h := (cpic b N J P, q)) (a := 43 + 5 * i + 4) (t := 1) (n := 30) (x := .inr (.inl (J 2 i))) (c_get (b := b) (co_prints hi)) hp (by decide)
theorem cs_prints (hi : i < 12) (hp : p < 30) : mn_asl (cpic b N J P, q) (43 + 5 * i + 4) (nI p) u = some (cpic b N (up3 J 2 i p u) P, q) := by
  have hx : mn_in (nI p) 30 = true := mn_in_iff.mpr (vp_in_nI hp (by decide))
  rw [mn_asl_of (h := (cpic b N J P, q)) (c_get (b := b) (co_prints hi)) hx (co_prints hi).1, nI_clamp (by omega)]
  refine congrArg (fun z => some (z, q)) (c_up (co_prints hi) ?_ (fun f' i' s' hz hne => by
    unfold cc
    split <;> first | rfl | (exact absurd ⟨rfl, rfl, rfl⟩ hne) | (have hi' : i' ≠ i := fun q => hne ⟨rfl, q, rfl⟩; simp only [up3_n hi', upP_n hi'] <;> rfl)))
  show cc _ _ _ 3 i 1 = _
  unfold cc
  rw [up3_rL]
  rfl
theorem cn_values (hi : i < 23) : mn_len (cpic b N J P, q) (103 + 2 * i + 1) = some (.int (nI 12)) := mn_len_of (h := (cpic b N J P, q)) (c_get (b := b) (co_seg1 hi)) (by decide)
theorem ca_values (hi : i < 23) (hp : p < 12) : mn_al (cpic b N J P, q) (103 + 2 * i + 1) 1 (nI p) = some (.long (J 4 i p)) := mn_al_of (h := (cpic b N J P, q)) (a := 103 + 2 * i + 1) (t := 1) (n := 12) (x := .inr (.inl (J 4 i))) (c_get (b := b) (co_seg1 hi)) hp (by decide)
theorem cs_values (hi : i < 23) (hp : p < 12) : mn_asl (cpic b N J P, q) (103 + 2 * i + 1) (nI p) u = some (cpic b N (up3 J 4 i p u) P, q) := by
  have hx : mn_in (nI p) 12 = true := mn_in_iff.mpr (vp_in_nI hp (by decide))
  rw [mn_asl_of (h := (cpic b N J P, q)) (c_get (b := b) (co_seg1 hi)) hx (co_seg1 hi).1, nI_clamp (by omega)]
  refine congrArg (fun z => some (z, q)) (c_up (co_seg1 hi) ?_ (fun f' i' s' hz hne => by
    unfold cc
    split <;> first | rfl | (exact absurd ⟨rfl, rfl, rfl⟩ hne) | (have hi' : i' ≠ i := fun q => hne ⟨rfl, q, rfl⟩; simp only [up3_n hi', upP_n hi'] <;> rfl)))
  show cc _ _ _ 4 i 1 = _
  unfold cc
  rw [up3_rL]
  rfl
theorem cn_operations (hi : i < 8) : mn_len (cpic b N J P, q) (12 + 3 * i + 1) = some (.int (nI (cap i))) := mn_len_of (h := (cpic b N J P, q)) (c_get (b := b) (co_code1 hi)) (by decide)
theorem ca_operations (hi : i < 8) (hp : p < cap i) : mn_al (cpic b N J P, q) (12 + 3 * i + 1) 0 (nI p) = some (.int (N 3 i p)) := mn_al_of (h := (cpic b N J P, q)) (c_get (b := b) (co_code1 hi)) hp (by have := cap_le i; omega)
theorem cs_operations (hi : i < 8) (hp : p < cap i) : mn_asi (cpic b N J P, q) (12 + 3 * i + 1) (nI p) y = some (cpic b (up3 N 3 i p y) J P, q) := by
  have hn : cap i < 2 ^ 31 := by have := cap_le i; omega
  have hx : mn_in (nI p) (cap i) = true := mn_in_iff.mpr (vp_in_nI hp hn)
  rw [mn_asi_of (h := (cpic b N J P, q)) (c_get (b := b) (co_code1 hi)) hx (co_code1 hi).1, nI_clamp (by omega)]
  refine congrArg (fun z => some (z, q)) (c_up (co_code1 hi) ?_ (fun f' i' s' hz hne => by
    unfold cc
    split <;> first | rfl | (exact absurd ⟨rfl, rfl, rfl⟩ hne) | (have hi' : i' ≠ i := fun q => hne ⟨rfl, q, rfl⟩; simp only [up3_n hi', upP_n hi'] <;> rfl)))
  show cc _ _ _ 1 i 1 = _
  unfold cc
  rw [up3_r]
  rfl
theorem cn_arguments (hi : i < 8) : mn_len (cpic b N J P, q) (12 + 3 * i + 2) = some (.int (nI (cap i))) := mn_len_of (h := (cpic b N J P, q)) (c_get (b := b) (co_code2 hi)) (by decide)
theorem ca_arguments (hi : i < 8) (hp : p < cap i) : mn_al (cpic b N J P, q) (12 + 3 * i + 2) 0 (nI p) = some (.int (N 4 i p)) := mn_al_of (h := (cpic b N J P, q)) (c_get (b := b) (co_code2 hi)) hp (by have := cap_le i; omega)
theorem cs_arguments (hi : i < 8) (hp : p < cap i) : mn_asi (cpic b N J P, q) (12 + 3 * i + 2) (nI p) y = some (cpic b (up3 N 4 i p y) J P, q) := by
  have hn : cap i < 2 ^ 31 := by have := cap_le i; omega
  have hx : mn_in (nI p) (cap i) = true := mn_in_iff.mpr (vp_in_nI hp hn)
  rw [mn_asi_of (h := (cpic b N J P, q)) (c_get (b := b) (co_code2 hi)) hx (co_code2 hi).1, nI_clamp (by omega)]
  refine congrArg (fun z => some (z, q)) (c_up (co_code2 hi) ?_ (fun f' i' s' hz hne => by
    unfold cc
    split <;> first | rfl | (exact absurd ⟨rfl, rfl, rfl⟩ hne) | (have hi' : i' ≠ i := fun q => hne ⟨rfl, q, rfl⟩; simp only [up3_n hi', upP_n hi'] <;> rfl)))
  show cc _ _ _ 1 i 2 = _
  unfold cc
  rw [up3_r]
  rfl
theorem cq_blocks (hp : p < 6) : mn_aq (cpic b N J P, q) 5 (nI p) = some (.ref (12 + 3 * p)) := by
  rw [mn_aq_of (h := (cpic b N J P, q)) (a := 5) (t := 3) (n := 6) (f := ra (fun i => 12 + 3 * i) 6) (c_get (b := b) cdo_5) (by decide) hp (by decide), ra_lt hp]
  rfl
theorem cn_blocks : mn_len (cpic b N J P, q) 5 = some (.int (nI 6)) := mn_len_of (h := (cpic b N J P, q)) (c_get (b := b) cdo_5) (by decide)
theorem cq_merges (hp : p < 2) : mn_aq (cpic b N J P, q) 6 (nI p) = some (.ref (12 + 3 * (6 + p))) := by
  rw [mn_aq_of (h := (cpic b N J P, q)) (a := 6) (t := 3) (n := 2) (f := ra (fun i => 12 + 3 * (6 + i)) 2) (c_get (b := b) cdo_6) (by decide) hp (by decide), ra_lt hp]
  rfl
theorem cn_merges : mn_len (cpic b N J P, q) 6 = some (.int (nI 2)) := mn_len_of (h := (cpic b N J P, q)) (c_get (b := b) cdo_6) (by decide)
theorem cq_tasks (hp : p < 12) : mn_aq (cpic b N J P, q) 37 (nI p) = some (.ref (43 + 5 * p)) := by
  rw [mn_aq_of (h := (cpic b N J P, q)) (a := 37) (t := 4) (n := 12) (f := ra (fun i => 43 + 5 * i) 12) (c_get (b := b) cdo_37) (by decide) hp (by decide), ra_lt hp]
  rfl
theorem cn_tasks : mn_len (cpic b N J P, q) 37 = some (.int (nI 12)) := mn_len_of (h := (cpic b N J P, q)) (c_get (b := b) cdo_37) (by decide)
theorem cq_segments (hp : p < 23) : mn_aq (cpic b N J P, q) 39 (nI p) = some (.ref (103 + 2 * p)) := by
  rw [mn_aq_of (h := (cpic b N J P, q)) (a := 39) (t := 5) (n := 23) (f := ra (fun i => 103 + 2 * i) 23) (c_get (b := b) cdo_39) (by decide) hp (by decide), ra_lt hp]
  rfl
theorem cn_segments : mn_len (cpic b N J P, q) 39 = some (.int (nI 23)) := mn_len_of (h := (cpic b N J P, q)) (c_get (b := b) cdo_39) (by decide)
theorem cq_ready (hp : p < 12) : mn_aq (cpic b N J P, q) 38 (nI p) = some (tkv (P 7 p)) := mn_aq_of (h := (cpic b N J P, q)) (a := 38) (t := 4) (n := 12) (f := fun i => (P 7 i).map (fun i => 43 + 5 * i)) (c_get (b := b) cdo_38) (by decide) hp (by decide)
theorem cn_ready : mn_len (cpic b N J P, q) 38 = some (.int (nI 12)) := mn_len_of (h := (cpic b N J P, q)) (c_get (b := b) cdo_38) (by decide)
theorem cs_ready (hp : p < 12) (hi : i < 12) : mn_asq (cpic b N J P, q) 38 (nI p) (43 + 5 * i) = some (cpic b N J (upP P 7 p (some i)), q) := by
  have hx : mn_in (nI p) 12 = true := mn_in_iff.mpr (vp_in_nI hp (by decide))
  have hs : mn_isc (cpic b N J P, q) (43 + 5 * i) (mn_tc 4) = true := ci_Task hi
  unfold mn_asq
  dsimp only
  rw [c_get (b := b) cdo_38]
  show (if _ then _ else _) = _
  rw [if_pos ⟨by decide, by decide, hx, by decide, hs⟩, nI_clamp (by omega)]
  refine congrArg (fun z => some (z, q)) (c_up cdo_38 ?_ (fun f' i' s' hz hne => by
    unfold cc
    split <;> first | rfl | (exact absurd ⟨rfl, hz rfl, rfl⟩ hne)))
  show cc _ _ _ 0 0 38 = _
  unfold cc
  refine congrArg (fun z => Sum.inl (4, 12, Sum.inr (Sum.inr (Sum.inr (Sum.inr z))))) ?_
  funext p'
  simp only [upP, va_up]
  by_cases h : p' = p <;> simp [h]
end CP
