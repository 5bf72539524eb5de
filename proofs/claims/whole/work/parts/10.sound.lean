/-! locals -/
def mn_ps (ρ : Nat → Nat) (ls : List (Option Value)) : List (Nat × Value) := (List.range ls.length).filterMap (fun i => match ls[i]? with
  | some (some v) => some (i, mn_v ρ v)
  | _ => none)
theorem mn_ps_mem {ρ : Nat → Nat} {ls : List (Option Value)} {q : Nat × Value} : q ∈ mn_ps ρ ls ↔ ∃ v, ls[q.1]? = some (some v) ∧ q.2 = mn_v ρ v := by
  unfold mn_ps
  rw [List.mem_filterMap]
  constructor
  · rintro ⟨i, -, h⟩
    split at h
    · rename_i v hv
      cases h
      exact ⟨v, hv, rfl⟩
    · cases h
  · rintro ⟨v, hv, h2⟩
    refine ⟨q.1, ?_, ?_⟩
    · rw [List.mem_range]
      exact (List.getElem?_eq_some_iff.mp hv).1
    · rw [hv]
      obtain ⟨a, b⟩ := q
      cases h2
      rfl
theorem mn_L.has {ρ : Nat → Nat} {la : Array Slot} {ls : List (Option Value)} (h : mn_L ρ la ls) : lv_has la ls.length (mn_ps ρ ls) := by
  refine ⟨h.1, h.2.1, fun q hq => ?_⟩
  obtain ⟨v, hv, h2⟩ := mn_ps_mem.mp hq
  rw [h2]
  exact h.2.2 _ _ hv
theorem mn_s1_len : ∀ (ls : List (Option Value)) (i : Nat) (v : Value), (mn_s1 ls i v).length = ls.length
  | [], _, _ => rfl
  | _ :: _, 0, _ => rfl
  | a :: t, 1, v => by simp [mn_s1, mn_s1_len t 0 v]
  | a :: t, i + 2, v => by simp [mn_s1, mn_s1_len t (i + 1) v]
theorem mn_s1_get : ∀ (ls : List (Option Value)) (i : Nat) (v : Value) (j : Nat) (w : Value), (mn_s1 ls i v)[j]? = some (some w) → (j = i ∧ w = v) ∨ (j ≠ i ∧ ls[j]? = some (some w) ∧ ¬ (j + 1 = i ∧ w.category = 2))
  | [], i, v, j, w, h => by simp [mn_s1] at h
  | a :: t, 0, v, 0, w, h => by simp [mn_s1] at h; exact Or.inl ⟨rfl, h.symm⟩
  | a :: t, 0, v, j + 1, w, h => by simp [mn_s1] at h; exact Or.inr ⟨by omega, by simpa using h, by omega⟩
  | a :: t, 1, v, 0, w, h => by
    simp [mn_s1] at h
    refine Or.inr ⟨by omega, ?_, ?_⟩
    · cases a with
      | none => simp [mn_k] at h
      | some x => cases x <;> simp [mn_k] at h <;> simp [h]
    · rintro ⟨-, hc⟩
      cases a with
      | none => simp [mn_k] at h
      | some x => cases x <;> simp [mn_k] at h <;> subst h <;> simp [Value.category] at hc
  | a :: t, 1, v, j + 1, w, h => by
    simp [mn_s1] at h
    rcases mn_s1_get t 0 v j w h with ⟨h1, h2⟩ | ⟨h1, h2, h3⟩
    · exact Or.inl ⟨by omega, h2⟩
    · exact Or.inr ⟨by omega, by simpa using h2, by omega⟩
  | a :: t, i + 2, v, 0, w, h => by
    simp [mn_s1] at h
    exact Or.inr ⟨by omega, by simp [h], by omega⟩
  | a :: t, i + 2, v, j + 1, w, h => by
    simp [mn_s1] at h
    rcases mn_s1_get t (i + 1) v j w h with ⟨h1, h2⟩ | ⟨h1, h2, h3⟩
    · exact Or.inl ⟨by omega, h2⟩
    · exact Or.inr ⟨by omega, by simpa using h2, fun q => h3 ⟨by omega, q.2⟩⟩
theorem mn_s2_len : ∀ (ls : List (Option Value)) (i : Nat) (v : Value), i + 1 < ls.length → (mn_s2 ls i v).length = ls.length
  | [], _, _, h => by simp at h
  | [_], 0, _, h => by simp at h
  | _ :: _ :: _, 0, _, _ => rfl
  | a :: t, 1, v, h => by simp at h; simp [mn_s2, mn_s2_len t 0 v (by omega)]
  | a :: t, i + 2, v, h => by simp at h; simp [mn_s2, mn_s2_len t (i + 1) v (by omega)]
theorem mn_s2_get : ∀ (ls : List (Option Value)) (i : Nat) (v : Value) (j : Nat) (w : Value), (mn_s2 ls i v)[j]? = some (some w) → (j = i ∧ w = v) ∨ (j ≠ i ∧ j ≠ i + 1 ∧ ls[j]? = some (some w) ∧ ¬ (j + 1 = i ∧ w.category = 2))
  | [], i, v, j, w, h => by simp [mn_s2] at h
  | [_], 0, v, j, w, h => by simp [mn_s2] at h
  | _ :: _ :: t, 0, v, 0, w, h => by simp [mn_s2] at h; exact Or.inl ⟨rfl, h.symm⟩
  | _ :: _ :: t, 0, v, 1, w, h => by simp [mn_s2] at h
  | _ :: _ :: t, 0, v, j + 2, w, h => by simp [mn_s2] at h; exact Or.inr ⟨by omega, by omega, by simpa using h, by omega⟩
  | a :: t, 1, v, 0, w, h => by
    simp [mn_s2] at h
    refine Or.inr ⟨by omega, by omega, ?_, ?_⟩
    · cases a with
      | none => simp [mn_k] at h
      | some x => cases x <;> simp [mn_k] at h <;> simp [h]
    · rintro ⟨-, hc⟩
      cases a with
      | none => simp [mn_k] at h
      | some x => cases x <;> simp [mn_k] at h <;> subst h <;> simp [Value.category] at hc
  | a :: t, 1, v, j + 1, w, h => by
    simp [mn_s2] at h
    rcases mn_s2_get t 0 v j w h with ⟨h1, h2⟩ | ⟨h1, h1', h2, h3⟩
    · exact Or.inl ⟨by omega, h2⟩
    · exact Or.inr ⟨by omega, by omega, by simpa using h2, by omega⟩
  | a :: t, i + 2, v, 0, w, h => by
    simp [mn_s2] at h
    exact Or.inr ⟨by omega, by omega, by simp [h], by omega⟩
  | a :: t, i + 2, v, j + 1, w, h => by
    simp [mn_s2] at h
    rcases mn_s2_get t (i + 1) v j w h with ⟨h1, h2⟩ | ⟨h1, h1', h2, h3⟩
    · exact Or.inl ⟨by omega, h2⟩
    · exact Or.inr ⟨by omega, by omega, by simpa using h2, fun q => h3 ⟨by omega, q.2⟩⟩
theorem mn_L.s1 {ρ : Nat → Nat} {la' : Array Slot} {ls : List (Option Value)} {i : Nat} {v : Value} (h : lv_has la' ls.length ((i, mn_v ρ v) :: (mn_ps ρ ls).filter (fun q => !(q.1 == i) && !(q.1 + 1 == i && q.2.category == 2)))) : mn_L ρ la' (mn_s1 ls i v) := by
  refine ⟨by rw [mn_s1_len]; exact h.1, h.2.1, fun j w hj => ?_⟩
  rcases mn_s1_get ls i v j w hj with ⟨h1, h2⟩ | ⟨h1, h2, h3⟩
  · rw [h1, h2]
    exact h.2.2 (i, mn_v ρ v) List.mem_cons_self
  · refine h.2.2 (j, mn_v ρ w) (List.mem_cons_of_mem _ (List.mem_filter.mpr ⟨mn_ps_mem.mpr ⟨w, h2, rfl⟩, ?_⟩))
    simp only [mn_cat, Bool.and_eq_true, Bool.not_eq_true', beq_eq_false_iff_ne, ne_eq, Bool.and_eq_false_iff]
    refine ⟨h1, ?_⟩
    by_cases q : j + 1 = i
    · exact Or.inr (fun z => h3 ⟨q, z⟩)
    · exact Or.inl q
theorem mn_L.s2 {ρ : Nat → Nat} {la' : Array Slot} {ls : List (Option Value)} {i : Nat} {v : Value} (hi : i + 1 < ls.length) (h : lv_has la' ls.length ((i, mn_v ρ v) :: (mn_ps ρ ls).filter (fun q => !(q.1 == i) && (!(q.1 == i + 1) && !(q.1 + 1 == i && q.2.category == 2))))) : mn_L ρ la' (mn_s2 ls i v) := by
  refine ⟨by rw [mn_s2_len _ _ _ hi]; exact h.1, h.2.1, fun j w hj => ?_⟩
  rcases mn_s2_get ls i v j w hj with ⟨h1, h2⟩ | ⟨h1, h1', h2, h3⟩
  · rw [h1, h2]
    exact h.2.2 (i, mn_v ρ v) List.mem_cons_self
  · refine h.2.2 (j, mn_v ρ w) (List.mem_cons_of_mem _ (List.mem_filter.mpr ⟨mn_ps_mem.mpr ⟨w, h2, rfl⟩, ?_⟩))
    simp only [mn_cat, Bool.and_eq_true, Bool.not_eq_true', beq_eq_false_iff_ne, ne_eq, Bool.and_eq_false_iff]
    refine ⟨h1, h1', ?_⟩
    by_cases q : j + 1 = i
    · exact Or.inr (fun z => h3 ⟨q, z⟩)
    · exact Or.inl q
theorem mn_L.weak {ρ : Nat → Nat} {la : Array Slot} {ls ls' : List (Option Value)} (h : mn_L ρ la ls) (hl : ls'.length = ls.length) (hw : ∀ (i : Nat) (v : Value), ls'[i]? = some (some v) → ls[i]? = some (some v)) : mn_L ρ la ls' := ⟨by rw [hl]; exact h.1, h.2.1, fun i v hv => h.2.2 i v (hw i v hv)⟩
/-! the classes -/
theorem mn_uw_id {L : List Cond} {ps : List Nat} (h : L.map id = ps.filterMap (fun i => lw_tbl[i]?) ∧ (L.all (fun q => mn_gw (id q))) = true) : ∀ w ∈ L, w ∈ mn_uw := mn_uw_of1 (f := id) h
theorem mn_cls : ∀ ci, ci < 9 → vwCl[ci]? = some (mn_own ci, mn_T ci, mn_N ci) ∧ (∀ w ∈ u_ws (mn_own ci) (mn_T ci) (mn_N ci), w ∈ mn_uw) ∧ (∀ k, k < mn_N ci → parseFieldDescriptor (mn_T ci k).2.2.1 = some (mn_fty ci k)) ∧ (∀ a, a < mn_N ci → ∀ b, b < mn_N ci → a ≠ b → (mn_T ci a).2.1 ≠ (mn_T ci b).2.1) ∧ Cond.instantiable (mn_own ci) (mn_N ci) ∈ mn_uw
  | 0, _ => ⟨rfl, mn_uw_id mnU_0, tyX0_ok, nmX0, mn_uw_id mnVW_n _ (List.mem_of_getElem? (i := 0) rfl)⟩
  | 1, _ => ⟨rfl, mn_uw_id mnU_1, tyX1_ok, nmX1, mn_uw_id mnVW_n _ (List.mem_of_getElem? (i := 1) rfl)⟩
  | 2, _ => ⟨rfl, mn_uw_id mnU_2, tyX2_ok, nmX2, mn_uw_id mnVW_n _ (List.mem_of_getElem? (i := 2) rfl)⟩
  | 3, _ => ⟨rfl, mn_uw_id mnU_3, tyX3_ok, nmX3, mn_uw_id mnVW_n _ (List.mem_of_getElem? (i := 3) rfl)⟩
  | 4, _ => ⟨rfl, mn_uw_id mnU_4, tyX4_ok, nmX4, mn_uw_id mnVW_n _ (List.mem_of_getElem? (i := 4) rfl)⟩
  | 5, _ => ⟨rfl, mn_uw_id mnU_5, tyX5_ok, nmX5, mn_uw_id mnVW_n _ (List.mem_of_getElem? (i := 5) rfl)⟩
  | 6, _ => ⟨rfl, mn_uw_id mnU_6, tyX6_ok, nmX6, mn_uw_id mnVW_n _ (List.mem_of_getElem? (i := 6) rfl)⟩
  | 7, _ => ⟨rfl, mn_uw_id mnU_7, tyX7_ok, nmX7, mn_uw_id mnVW_n _ (List.mem_of_getElem? (i := 7) rfl)⟩
  | 8, _ => ⟨rfl, mn_uw_id mnU_8, tyX8_ok, nmX8, mn_uw_id mnVW_n _ (List.mem_of_getElem? (i := 8) rfl)⟩
  | n + 9, h => absurd h (by omega)
theorem mn_decl : ∀ ci, ci < 9 → ∀ k, k < mn_N ci → (mn_T ci k).1 = mn_own ci := by
  intro ci h
  match ci, h with
  | 0, _ => decide +kernel
  | 1, _ => decide +kernel
  | 2, _ => decide +kernel
  | 3, _ => decide +kernel
  | 4, _ => decide +kernel
  | 5, _ => decide +kernel
  | 6, _ => decide +kernel
  | 7, _ => decide +kernel
  | 8, _ => decide +kernel
theorem mn_ini (o : Nat) (h : o < 9) : Cond.initialized (mn_own o) ∈ mn_uw := by
  have key : ∀ w ∈ mnV_i, w ∈ mn_uw := mn_uw_id mnVW_i
  match o, h with
  | 0, _ => exact key _ (by decide +kernel)
  | 1, _ => exact key _ (by decide +kernel)
  | 2, _ => exact key _ (by decide +kernel)
  | 3, _ => exact key _ (by decide +kernel)
  | 4, _ => exact key _ (by decide +kernel)
  | 5, _ => exact key _ (by decide +kernel)
  | 6, _ => exact key _ (by decide +kernel)
  | 7, _ => exact key _ (by decide +kernel)
  | 8, _ => exact key _ (by decide +kernel)
theorem mn_ok_spec {ty : FieldType} {v : Value} (h : mn_ok ty v = true) (ρ : Nat → Nat) : narrow ty (mn_v ρ v) = mn_v ρ v ∧ fits ty (mn_v ρ v) = true := by
  unfold mn_ok at h
  split at h
  · exact ⟨rfl, rfl⟩
  · exact ⟨rfl, rfl⟩
  · rename_i x
    simp only [Bool.or_eq_true, decide_eq_true_eq] at h
    rcases h with rfl | rfl
    · exact ⟨by rfl, by rfl⟩
    · exact ⟨by rfl, by rfl⟩
  · exact ⟨rfl, rfl⟩
  · exact ⟨rfl, rfl⟩
  · exact ⟨rfl, rfl⟩
  · exact ⟨rfl, rfl⟩
  · cases h
