/-! what is made only grows -/
theorem mn_pf_two {h h' : mn_S} {a ci k : Nat} {v : Value} (hv : mn_pf h a ci k v = some h') : h'.2 = h.2 := by obtain ⟨_, _, _, _, _, rfl⟩ := mn_pf_spec hv; rfl
theorem mn_asi_two {h h' : mn_S} {a : Nat} {i x : Int32} (hv : mn_asi h a i x = some h') : h'.2 = h.2 := by
  unfold mn_asi at hv
  split at hv
  · split at hv
    · cases hv; rfl
    · cases hv
  · cases hv
theorem mn_asl_two {h h' : mn_S} {a : Nat} {i : Int32} {x : Int64} (hv : mn_asl h a i x = some h') : h'.2 = h.2 := by
  unfold mn_asl at hv
  split at hv
  · split at hv
    · cases hv; rfl
    · cases hv
  · cases hv
theorem mn_asz_two {h h' : mn_S} {a : Nat} {i x : Int32} (hv : mn_asz h a i x = some h') : h'.2 = h.2 := by
  unfold mn_asz at hv
  split at hv
  · split at hv
    · cases hv; rfl
    · cases hv
  · cases hv
theorem mn_asq_two {h h' : mn_S} {a b : Nat} {i : Int32} (hv : mn_asq h a i b = some h') : h'.2 = h.2 := by
  unfold mn_asq at hv
  split at hv
  · split at hv
    · cases hv; rfl
    · cases hv
  · cases hv
def mn_le (h h' : mn_S) : Prop := h.2.2.1 ≤ h'.2.2.1 ∧ h.2.2.2 ≤ h'.2.2.2
theorem mn_le.rf {h : mn_S} : mn_le h h := ⟨Nat.le_refl _, Nat.le_refl _⟩
theorem mn_le.tr {a b c : mn_S} (h1 : mn_le a b) (h2 : mn_le b c) : mn_le a c := ⟨Nat.le_trans h1.1 h2.1, Nat.le_trans h1.2 h2.2⟩
theorem mn_le.two {h h' : mn_S} (e : h'.2 = h.2) : mn_le h h' := ⟨by rw [e]; exact Nat.le_refl _, by rw [e]; exact Nat.le_refl _⟩
theorem mn_na_le {h h' : mn_S} {t k : Nat} {n : Int32} (hv : mn_na h t n = some (k, h')) : mn_le h h' := by
  obtain ⟨-, -, -, -, x, rfl, -⟩ := mn_na_spec hv
  exact ⟨Nat.le_add_right _ _, Nat.le_add_right _ _⟩
theorem mn_new_le {h h' : mn_S} {ci k : Nat} (hv : mn_new h ci = some (k, h')) : mn_le h h' := by
  obtain ⟨-, rfl⟩ := mn_add_spec hv
  exact ⟨Nat.le_add_right _ _, Nat.le_add_right _ _⟩
set_option maxHeartbeats 4000000 in
theorem mn_step_le {o pc pc' : Nat} {ini : Bool} {i : ClassFile.Instr × Nat} {h h' : mn_S} {ls ls' : List (Option Value)} {st st' : List Value} (hs : mn_step o ini i pc ls st h = some (pc', ls', st', h')) : mn_le h h' := by
  unfold mn_step at hs
  split at hs
  all_goals (repeat' (split at hs))
  all_goals first
    | (cases hs; exact mn_le.rf)
    | (cases hs; done)
    | (cases hs; rename_i hv; exact mn_le.two (mn_pf_two hv))
    | (cases hs; rename_i hv; exact mn_le.two (mn_asi_two hv))
    | (cases hs; rename_i hv; exact mn_le.two (mn_asl_two hv))
    | (cases hs; rename_i hv; exact mn_le.two (mn_asz_two hv))
    | (cases hs; rename_i hv; exact mn_le.two (mn_asq_two hv))
    | (cases hs; rename_i hv; exact mn_na_le hv)
    | (cases hs; rename_i hv; exact mn_new_le hv)
/-- what f gives has grown -/
def mn_gr (f : mn_F) : Prop := ∀ (M pc : Nat) (ls : List (Option Value)) (st : List Value) (h : mn_S) (r : mn_Res), f M pc ls st h = some r → mn_le h r.1
theorem mn_call_le {f : mn_F} (hf : mn_gr f) {vt : Bool} {M M2 pc : Nat} {x : mn_I} {As rest : List Value} {ls : List (Option Value)} {h : mn_S} {r : mn_Res} (hr : mn_call f vt M x M2 As rest pc ls h = some r) : mn_le h r.1 := by
  unfold mn_call at hr
  split at hr
  · cases hr
  · split at hr
    · split at hr
      · have := hf _ _ _ _ _ _ hr
        exact mn_le.tr ⟨Nat.le_add_right _ _, Nat.le_add_right _ _⟩ this
      · split at hr
        · split at hr
          · have := hf _ _ _ _ _ _ hr
            exact mn_le.tr ⟨Nat.le_add_right _ _, Nat.le_add_right _ _⟩ this
          · cases hr
        · cases hr
      · cases hr
    · cases hr
theorem mn_term_le {M pc : Nat} {x : mn_I} {i : ClassFile.Instr × Nat} {st : List Value} {h : mn_S} {r : mn_Res} (hr : mn_term M x i pc st h = some r) : mn_le h r.1 := by
  unfold mn_term at hr
  split at hr
  all_goals (repeat' (split at hr))
  all_goals first
    | (cases hr; exact mn_le.rf)
    | (cases hr; done)
    | (cases hr; exact ⟨Nat.le_add_right _ _, Nat.le_add_right _ _⟩)
set_option maxHeartbeats 4000000 in
theorem mn_one_le {f : mn_F} (hf : mn_gr f) : mn_gr (mn_one f) := by
  intro M pc ls st h r hr
  unfold mn_one at hr
  split at hr
  · cases hr
  · split at hr
    · cases hr
    · split at hr
      · rename_i hs
        exact mn_le.tr (mn_step_le hs) (hf _ _ _ _ _ _ hr)
      · split at hr
        · rename_i ht
          cases hr
          exact mn_term_le ht
        all_goals (repeat' (split at hr))
        all_goals first
          | (cases hr; exact mn_le.rf)
          | (cases hr; done)
          | (exact mn_call_le hf hr)
          | (exact hf _ _ _ _ _ _ hr)
          | (cases hr; exact ⟨Nat.le_add_right _ _, Nat.le_add_right _ _⟩)
theorem mn_run_le : ∀ n, mn_gr (mn_run n)
  | 0 => fun _ _ _ _ _ _ h => by cases h
  | n + 1 => mn_one_le (mn_run_le n)
