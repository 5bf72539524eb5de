section MNX
variable {p : Program} {l : Launch} {e : Env} {R : Room} {s : State} {m : MethodId} {args : Array Value} {below : List Frame} {meth : Method} {c : Code} {Q : State → Prop} {D : va_G} {ρ : Nat → Nat} {z0 : Nat} {H : Heap} {locs : List Loc}
theorem mn_hfind_spec {pc k hp : Nat} : ∀ {T : List (Nat × Nat × Nat × Nat)}, mn_hfind (T.map (fun q => (q.1, q.2.1, q.2.2.1, mn_ct q.2.2.2))) pc k = some hp →
    ∃ (pre : List (Nat × Nat × Nat × Nat)) (x : Nat × Nat × Nat × Nat) (suf : List (Nat × Nat × Nat × Nat)), T = pre ++ x :: suf ∧ (∀ z ∈ pre, ¬ (z.1 ≤ pc ∧ pc < z.2.1) ∨ ((k = 0 ∧ mn_ct z.2.2.2 = 1) ∨ (k = 1 ∧ mn_ct z.2.2.2 = 0) ∨ (k = 1 ∧ mn_ct z.2.2.2 = 2))) ∧ (x.1 ≤ pc ∧ pc < x.2.1) ∧ mn_ct x.2.2.2 = k ∧ x.2.2.1 = hp
  | [], h => by cases h
  | q :: t, h => by
    simp only [List.map_cons, mn_hfind] at h
    split at h
    · rename_i hc
      split at h
      · rename_i hk
        cases h
        exact ⟨[], q, t, rfl, (fun z hz => by cases hz), hc, hk, rfl⟩
      · split at h
        · rename_i hpair
          obtain ⟨pre, x, suf, h1, h2, h3⟩ := mn_hfind_spec (T := t) h
          refine ⟨q :: pre, x, suf, by rw [h1]; rfl, fun z hz => ?_, h3⟩
          rcases List.mem_cons.mp hz with rfl | hz
          · exact Or.inr hpair
          · exact h2 z hz
        · cases h
    · rename_i hc
      obtain ⟨pre, x, suf, h1, h2, h3⟩ := mn_hfind_spec (T := t) h
      refine ⟨q :: pre, x, suf, by rw [h1]; rfl, fun z hz => ?_, h3⟩
      rcases List.mem_cons.mp hz with rfl | hz
      · exact Or.inl hc
      · exact h2 z hz
theorem mn_ct_spec {i k : Nat} (h : mn_ct i = k) (hk : k < 3) : i ≠ 0 ∧ Cond.classLink RL i (mn_exn k) ∈ mn_uw := by
  have key : ∀ w ∈ mnV_x, w ∈ mn_uw := mn_uw_id mnVW_x
  unfold mn_ct at h
  split at h
  · subst h; exact ⟨by decide, key _ (List.mem_of_getElem? (i := 0) rfl)⟩
  · subst h; exact ⟨by decide, key _ (List.mem_of_getElem? (i := 1) rfl)⟩
  · subst h; exact ⟨by decide, key _ (List.mem_of_getElem? (i := 2) rfl)⟩
  · omega
theorem mn_L.forget {la : Array Slot} {ls : List (Option Value)} {q : Nat} {v : Value} (hq : q < ls.length) (h : lv_has la ls.length ((q, v) :: (mn_ps ρ ls).filter (fun z => !(z.1 == q) && !(z.1 + 1 == q && z.2.category == 2)))) : mn_L ρ la ((mn_s1 ls q .null).set q none) := by
  refine ⟨by rw [List.length_set, mn_s1_len]; exact h.1, h.2.1, fun j w hj => ?_⟩
  by_cases hjq : j = q
  · subst hjq
    rw [List.getElem?_set_self (by rw [mn_s1_len]; exact hq)] at hj
    cases hj
  · rw [List.getElem?_set_ne (Ne.symm hjq)] at hj
    rcases mn_s1_get ls q .null j w hj with ⟨h1, h2⟩ | ⟨h1, h2, h3⟩
    · exact absurd h1 hjq
    · refine h.2.2 (j, mn_v ρ w) (List.mem_cons_of_mem _ (List.mem_filter.mpr ⟨mn_ps_mem.mpr ⟨w, h2, rfl⟩, ?_⟩))
      simp only [mn_cat, Bool.and_eq_true, Bool.not_eq_true', beq_eq_false_iff_ne, ne_eq, Bool.and_eq_false_iff]
      refine ⟨h1, ?_⟩
      by_cases z : j + 1 = q
      · exact Or.inr (fun y => h3 ⟨z, y⟩)
      · exact Or.inl z
theorem mn_catch_ok {M : Nat} {x : mn_I} (hM : mn_all[M]? = some x) (C : mn_C p l s m args meth c (mi_o x) (mi_i x) (mi_c x) (mi_L x)) (G : mn_G D ρ z0 s) (htab : c.exceptionTable.toList = tableOf (mn_hh M)) {pc pc' k : Nat} {ls ls' : List (Option Value)} (hk : k < 3) (hct : mn_catch x (mn_hT M) pc k ls = some (pc', ls')) {la : Array Slot} (hL : mn_L ρ la ls) {ce : Cell} {q : Addr} (hcell : H[q]? = some ce) (hv : ce.vm = .none) (hcl : s.vm.findClass (mn_exn k) = some ce.cls) {rest : List Value} {cells slots : Nat}
    (K : ∀ la', mn_L ρ la' ls' → W p l e R s m args below meth c H locs cells slots Q (F0 m pc' la' [])) : vx_W p l e R s m args below meth c H locs cells slots Q (F0 m pc la rest) q := by
  obtain ⟨hx, hb, hml, hown, hts, -⟩ := C
  obtain ⟨-, -, -, -, -, ⟨n1, n2, n3⟩, -⟩ := G
  unfold mn_catch at hct
  split at hct
  · rename_i ho
    rw [ho] at hown
    split at hct
    · cases hct
    · rename_i hp hfd
      obtain ⟨pre, z, suf, h1, h2, h3, h4, h5⟩ := mn_hfind_spec (T := mn_hh M) hfd
      obtain ⟨hz0, hzw⟩ := mn_ct_spec h4 hk
      have hsplit : c.exceptionTable.toList = tableOf pre ++ (⟨z.1, z.2.1, z.2.2.1, z.2.2.2⟩ : ExceptionTableEntry) :: tableOf suf := by
        rw [htab, h1]
        simp [tableOf]
      have hpass : ∀ y ∈ tableOf pre, covers y pc = false ∨ (y.catchType ≠ 0 ∧ ∃ nm : String, (Cond.classLink RL y.catchType nm).before args s = true ∧ va_Nc (mn_exn k) nm s) := by
        intro y hy
        obtain ⟨w, hw, rfl⟩ := List.mem_map.mp hy
        rcases h2 w hw with h | h
        · left
          simp only [covers, Bool.and_eq_false_iff, decide_eq_false_iff_not]
          by_cases a : w.1 ≤ pc
          · exact Or.inr (fun b => h ⟨a, b⟩)
          · exact Or.inl a
        · right
          rcases h with ⟨rfl, hw1⟩ | ⟨rfl, hw1⟩ | ⟨rfl, hw1⟩
          · obtain ⟨a, b⟩ := mn_ct_spec hw1 (by decide)
            exact ⟨a, _, hts _ b, n1⟩
          · obtain ⟨a, b⟩ := mn_ct_spec hw1 (by decide)
            exact ⟨a, _, hts _ b, n2⟩
          · obtain ⟨a, b⟩ := mn_ct_spec hw1 (by decide)
            exact ⟨a, _, hts _ b, n3⟩
      have hcov : covers (⟨z.1, z.2.1, z.2.2.1, z.2.2.2⟩ : ExceptionTableEntry) pc = true := by
        simp only [covers, Bool.and_eq_true, decide_eq_true_eq]
        exact h3
      refine vx_catch (own := RL) hown (tableOf pre) _ (tableOf suf) hsplit hpass hcov hz0 (hts _ hzw) (hts _ (mn_exw hk).2.1) hcell hv hcl ?_
      show W p l e R s m args below meth c H locs cells slots Q (F0 m z.2.2.1 la [.ref q])
      rw [h5]
      split at hct
      · rename_i q0 hi
        split at hct
        · rename_i hq0
          cases hct
          exact lv_astore_n hx hb (mn_dec hM hi) rfl hL.has hq0 rfl (fun la1 hl1 => K la1 (mn_L.forget hq0 hl1))
        · cases hct
      · rename_i q0 hi
        split at hct
        · rename_i hq0
          cases hct
          exact lv_astore hx hb (mn_dec hM hi) hL.has hq0 rfl (fun la1 hl1 => K la1 (mn_L.forget hq0 hl1))
        · cases hct
      · cases hct
  · cases hct
theorem mn_catch_len {x : mn_I} {T : List (Nat × Nat × Nat × Nat)} {pc pc' k : Nat} {ls ls' : List (Option Value)} (h : mn_catch x T pc k ls = some (pc', ls')) : ls'.length = ls.length := by
  unfold mn_catch at h
  split at h
  · split at h
    · cases h
    · split at h
      · split at h
        · cases h; rw [List.length_set, mn_s1_len]
        · cases h
      · split at h
        · cases h; rw [List.length_set, mn_s1_len]
        · cases h
      · cases h
  · cases h
set_option maxHeartbeats 4000000 in
theorem mn_step_len {o pc pc' : Nat} {ini : Bool} {i : ClassFile.Instr × Nat} {h h' : mn_S} {ls ls' : List (Option Value)} {st st' : List Value} (hs : mn_step o ini i pc ls st h = some (pc', ls', st', h')) : ls'.length = ls.length := by
  unfold mn_step at hs
  split at hs
  all_goals (repeat' (split at hs))
  all_goals first
    | (cases hs; rfl)
    | (cases hs; done)
    | (cases hs; exact mn_s1_len _ _ _)
    | (cases hs; rename_i hk; exact mn_s2_len _ _ _ hk)
theorem mn_exk {n M : Nat} {x : mn_I} : ∀ (pc : Nat) (ls : List (Option Value)) (st : List Value) (h hf : mn_S) (k : Nat), mn_run n M pc ls st h = some (hf, .inr k) → k < 3 := by
  induction n with
  | zero => intro pc ls st h hf k hr; cases hr
  | succ n ih =>
    intro pc ls st h hf k hr
    have term : ∀ {x : mn_I} {i : ClassFile.Instr × Nat}, mn_term M x i pc st h = some (hf, .inr k) → k < 3 := by
      intro x i ht
      unfold mn_term at ht
      split at ht
      all_goals (repeat' (split at ht))
      all_goals first
        | (cases ht; done)
        | (rename_i hk _; cases ht; have := (mn_thr_spec hk).2; omega)
    have call : ∀ {vt : Bool} {x : mn_I} {M2 : Nat} {As rest : List Value}, mn_call (mn_run n) vt M x M2 As rest pc ls h = some (hf, .inr k) → k < 3 := by
      intro vt x M2 As rest hc
      unfold mn_call at hc
      split at hc
      · cases hc
      · split at hc
        · split at hc
          · exact ih _ _ _ _ _ _ hc
          · split at hc
            · split at hc
              · exact ih _ _ _ _ _ _ hc
              · cases hc
            · cases hc
          · cases hc
        · cases hc
    change mn_one (mn_run n) M pc ls st h = some (hf, .inr k) at hr
    unfold mn_one at hr
    split at hr
    · cases hr
    · split at hr
      · cases hr
      · split at hr
        · exact ih _ _ _ _ _ _ hr
        · split at hr
          · rename_i ht
            cases hr
            exact term ht
          all_goals (repeat' (split at hr))
          all_goals first
            | (cases hr; done)
            | exact call hr
            | exact ih _ _ _ _ _ _ hr
end MNX
