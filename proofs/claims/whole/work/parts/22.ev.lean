/-! RUNS OF THE SMALL MACHINE as equivalences -/
def mn_sub (f g : mn_F) : Prop := ∀ (M pc : Nat) (ls : List (Option Value)) (st : List Value) (h : mn_S) (r : mn_Res), f M pc ls st h = some r → g M pc ls st h = some r
theorem mn_call_sub {f g : mn_F} (hfg : mn_sub f g) {vt : Bool} {M M2 pc : Nat} {x : mn_I} {As rest : List Value} {ls : List (Option Value)} {h : mn_S} {r : mn_Res} (hr : mn_call f vt M x M2 As rest pc ls h = some r) : mn_call g vt M x M2 As rest pc ls h = some r := by
  unfold mn_call at hr ⊢
  split at hr
  · cases hr
  · rename_i x2 h2
    split at hr
    · rename_i hc
      rw [if_pos hc]
      split at hr
      · rename_i hq
        rw [hfg _ _ _ _ _ _ hq]
        exact hfg _ _ _ _ _ _ hr
      · rename_i hq
        rw [hfg _ _ _ _ _ _ hq]
        dsimp only
        split at hr
        · rename_i hv
          rw [if_pos hv]
          split at hr
          · exact hfg _ _ _ _ _ _ hr
          · cases hr
        · cases hr
      · cases hr
    · cases hr
set_option maxHeartbeats 4000000 in
theorem mn_one_sub {f g : mn_F} (hfg : mn_sub f g) : mn_sub (mn_one f) (mn_one g) := by
  intro M pc ls st h r
  unfold mn_one
  repeat' split
  all_goals first
    | exact fun q => q
    | (intro q; cases q; done)
    | exact hfg _ _ _ _ _ _
    | exact mn_call_sub hfg
theorem mn_run_sub : ∀ n, mn_sub (mn_run n) (mn_run (n + 1))
  | 0 => fun _ _ _ _ _ _ h => by cases h
  | n + 1 => mn_one_sub (mn_run_sub n)
theorem mn_run_up {n k : Nat} (hk : n ≤ k) : mn_sub (mn_run n) (mn_run k) := by
  induction hk with
  | refl => exact fun _ _ _ _ _ _ h => h
  | step _ ih => exact fun _ _ _ _ _ _ h => mn_run_sub _ _ _ _ _ _ _ (ih _ _ _ _ _ _ h)
/-- from here the method ends with r -/
def Ev (M pc : Nat) (ls : List (Option Value)) (st : List Value) (h : mn_S) (r : mn_Res) : Prop := ∃ n, mn_run n M pc ls st h = some r
theorem Ev_det {M pc : Nat} {ls : List (Option Value)} {st : List Value} {h : mn_S} {r r' : mn_Res} (h1 : Ev M pc ls st h r) (h2 : Ev M pc ls st h r') : r = r' := by
  obtain ⟨n, h1⟩ := h1
  obtain ⟨k, h2⟩ := h2
  have a := mn_run_up (Nat.le_max_left n k) _ _ _ _ _ _ h1
  have b := mn_run_up (Nat.le_max_right n k) _ _ _ _ _ _ h2
  exact Option.some.inj (a.symm.trans b)
/-- the instruction at a place -/
def mn_ins (M pc : Nat) : Option (Nat × Bool × ClassFile.Instr × Nat) := match mn_all[M]? with
  | none => none
  | some x => match (mi_t x).lookup pc with
    | none => none
    | some i => some (mi_o x, mi_i x, i)
section EV
variable {M pc pc' o : Nat} {ini : Bool} {ls ls' : List (Option Value)} {st st' : List Value} {h h' : mn_S} {r : mn_Res} {i : ClassFile.Instr × Nat}
theorem mn_ins_spec (hI : mn_ins M pc = some (o, ini, i)) : ∃ x, mn_all[M]? = some x ∧ (mi_t x).lookup pc = some i ∧ mi_o x = o ∧ mi_i x = ini := by
  unfold mn_ins at hI
  split at hI
  · cases hI
  · rename_i x hx
    split at hI
    · cases hI
    · rename_i j hj
      cases hI
      exact ⟨x, hx, hj, rfl, rfl⟩
theorem Ev_S (hI : mn_ins M pc = some (o, ini, i)) (hs : mn_step o ini i pc ls st h = some (pc', ls', st', h')) : Ev M pc ls st h r ↔ Ev M pc' ls' st' h' r := by
  obtain ⟨x, hx, hj, rfl, rfl⟩ := mn_ins_spec hI
  have key : ∀ n, mn_run (n + 1) M pc ls st h = mn_run n M pc' ls' st' h' := by
    intro n
    show mn_one (mn_run n) M pc ls st h = _
    unfold mn_one
    rw [hx]
    dsimp only
    rw [hj]
    dsimp only
    rw [hs]
  constructor
  · rintro ⟨n, hn⟩
    cases n with
    | zero => cases hn
    | succ n => exact ⟨n, by rw [← key]; exact hn⟩
  · rintro ⟨n, hn⟩
    exact ⟨n + 1, by rw [key]; exact hn⟩
/-- what pushes a thing that may be wanting -/
def Evk (M pc : Nat) (ls : List (Option Value)) (v : Option Value) (st : List Value) (h : mn_S) (r : mn_Res) : Prop := match v with
  | some v => Ev M pc ls (v :: st) h r
  | none => False
def Evh (M pc : Nat) (ls : List (Option Value)) (st : List Value) (h : Option mn_S) (r : mn_Res) : Prop := match h with
  | some h => Ev M pc ls st h r
  | none => False
def Evn (M pc : Nat) (ls : List (Option Value)) (st : List Value) (h : Option (Nat × mn_S)) (r : mn_Res) : Prop := match h with
  | some (k, h) => Ev M pc ls (.ref k :: st) h r
  | none => False
theorem Evk_some {v : Value} : Evk M pc ls (some v) st h r ↔ Ev M pc ls (v :: st) h r := Iff.rfl
theorem Evh_some : Evh M pc ls st (some h) r ↔ Ev M pc ls st h r := Iff.rfl
theorem Evn_some {k : Nat} : Evn M pc ls st (some (k, h)) r ↔ Ev M pc ls (.ref k :: st) h r := Iff.rfl
theorem Ev_stuck (hI : mn_ins M pc = some (o, ini, i)) (hs : mn_step o ini i pc ls st h = none) (ht : ∀ x, mn_term M x i pc st h = none) (hi : ∀ idx, i ≠ (.invokevirtual idx, 3) ∧ i ≠ (.invokestatic idx, 3) ∧ i ≠ (.invokespecial idx, 3)) : ¬ Ev M pc ls st h r := by
  obtain ⟨x, hx, hj, rfl, rfl⟩ := mn_ins_spec hI
  rintro ⟨n, hn⟩
  cases n with
  | zero => cases hn
  | succ n =>
    change mn_one (mn_run n) M pc ls st h = some r at hn
    unfold mn_one at hn
    rw [hx] at hn
    dsimp only at hn
    rw [hj] at hn
    dsimp only at hn
    rw [hs] at hn
    dsimp only at hn
    rw [ht x] at hn
    dsimp only at hn
    split at hn
    · exact (hi _).1 rfl
    · exact (hi _).2.1 rfl
    · exact (hi _).2.2 rfl
    · cases hn
theorem Ev_if {q : Prop} [Decidable q] {a b : Nat} : Ev M (if q then a else b) ls st h r ↔ if q then Ev M a ls st h r else Ev M b ls st h r := by split <;> exact Iff.rfl
/-- an end -/
theorem Ev_E (hI : mn_ins M pc = some (o, ini, i)) (hs : mn_step o ini i pc ls st h = none) {x : mn_I} (hx : mn_all[M]? = some x) {r' : mn_Res} (ht : mn_term M x i pc st h = some r') : Ev M pc ls st h r ↔ r = r' := by
  obtain ⟨x', hx', hj, rfl, rfl⟩ := mn_ins_spec hI
  cases Option.some.inj (hx.symm.trans hx')
  have key : ∀ n, mn_run (n + 1) M pc ls st h = some r' := by
    intro n
    show mn_one (mn_run n) M pc ls st h = _
    unfold mn_one
    rw [hx]
    dsimp only
    rw [hj]
    dsimp only
    rw [hs]
    dsimp only
    rw [ht]
  constructor
  · intro h1
    exact Ev_det h1 ⟨1, key 0⟩
  · rintro rfl
    exact ⟨1, key 0⟩
/-- what a call gives -/
noncomputable def Cl (M : Nat) (As : List Value) (pic : Nat → Option va_E) (nx : Option Nat) : Option mn_Res := match mn_all[M]? with
  | none => none
  | some x => @dite _ (∃ q, Ev M 0 (mn_ent (mi_L x) As) [] (pic, nx, 0, 0) q) (Classical.propDecidable _) (fun hq => some (Classical.choose hq)) (fun _ => none)
theorem Cl_of {As : List Value} {pic : Nat → Option va_E} {nx : Option Nat} {x : mn_I} (hx : mn_all[M]? = some x) (he : Ev M 0 (mn_ent (mi_L x) As) [] (pic, nx, 0, 0) r) : Cl M As pic nx = some r := by
  have hq : ∃ q, Ev M 0 (mn_ent (mi_L x) As) [] (pic, nx, 0, 0) q := ⟨r, he⟩
  unfold Cl
  rw [hx]
  dsimp only
  rw [dif_pos hq]
  rw [Ev_det (Classical.choose_spec hq) he]
theorem Cl_ev {As : List Value} {pic : Nat → Option va_E} {nx : Option Nat} {x : mn_I} (hx : mn_all[M]? = some x) (hc : Cl M As pic nx = some r) : Ev M 0 (mn_ent (mi_L x) As) [] (pic, nx, 0, 0) r := by
  unfold Cl at hc
  rw [hx] at hc
  dsimp only at hc
  by_cases hq : ∃ q, Ev M 0 (mn_ent (mi_L x) As) [] (pic, nx, 0, 0) q
  · rw [dif_pos hq] at hc
    cases hc
    exact Classical.choose_spec hq
  · rw [dif_neg hq] at hc
    cases hc
/-- behind a call: g says whether it can be done at all -/
def Evr (vt g : Bool) (M pc : Nat) (ls : List (Option Value)) (rest : List Value) (c s : Nat) (q : Option mn_Res) (r : mn_Res) : Prop := match g, q with
  | true, some (h2, .inl v) => Ev M (pc + 3) ls (v.toList ++ rest) (h2.1, h2.2.1, c + h2.2.2.1, s + h2.2.2.2) r
  | true, some (h2, .inr k) => vt = true ∧ ∃ x, mn_all[M]? = some x ∧ match mn_catch x (mn_hT M) pc k ls with
    | some (pc', ls') => Ev M pc' ls' [] (h2.1, none, c + h2.2.2.1, s + h2.2.2.2) r
    | none => False
  | _, _ => False
theorem Evr_v {vt : Bool} {v : Value} {rest : List Value} {c s c2 s2 : Nat} {p2 : Nat → Option va_E} {n2 : Option Nat} : Evr vt true M pc ls rest c s (some ((p2, n2, c2, s2), .inl (some v))) r ↔ Ev M (pc + 3) ls (v :: rest) (p2, n2, c + c2, s + s2) r := Iff.rfl
theorem Evr_n {vt : Bool} {rest : List Value} {c s c2 s2 : Nat} {p2 : Nat → Option va_E} {n2 : Option Nat} : Evr vt true M pc ls rest c s (some ((p2, n2, c2, s2), .inl none)) r ↔ Ev M (pc + 3) ls rest (p2, n2, c + c2, s + s2) r := Iff.rfl
theorem Ev_callR {vt g : Bool} {x x2 : mn_I} {M2 : Nat} {As rest : List Value} (hx : mn_all[M]? = some x) (hx2 : mn_all[M2]? = some x2) (hc : mi_d x2 + 1 ≤ mi_d x ∧ mi_L x2 ≤ 22 ∧ (mn_sl1 As).length ≤ mi_L x2 ∧ mn_nl M2 = true) (hg : g = true → mn_cats rest ≤ 8) (key : g = true → ∀ n, mn_run (n + 1) M pc ls st h = mn_call (mn_run n) vt M x M2 As rest pc ls h) (key0 : g = false → ∀ n, mn_run (n + 1) M pc ls st h = none) :
    Ev M pc ls st h r ↔ Evr vt g M pc ls rest h.2.2.1 h.2.2.2 (Cl M2 As h.1 h.2.1) r := by
  have cl : ∀ {n q}, mn_run n M2 0 (mn_ent (mi_L x2) As) [] (h.1, h.2.1, 0, 0) = some q → Cl M2 As h.1 h.2.1 = some q := fun hn => Cl_of hx2 ⟨_, hn⟩
  cases g with
  | false =>
    constructor
    · rintro ⟨n, hn⟩
      cases n with
      | zero => cases hn
      | succ n => rw [key0 rfl] at hn; cases hn
    · intro hr
      exact hr.elim
  | true =>
  have key := key rfl
  have hc : mi_d x2 + 1 ≤ mi_d x ∧ mi_L x2 ≤ 22 ∧ (mn_sl1 As).length ≤ mi_L x2 ∧ mn_cats rest ≤ 8 ∧ mn_nl M2 = true := ⟨hc.1, hc.2.1, hc.2.2.1, hg rfl, hc.2.2.2⟩
  constructor
  · rintro ⟨n, hn⟩
    cases n with
    | zero => cases hn
    | succ n =>
      rw [key] at hn
      unfold mn_call at hn
      rw [hx2] at hn
      dsimp only at hn
      rw [if_pos hc] at hn
      split at hn
      · rename_i h2 v hq
        rw [cl hq]
        exact ⟨n, hn⟩
      · rename_i h2 k hq
        rw [cl hq]
        split at hn
        · rename_i hvt
          split at hn
          · rename_i pc' ls' hct
            refine ⟨hvt, x, hx, ?_⟩
            rw [hct]
            exact ⟨n, hn⟩
          · cases hn
        · cases hn
      · cases hn
  · intro hr
    cases hq : Cl M2 As h.1 h.2.1 with
    | none => rw [hq] at hr; exact hr.elim
    | some q =>
      rw [hq] at hr
      obtain ⟨n1, e1⟩ := Cl_ev hx2 hq
      obtain ⟨h2, v | k⟩ := q
      · obtain ⟨n2, e2⟩ := hr
        refine ⟨max n1 n2 + 1, ?_⟩
        rw [key]
        unfold mn_call
        rw [hx2]
        dsimp only
        rw [if_pos hc, mn_run_up (Nat.le_max_left n1 n2) _ _ _ _ _ _ e1]
        dsimp only
        exact mn_run_up (Nat.le_max_right n1 n2) _ _ _ _ _ _ e2
      · obtain ⟨hvt, x', hx', hr⟩ := hr
        cases Option.some.inj (hx.symm.trans hx')
        split at hr
        · rename_i pc' ls' hct
          obtain ⟨n2, e2⟩ := hr
          refine ⟨max n1 n2 + 1, ?_⟩
          rw [key]
          unfold mn_call
          rw [hx2]
          dsimp only
          rw [if_pos hc, mn_run_up (Nat.le_max_left n1 n2) _ _ _ _ _ _ e1]
          dsimp only
          rw [if_pos hvt, hct]
          dsimp only
          exact mn_run_up (Nat.le_max_right n1 n2) _ _ _ _ _ _ e2
        · exact hr.elim
theorem Ev_V {x x2 : mn_I} {M2 idx b : Nat} {As rest : List Value} (hI : mn_ins M pc = some (o, ini, .invokevirtual idx, 3)) (hl : mn_ml o idx = some (0, M2)) (hx : mn_all[M]? = some x) (hx2 : mn_all[M2]? = some x2) (hn : As.length = mi_n x2) (hd : mi_d x2 + 1 ≤ mi_d x ∧ mi_L x2 ≤ 22 ∧ mn_nl M2 = true ∧ mi_o x2 < 9 ∧ mn_stat M2 = false ∧ (mi_y x2).name ≠ "<init>" ∧ mn_hh M2 = []) (hL : (mn_sl1 (.ref b :: As)).length ≤ mi_L x2) (hst : st = As.reverse ++ .ref b :: rest) :
    Ev M pc ls st h r ↔ Evr true (decide (mn_cats rest ≤ 8) && mn_isc h b (mi_o x2)) M pc ls rest h.2.2.1 h.2.2.2 (Cl M2 (.ref b :: As) h.1 h.2.1) r := by
  obtain ⟨x', hx', hj, rfl, rfl⟩ := mn_ins_spec hI
  cases Option.some.inj (hx.symm.trans hx')
  obtain ⟨d1, d2, d3, d4, d5, d6, d7⟩ := hd
  have hlen : As.reverse.length = mi_n x2 := by rw [List.length_reverse]; exact hn
  have e1 : st.drop (mi_n x2) = .ref b :: rest := by rw [hst, ← hlen, List.drop_left]
  have e2 : st.take (mi_n x2) = As.reverse := by rw [hst, ← hlen, List.take_left]
  have one : ∀ n, mn_run (n + 1) M pc ls st h = if mn_isc h b (mi_o x2) = true then mn_call (mn_run n) true M x M2 (.ref b :: As) rest pc ls h else none := by
    intro n
    show mn_one (mn_run n) M pc ls st h = _
    simp only [mn_one, hx, hj, mn_step, mn_term, hl, hx2, e1, e2, List.reverse_reverse]
    by_cases hi : mn_isc h b (mi_o x2) = true
    · rw [if_pos hi, if_pos ⟨hlen, hi, d4, d5, d6, d7⟩]
    · rw [if_neg hi, if_neg (fun q => hi q.2.1)]
  refine Ev_callR hx hx2 ⟨d1, d2, hL, d3⟩ (fun hg => ?_) (fun hg n => ?_) (fun hg n => ?_)
  · simp only [Bool.and_eq_true, decide_eq_true_eq] at hg
    exact hg.1
  · simp only [Bool.and_eq_true, decide_eq_true_eq] at hg
    rw [one, if_pos hg.2]
  · rw [one]
    split
    · rename_i hi
      rw [hi] at hg
      simp only [Bool.and_true, decide_eq_false_iff_not] at hg
      unfold mn_call
      rw [hx2]
      dsimp only
      rw [if_neg (fun q => hg q.2.2.2.1)]
    · rfl
theorem Ev_T {x x2 : mn_I} {M2 idx q : Nat} {As rest : List Value} (hI : mn_ins M pc = some (o, ini, .invokestatic idx, 3)) (hl : mn_ml o idx = some (q, M2)) (hq : q = 1 ∨ (q = 3 ∧ mn_hh M2 = [])) (hx : mn_all[M]? = some x) (hx2 : mn_all[M2]? = some x2) (hn : As.length = mi_n x2) (hd : mi_d x2 + 1 ≤ mi_d x ∧ mi_L x2 ≤ 22 ∧ mn_nl M2 = true ∧ mn_stat M2 = true) (hL : (mn_sl1 As).length ≤ mi_L x2) (hst : st = As.reverse ++ rest) :
    Ev M pc ls st h r ↔ Evr false (decide (mn_cats rest ≤ 8)) M pc ls rest h.2.2.1 h.2.2.2 (Cl M2 As h.1 h.2.1) r := by
  obtain ⟨x', hx', hj, rfl, rfl⟩ := mn_ins_spec hI
  cases Option.some.inj (hx.symm.trans hx')
  obtain ⟨d1, d2, d3, d4⟩ := hd
  have hlen : As.reverse.length = mi_n x2 := by rw [List.length_reverse]; exact hn
  have e1 : st.drop (mi_n x2) = rest := by rw [hst, ← hlen, List.drop_left]
  have e2 : st.take (mi_n x2) = As.reverse := by rw [hst, ← hlen, List.take_left]
  have one : ∀ n, mn_run (n + 1) M pc ls st h = mn_call (mn_run n) false M x M2 As rest pc ls h := by
    intro n
    show mn_one (mn_run n) M pc ls st h = _
    rcases hq with rfl | ⟨rfl, hh⟩
    · simp only [mn_one, hx, hj, mn_step, mn_term, hl, hx2, e1, e2, List.reverse_reverse, true_or, if_true, hlen, d4, and_self]
    · simp only [mn_one, hx, hj, mn_step, mn_term, hl, hx2, e1, e2, List.reverse_reverse, hh, and_self, or_true, if_true, hlen, d4]
  refine Ev_callR hx hx2 ⟨d1, d2, hL, d3⟩ (fun hg => ?_) (fun hg n => one n) (fun hg n => ?_)
  · simpa using hg
  · rw [one]
    unfold mn_call
    rw [hx2]
    dsimp only
    rw [if_neg (fun q => by simp at hg; omega)]
theorem Ev_N {x x2 : mn_I} {M2 idx q b : Nat} {As rest : List Value} (hI : mn_ins M pc = some (o, ini, .invokespecial idx, 3)) (hl : mn_ml o idx = some (q, M2)) (hq : q = 2 ∨ q = 4) (hx : mn_all[M]? = some x) (hx2 : mn_all[M2]? = some x2) (hn : As.length = mi_n x2) (hd : mi_d x2 + 1 ≤ mi_d x ∧ mi_L x2 ≤ 22 ∧ mn_nl M2 = true ∧ mn_stat M2 = false ∧ (mi_y x2).name = "<init>" ∧ mn_hh M2 = [] ∧ mi_r x2 = none) (hL : (mn_sl1 (.ref b :: As)).length ≤ mi_L x2) (hst : st = As.reverse ++ .ref b :: rest) :
    Ev M pc ls st h r ↔ Evr false (decide (mn_cats rest ≤ 8)) M pc ls rest h.2.2.1 h.2.2.2 (Cl M2 (.ref b :: As) h.1 h.2.1) r := by
  obtain ⟨x', hx', hj, rfl, rfl⟩ := mn_ins_spec hI
  cases Option.some.inj (hx.symm.trans hx')
  obtain ⟨d1, d2, d3, d4, d5, d6, d7⟩ := hd
  have hlen : As.reverse.length = mi_n x2 := by rw [List.length_reverse]; exact hn
  have e1 : st.drop (mi_n x2) = .ref b :: rest := by rw [hst, ← hlen, List.drop_left]
  have e2 : st.take (mi_n x2) = As.reverse := by rw [hst, ← hlen, List.take_left]
  have one : ∀ n, mn_run (n + 1) M pc ls st h = mn_call (mn_run n) false M x M2 (.ref b :: As) rest pc ls h := by
    intro n
    show mn_one (mn_run n) M pc ls st h = _
    rcases hq with rfl | rfl
    · simp only [mn_one, hx, hj, mn_step, mn_term, hl, hx2, e1, e2, List.reverse_reverse, true_or, if_true, hlen, d4, d5, d6, d7, and_self]
    · simp only [mn_one, hx, hj, mn_step, mn_term, hl, hx2, e1, e2, List.reverse_reverse, or_true, if_true, hlen, d4, d5, d6, d7, and_self]
  refine Ev_callR hx hx2 ⟨d1, d2, hL, d3⟩ (fun hg => ?_) (fun hg n => one n) (fun hg n => ?_)
  · simpa using hg
  · rw [one]
    unfold mn_call
    rw [hx2]
    dsimp only
    rw [if_neg (fun q => by simp at hg; omega)]
theorem Ev_go (hI : mn_ins M pc = some (o, ini, i)) {ls' : List (Option Value)} {st' : List Value} (key : ∀ (x : mn_I), mn_all[M]? = some x → mi_o x = o → (mi_t x).lookup pc = some i → ∀ n, mn_run (n + 1) M pc ls st h = mn_run n M pc' ls' st' h') : Ev M pc ls st h r ↔ Ev M pc' ls' st' h' r := by
  obtain ⟨x, hx, hj, h1, h2⟩ := mn_ins_spec hI
  have key := key x hx h1 hj
  constructor
  · rintro ⟨n, hn⟩
    cases n with
    | zero => cases hn
    | succ n => exact ⟨n, by rw [← key]; exact hn⟩
  · rintro ⟨n, hn⟩
    exact ⟨n + 1, by rw [key]; exact hn⟩
theorem Ev_obj {idx a : Nat} {q : Nat} {rest : List Value} {x : mn_I} (hI : mn_ins M pc = some (o, ini, .invokespecial idx, 3)) (hl : mn_ml o idx = some (5, q)) (hx : mn_all[M]? = some x) (hd : 1 ≤ mi_d x) (hc : mn_cats rest ≤ 8) : Ev M pc ls (.ref a :: rest) h r ↔ Ev M (pc + 3) ls rest h r := by
  refine Ev_go hI (fun x' hx' ho hj n => ?_)
  cases Option.some.inj (hx.symm.trans hx')
  subst ho
  show mn_one (mn_run n) M pc ls _ h = _
  simp only [mn_one, hx, hj, mn_step, mn_term, hl, hd, hc, and_self, if_true]
theorem Ev_min {idx : Nat} {q : Nat} {a b : Int32} {rest : List Value} {x : mn_I} (hI : mn_ins M pc = some (o, ini, .invokestatic idx, 3)) (hl : mn_ml o idx = some (6, q)) (hx : mn_all[M]? = some x) (hd : mn_y q = Lib.Math.min.name ∧ 1 ≤ mi_d x) (hc : mn_cats rest ≤ 8) : Ev M pc ls (.int b :: .int a :: rest) h r ↔ Ev M (pc + 3) ls (.int (if b < a then b else a) :: rest) h r := by
  refine Ev_go hI (fun x' hx' ho hj n => ?_)
  cases Option.some.inj (hx.symm.trans hx')
  subst ho
  show mn_one (mn_run n) M pc ls _ h = _
  simp only [mn_one, hx, hj, mn_step, mn_term, hl, hd.1, hd.2, hc, and_self, if_true]
end EV
