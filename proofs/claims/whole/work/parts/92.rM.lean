/-! the calls: what runs -/
section RM
variable {N N' : cN} {J J' : cJ} {P P' : cP} {F F' : Nat → Int32} {A A' : Nat → Nat → Int32} {L L' : Nat → Nat → Int64} {nb nm : Nat} {lt : Option Nat} {sz : Nat → Nat} {op : Nat → Nat → Nat} {ai : Nat → Nat → Int32} {kd mg : Nat → Nat} {b1 b2 : Nat → Option va_E} {nx1 nx2 : Option Nat}
theorem wi_0 {x : Int32} : wi x 0 = false := by
  cases h : wi x 0 with
  | false => rfl
  | true =>
    obtain ⟨y, hy, -⟩ := (wi_z (by decide)).mp h
    omega
theorem call_step {x y : Int32} (hr : Rel N J P F A L) : Ans b1 nx1 b2 nx2 N J P F A L 76 [.ref 3, .int x, .int y] 124 [.ref 149, .int x, .int y] [0, 1] KI := by
  obtain ⟨nb, nm, lt, sz, op, ai, kd, mg, hP, h⟩ := hr
  obtain ⟨n, n1, n2, n3, n4, n5, n6⟩ := Rel.num h
  have fF : ∀ z q, q ≠ 0 → up1 F 0 z q = F q := fun z q hq => up1_n hq
  cases hw : wi x n with
  | false => exact ⟨N, J, P, _, A, L, Rel.F0 hP h (fF _), Or.inr ⟨0, 0, _, rfl, ⟨_, rfl⟩, kl_step_no n2 hw, cl_step_no n3 n1 n4 hw, up1_s⟩⟩
  | true =>
    obtain ⟨t, ht, rfl⟩ := (wi_z (by omega)).mp hw
    cases hy : (decide (nI 1 ≤ y) && decide (y ≤ nI 200)) with
    | false =>
      refine ⟨N, J, P, _, A, L, Rel.F0 hP h (fF _), Or.inr ⟨1, 1, _, rfl, ⟨_, rfl⟩, kl_step_bad n2 n1 ht ?_, cl_step_bad n3 n1 n4 ht hy, up1_s⟩⟩
      rw [Bool.and_eq_false_iff] at hy
      rcases hy with q | q
      · exact Or.inl (Int32.not_le.mp (of_decide_eq_false q))
      · exact Or.inr (of_decide_eq_false q)
    | true =>
      rw [Bool.and_eq_true] at hy
      obtain ⟨m, m1, m2, rfl⟩ := nI_btw (by decide) (by decide) (of_decide_eq_true hy.1) (of_decide_eq_true hy.2)
      obtain ⟨k, φ, hR⟩ := n6 (by omega)
      have hP1 : RelP N P (up1 F 0 (nI 0)) A nb nm lt sz op ai kd mg := hP.cg (fun _ _ _ => rfl) rfl ⟨fF _ 1 (by decide), fF _ 2 (by decide), fF _ 3 (by decide)⟩ (fun _ _ _ => rfl)
      obtain ⟨c', N', J', P', F', A', L', n', k', φ', i1, i2, i3, i4, i5⟩ := step_loop (b1 := b1) (nx1 := nx1) (b2 := b2) (nx2 := nx2) (t := t) (m := m) m2 m 0 (by omega) N J P (up1 F 0 (nI 0)) A L n k φ none ht hP1 (hR.F0 (fun q hq => fF _ q (by omega)))
      refine ⟨N', J', P', F', A', L', ⟨nb, nm, lt, sz, op, ai, kd, mg, i1, Or.inr ⟨n', k', φ', i2⟩⟩, Or.inl ⟨_, ⟨_, rfl⟩, Cl_of (x := mnI_X7_step) rfl ((kv_step_pre n2 n1 ht m1 m2).mpr i4), Cl_of (x := mnI_X8_step) rfl ((ev_step_pre n3 n1 n4 ht m1 m2).mpr i5), by rw [i3]; exact up1_s⟩⟩
theorem call_run {x : Int32} (hr : Rel N J P F A L) : Ans b1 nx1 b2 nx2 N J P F A L 77 [.ref 3, .int x] 128 [.ref 149, .int x] [0] KI := by
  obtain ⟨nb, nm, lt, sz, op, ai, kd, mg, hP, h⟩ := hr
  obtain ⟨n, n1, n2, n3, n4, n5, n6⟩ := Rel.num h
  have fF : ∀ z q, q ≠ 0 → up1 F 0 z q = F q := fun z q hq => up1_n hq
  by_cases h0 : n = 0
  · subst h0
    exact ⟨N, J, P, _, A, L, Rel.F0 hP h (fF _), Or.inr ⟨0, 0, _, rfl, ⟨_, rfl⟩, kl_run_no n2, cl_run_no n4, up1_s⟩⟩
  · obtain ⟨k, φ, hR⟩ := n6 (by omega)
    have hP1 : RelP N P (up1 F 0 (nI 0)) A nb nm lt sz op ai kd mg := hP.cg (fun _ _ _ => rfl) rfl ⟨fF _ 1 (by decide), fF _ 2 (by decide), fF _ 3 (by decide)⟩ (fun _ _ _ => rfl)
    have e13 := hR.2.2.2.2.2.2.2.2.1
    have e12 := hR.2.2.2.2.2.2.2.2.2.1
    have hme : meas N n k ≤ 2012 := by
      have := rdN_le (f := rnB N) (k := n)
      unfold meas
      split <;> omega
    obtain ⟨N', J', P', F', A', L', n', k', φ', i1, i2, i3, i4, i5⟩ := run_loop (b1 := b1) (nx1 := nx1) (b2 := b2) (nx2 := nx2) (x := x) (y := nI k) 2012 N J P (up1 F 0 (nI 0)) A L n k φ x x 0 none none hme (by omega) (fun _ => rfl) hP1 (hR.F0 (fun q hq => fF _ q (by omega)))
    have f9 : F 9 = nI 1 := hR.2.2.2.2.2.1
    have e13' := i2.2.2.2.2.2.2.2.2.1
    have e12' := i2.2.2.2.2.2.2.2.2.2.1
    rw [e13'] at i4
    rw [e12'] at i5
    refine ⟨N', J', P', F', A', L', ⟨nb, nm, lt, sz, op, ai, kd, mg, i1, Or.inr ⟨n', k', φ', i2⟩⟩, Or.inl ⟨some (.int (nI k' - nI k)), ⟨_, rfl⟩, Cl_of (x := mnI_X7_run) rfl ((kv_run_pre n2 n1 (by omega)).mpr ?_), Cl_of (x := mnI_X8_run) rfl ((ev_run_pre f9).mpr ?_), by rw [i3]; exact up1_s⟩⟩
    · rw [e13]; exact i4
    · rw [e12]; exact i5
theorem in4 {y : Int32} {m : Nat} (hm : m < 2 ^ 31) (h : (decide (nI 0 ≤ y) && decide (y ≤ nI m)) = false) : y.toInt < 0 ∨ (m : Int) < y.toInt := by
  rw [Bool.and_eq_false_iff] at h
  rcases h with q | q
  · have q := of_decide_eq_false q
    rw [Int32.le_iff_toInt_le, nI_toInt (by omega)] at q
    exact Or.inl (by omega)
  · have q := of_decide_eq_false q
    rw [Int32.le_iff_toInt_le, nI_toInt (by omega)] at q
    exact Or.inr (by omega)
theorem call_task {x y : Int32} (hr : Rel N J P F A L) : Ans b1 nx1 b2 nx2 N J P F A L 78 [.ref 3, .int x, .int y] 130 [.ref 149, .int x, .int y] [2, 1] KI := by
  obtain ⟨nb, nm, lt, sz, op, ai, kd, mg, hP, h⟩ := hr
  obtain ⟨n, n1, n2, n3, n4, n5, n6⟩ := Rel.num h
  have fF : ∀ z q, q ≠ 0 → up1 F 0 z q = F q := fun z q hq => up1_n hq
  cases hw : wi x n with
  | false => exact ⟨N, J, P, _, A, L, Rel.F0 hP h (fF _), Or.inr ⟨0, 2, _, rfl, ⟨_, rfl⟩, kl_task_no n2 hw, cl_task_no n3 n1 n4 hw, up1_s⟩⟩
  | true =>
    obtain ⟨t, ht, rfl⟩ := (wi_z (by omega)).mp hw
    cases hy : (decide (nI 0 ≤ y) && decide (y ≤ nI 4)) with
    | false => exact ⟨N, J, P, _, A, L, Rel.F0 hP h (fF _), Or.inr ⟨1, 1, _, rfl, ⟨_, rfl⟩, kl_task_bad n2 n1 ht (in4 (by decide) hy), cl_task_bad n3 n1 n4 ht hy, up1_s⟩⟩
    | true =>
      rw [Bool.and_eq_true] at hy
      obtain ⟨w, -, w2, rfl⟩ := nI_btw (by decide) (by decide) (of_decide_eq_true hy.1) (of_decide_eq_true hy.2)
      obtain ⟨k, φ, hR⟩ := n6 (by omega)
      obtain ⟨⟨st, a1, a2, -⟩, ⟨pc, b1', b2', -⟩, c1, c2, c3, c4, -⟩ := hR.tk ht
      have q1 := kl_task (b := b1) (N := N) (J := J) (P := P) (nx := nx1) (w := w) n2 n1 ht (by omega) (fun q hq => by have := c4 q hq; omega)
      have q2 := cl_task_ok (b := b2) (F := F) (A := A) (L := L) (nx := nx2) (w := w) n3 n1 n4 ht (by omega)
      have e : (if w = 2 then oI (P 1 t) else N ([16, 17, 0, 18, 15].getD w 0) t 0) = A ([16, 17, 18, 20, 24].getD w 0) t := by
        rcases (show w = 0 ∨ w = 1 ∨ w = 2 ∨ w = 3 ∨ w = 4 by omega) with rfl | rfl | rfl | rfl | rfl
        · exact a1.trans a2.symm
        · exact c1.symm
        · exact c3.symm
        · exact c2.symm
        · exact b1'.trans b2'.symm
      rw [e] at q1
      exact ⟨N, J, P, _, A, L, Rel.F0 hP h (fF _), Or.inl ⟨_, ⟨_, rfl⟩, q1, q2, up1_s⟩⟩
theorem call_read {x y : Int32} (hr : Rel N J P F A L) : Ans b1 nx1 b2 nx2 N J P F A L 80 [.ref 3, .int x, .int y] 132 [.ref 149, .int x, .int y] [2, 1] KL := by
  obtain ⟨nb, nm, lt, sz, op, ai, kd, mg, hP, h⟩ := hr
  obtain ⟨n, n1, n2, n3, n4, n5, n6⟩ := Rel.num h
  have fF : ∀ z q, q ≠ 0 → up1 F 0 z q = F q := fun z q hq => up1_n hq
  cases hw : wi x n with
  | false => exact ⟨N, J, P, _, A, L, Rel.F0 hP h (fF _), Or.inr ⟨0, 2, _, rfl, ⟨_, rfl⟩, kl_read_no n2 hw, cl_read_no n3 n1 n4 hw, up1_s⟩⟩
  | true =>
    obtain ⟨t, ht, rfl⟩ := (wi_z (by omega)).mp hw
    obtain ⟨k, φ, hR⟩ := n6 (by omega)
    have e16 := hR.st16 ht
    by_cases h3 : N 16 t 0 = nI 3
    · exact ⟨N, J, P, _, A, L, Rel.F0 hP h (fF _), Or.inr ⟨0, 2, _, rfl, ⟨_, rfl⟩, kl_read_joined n2 n1 ht h3, cl_read_joined n3 n1 n4 ht (by rw [e16]; exact h3), up1_s⟩⟩
    · cases hy : wi y 12 with
      | false => exact ⟨N, J, P, _, A, L, Rel.F0 hP h (fF _), Or.inr ⟨1, 1, _, rfl, ⟨_, rfl⟩, kl_read_bad n2 n1 ht h3 hy, cl_read_bad n3 n1 n4 ht (by rw [e16]; exact h3) (by rw [wi_le (by omega)]; exact hy), up1_s⟩⟩
      | true =>
        obtain ⟨c, hc, rfl⟩ := (wi_z (by decide)).mp hy
        have hm := hR.m23
        obtain ⟨s, s1, s2, s3, -⟩ := hR.mem.2.2.2.2 t ht h3
        obtain ⟨l, c1, c2, c3, c4, c5⟩ := hR.mem.chain s2
        have hsm := (gC_of s2).1
        have q1 := kl_read (b := b1) (J := J) (nx := nx1) n2 n1 ht h3 hc s1 (by omega) c1 (fun x hx => by have := (c2 x hx).1; omega)
        have q2 := cl_read_ok (b := b2) (L := L) (nx := nx2) n3 n1 n4 ht (by rw [e16]; exact h3) hc (o := some (φ s)) s3 c3 c4
        rw [c5 c hc] at q2
        exact ⟨N, J, P, _, A, L, Rel.F0 hP h (fF _), Or.inl ⟨_, ⟨_, rfl⟩, q1, q2, up1_s⟩⟩
theorem call_print {x y : Int32} (hr : Rel N J P F A L) : Ans b1 nx1 b2 nx2 N J P F A L 81 [.ref 3, .int x, .int y] 133 [.ref 149, .int x, .int y] [2] KL := by
  obtain ⟨nb, nm, lt, sz, op, ai, kd, mg, hP, h⟩ := hr
  obtain ⟨n, n1, n2, n3, n4, n5, n6⟩ := Rel.num h
  have fF : ∀ z q, q ≠ 0 → up1 F 0 z q = F q := fun z q hq => up1_n hq
  cases hw : wi x n with
  | false => exact ⟨N, J, P, _, A, L, Rel.F0 hP h (fF _), Or.inr ⟨0, 2, _, rfl, ⟨_, rfl⟩, kl_print_no n2 hw, cl_print_no n3 n1 n4 hw, up1_s⟩⟩
  | true =>
    obtain ⟨t, ht, rfl⟩ := (wi_z (by omega)).mp hw
    obtain ⟨k, φ, hR⟩ := n6 (by omega)
    have e16 := hR.st16 ht
    obtain ⟨-, ⟨pc, b1', b2', b3', b4'⟩, -, -, -, -, -, -, c7⟩ := hR.tk ht
    by_cases h3 : N 16 t 0 = nI 3
    · exact ⟨N, J, P, _, A, L, Rel.F0 hP h (fF _), Or.inr ⟨0, 2, _, rfl, ⟨_, rfl⟩, kl_print_joined n2 n1 ht h3, cl_print_joined n3 n1 n4 ht (by rw [e16]; exact h3), up1_s⟩⟩
    · have h3' : A 16 t ≠ nI 3 := by rw [e16]; exact h3
      by_cases hy : y = -1
      · subst hy
        by_cases h1 : N 16 t 0 = nI 1
        · have q2 := cl_print_res (b := b2) (A := A) (L := L) (nx := nx2) n3 n1 n4 ht (by rw [e16]; exact h1)
          rw [c7] at q2
          exact ⟨N, J, P, _, A, L, Rel.F0 hP h (fF _), Or.inl ⟨_, ⟨_, rfl⟩, kl_print_res n2 n1 ht h1, q2, up1_s⟩⟩
        · have hwm : wi (-1) pc = false := by
            cases hq : wi (-1) pc with
            | false => rfl
            | true =>
              obtain ⟨z, hz, hz2⟩ := (wi_z (by omega)).mp hq
              exact absurd hz2 (fun q => (m1_nI (by omega)).mp q)
          exact ⟨N, J, P, _, A, L, Rel.F0 hP h (fF _), Or.inr ⟨0, 2, _, rfl, ⟨_, rfl⟩, kl_print_bad n2 n1 ht h3 (Or.inr h1) b1' hwm, cl_print_nores n3 n1 n4 ht (by rw [e16]; exact h1) h3', up1_s⟩⟩
      · cases hwm : wi y pc with
        | false => exact ⟨N, J, P, _, A, L, Rel.F0 hP h (fF _), Or.inr ⟨0, 2, _, rfl, ⟨_, rfl⟩, kl_print_bad n2 n1 ht h3 (Or.inl hy) b1' hwm, cl_print_bad n3 n1 n4 ht h3' hy b2' b3' hwm, up1_s⟩⟩
        | true =>
          obtain ⟨p, hp, rfl⟩ := (wi_z (by omega)).mp hwm
          have q2 := cl_print_ok (b := b2) (L := L) (nx := nx2) n3 n1 n4 ht h3' b2' b3' hp
          rw [← b4' p hp] at q2
          exact ⟨N, J, P, _, A, L, Rel.F0 hP h (fF _), Or.inl ⟨_, ⟨_, rfl⟩, kl_print n2 n1 ht h3 b1' b3' hp, q2, up1_s⟩⟩
/-- sums over one and the other side -/
theorem sum_bij {f g φ : Nat → Nat} : ∀ (l1 l2 : List Nat), l1.Nodup → l2.Nodup → (∀ x ∈ l1, φ x ∈ l2 ∧ g (φ x) = f x) → (∀ y ∈ l2, ∃ x ∈ l1, φ x = y) → (∀ x ∈ l1, ∀ x' ∈ l1, φ x = φ x' → x = x') → (l2.map g).sum = (l1.map f).sum := by
  intro l1
  induction l1 with
  | nil =>
    intro l2 _ _ _ h4 _
    cases l2 with
    | nil => rfl
    | cons y l2 =>
      obtain ⟨x, hx, -⟩ := h4 y List.mem_cons_self
      cases hx
  | cons a l1 ih =>
    intro l2 h1 h2 h3 h4 h5
    obtain ⟨a1, a2⟩ := h3 a List.mem_cons_self
    obtain ⟨n1, n2⟩ := List.nodup_cons.mp h1
    have hp := List.perm_cons_erase a1
    have hs : (l2.map g).sum = g (φ a) + ((l2.erase (φ a)).map g).sum := by
      have := (hp.map g).sum_nat
      rw [this, List.map_cons, List.sum_cons]
    rw [hs, List.map_cons, List.sum_cons, a2]
    congr 1
    refine ih (l2.erase (φ a)) n2 (h2.erase _) (fun x hx => ?_) (fun y hy => ?_) (fun x hx x' hx' => h5 x (List.mem_cons_of_mem _ hx) x' (List.mem_cons_of_mem _ hx'))
    · obtain ⟨q1, q2⟩ := h3 x (List.mem_cons_of_mem _ hx)
      refine ⟨(List.mem_erase_of_ne (fun z => ?_)).mpr q1, q2⟩
      have := h5 x (List.mem_cons_of_mem _ hx) a List.mem_cons_self z
      subst this
      exact n1 hx
    · obtain ⟨x, hx, rfl⟩ := h4 y (List.mem_of_mem_erase hy)
      rcases List.mem_cons.mp hx with rfl | hx
      · exact absurd hy h2.not_mem_erase
      · exact ⟨x, hx, rfl⟩
theorem sum_one : ∀ l : List Nat, (l.map (fun _ => 1)).sum = l.length := by
  intro l
  induction l with
  | nil => rfl
  | cons a l ih => rw [List.map_cons, List.sum_cons, ih, List.length_cons]; omega
theorem lvN_sum {m : Nat} : lvN N m = (((List.range m).filter (lvB N)).map (fun _ => 1)).sum := by
  unfold lvN
  rw [sum_one]
theorem cnU_sum {m : Nat} : cnU A m = (((List.range m).filter (usd A)).map (fun _ => 1)).sum := by
  unfold cnU
  rw [sum_one]
theorem smV_sum {w : Nat → Nat} : ∀ m : Nat, smV N w m = (((List.range m).filter (lvB N)).map (fun s => cntB (w s) 12)).sum := by
  intro m
  induction m with
  | zero => rfl
  | succ m ih =>
    rw [smV, ih, List.range_succ, List.filter_append, List.map_append, List.sum_append]
    by_cases h : lvB N m = true <;> simp [h]
theorem smW_sum {w : Nat → Nat} : ∀ m : Nat, smW A w m = (((List.range m).filter (usd A)).map (fun s => cntB (w s) 12)).sum := by
  intro m
  induction m with
  | zero => rfl
  | succ m ih =>
    rw [smW, ih, List.range_succ, List.filter_append, List.map_append, List.sum_append]
    by_cases h : usd A m = true <;> simp [h]
theorem RelM.sum {n m : Nat} {φ : Nat → Nat} (h : RelM N J P A L n m φ) {f g : Nat → Nat} (hfg : ∀ s, gC N J P m s ≠ none → g (φ s) = f s) : (((List.range 40).filter (usd A)).map g).sum = (((List.range m).filter (lvB N)).map f).sum := by
  have hl : ∀ s, s ∈ (List.range m).filter (lvB N) ↔ gC N J P m s ≠ none := by
    intro s
    rw [List.mem_filter, List.mem_range]
    constructor
    · rintro ⟨a, c⟩
      rw [gC_some a (of_decide_eq_true c)]
      simp
    · intro q
      obtain ⟨a, c⟩ := gC_of q
      exact ⟨a, decide_eq_true c⟩
  have hu : ∀ x, x ∈ (List.range 40).filter (usd A) ↔ gR A L x ≠ none := by
    intro s
    rw [List.mem_filter, List.mem_range]
    constructor
    · rintro ⟨a, c⟩
      rw [gR_some a (of_decide_eq_true c)]
      simp
    · intro q
      obtain ⟨a, c⟩ := gR_of q
      exact ⟨a, decide_eq_true c⟩
  refine sum_bij _ _ (List.Pairwise.filter _ List.nodup_range) (List.Pairwise.filter _ List.nodup_range) (fun s hs => ?_) (fun y hy => ?_) (fun x hx x' hx' => h.2.2.2.1.2.2 x x' ((hl x).mp hx) ((hl x').mp hx'))
  · have hs := (hl s).mp hs
    refine ⟨(hu _).mpr ?_, hfg s hs⟩
    obtain ⟨a, c⟩ := gC_of hs
    rw [h.2.2.2.1.1 s _ _ (gC_some a c)]
    simp
  · obtain ⟨k, hk, e⟩ := h.2.2.2.1.2.1 y ((hu y).mp hy)
    exact ⟨k, (hl k).mpr hk, e⟩
theorem call_count {x : Int32} (hr : Rel N J P F A L) : Ans b1 nx1 b2 nx2 N J P F A L 82 [.ref 3, .int x] 134 [.ref 149, .int x] [] KI := by
  obtain ⟨nb, nm, lt, sz, op, ai, kd, mg, hP, h⟩ := hr
  obtain ⟨n, n1, n2, n3, n4, n5, n6⟩ := Rel.num h
  have fF : ∀ z q, q ≠ 0 → up1 F 0 z q = F q := fun z q hq => up1_n hq
  cases hx : (decide (nI 0 ≤ x) && decide (x ≤ nI 2)) with
  | false => exact ⟨N, J, P, _, A, L, Rel.F0 hP h (fF _), Or.inl ⟨_, ⟨_, rfl⟩, kl_count_out (in4 (by decide) hx), cl_count_out hx, up1_s⟩⟩
  | true =>
    rw [Bool.and_eq_true] at hx
    obtain ⟨w, -, w2, rfl⟩ := nI_btw (by decide) (by decide) (of_decide_eq_true hx.1) (of_decide_eq_true hx.2)
    by_cases h0 : n = 0
    · subst h0
      have hi := n5 rfl
      have q2 := cl_count_idle (b := b2) (F := F) (A := A) (L := L) (nx := nx2) (w := w) (by omega) hi.2.2.1
      rcases (show w = 0 ∨ w = 1 ∨ w = 2 by omega) with rfl | rfl | rfl
      · exact ⟨N, J, P, _, A, L, Rel.F0 hP h (fF _), Or.inl ⟨_, ⟨_, rfl⟩, kl_count_0 (m := 0) hi.2.2.2.1 (by decide) (fun s hs => by omega), q2, up1_s⟩⟩
      · exact ⟨N, J, P, _, A, L, Rel.F0 hP h (fF _), Or.inl ⟨_, ⟨_, rfl⟩, kl_count_1 (m := 0) (w := fun _ => 0) hi.2.2.2.1 (by decide) (fun s hs => by omega), q2, up1_s⟩⟩
      · have q1 := kl_count_2 (b := b1) (N := N) (J := J) (P := P) (nx := nx1)
        rw [hi.2.2.2.2] at q1
        exact ⟨N, J, P, _, A, L, Rel.F0 hP h (fF _), Or.inl ⟨_, ⟨_, rfl⟩, q1, q2, up1_s⟩⟩
    · obtain ⟨k, φ, hR⟩ := n6 (by omega)
      have f9 : F 9 = nI 1 := hR.2.2.2.2.2.1
      have hM := hR.mem
      have n12 := hR.2.2.2.2.2.2.1
      rcases (show w = 0 ∨ w = 1 ∨ w = 2 by omega) with rfl | rfl | rfl
      · have q2 := cl_count_0 (b := b2) (F := F) (A := A) (L := L) (nx := nx2) f9 (fun x hx => (hM.2.1 x hx).1)
        have e : cnU A 40 = lvN N (2 * n - 1) := by
          rw [cnU_sum, lvN_sum]
          exact hM.sum (fun s _ => rfl)
        rw [e] at q2
        exact ⟨N, J, P, _, A, L, Rel.F0 hP h (fF _), Or.inl ⟨_, ⟨_, rfl⟩, kl_count_0 n12 hR.m23 hM.1, q2, up1_s⟩⟩
      · have q2 := cl_count_1 (b := b2) (F := F) (A := A) (L := L) (nx := nx2) (w := fun x => (A 31 x).toNatClampNeg) f9 (fun x hx => by
          rcases (hM.2.1 x hx).1 with q | q
          · exact Or.inl q
          · obtain ⟨⟨w, hw, hwe⟩, -⟩ := (hM.2.1 x hx).2 q
            refine Or.inr ⟨q, ?_, ?_⟩
            · rw [hwe, nI_clamp (by omega)]
            · rw [hwe, nI_clamp (by omega)]; exact hw)
        have q1 := kl_count_1 (b := b1) (J := J) (P := P) (nx := nx1) (w := fun s => (N 21 s 0).toNatClampNeg) n12 hR.m23 (fun s hs => by
          obtain ⟨c1, ⟨w, hw, hwe⟩, -⟩ := hM.1 s hs
          refine ⟨c1, ?_, ?_⟩
          · rw [hwe, nI_clamp (by omega)]
          · rw [hwe, nI_clamp (by omega)]; exact hw)
        have e : smW A (fun x => (A 31 x).toNatClampNeg) 40 = smV N (fun s => (N 21 s 0).toNatClampNeg) (2 * n - 1) := by
          rw [smW_sum, smV_sum]
          refine hM.sum (fun s hs => ?_)
          obtain ⟨q1, q2⟩ := gC_of hs
          have q3 := hM.lt40 hs
          obtain ⟨-, ⟨w, hw, hwe⟩, -⟩ := hM.1 s q1
          obtain ⟨⟨w', hw', hwe'⟩, -⟩ := (hM.2.1 (φ s) q3.1).2 q3.2
          have e1 := hM.2.2.2.1.1 s _ _ (gC_some q1 q2)
          rw [gR_some q3.1 q3.2] at e1
          have e2 := (Prod.mk.inj (Option.some.inj e1)).1
          rw [hwe, hwe'] at e2
          have e3 := (cw_inj e2 hw' hw).1
          rw [hwe, hwe', nI_clamp (by omega), nI_clamp (by omega), e3]
        rw [e] at q2
        exact ⟨N, J, P, _, A, L, Rel.F0 hP h (fF _), Or.inl ⟨_, ⟨_, rfl⟩, q1, q2, up1_s⟩⟩
      · obtain ⟨br, r1, r2⟩ := hR.2.2.2.2.2.2.2.2.2.2.1
        have q1 := kl_count_2 (b := b1) (N := N) (J := J) (P := P) (nx := nx1)
        have q2 := cl_count_2 (b := b2) (A := A) (L := L) (nx := nx2) f9
        rw [r1] at q1
        rw [r2] at q2
        exact ⟨N, J, P, _, A, L, Rel.F0 hP h (fF _), Or.inl ⟨_, ⟨_, rfl⟩, q1, q2, up1_s⟩⟩
end RM
