/-! codes without a fault; merges end -/
section RA
variable {op : Nat → Nat} {ai : Nat → Int32} {n nb : Nat}
def GdC (m : Bool) (op : Nat → Nat) (ai : Nat → Int32) (n nb : Nat) : Prop := n ≤ 24 ∧ (∀ p, p < n → op p < 19) ∧ (∀ q, q < n → okA m (op q) (ai q) q n nb = true) ∧ 0 < n ∧ ¬ (op (n - 1) ≠ 16 ∧ (m = true ∨ op (n - 1) ≠ 11)) ∧ ∀ k, k < n → ¬ Flt op (fun k => (ai k).toNatClampNeg) k
theorem GdC.wf {m : Bool} (h : GdC m op ai n nb) : wfC op (fun k => (ai k).toNatClampNeg) n ∧ ∀ p, p < n → (op p = 11 ∨ op p = 12) → ai p = nI ((ai p).toNatClampNeg) := wf_of h.1 h.2.1 h.2.2.1 h.2.2.2.1 h.2.2.2.2.1
theorem GdC.at {m : Bool} (h : GdC m op ai n nb) {p d : Nat} (hr : Rch op (fun k => (ai k).toNatClampNeg) p d) : p < n ∧ tkN (op p) ≤ d ∧ d ≤ 6 := by
  have h1 := (Rch.bound h.wf.1 hr).1
  have h2 := h.2.2.2.2.2 p h1
  refine ⟨h1, ?_, ?_⟩
  · apply Classical.byContradiction
    intro hc
    exact h2 (Or.inl ⟨d, hr, Or.inl (by omega)⟩)
  · apply Classical.byContradiction
    intro hc
    exact h2 (Or.inl ⟨d, hr, Or.inr (by omega)⟩)
/-- on to the next instruction -/
theorem GdC.on {m : Bool} (h : GdC m op ai n nb) {p d : Nat} (hr : Rch op (fun k => (ai k).toNatClampNeg) p d) (h16 : op p ≠ 16) (h11 : op p ≠ 11) : Rch op (fun k => (ai k).toNatClampNeg) (p + 1) (d - tkN (op p) + puN (op p)) := by
  obtain ⟨h1, h2, h3⟩ := h.at hr
  exact hr.step ⟨h2, h3, h16, rfl, Or.inl ⟨h11, rfl⟩⟩
/-- a jump -/
theorem GdC.to {m : Bool} (h : GdC m op ai n nb) {p d : Nat} (hr : Rch op (fun k => (ai k).toNatClampNeg) p d) (hj : op p = 11 ∨ op p = 12) : Rch op (fun k => (ai k).toNatClampNeg) ((ai p).toNatClampNeg) (d - tkN (op p) + puN (op p)) := by
  obtain ⟨h1, h2, h3⟩ := h.at hr
  exact hr.step ⟨h2, h3, by omega, rfl, Or.inr ⟨hj, rfl⟩⟩
theorem okA_m {o : Nat} {a : Int32} {k n nb : Nat} (h : okA true o a k n nb = true) (ho : o < 19) : o = 0 ∨ o = 1 ∨ (5 ≤ o ∧ o ≤ 10) ∨ o = 12 ∨ o = 16 ∨ o = 17 ∨ o = 18 := by
  rcases (show o = 0 ∨ o = 1 ∨ o = 2 ∨ o = 3 ∨ o = 4 ∨ o = 5 ∨ o = 6 ∨ o = 7 ∨ o = 8 ∨ o = 9 ∨ o = 10 ∨ o = 11 ∨ o = 12 ∨ o = 13 ∨ o = 14 ∨ o = 15 ∨ o = 16 ∨ o = 17 ∨ o = 18 by omega) with rfl | rfl | rfl | rfl | rfl | rfl | rfl | rfl | rfl | rfl | rfl | rfl | rfl | rfl | rfl | rfl | rfl | rfl | rfl <;> simp [okA] at h ⊢
theorem okA_load {m : Bool} {a : Int32} {k n nb : Nat} (h : okA m 1 a k n nb = true) : ∃ x, x < (if m then 3 else 4) ∧ a = nI x := by
  have h : wi a (if m then 3 else 4) = true := h
  exact (wi_z (by cases m <;> decide)).mp h
theorem okA_cell {m : Bool} {o : Nat} {a : Int32} {k n nb : Nat} (ho : o = 3 ∨ o = 4) (h : okA m o a k n nb = true) : ∃ x, x < 12 ∧ a = nI x := by
  have h : (!m && wi a 12) = true := by rcases ho with rfl | rfl <;> exact h
  rw [Bool.and_eq_true] at h
  exact (wi_z (by decide)).mp h.2
theorem okA_store {m : Bool} {a : Int32} {k n nb : Nat} (h : okA m 2 a k n nb = true) : ∃ x, x < 4 ∧ a = nI x := by
  have h : (!m && wi a 4) = true := h
  rw [Bool.and_eq_true] at h
  exact (wi_z (by decide)).mp h.2
theorem okA_fork {m : Bool} {a : Int32} {k n nb : Nat} (hnb : nb ≤ 6) (h : okA m 13 a k n nb = true) : ∃ x, x < nb ∧ a = nI x := by
  have h : (!m && wi a nb) = true := h
  rw [Bool.and_eq_true] at h
  exact (wi_z (by omega)).mp h.2
theorem okA_zero {a : Int32} {k n nb : Nat} (hn : n ≤ 24) (hk : k < n) (h : okA true 12 a k n nb = true) : ∃ x, k < x ∧ x < n ∧ a = nI x := by
  have h : (wi a n && (!true || decide (nI k < a))) = true := h
  rw [Bool.and_eq_true] at h
  obtain ⟨h1, h2⟩ := h
  obtain ⟨x, hx, rfl⟩ := (wi_z (by omega)).mp h1
  refine ⟨x, ?_, hx, rfl⟩
  simp only [Bool.not_true, Bool.false_or, decide_eq_true_eq] at h2
  exact (nI_ltI (by omega) (by omega)).mp h2
theorem GdC.fwd {N : cN} {j : Nat} (h : GdC true op ai n nb) (hN : ∀ p, p < n → N 3 j p = nI (op p) ∧ N 4 j p = ai p) : fwd N j n := by
  intro p hp
  obtain ⟨e1, e2⟩ := hN p hp
  obtain ⟨o1, o2, o3⟩ := h.wf.1.2.2 p hp
  have hok := h.2.2.1 p hp
  have h31 : op p < 2 ^ 31 := by omega
  rw [e1, e2]
  refine ⟨fun q => ?_, fun q => ?_, fun q => ?_⟩
  · have h16 : op p ≠ 16 := fun z => q (by rw [z])
    refine o3 h16 ?_
    intro h11
    rw [h11] at hok
    simp [okA] at hok
  · have h12 : op p = 12 := (nI_eq h31 (by decide)).mp q
    rw [h12] at hok
    obtain ⟨x, x1, x2, x3⟩ := okA_zero h.1 hp hok
    exact ⟨x, x3, x1, x2⟩
  · have h1 : op p = 1 := (nI_eq h31 (by decide)).mp q
    rw [h1] at hok
    obtain ⟨x, x1, x2⟩ := okA_load hok
    exact ⟨x, x1, x2⟩
set_option maxHeartbeats 4000000 in
theorem mrn_ok (h : GdC true op ai n nb) {x y z : Int64} : ∀ (fuel p : Nat) (ls : List Int64), n - p ≤ fuel → Rch op (fun k => (ai k).toNatClampNeg) p ls.length → ∃ v, ∀ (f g : Nat → Int32), (∀ p, p < n → f p = nI (op p) ∧ g p = ai p) → mrn f g x y z fuel p ls = some v := by
  intro fuel
  induction fuel with
  | zero =>
    intro p ls hf hr
    have := (h.at hr).1
    omega
  | succ fuel ih =>
    intro p ls hf hr
    obtain ⟨h1, h2, h3⟩ := h.at hr
    have hn := h.1
    have ho := h.2.1 p h1
    have hok := h.2.2.1 p h1
    have hg : p < 24 ∧ ls.length ≤ 6 := ⟨by omega, h3⟩
    have on := fun a b => h.on hr a b
    have to := fun a => h.to hr a
    rcases okA_m hok ho with e | e | ⟨e, e'⟩ | e | e | e | e
    · have on := on (by omega) (by omega)
      rw [e] at on h2
      obtain ⟨v, hv⟩ := ih (p + 1) ((ai p).toInt64 :: ls) (by omega) (by rw [List.length_cons]; exact on)
      refine ⟨v, fun f g hfg => ?_⟩
      obtain ⟨q1, q2⟩ := hfg p h1
      rw [e] at q1
      unfold mrn
      rw [if_pos hg, q1, if_neg (by decide), if_pos rfl, q2]
      exact hv f g hfg
    · have on := on (by omega) (by omega)
      rw [e] at on h2
      obtain ⟨v, hv⟩ := ih (p + 1) ((if ai p = nI 0 then x else if ai p = nI 1 then y else z) :: ls) (by omega) (by rw [List.length_cons]; exact on)
      refine ⟨v, fun f g hfg => ?_⟩
      obtain ⟨q1, q2⟩ := hfg p h1
      rw [e] at q1
      unfold mrn
      rw [if_pos hg, q1, if_neg (by decide), if_neg (by decide), if_pos rfl, q2]
      exact hv f g hfg
    · have on := on (by omega) (by omega)
      have ht : tkN (op p) = 2 ∧ puN (op p) = 1 := by
        rcases (show op p = 5 ∨ op p = 6 ∨ op p = 7 ∨ op p = 8 ∨ op p = 9 ∨ op p = 10 by omega) with q | q | q | q | q | q <;> rw [q] <;> decide
      rw [ht.1, ht.2] at on
      rw [ht.1] at h2
      match ls, h2, on, hg with
      | v1 :: v2 :: l, h2, on, hg =>
        simp only [List.length_cons] at on
        obtain ⟨v, hv⟩ := ih (p + 1) (rk (op p) v2 v1 :: l) (by omega) (by rw [List.length_cons]; exact on)
        refine ⟨v, fun f g hfg => ?_⟩
        obtain ⟨q1, q2⟩ := hfg p h1
        have n16 : ¬ nI (op p) = nI 16 := fun q => by have := (nI_eq (by omega) (by decide)).mp q; omega
        have n0 : ¬ nI (op p) = nI 0 := fun q => by have := (nI_eq (by omega) (by decide)).mp q; omega
        have n1 : ¬ nI (op p) = nI 1 := fun q => by have := (nI_eq (by omega) (by decide)).mp q; omega
        unfold mrn
        rw [if_pos hg, q1, if_neg n16, if_neg n0, if_neg n1, if_pos ⟨(nI_leI (by omega) (by omega)).mpr e, (nI_leI (by omega) (by omega)).mpr e'⟩, nI_clamp (by omega)]
        exact hv f g hfg
      | [v1], h2, on, hg => simp at h2
      | [], h2, on, hg => simp at h2
    · obtain ⟨a, a1, a2, a3⟩ := okA_zero hn h1 (by rw [e] at hok; exact hok)
      have on := on (by omega) (by omega)
      have to := to (Or.inr e)
      rw [e] at on to h2
      match ls, h2, on, to, hg with
      | v1 :: l, h2, on, to, hg =>
        have hcl : (ai p).toNatClampNeg = a := by rw [a3]; exact nI_clamp (by omega)
        rw [hcl] at to
        by_cases hz : v1 = 0
        · obtain ⟨v, hv⟩ := ih a l (by omega) to
          refine ⟨v, fun f g hfg => ?_⟩
          obtain ⟨q1, q2⟩ := hfg p h1
          rw [e] at q1
          unfold mrn
          rw [if_pos hg, q1, if_neg (by decide), if_neg (by decide), if_neg (by decide), if_neg (by decide), if_neg (by decide), if_neg (by decide), if_pos rfl]
          simp only [q2]
          rw [hcl, if_pos a3, if_pos hz]
          exact hv f g hfg
        · obtain ⟨v, hv⟩ := ih (p + 1) l (by omega) on
          refine ⟨v, fun f g hfg => ?_⟩
          obtain ⟨q1, q2⟩ := hfg p h1
          rw [e] at q1
          unfold mrn
          rw [if_pos hg, q1, if_neg (by decide), if_neg (by decide), if_neg (by decide), if_neg (by decide), if_neg (by decide), if_neg (by decide), if_pos rfl]
          simp only [q2]
          rw [hcl, if_pos a3, if_neg hz]
          exact hv f g hfg
      | [], h2, on, to, hg => simp [tkN] at h2
    · rw [e] at h2
      match ls, h2, hg with
      | v1 :: l, h2, hg =>
        refine ⟨v1, fun f g hfg => ?_⟩
        obtain ⟨q1, q2⟩ := hfg p h1
        rw [e] at q1
        unfold mrn
        rw [if_pos hg, q1, if_pos rfl]
        rfl
      | [], h2, hg => simp [tkN] at h2
    · have on := on (by omega) (by omega)
      rw [e] at on h2
      match ls, h2, on, hg with
      | v1 :: l, h2, on, hg =>
        obtain ⟨v, hv⟩ := ih (p + 1) (v1 :: v1 :: l) (by omega) on
        refine ⟨v, fun f g hfg => ?_⟩
        obtain ⟨q1, q2⟩ := hfg p h1
        rw [e] at q1
        unfold mrn
        rw [if_pos hg, q1, if_neg (by decide), if_neg (by decide), if_neg (by decide), if_neg (by decide), if_pos rfl]
        exact hv f g hfg
      | [], h2, on, hg => simp [tkN] at h2
    · have on := on (by omega) (by omega)
      rw [e] at on h2
      match ls, h2, on, hg with
      | v1 :: l, h2, on, hg =>
        obtain ⟨v, hv⟩ := ih (p + 1) l (by omega) on
        refine ⟨v, fun f g hfg => ?_⟩
        obtain ⟨q1, q2⟩ := hfg p h1
        rw [e] at q1
        unfold mrn
        rw [if_pos hg, q1, if_neg (by decide), if_neg (by decide), if_neg (by decide), if_neg (by decide), if_neg (by decide), if_pos rfl]
        exact hv f g hfg
      | [], h2, on, hg => simp [tkN] at h2
/-- a fault's place -/
theorem FoR.lt {m : Bool} {k : Nat} (hn : n ≤ 24) (h : FoR m op ai n nb (some k)) : k < 25 := by
  rcases h with ⟨x, e, hx, -⟩ | ⟨-, ⟨hz, e⟩ | ⟨hz, -, e⟩ | ⟨hz, -, hl⟩⟩
  · cases e; omega
  · cases e; omega
  · cases e; omega
  · rcases hl with ⟨x, e, hx, -⟩ | ⟨e, -⟩
    · cases e; omega
    · cases e
theorem FoR.good {m : Bool} (hn : n ≤ 24) (ho : ∀ p, p < n → op p < 19) (h : FoR m op ai n nb none) : GdC m op ai n nb := by
  rcases h with ⟨x, e, -⟩ | ⟨h1, ⟨hz, e⟩ | ⟨hz, -, e⟩ | ⟨hz, h2, hl⟩⟩
  · cases e
  · cases e
  · cases e
  · refine ⟨hn, ho, h1, hz, h2, ?_⟩
    rcases hl with ⟨x, e, -⟩ | ⟨-, hl⟩
    · cases e
    · exact hl
/-- the first fault is none or a place -/
theorem pf_or {fo : Nat → Option Nat} {nm : Nat} : ∀ (l : List Nat), (∀ c ∈ l, c < 8 ∧ ∀ k, fo c = some k → k < 25) → (pfF fo nb nm l = -1 ∧ ∀ c ∈ l, vld nb nm c = true → fo c = none) ∨ ∃ k, k < 2 ^ 31 ∧ pfF fo nb nm l = nI k := by
  intro l
  induction l with
  | nil => intro _; exact Or.inl ⟨rfl, fun c hc => by cases hc⟩
  | cons c l ih =>
    intro h
    obtain ⟨h1, h2⟩ := h c List.mem_cons_self
    have ih := ih (fun x hx => h x (List.mem_cons_of_mem _ hx))
    unfold pfF
    cases hv : vld nb nm c with
    | false =>
      rw [if_neg (by simp)]
      rcases ih with ⟨i1, i2⟩ | i
      · refine Or.inl ⟨i1, fun x hx hq => ?_⟩
        rcases List.mem_cons.mp hx with rfl | hx
        · rw [hv] at hq; cases hq
        · exact i2 x hx hq
      · exact Or.inr i
    | true =>
      rw [if_pos rfl]
      cases hfo : fo c with
      | some k =>
        have := h2 k hfo
        refine Or.inr ?_
        unfold vlc
        simp only
        by_cases h6 : c < 6
        · rw [if_pos h6]; exact ⟨_, by omega, rfl⟩
        · rw [if_neg h6]; exact ⟨_, by omega, rfl⟩
      | none =>
        simp only
        rcases ih with ⟨i1, i2⟩ | i
        · refine Or.inl ⟨i1, fun x hx hq => ?_⟩
          rcases List.mem_cons.mp hx with rfl | hx
          · exact hfo
          · exact i2 x hx hq
        · exact Or.inr i
end RA
