/-! forests: writing, opening, ways down, reading -/
section RB
/-- write f at s -/
def wrF (s : Nat) (f : Nat → Option Int64) (g : FG) : FG := fun k => if k = s then (g s).map (fun q => (ovr f q.1, q.2)) else g k
/-- open k on s -/
def adF (k s : Nat) (g : FG) : FG := fun j => if j = k then some (fun _ => none, some s) else g j
theorem wrF_ne {s k : Nat} {f : Nat → Option Int64} {g : FG} : wrF s f g k ≠ none ↔ g k ≠ none := by
  unfold wrF
  by_cases h : k = s
  · subst h
    rw [if_pos rfl]
    cases g k <;> simp
  · rw [if_neg h]
theorem wrF_some {s k : Nat} {f : Nat → Option Int64} {g : FG} {q : (Nat → Option Int64) × Option Nat} (h : wrF s f g k = some q) : ∃ w, g k = some (w, q.2) ∧ q.1 = (if k = s then ovr f w else w) := by
  unfold wrF at h
  by_cases hk : k = s
  · subst hk
    rw [if_pos rfl] at h
    obtain ⟨⟨w, o⟩, h1, h2⟩ := Option.map_eq_some_iff.mp h
    subst h2
    exact ⟨w, h1, by rw [if_pos rfl]⟩
  · rw [if_neg hk] at h
    exact ⟨q.1, h, by rw [if_neg hk]⟩
theorem Cld.set {s : Nat} {f : Nat → Option Int64} {g : FG} (h : Cld g) : Cld (wrF s f g) := by
  intro k w t hk
  obtain ⟨w', h1, -⟩ := wrF_some hk
  exact wrF_ne.mpr (h _ _ _ h1)
theorem Iso.set {φ : Nat → Nat} {g h : FG} (hi : Iso φ g h) {s : Nat} (hs : g s ≠ none) (f : Nat → Option Int64) : Iso φ (wrF s f g) (wrF (φ s) f h) := by
  obtain ⟨h1, h2, h3⟩ := hi
  refine ⟨?_, ?_, fun k k' a b => h3 k k' (wrF_ne.mp a) (wrF_ne.mp b)⟩
  · intro k w o hk
    obtain ⟨w', e1, e2⟩ := wrF_some hk
    have e3 := h1 _ _ _ e1
    unfold wrF
    by_cases hks : k = s
    · subst hks
      rw [if_pos rfl] at e2 ⊢
      rw [e3, Option.map_some]
      simp only at e2
      rw [e2]
    · have hne : φ k ≠ φ s := fun q => hks (h3 k s (by rw [e1]; simp) hs q)
      rw [if_neg hks] at e2
      rw [if_neg hne, e3]
      simp only at e2
      rw [e2]
  · intro x hx
    obtain ⟨k, hk, rfl⟩ := h2 x (wrF_ne.mp hx)
    exact ⟨k, wrF_ne.mpr hk, rfl⟩
theorem adF_s {k s : Nat} {g : FG} : adF k s g k = some (fun _ => none, some s) := if_pos rfl
theorem adF_n {k s j : Nat} {g : FG} (h : j ≠ k) : adF k s g j = g j := if_neg h
theorem Cld.add {k s : Nat} {g : FG} (h : Cld g) (hs : g s ≠ none) (hk : g k = none) : Cld (adF k s g) := by
  intro j w t hj
  have hsk : s ≠ k := fun q => hs (by rw [q]; exact hk)
  by_cases e : j = k
  · subst e
    rw [adF_s] at hj
    cases hj
    rw [adF_n hsk]
    exact hs
  · rw [adF_n e] at hj
    have := h _ _ _ hj
    have htk : t ≠ k := fun q => this (by rw [q]; exact hk)
    rw [adF_n htk]
    exact this
theorem Iso.add {φ : Nat → Nat} {g h : FG} (hi : Iso φ g h) {s k x : Nat} (hs : g s ≠ none) (hk : g k = none) (hx : h x = none) (hc : Cld g) : Iso (fun j => if j = k then x else φ j) (adF k s g) (adF x (φ s) h) := by
  obtain ⟨h1, h2, h3⟩ := hi
  have hsk : s ≠ k := fun q => hs (by rw [q]; exact hk)
  have lv : ∀ j, g j ≠ none → φ j ≠ x := by
    intro j hj q
    obtain ⟨⟨w, o⟩, hj'⟩ := Option.ne_none_iff_exists'.mp hj
    have := h1 _ _ _ hj'
    rw [q, hx] at this
    cases this
  refine ⟨?_, ?_, ?_⟩
  · intro j w o hj
    by_cases e : j = k
    · subst e
      rw [adF_s] at hj
      cases hj
      simp only [if_true, Option.map_some, if_neg hsk]
      exact adF_s
    · rw [adF_n e] at hj
      have e1 := h1 _ _ _ hj
      simp only [if_neg e]
      rw [adF_n (lv j (by rw [hj]; simp)), e1]
      cases o with
      | none => rfl
      | some t =>
        have ht := hc _ _ _ hj
        have htk : t ≠ k := fun q => ht (by rw [q]; exact hk)
        simp only [Option.map_some, if_neg htk]
  · intro y hy
    by_cases e : y = x
    · subst e
      exact ⟨k, by rw [adF_s]; simp, by simp⟩
    · rw [adF_n e] at hy
      obtain ⟨j, hj, rfl⟩ := h2 y hy
      have hjk : j ≠ k := fun q => hj (by rw [q]; exact hk)
      exact ⟨j, by rw [adF_n hjk]; exact hj, by simp only [if_neg hjk]⟩
  · intro j j' hj hj' e
    by_cases a : j = k
    · by_cases b : j' = k
      · omega
      · rw [adF_n b] at hj'
        simp only [if_pos a, if_neg b] at e
        exact absurd e.symm (lv j' hj')
    · rw [adF_n a] at hj
      by_cases b : j' = k
      · simp only [if_neg a, if_pos b] at e
        exact absurd e (lv j hj)
      · rw [adF_n b] at hj'
        simp only [if_neg a, if_neg b] at e
        exact h3 j j' hj hj' e
/-- a way down from a to e -/
def pg (g : FG) : Nat → List Nat → Nat → Prop
  | a, [], e => a = e
  | a, s :: l, e => a = s ∧ a ≠ e ∧ ∃ w t, g a = some (w, some t) ∧ pg g t l e
/-- all the way down from o -/
def cg (g : FG) : Option Nat → List Nat → Prop
  | o, [] => o = none
  | o, s :: l => o = some s ∧ ∃ w t, g s = some (w, t) ∧ cg g t l
theorem cg_ex {g : FG} (ha : Ak g) (hc : Cld g) : ∀ (N s : Nat), s < N → g s ≠ none → ∃ l, cg g (some s) l := by
  intro N
  induction N with
  | zero => intro s h; omega
  | succ N ih =>
    intro s hs hg
    obtain ⟨⟨w, o⟩, hg'⟩ := Option.ne_none_iff_exists'.mp hg
    cases o with
    | none => exact ⟨[s], rfl, w, none, hg', rfl⟩
    | some t =>
      have := ha _ _ _ hg'
      obtain ⟨l, hl⟩ := ih t (by omega) (hc _ _ _ hg')
      exact ⟨s :: l, rfl, w, some t, hg', hl⟩
theorem cg_live {g : FG} : ∀ (l : List Nat) (o : Option Nat), cg g o l → ∀ x ∈ l, g x ≠ none := by
  intro l
  induction l with
  | nil => intro o _ x hx; cases hx
  | cons s l ih =>
    intro o h x hx
    obtain ⟨rfl, w, t, h1, h2⟩ := h
    rcases List.mem_cons.mp hx with rfl | hx
    · rw [h1]; simp
    · exact ih t h2 x hx
theorem cg_map {φ : Nat → Nat} {g h : FG} (hi : Iso φ g h) : ∀ (l : List Nat) (o : Option Nat), cg g o l → cg h (o.map φ) (l.map φ) := by
  intro l
  induction l with
  | nil => intro o ho; have ho : o = none := ho; subst ho; rfl
  | cons s l ih =>
    intro o ho
    obtain ⟨rfl, w, t, h1, h2⟩ := ho
    exact ⟨rfl, w, t.map φ, hi.1 _ _ _ h1, ih t h2⟩
theorem cg_chn {g : FG} {B : Nat → Option Nat} (hB : ∀ x w t, g x = some (w, t) → B x = t) : ∀ (l : List Nat) (o : Option Nat), cg g o l → chn B o l := by
  intro l
  induction l with
  | nil => intro o ho; exact ho
  | cons s l ih =>
    intro o ho
    obtain ⟨rfl, w, t, h1, h2⟩ := ho
    refine ⟨rfl, ?_⟩
    rw [hB _ _ _ h1]
    exact ih t h2
/-- what a walk down finds -/
def rg (g : FG) (c : Nat) : List Nat → Int64
  | [] => 0
  | s :: l => match (g s).bind (fun q => q.1 c) with
    | some v => v
    | none => rg g c l
theorem rg_map {φ : Nat → Nat} {g h : FG} (hi : Iso φ g h) {c : Nat} : ∀ (l : List Nat), (∀ x ∈ l, g x ≠ none) → rg h c (l.map φ) = rg g c l := by
  intro l
  induction l with
  | nil => intro _; rfl
  | cons s l ih =>
    intro hl
    obtain ⟨⟨w, o⟩, hs⟩ := Option.ne_none_iff_exists'.mp (hl s List.mem_cons_self)
    rw [List.map_cons]
    unfold rg
    rw [hi.1 _ _ _ hs, hs, ih (fun x hx => hl x (List.mem_cons_of_mem _ hx))]
    rfl
theorem rg_C {N : cN} {J : cJ} {P : cP} {m c : Nat} (hc : c < 12) : ∀ (l : List Nat), (∀ x ∈ l, gC N J P m x ≠ none) → rdC N J c l = rg (gC N J P m) c l := by
  intro l
  induction l with
  | nil => intro _; rfl
  | cons s l ih =>
    intro hl
    obtain ⟨h1, h2⟩ := gC_of (hl s List.mem_cons_self)
    unfold rdC rg
    rw [gC_some h1 h2, ih (fun x hx => hl x (List.mem_cons_of_mem _ hx))]
    simp only [Option.bind_some, cw, hc, true_and]
    by_cases hb : bt (N 21 s 0) c = true
    · simp [hb]
    · simp [hb]
theorem rg_R {A : Nat → Nat → Int32} {L : Nat → Nat → Int64} {c : Nat} (hc : c < 12) : ∀ (l : List Nat), (∀ x ∈ l, gR A L x ≠ none) → rdL (A 31) (L 32) c l = rg (gR A L) c l := by
  intro l
  induction l with
  | nil => intro _; rfl
  | cons s l ih =>
    intro hl
    obtain ⟨h1, h2⟩ := gR_of (hl s List.mem_cons_self)
    unfold rdL rg
    rw [gR_some h1 h2, ih (fun x hx => hl x (List.mem_cons_of_mem _ hx))]
    simp only [Option.bind_some, cw, hc, true_and]
    by_cases hb : bt (A 31 s) c = true
    · simp [hb]
    · simp [hb]
theorem pg_live {g : FG} : ∀ (l : List Nat) (a e : Nat), pg g a l e → ∀ x ∈ l, g x ≠ none := by
  intro l
  induction l with
  | nil => intro a e _ x hx; cases hx
  | cons s l ih =>
    intro a e h x hx
    obtain ⟨rfl, -, w, t, h1, h2⟩ := h
    rcases List.mem_cons.mp hx with rfl | hx
    · rw [h1]; simp
    · exact ih t e h2 x hx
theorem pg_map {φ : Nat → Nat} {g h : FG} (hi : Iso φ g h) {e : Nat} (he : g e ≠ none) : ∀ (l : List Nat) (a : Nat), pg g a l e → pg h (φ a) (l.map φ) (φ e) := by
  intro l
  induction l with
  | nil => intro a ha; have ha : a = e := ha; subst ha; rfl
  | cons s l ih =>
    intro a h
    obtain ⟨rfl, h0, w, t, h1, h2⟩ := h
    exact ⟨rfl, fun q => h0 (hi.2.2 a e (by rw [h1]; simp) he q), w, φ t, hi.1 _ _ _ h1, ih t h2⟩
theorem pg_pth {g : FG} {B : Nat → Option Nat} (hB : ∀ x w t, g x = some (w, t) → B x = t) {e : Nat} : ∀ (l : List Nat) (a : Nat), pg g a l e → pth B (some a) l (some e) := by
  intro l
  induction l with
  | nil => intro a ha; have ha : a = e := ha; subst ha; rfl
  | cons s l ih =>
    intro a h
    obtain ⟨rfl, h0, w, t, h1, h2⟩ := h
    refine ⟨rfl, fun q => h0 (Option.some.inj q), ?_⟩
    rw [hB _ _ _ h1]
    exact ih t h2
theorem pg_set {g : FG} {s : Nat} {f : Nat → Option Int64} {e : Nat} : ∀ (l : List Nat) (a : Nat), pg g a l e → pg (wrF s f g) a l e := by
  intro l
  induction l with
  | nil => intro a ha; exact ha
  | cons x l ih =>
    intro a h
    obtain ⟨rfl, h0, w, t, h1, h2⟩ := h
    refine ⟨rfl, h0, ?_⟩
    by_cases hs : a = s
    · subst hs
      exact ⟨ovr f w, t, by unfold wrF; rw [if_pos rfl, h1]; rfl, ih t h2⟩
    · exact ⟨w, t, by unfold wrF; rw [if_neg hs]; exact h1, ih t h2⟩
theorem pg_add {g : FG} {k s : Nat} (hk : g k = none) {e : Nat} : ∀ (l : List Nat) (a : Nat), pg g a l e → pg (adF k s g) a l e := by
  intro l
  induction l with
  | nil => intro a ha; exact ha
  | cons x l ih =>
    intro a h
    obtain ⟨rfl, h0, w, t, h1, h2⟩ := h
    refine ⟨rfl, h0, w, t, ?_, ih t h2⟩
    rw [adF_n (fun q => by rw [q, hk] at h1; cases h1)]
    exact h1
/-- a thing goes that is neither end -/
theorem pg_rem {g : FG} (ha : Ak g) {s : Nat} (hs : g s ≠ none) {e : Nat} (he : e ≠ s) : ∀ (N : Nat) (l : List Nat) (a : Nat), l.length ≤ N → a ≠ s → pg g a l e → ∃ l', pg (rmF s g) a l' e := by
  obtain ⟨⟨ws, bs⟩, hs'⟩ := Option.ne_none_iff_exists'.mp hs
  intro N
  induction N with
  | zero =>
    intro l a hl _ h
    match l, hl, h with
    | [], _, h => exact ⟨[], h⟩
    | x :: l, hl, _ => simp at hl
  | succ N ih =>
    intro l a hl has h
    match l, hl, h with
    | [], _, h => exact ⟨[], h⟩
    | x :: l, hl, h =>
      obtain ⟨rfl, h0, w, t, h1, h2⟩ := h
      simp only [List.length_cons] at hl
      by_cases hts : t = s
      · subst hts
        match l, hl, h2 with
        | [], _, h2 => exact absurd h2.symm he
        | y :: l, hl, h2 =>
          obtain ⟨rfl, h3, w', t', h4, h5⟩ := h2
          simp only [List.length_cons] at hl
          have hlt := ha _ _ _ h4
          rw [hs'] at h4
          cases h4
          obtain ⟨l', hl'⟩ := ih l t' (by omega) (by omega) h5
          refine ⟨a :: l', rfl, h0, ovr w ws, t', ?_, hl'⟩
          rw [rem_at hs', if_neg has, h1, Option.map_some, if_pos rfl]
      · obtain ⟨l', hl'⟩ := ih l t (by omega) hts h2
        refine ⟨a :: l', rfl, h0, w, t, ?_, hl'⟩
        rw [rem_at hs', if_neg has, h1, Option.map_some, if_neg (by simp [hts])]
theorem Rd_live {need : Nat → Prop} {k : Nat} (hk : need k) : ∀ (l : List Nat) (g h : FG), Rd need g l h → g k ≠ none → h k ≠ none := by
  intro l
  induction l with
  | nil => intro g h h1 h2; have h1 : g = h := h1; subst h1; exact h2
  | cons x l ih =>
    intro g h h1 h2
    refine ih _ _ h1.2 (rem_live h1.1.1 (fun q => h1.1.2.1 (by rw [← q]; exact hk)) h2)
theorem Rd_pg {need : Nat → Prop} {a e : Nat} (ha : need a) (he : need e) : ∀ (l : List Nat) (g h : FG), Ak g → Rd need g l h → (∃ q, pg g a q e) → ∃ q, pg h a q e := by
  intro l
  induction l with
  | nil => intro g h _ h1 h2; have h1 : g = h := h1; subst h1; exact h2
  | cons x l ih =>
    intro g h hk h1 h2
    obtain ⟨q, hq⟩ := h2
    have n1 : a ≠ x := fun z => h1.1.2.1 (by rw [← z]; exact ha)
    have n2 : e ≠ x := fun z => h1.1.2.1 (by rw [← z]; exact he)
    exact ih _ _ (hk.rem h1.1.1) h1.2 (pg_rem hk h1.1.1 n2 q.length q a (Nat.le_refl _) n1 hq)
theorem Rd_Cld {need : Nat → Prop} : ∀ (l : List Nat) (g h : FG), Ak g → Cld g → Rd need g l h → Cld h := by
  intro l
  induction l with
  | nil => intro g h _ h1 h2; have h2 : g = h := h2; subst h2; exact h1
  | cons x l ih => intro g h h1 h2 h3; exact ih _ _ (h1.rem h3.1.1) (h2.rem h1 h3.1.1) h3.2
/-- both lay together: the same forest again -/
theorem Iso.tidy {φ : Nat → Nat} {g g' h h' : FG} {need need' : Nat → Prop} (hi : Iso φ g h) (hc : Cld g) (ha : Ak g) (hn : ∀ k, g k ≠ none → (need k ↔ need' (φ k))) {l l' : List Nat} (r1 : Rd need g l g') (n1 : Nrm need g') (r2 : Rd need' h l' h') (n2 : Nrm need' h') : Iso φ g' h' := by
  obtain ⟨l2, g2, a1, a2, a3, a4, a5⟩ := Iso.lift l' g h hi hc ha hn r2
  have n3 : Nrm need g2 := a2.nrm a3 (fun k hk => hn k (a5 k hk)) n2
  have := Rd_one n1 n3 l g l2 ha r1 a1
  subst this
  exact a2
/-- a rank for the other side -/
theorem Iso.rank {φ : Nat → Nat} {g h : FG} (hi : Iso φ g h) (ha : Ak g) (hc : Cld g) : ∃ ρ : Nat → Nat, AkR ρ h := by
  refine ⟨fun x => @dite _ (∃ k, g k ≠ none ∧ φ k = x) (Classical.propDecidable _) (fun q => Classical.choose q) (fun _ => 0), ?_⟩
  have key : ∀ k, g k ≠ none → (@dite _ (∃ j, g j ≠ none ∧ φ j = φ k) (Classical.propDecidable _) (fun q => Classical.choose q) (fun _ => 0)) = k := by
    intro k hk
    have he : ∃ j, g j ≠ none ∧ φ j = φ k := ⟨k, hk, rfl⟩
    rw [dif_pos he]
    have := Classical.choose_spec he
    exact hi.2.2 _ _ this.1 hk this.2
  intro x w y hx
  obtain ⟨k, hk, rfl⟩ := hi.2.1 x (by rw [hx]; simp)
  obtain ⟨⟨u, o⟩, hg⟩ := Option.ne_none_iff_exists'.mp hk
  have e := hi.1 _ _ _ hg
  rw [hx] at e
  have e2 := (Prod.mk.inj (Option.some.inj e)).2
  cases o with
  | none => cases e2
  | some t =>
    simp only [Option.map_some, Option.some.injEq] at e2
    subst e2
    show (@dite _ (∃ j, g j ≠ none ∧ φ j = φ t) (Classical.propDecidable _) (fun q => Classical.choose q) (fun _ => 0)) < (@dite _ (∃ j, g j ≠ none ∧ φ j = φ k) (Classical.propDecidable _) (fun q => Classical.choose q) (fun _ => 0))
    rw [key k hk, key t (hc _ _ _ hg)]
    exact ha _ _ _ hg
theorem cw_inj {w w' : Nat} {f f' : Nat → Int64} (h : cw (nI w) f = cw (nI w') f') (hw : w < 4096) (hw' : w' < 4096) : w = w' ∧ ∀ d, d < 12 → w.testBit d = true → f d = f' d := by
  have key : ∀ d, d < 12 → w.testBit d = w'.testBit d ∧ (w.testBit d = true → f d = f' d) := by
    intro d hd
    have := congrFun h d
    unfold cw at this
    rw [bt_nI (by omega) (by omega), bt_nI (by omega) (by omega)] at this
    cases e : w.testBit d with
    | true =>
      cases e' : w'.testBit d with
      | true =>
        simp [hd, e, e'] at this
        exact ⟨rfl, fun _ => this⟩
      | false => simp [hd, e, e'] at this
    | false =>
      cases e' : w'.testBit d with
      | true => simp [hd, e, e'] at this
      | false => exact ⟨rfl, fun q => by cases q⟩
  refine ⟨Nat.eq_of_testBit_eq (fun d => ?_), fun d hd hb => (key d hd).2 hb⟩
  by_cases hd : d < 12
  · exact (key d hd).1
  · have p : (4096 : Nat) ≤ 2 ^ d := by
      have := Nat.pow_le_pow_right (n := 2) (by decide) (show 12 ≤ d by omega)
      simpa using this
    rw [Nat.testBit_lt_two_pow (by omega), Nat.testBit_lt_two_pow (by omega)]
theorem cw_0 {f : Nat → Int64} : cw (nI 0) f = fun _ => none := by
  funext c
  unfold cw
  by_cases hc : c < 12
  · rw [bt_nI (by decide) (by omega)]
    simp
  · simp [hc]
/-- writing a mask of cells -/
theorem cw_set {w w0 cm : Nat} {f f0 v : Nat → Int64} (hw : w < 4096) (hw0 : w0 < 4096) (hb : ∀ d, w.testBit d = (w0.testBit d || (decide (d < 12) && cm.testBit d))) (hv : ∀ d, d < 12 → f d = if d < 12 ∧ cm.testBit d = true then v d else f0 d) : cw (nI w) f = ovr (fun d => if d < 12 ∧ cm.testBit d = true then some (v d) else none) (cw (nI w0) f0) := by
  funext d
  unfold ovr cw
  by_cases hd : d < 12
  · rw [bt_nI (by omega) (by omega), bt_nI (by omega) (by omega), hb d, hv d hd]
    cases e : cm.testBit d with
    | true => simp [hd, e]
    | false =>
      cases e' : w0.testBit d <;> simp [hd, e, e']
  · simp [hd]
/-- writing one cell -/
theorem cw_one {w c : Nat} {f f0 : Nat → Int64} {v : Int64} (hw : w < 4096) (hc : c < 12) (hv : ∀ d, f d = if d = c then v else f0 d) : cw (nI (w ||| 2 ^ c)) f = ovr (fun d => if d = c then some v else none) (cw (nI w) f0) := by
  have hw2 : w ||| 2 ^ c < 4096 := Nat.or_lt_two_pow (n := 12) hw (Nat.pow_lt_pow_right (by decide) hc)
  funext d
  unfold ovr cw
  by_cases hd : d < 12
  · rw [bt_nI (by omega) (by omega), bt_nI (by omega) (by omega), Nat.testBit_or, Nat.testBit_two_pow, hv d]
    by_cases e : d = c
    · subst e; simp [hd]
    · have e' : ¬ c = d := fun q => e q.symm
      cases e2 : w.testBit d <;> simp [hd, e, e']
  · have e : ¬ d = c := by omega
    simp [hd, e]
end RB
