/-! FORESTS of segments: k ↦ (what is written, what lies below). Laying together is removing, in any order: one end. -/
section FO
abbrev FG : Type := Nat → Option ((Nat → Option Int64) × Option Nat)
def ovr (w w' : Nat → Option Int64) : Nat → Option Int64 := fun c => match w c with
  | some v => some v
  | none => w' c
theorem ovr_assoc (a b c : Nat → Option Int64) : ovr (ovr a b) c = ovr a (ovr b c) := by
  funext i
  unfold ovr
  cases a i <;> rfl
/-- s goes: what lies on it takes it in -/
def rmF (s : Nat) (g : FG) : FG := fun k => if k = s then none else match g s with
  | some (ws, bs) => (g k).map (fun q => if q.2 = some s then (ovr q.1 ws, bs) else q)
  | none => g k
theorem rem_at {g : FG} {s : Nat} {ws : Nat → Option Int64} {bs : Option Nat} (h : g s = some (ws, bs)) (k : Nat) : rmF s g k = if k = s then none else (g k).map (fun q => if q.2 = some s then (ovr q.1 ws, bs) else q) := by
  unfold rmF
  rw [h]
def Ak (g : FG) : Prop := ∀ k w t, g k = some (w, some t) → t < k
def Cld (g : FG) : Prop := ∀ k w t, g k = some (w, some t) → g t ≠ none
/-- it may go: there, not needed, with at most one thing on it -/
def Rmv (need : Nat → Prop) (g : FG) (s : Nat) : Prop := g s ≠ none ∧ ¬ need s ∧ ∀ k k' w w', g k = some (w, some s) → g k' = some (w', some s) → k = k'
def Nrm (need : Nat → Prop) (g : FG) : Prop := ∀ s, ¬ Rmv need g s
def Rd (need : Nat → Prop) : FG → List Nat → FG → Prop
  | g, [], h => g = h
  | g, s :: l, h => Rmv need g s ∧ Rd need (rmF s g) l h
theorem rem_some {g : FG} {s k : Nat} {q : (Nat → Option Int64) × Option Nat} (hs : g s ≠ none) (h : rmF s g k = some q) : k ≠ s ∧ ∃ w o, g k = some (w, o) ∧ ((o ≠ some s ∧ q = (w, o)) ∨ (o = some s ∧ ∃ ws bs, g s = some (ws, bs) ∧ q = (ovr w ws, bs))) := by
  obtain ⟨⟨ws, bs⟩, hs⟩ := Option.ne_none_iff_exists'.mp hs
  rw [rem_at hs] at h
  split at h
  · cases h
  · rename_i hk
    refine ⟨hk, ?_⟩
    obtain ⟨⟨w, o⟩, h1, h2⟩ := Option.map_eq_some_iff.mp h
    refine ⟨w, o, h1, ?_⟩
    dsimp only at h2
    by_cases ho : o = some s
    · rw [if_pos ho] at h2
      exact Or.inr ⟨ho, ws, bs, hs, h2.symm⟩
    · rw [if_neg ho] at h2
      exact Or.inl ⟨ho, h2.symm⟩
theorem Ak.rem {g : FG} {s : Nat} (h : Ak g) (hs : g s ≠ none) : Ak (rmF s g) := by
  intro k w t hk
  obtain ⟨h1, w', o, h2, h3 | ⟨ho, ws, bs, h4, h5⟩⟩ := rem_some hs hk
  · cases h3.2
    exact h _ _ _ h2
  · cases h5
    subst ho
    exact Nat.lt_trans (h _ _ _ h4) (h _ _ _ h2)
theorem Cld.rem {g : FG} {s : Nat} (h : Cld g) (ha : Ak g) (hs : g s ≠ none) : Cld (rmF s g) := by
  intro k w t hk
  have key : ∀ t, t ≠ s → g t ≠ none → rmF s g t ≠ none := by
    intro t h1 h2
    obtain ⟨⟨ws, bs⟩, hs'⟩ := Option.ne_none_iff_exists'.mp hs
    obtain ⟨q, h2⟩ := Option.ne_none_iff_exists'.mp h2
    rw [rem_at hs', if_neg h1, h2]
    simp
  obtain ⟨h1, w', o, h2, h3 | ⟨ho, ws, bs, h4, h5⟩⟩ := rem_some hs hk
  · cases h3.2
    exact key t (fun q => h3.1 (by rw [q])) (h _ _ _ h2)
  · cases h5
    have := ha _ _ _ h4
    exact key t (by omega) (h _ _ _ h4)
theorem rem_live {g : FG} {s t : Nat} (hs : g s ≠ none) (h1 : t ≠ s) (h2 : g t ≠ none) : rmF s g t ≠ none := by
  obtain ⟨⟨ws, bs⟩, hs'⟩ := Option.ne_none_iff_exists'.mp hs
  obtain ⟨q, h2⟩ := Option.ne_none_iff_exists'.mp h2
  rw [rem_at hs', if_neg h1, h2]
  simp
theorem Rmv.keep {need : Nat → Prop} {g : FG} {x y : Nat} (hx : Rmv need g x) (hy : Rmv need g y) (hxy : x ≠ y) : Rmv need (rmF y g) x := by
  obtain ⟨x1, x2, x3⟩ := hx
  obtain ⟨y1, y2, y3⟩ := hy
  refine ⟨rem_live y1 hxy x1, x2, ?_⟩
  intro k k' w w' hk hk'
  obtain ⟨a1, u, o, a2, a3⟩ := rem_some y1 hk
  obtain ⟨b1, u', o', b2, b3⟩ := rem_some y1 hk'
  rcases a3 with a3 | ⟨ao, ws, bs, a4, a5⟩
  · cases a3.2
    rcases b3 with b3 | ⟨bo, ws', bs', b4, b5⟩
    · cases b3.2
      exact x3 _ _ _ _ a2 b2
    · cases b5
      exact absurd (x3 _ _ _ _ a2 b4) a1
  · cases a5
    subst ao
    rcases b3 with b3 | ⟨bo, ws', bs', b4, b5⟩
    · cases b3.2
      exact absurd (x3 _ _ _ _ b2 a4) b1
    · subst bo
      exact y3 _ _ _ _ a2 b2
theorem rem_comm {g : FG} (ha : Ak g) {s t : Nat} (hst : s ≠ t) (hs : g s ≠ none) (ht : g t ≠ none) : rmF s (rmF t g) = rmF t (rmF s g) := by
  obtain ⟨⟨ws, bs⟩, hs⟩ := Option.ne_none_iff_exists'.mp hs
  obtain ⟨⟨wt, bt⟩, ht⟩ := Option.ne_none_iff_exists'.mp ht
  have e1 : rmF t g s = some (if bs = some t then (ovr ws wt, bt) else (ws, bs)) := by
    rw [rem_at ht, if_neg hst, hs]; rfl
  have e2 : rmF s g t = some (if bt = some s then (ovr wt ws, bs) else (wt, bt)) := by
    rw [rem_at hs, if_neg hst.symm, ht]; rfl
  have hno : ¬ (bs = some t ∧ bt = some s) := by
    rintro ⟨rfl, rfl⟩
    have := ha _ _ _ hs
    have := ha _ _ _ ht
    omega
  have hss : bs ≠ some s := by
    rintro rfl
    have := ha _ _ _ hs
    omega
  have htt : bt ≠ some t := by
    rintro rfl
    have := ha _ _ _ ht
    omega
  have hts : ∀ {a b : Nat}, (some a = some b) = (a = b) := by intro a b; simp
  funext k
  by_cases hbs : bs = some t
  · have hbt : bt ≠ some s := fun q => hno ⟨hbs, q⟩
    rw [if_pos hbs] at e1
    rw [if_neg hbt] at e2
    rw [rem_at e1, rem_at e2, rem_at ht, rem_at hs]
    by_cases h1 : k = s
    · by_cases h2 : k = t
      · exact absurd (h1.symm.trans h2) hst
      · simp [h1, hst]
    · by_cases h2 : k = t
      · simp [h2, hst.symm]
      · simp only [if_neg h1, if_neg h2]
        cases hg : g k with
        | none => rfl
        | some q =>
          obtain ⟨w, o⟩ := q
          simp only [Option.map_some]
          by_cases ho : o = some s
          · subst ho
            have n1 : ¬ (some s = some t) := by rw [hts]; exact hst
            simp only [if_neg n1, if_true, if_pos hbs, ovr_assoc]
          · by_cases ho2 : o = some t
            · subst ho2
              have n1 : ¬ (some t = some s) := by rw [hts]; exact hst.symm
              simp only [if_true, if_neg n1, if_neg hbt]
            · simp only [if_neg ho, if_neg ho2]
  · rw [if_neg hbs] at e1
    by_cases hbt : bt = some s
    · rw [if_pos hbt] at e2
      rw [rem_at e1, rem_at e2, rem_at ht, rem_at hs]
      by_cases h1 : k = s
      · by_cases h2 : k = t
        · exact absurd (h1.symm.trans h2) hst
        · simp [h1, hst]
      · by_cases h2 : k = t
        · simp [h2, hst.symm]
        · simp only [if_neg h1, if_neg h2]
          cases hg : g k with
          | none => rfl
          | some q =>
            obtain ⟨w, o⟩ := q
            simp only [Option.map_some]
            by_cases ho : o = some s
            · subst ho
              have n1 : ¬ (some s = some t) := by rw [hts]; exact hst
              simp only [if_neg n1, if_true, if_neg hbs]
            · by_cases ho2 : o = some t
              · subst ho2
                have n1 : ¬ (some t = some s) := by rw [hts]; exact hst.symm
                simp only [if_true, if_neg n1, if_pos hbt, ovr_assoc]
              · simp only [if_neg ho, if_neg ho2]
    · rw [if_neg hbt] at e2
      rw [rem_at e1, rem_at e2, rem_at ht, rem_at hs]
      by_cases h1 : k = s
      · by_cases h2 : k = t
        · exact absurd (h1.symm.trans h2) hst
        · simp [h1, hst]
      · by_cases h2 : k = t
        · simp [h2, hst.symm]
        · simp only [if_neg h1, if_neg h2]
          cases hg : g k with
          | none => rfl
          | some q =>
            obtain ⟨w, o⟩ := q
            simp only [Option.map_some]
            by_cases ho : o = some s
            · subst ho
              have n1 : ¬ (some s = some t) := by rw [hts]; exact hst
              simp only [if_neg n1, if_true, if_neg hbs]
            · by_cases ho2 : o = some t
              · subst ho2
                have n1 : ¬ (some t = some s) := by rw [hts]; exact hst.symm
                simp only [if_true, if_neg n1, if_neg hbt]
              · simp only [if_neg ho, if_neg ho2]
theorem Rd_strip {need : Nat → Prop} {h : FG} (hn : Nrm need h) : ∀ (l : List Nat) (g : FG) (x : Nat), Ak g → Rd need g l h → Rmv need g x → ∃ l', Rd need (rmF x g) l' h := by
  intro l
  induction l with
  | nil =>
    intro g x _ hl hx
    have hl : g = h := hl
    subst hl
    exact absurd hx (hn x)
  | cons y l ih =>
    intro g x ha hl hx
    obtain ⟨hy, hl⟩ := hl
    by_cases hxy : x = y
    · subst hxy
      exact ⟨l, hl⟩
    · obtain ⟨l', hl'⟩ := ih (rmF y g) x (ha.rem hy.1) hl (hx.keep hy hxy)
      rw [rem_comm ha hxy hx.1 hy.1] at hl'
      exact ⟨y :: l', hy.keep hx (Ne.symm hxy), hl'⟩
/-- one end -/
theorem Rd_one {need : Nat → Prop} {h h' : FG} (hn : Nrm need h) (hn' : Nrm need h') : ∀ (l : List Nat) (g : FG) (l' : List Nat), Ak g → Rd need g l h → Rd need g l' h' → h = h' := by
  intro l
  induction l with
  | nil =>
    intro g l' _ hl hl'
    have hl : g = h := hl
    subst hl
    cases l' with
    | nil => exact hl'
    | cons y l' => exact absurd hl'.1 (hn y)
  | cons x l ih =>
    intro g l' ha hl hl'
    obtain ⟨l2, h2⟩ := Rd_strip hn' l' g x ha hl' hl.1
    exact ih (rmF x g) l2 (ha.rem hl.1.1) hl.2 h2
/-- the same forest under other names -/
def Iso (φ : Nat → Nat) (g h : FG) : Prop := (∀ k w o, g k = some (w, o) → h (φ k) = some (w, o.map φ)) ∧ (∀ x, h x ≠ none → ∃ k, g k ≠ none ∧ φ k = x) ∧ ∀ k k', g k ≠ none → g k' ≠ none → φ k = φ k' → k = k'
theorem Iso.child {φ : Nat → Nat} {g h : FG} (hi : Iso φ g h) (hc : Cld g) {s x : Nat} {w : Nat → Option Int64} (hs : g s ≠ none) (hx : h x = some (w, some (φ s))) : ∃ k, φ k = x ∧ g k = some (w, some s) := by
  obtain ⟨h1, h2, h3⟩ := hi
  obtain ⟨k, hk, rfl⟩ := h2 x (by rw [hx]; simp)
  obtain ⟨⟨u, o⟩, hg⟩ := Option.ne_none_iff_exists'.mp hk
  have := h1 _ _ _ hg
  rw [hx] at this
  have this := Option.some.inj this
  obtain ⟨e1, e2⟩ := Prod.mk.inj this
  cases o with
  | none => simp at e2
  | some t =>
    simp only [Option.map_some, Option.some.injEq] at e2
    have ht := hc _ _ _ hg
    have := h3 s t hs ht e2
    subst this
    exact ⟨k, rfl, by rw [hg, e1]⟩
theorem Iso.rem {φ : Nat → Nat} {g h : FG} (hi : Iso φ g h) (hc : Cld g) {s : Nat} (hs : g s ≠ none) : Iso φ (rmF s g) (rmF (φ s) h) := by
  have hi' := hi
  obtain ⟨h1, h2, h3⟩ := hi
  obtain ⟨⟨ws, bs⟩, hs'⟩ := Option.ne_none_iff_exists'.mp hs
  have hφ := h1 _ _ _ hs'
  have back : ∀ k, rmF s g k ≠ none → g k ≠ none := by
    intro k hk
    obtain ⟨q, hq⟩ := Option.ne_none_iff_exists'.mp hk
    obtain ⟨-, w, o, hg, -⟩ := rem_some hs hq
    rw [hg]
    simp
  refine ⟨?_, ?_, fun k k' a b => h3 k k' (back k a) (back k' b)⟩
  · intro k w o hk
    obtain ⟨hks, w', o', hg, hq⟩ := rem_some hs hk
    have hne : φ k ≠ φ s := fun q => hks (h3 k s (by rw [hg]; simp) hs q)
    rw [rem_at hφ, if_neg hne, h1 _ _ _ hg]
    simp only [Option.map_some]
    rcases hq with ⟨ho, hq⟩ | ⟨ho, ws', bs', e1, hq⟩
    · cases hq
      have : ¬ o.map φ = some (φ s) := by
        intro q
        cases o with
        | none => simp at q
        | some t =>
          simp only [Option.map_some, Option.some.injEq] at q
          have := h3 t s (hc _ _ _ hg) hs q
          exact ho (by rw [this])
      rw [if_neg this]
    · cases hq
      rw [hs'] at e1
      cases e1
      subst ho
      simp
  · intro x hx
    obtain ⟨q, hq⟩ := Option.ne_none_iff_exists'.mp hx
    obtain ⟨hxs, w', o', hg, -⟩ := rem_some (by rw [hφ]; simp) hq
    obtain ⟨k, hk, rfl⟩ := h2 x (by rw [hg]; simp)
    exact ⟨k, rem_live hs (fun q => hxs (by rw [q])) hk, rfl⟩
theorem Iso.rmv {φ : Nat → Nat} {g h : FG} (hi : Iso φ g h) (hc : Cld g) {need need' : Nat → Prop} (hn : ∀ k, g k ≠ none → (need k ↔ need' (φ k))) {s : Nat} (hs : g s ≠ none) : Rmv need g s ↔ Rmv need' h (φ s) := by
  obtain ⟨⟨ws, bs⟩, hs'⟩ := Option.ne_none_iff_exists'.mp hs
  have hφ := hi.1 _ _ _ hs'
  constructor
  · rintro ⟨-, a, d⟩
    refine ⟨by rw [hφ]; simp, fun q => a ((hn s hs).mpr q), ?_⟩
    intro x x' w w' hx hx'
    obtain ⟨k, rfl, hk⟩ := hi.child hc hs hx
    obtain ⟨k', rfl, hk'⟩ := hi.child hc hs hx'
    rw [d _ _ _ _ hk hk']
  · rintro ⟨-, a, d⟩
    refine ⟨hs, fun q => a ((hn s hs).mp q), ?_⟩
    intro k k' w w' hk hk'
    have e1 := hi.1 _ _ _ hk
    have e2 := hi.1 _ _ _ hk'
    exact hi.2.2 k k' (by rw [hk]; simp) (by rw [hk']; simp) (d _ _ _ _ e1 e2)
theorem Iso.lift {φ : Nat → Nat} {need need' : Nat → Prop} {h' : FG} : ∀ (l : List Nat) (g h : FG), Iso φ g h → Cld g → Ak g → (∀ k, g k ≠ none → (need k ↔ need' (φ k))) → Rd need' h l h' → ∃ l2 g', Rd need g l2 g' ∧ Iso φ g' h' ∧ Cld g' ∧ Ak g' ∧ (∀ k, g' k ≠ none → g k ≠ none) := by
  intro l
  induction l with
  | nil =>
    intro g h hi hc ha hn hl
    have hl : h = h' := hl
    subst hl
    exact ⟨[], g, rfl, hi, hc, ha, fun k q => q⟩
  | cons x l ih =>
    intro g h hi hc ha hn hl
    obtain ⟨hx, hl⟩ := hl
    obtain ⟨s, hs, rfl⟩ := hi.2.1 x hx.1
    have back : ∀ k, rmF s g k ≠ none → g k ≠ none := by
      intro k hk
      obtain ⟨q, hq⟩ := Option.ne_none_iff_exists'.mp hk
      obtain ⟨-, w, o, hg, -⟩ := rem_some hs hq
      rw [hg]
      simp
    obtain ⟨l2, g', a1, a2, a3, a4, a5⟩ := ih (rmF s g) _ (hi.rem hc hs) (hc.rem ha hs) (ha.rem hs) (fun k hk => hn k (back k hk)) hl
    exact ⟨s :: l2, g', ⟨(hi.rmv hc hn hs).mpr hx, a1⟩, a2, a3, a4, fun k q => back k (a5 k q)⟩
theorem Iso.nrm {φ : Nat → Nat} {g h : FG} (hi : Iso φ g h) (hc : Cld g) {need need' : Nat → Prop} (hn : ∀ k, g k ≠ none → (need k ↔ need' (φ k))) (h' : Nrm need' h) : Nrm need g := fun s hs => h' (φ s) ((hi.rmv hc hn hs.1).mp hs)
end FO
