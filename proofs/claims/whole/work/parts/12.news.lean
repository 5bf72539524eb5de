section MNN
variable {p : Program} {l : Launch} {e : Env} {R : Room} {s : State} {m : MethodId} {args : Array Value} {below : List Frame} {meth : Method} {c : Code} {Q : State → Prop} {D : va_G} {ρ : Nat → Nat} {z0 o nL pc : Nat} {ini : Bool} {cc : ByteArray} {H : Heap} {locs : List Loc} {la : Array Slot} {rest : List Value} {h : mn_S}
theorem mn_add_spec {x : va_E} {n k : Nat} {h' : mn_S} (hv : mn_add h x n = some (k, h')) : h.2.1 = some k ∧ h' = (mn_up h.1 k x, some (k + 1), h.2.2.1 + 1, h.2.2.2 + n) := by
  unfold mn_add at hv
  split at hv
  · rename_i q hq
    cases hv
    exact ⟨hq, rfl⟩
  · cases hv
theorem mn_na_spec {t k : Nat} {n : Int32} {h' : mn_S} (hv : mn_na h t n = some (k, h')) : ¬ n < 0 ∧ n.toNatClampNeg ≤ 100000 ∧ t < 6 ∧ h.2.1 = some k ∧ ∃ x, h' = (mn_up h.1 k (.inl (t, n.toNatClampNeg, x)), some (k + 1), h.2.2.1 + 1, h.2.2.2 + n.toNatClampNeg) ∧ ∀ j, mn_e x j = mn_def (mn_ty t) := by
  unfold mn_na at hv
  split at hv
  · cases hv
  · rename_i hc
    have h1 : ¬ n < 0 := fun q => hc (Or.inl q)
    have h2 : n.toNatClampNeg ≤ 100000 := Nat.not_lt.mp fun q => hc (Or.inr (Or.inl q))
    have h3 : t < 6 := Nat.not_le.mp fun q => hc (Or.inr (Or.inr q))
    split at hv
    · obtain ⟨q1, q2⟩ := mn_add_spec hv
      exact ⟨h1, h2, h3, q1, _, q2, fun j => rfl⟩
    · obtain ⟨q1, q2⟩ := mn_add_spec hv
      exact ⟨h1, h2, h3, q1, _, q2, fun j => rfl⟩
    · obtain ⟨q1, q2⟩ := mn_add_spec hv
      exact ⟨h1, h2, h3, q1, _, q2, fun j => rfl⟩
    · rename_i n0 n1 n2
      obtain ⟨q1, q2⟩ := mn_add_spec hv
      refine ⟨h1, h2, h3, q1, _, q2, fun j => ?_⟩
      have : t = 3 ∨ t = 4 ∨ t = 5 := by
        rcases (show t = 0 ∨ t = 1 ∨ t = 2 ∨ t = 3 ∨ t = 4 ∨ t = 5 by omega) with r | r | r | r | r | r
        · exact absurd r n0
        · exact absurd r n1
        · exact absurd r n2
        · exact Or.inl r
        · exact Or.inr (Or.inl r)
        · exact Or.inr (Or.inr r)
      rcases this with rfl | rfl | rfl <;> rfl
theorem mn_S_new {H H1 : Heap} (hS : va_S (fun q => z0 ≤ q) s.heap H locs) (z1 : H1.size = H.size + 1) (o1 : ∀ q, q < H.size → H1[q]? = H[q]?) : va_S (fun q => z0 ≤ q) s.heap H1 locs :=
  ⟨by rw [z1]; exact Nat.le_succ_of_le hS.1, fun x h1 h2 => (o1 x (Nat.lt_of_lt_of_le h1 hS.1)).trans (hS.2.1 x h1 h2), hS.2.2⟩
theorem mn_i_na (C : mn_C p l s m args meth c o ini cc nL) (hρ : mn_R ρ z0) (hH : mn_H s D ρ z0 h H) (hS : va_S (fun q => z0 ≤ q) s.heap H locs) {ty : ClassFile.ArrayType} {t k : Nat} {n : Int32} {h' : mn_S} (ht : (ty = .int ∧ t = 0) ∨ (ty = .long ∧ t = 1) ∨ (ty = .boolean ∧ t = 2)) (hv : mn_na h t n = some (k, h')) (hcl : h'.2.2.1 ≤ R.cells) (hsl : h'.2.2.2 ≤ R.slots) (hd : decode cc pc = .ok (.newarray ty, 2))
    (kk : ∀ (H1 : Heap), mn_H s D ρ z0 h' H1 → va_S (fun q => z0 ≤ q) s.heap H1 locs → W p l e R s m args below meth c H1 locs h'.2.2.1 h'.2.2.2 Q (F0 m (pc + 2) la (.ref (ρ k) :: rest))) : W p l e R s m args below meth c H locs h.2.2.1 h.2.2.2 Q (F0 m pc la (.int n :: rest)) := by
  obtain ⟨hx, hb, hml, hown, hts, -⟩ := C
  obtain ⟨h1, h2, h3, h4, x, rfl, h6⟩ := mn_na_spec hv
  obtain ⟨pic, nx, c0, s0⟩ := h
  dsimp only at h4 hcl hsl kk ⊢
  subst h4
  have hty : newarray.typeOf ty = mn_ty t ∧ t < 3 ∧ Cond.arrayClass (newarray.typeOf ty) ∈ mn_uw ∧ defaultValue (newarray.typeOf ty) = mn_v ρ (mn_def (mn_ty t)) ∧ componentBytes (newarray.typeOf ty) ≤ 8 := by
    have key : ∀ w ∈ mnV_a, w ∈ mn_uw := mn_uw_id mnVW_a
    rcases ht with ⟨rfl, rfl⟩ | ⟨rfl, rfl⟩ | ⟨rfl, rfl⟩
    · exact ⟨rfl, by omega, key _ (by decide +kernel), rfl, by decide +kernel⟩
    · exact ⟨rfl, by omega, key _ (by decide +kernel), rfl, by decide +kernel⟩
    · exact ⟨rfl, by omega, key _ (by decide +kernel), rfl, by decide +kernel⟩
  obtain ⟨t1, t2, t3, t4, t5⟩ := hty
  refine va_newaK (N := n.toNatClampNeg) hx hb (hts _ t3) rfl hd rfl h1 rfl (Nat.le_trans (Nat.mul_le_mul h2 t5) (by decide)) hcl hsl rfl fun H1 cA e1 z1 o1 hAr hNm => ?_
  have hat : mn_at s D ρ H1 H.size (.inl (t, n.toNatClampNeg, x)) := by
    refine ⟨h3, _, e1, by rw [← t1]; exact hAr _ _, (fun q => by cases q), ⟨by rw [arrV_size]; exact Nat.le_refl _, by rw [arrV_size]⟩, fun j hj => ?_, fun q => absurd q (Nat.not_le.mpr t2)⟩
    rw [arrV_read _ _ hj, h6 j, t4]
  obtain ⟨q1, q2⟩ := mn_H.push (c' := c0 + 1) (k' := s0 + n.toNatClampNeg) hρ hH z1 o1 hat
  have := kk H1 q1 (mn_S_new hS z1 o1)
  rw [q2] at this
  exact this
theorem mn_i_nq (C : mn_C p l s m args meth c o ini cc nL) (hρ : mn_R ρ z0) (hH : mn_H s D ρ z0 h H) (hS : va_S (fun q => z0 ≤ q) s.heap H locs) {idx ci t k : Nat} {n : Int32} {h' : mn_S} (hl : mn_cl o idx = some ci) (ht : (ci = 1 ∧ t = 3) ∨ (ci = 5 ∧ t = 4) ∨ (ci = 4 ∧ t = 5)) (hv : mn_na h t n = some (k, h')) (hcl : h'.2.2.1 ≤ R.cells) (hsl : h'.2.2.2 ≤ R.slots) (hd : decode cc pc = .ok (.anewarray idx, 3))
    (kk : ∀ (H1 : Heap), mn_H s D ρ z0 h' H1 → va_S (fun q => z0 ≤ q) s.heap H1 locs → W p l e R s m args below meth c H1 locs h'.2.2.1 h'.2.2.2 Q (F0 m (pc + 3) la (.ref (ρ k) :: rest))) : W p l e R s m args below meth c H locs h.2.2.1 h.2.2.2 Q (F0 m pc la (.int n :: rest)) := by
  obtain ⟨hx, hb, hml, hown, hts, -⟩ := C
  obtain ⟨h1, h2, h3, h4, x, rfl, h6⟩ := mn_na_spec hv
  have hw := (mn_cl_in o (idx, ci) (mn_lk hl)).1
  obtain ⟨pic, nx, c0, s0⟩ := h
  dsimp only at h4 hcl hsl kk ⊢
  subst h4
  have hty : mn_ty t = .object (mn_own ci) ∧ mn_tc t = ci ∧ Cond.arrayOver (.object (mn_own ci)) ∈ mn_uw ∧ mn_def (mn_ty t) = .null := by
    have key : ∀ w ∈ mnV_a, w ∈ mn_uw := mn_uw_id mnVW_a
    rcases ht with ⟨rfl, rfl⟩ | ⟨rfl, rfl⟩ | ⟨rfl, rfl⟩
    · exact ⟨rfl, rfl, key _ (by decide +kernel), rfl⟩
    · exact ⟨rfl, rfl, key _ (by decide +kernel), rfl⟩
    · exact ⟨rfl, rfl, key _ (by decide +kernel), rfl⟩
  obtain ⟨t1, t2, t3, t4⟩ := hty
  refine W.anew (C := mn_own ci) hx hb hown (hts _ hw) (hts _ t3) rfl hd rfl h1 (Nat.le_trans (Nat.mul_le_mul_right 4 h2) (by decide)) hcl hsl fun cA kA comp f1 f2 f3 f4 => ?_
  generalize hH1 : H.push ({ cls := cA, slots := Array.replicate n.toNatClampNeg .null, vm := .none } : Cell) = H1
  have z1 : H1.size = H.size + 1 := by rw [← hH1, Array.size_push]
  have e1 : H1[H.size]? = some (arrV cA n.toNatClampNeg (fun _ => .null)) := by rw [← hH1, Array.getElem?_push_size, ← arrV_new]
  have o1 : ∀ q : Nat, q < H.size → H1[q]? = H[q]? := fun q hq => by rw [← hH1, Array.getElem?_push, if_neg (Nat.ne_of_lt hq)]
  have hat : mn_at s D ρ H1 H.size (.inl (t, n.toNatClampNeg, x)) := by
    refine ⟨h3, _, e1, ⟨(fun k h => by cases h), kA, f2, comp, by rw [t1]; exact f3⟩, (fun q => by cases q), ⟨by rw [arrV_size]; exact Nat.le_refl _, by rw [arrV_size]⟩, fun j hj => ?_, fun q => ⟨kA, comp, f2, by rw [t1]; exact f3, by rw [t2]; exact f4⟩⟩
    rw [arrV_read _ _ hj, h6 j, t4]
    rfl
  obtain ⟨q1, q2⟩ := mn_H.push (c' := c0 + 1) (k' := s0 + n.toNatClampNeg) hρ hH z1 o1 hat
  have := kk H1 q1 (mn_S_new hS z1 o1)
  rw [q2] at this
  exact this
theorem mn_i_new (C : mn_C p l s m args meth c o ini cc nL) (hK : va_K D vwCl [] s) (hρ : mn_R ρ z0) (hH : mn_H s D ρ z0 h H) (hS : va_S (fun q => z0 ≤ q) s.heap H locs) {idx ci k : Nat} {h' : mn_S} (hl : mn_cl o idx = some ci) (hv : mn_new h ci = some (k, h')) (hcl : h'.2.2.1 ≤ R.cells) (hsl : h'.2.2.2 ≤ R.slots) (hd : decode cc pc = .ok (.new idx, 3))
    (kk : ∀ (H1 : Heap), mn_H s D ρ z0 h' H1 → va_S (fun q => z0 ≤ q) s.heap H1 locs → W p l e R s m args below meth c H1 locs h'.2.2.1 h'.2.2.2 Q (F0 m (pc + 3) la (.ref (ρ k) :: rest))) : W p l e R s m args below meth c H locs h.2.2.1 h.2.2.2 Q (F0 m pc la rest) := by
  obtain ⟨hx, hb, hml, hown, hts, -⟩ := C
  obtain ⟨hw, hci⟩ := mn_cl_in o (idx, ci) (mn_lk hl)
  have hci : ci < 9 := by simpa using hci
  obtain ⟨hc1, hc2, hc3, hc4, hc5⟩ := mn_cls ci hci
  obtain ⟨h4, rfl⟩ := mn_add_spec hv
  obtain ⟨pic, nx, c0, s0⟩ := h
  dsimp only at h4 hcl hsl kk ⊢
  subst h4
  have hKn := hK.1 ci _ hc1
  refine W.newcK hx hb hown (hts _ hw) (hts _ hc5) (hts _ (mn_ini ci hci)) rfl hd hcl hsl hKn.2.1 rfl fun H1 kC hkC e1 z1 o1 => ?_
  have hat : mn_at s D ρ H1 H.size (.inr (ci, (List.range (mn_N ci)).map (fun k => mn_def (mn_fty ci k)))) := by
    refine ⟨_, hc1, (u_born (mn_fty ci) hts hc2 hKn hkC e1 hc3).to (fun j hj => ?_)⟩
    simp only [vp_V, List.getD_eq_getElem?_getD, List.map_map, List.getElem?_map, List.getElem?_range hj, Option.map_some, Option.getD_some, Function.comp]
    cases mn_fty ci j <;> rfl
  obtain ⟨q1, q2⟩ := mn_H.push (c' := c0 + 1) (k' := s0 + mn_N ci) hρ hH z1 o1 hat
  have := kk H1 q1 (mn_S_new hS z1 o1)
  rw [q2] at this
  exact this
end MNN
