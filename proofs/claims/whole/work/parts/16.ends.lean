section MNE
variable {p : Program} {l : Launch} {e : Env} {R : Room} {s : State} {m : MethodId} {args : Array Value} {below : List Frame} {meth : Method} {c : Code} {Q : State → Prop} {D : va_G} {ρ : Nat → Nat} {z0 : Nat} {H : Heap} {locs : List Loc}
theorem mn_G.call {U : State} (G : mn_G D ρ z0 s) (hS : va_S (fun q => z0 ≤ q) s.heap H locs) (hU : U.heap = H) (hW : s.WarmedH U.vm) : mn_G D ρ z0 U := by
  obtain ⟨h1, h2, h3, h4, h5, ⟨h6, h7, h8⟩, h9⟩ := G
  have hq : ∀ a : Nat, a < s.heap.size → ¬ (fun q => z0 ≤ q) a → H[a]? = s.heap[a]? := hS.2.1
  refine ⟨va_K.moved hW.alike h1, ?_, ?_, ?_, ?_, ⟨va_Nc.moved hW.alike h6, va_Nc.moved hW.alike h7, va_Nc.moved hW.alike h8⟩, fun q hq => ?_⟩
  · rw [hU]; exact (va_Z.moved hW.alike h2).kept hq
  · rw [hU]; exact (va_Z.moved hW.alike h3).kept hq
  · rw [hU]; exact (vx_Zq.moved hW.alike h4).kept hq
  · rw [hU]; exact (vx_Zq.moved hW.alike h5).kept hq
  · obtain ⟨sa, h⟩ := h9 q hq
    exact ⟨sa, vk_R.warm hW h⟩
theorem mn_G.same {U : State} (G : mn_G D ρ z0 s) (hv : U.vm = s.vm) (hU : U.heap = s.heap) : mn_G D ρ z0 U := by
  refine G.call (H := s.heap) (locs := []) va_S.rf hU ?_
  rw [hv]
  exact State.WarmedH.refl s
/-- a method's start and ends -/
def mn_Pc (D : va_G) (ρ : Nat → Nat) (z0 : Nat) (As : List Value) (pic : Nat → Option va_E) (nx : Option Nat) : Array Value → State → Prop := fun v U => v = (As.map (mn_v ρ)).toArray ∧ mn_G D ρ z0 U ∧ mn_H U D ρ z0 (pic, nx, 0, 0) U.heap
def mn_Qc (D : va_G) (ρ : Nat → Nat) (z0 : Nat) (hf : mn_S) (v : Option Value) : Array Value → State → Outcome → State → Prop := fun _ st o t => o = .returned (v.map (mn_v ρ)) ∧ mn_H t D ρ z0 hf t.heap ∧ va_F (fun q => z0 ≤ q) st t
def mn_XC (D : va_G) (ρ : Nat → Nat) (z0 : Nat) (hf : mn_S) (k : Nat) : String → State → State → Prop := fun E st t => E = mn_exn k ∧ mn_H t D ρ z0 hf t.heap ∧ va_F (fun q => z0 ≤ q) st t
def mn_Rm (x : mn_I) (hf : mn_S) : Room := { frames := mi_d x, cells := hf.2.2.1, slots := hf.2.2.2, locals := 41 * mi_d x }
theorem mn_Pc.blind {As : List Value} {pic : Nat → Option va_E} {nx : Option Nat} : FrameBlind (mn_Pc D ρ z0 As pic nx) := by
  intro a U g mk h
  obtain ⟨h1, h2, h3⟩ := h
  exact ⟨h1, h2.same rfl rfl, h3.moved (u := U) (U := U.calling g mk a) (Vm.Alike.refl U.vm)⟩
theorem mn_sl1_len (ρ : Nat → Nat) : ∀ As : List Value, (lg_sl (As.map (mn_v ρ))).length = (mn_sl1 As).length
  | [] => rfl
  | v :: t => by
    have ih := mn_sl1_len ρ t
    cases v <;> simp [lg_sl, mn_sl1, mn_v, Value.category] at ih ⊢ <;> omega
theorem mn_sl1_mem (ρ : Nat → Nat) : ∀ (As : List Value) (k i : Nat) (v : Value), (mn_sl1 As)[i]? = some (some v) → (k + i, mn_v ρ v) ∈ lv_args k (As.map (mn_v ρ))
  | [], k, i, v, h => by simp [mn_sl1] at h
  | w :: t, k, i, v, h => by
    have two : ∀ (u : Value), (some u :: none :: mn_sl1 t)[i]? = some (some v) → (mn_v ρ u).category = 2 → (k + i, mn_v ρ v) ∈ (k, mn_v ρ u) :: lv_args (if (mn_v ρ u).category = 2 then k + 2 else k + 1) (t.map (mn_v ρ)) := by
      intro u hu hc
      rw [if_pos hc]
      match i, hu with
      | 0, hu => simp at hu; rw [hu]; exact List.mem_cons_self
      | 1, hu => simp at hu
      | j + 2, hu =>
        have := mn_sl1_mem ρ t (k + 2) j v (by simpa using hu)
        rw [show k + (j + 2) = k + 2 + j by omega]
        exact List.mem_cons_of_mem _ this
    have one : ∀ (u : Value), (some u :: mn_sl1 t)[i]? = some (some v) → ¬ (mn_v ρ u).category = 2 → (k + i, mn_v ρ v) ∈ (k, mn_v ρ u) :: lv_args (if (mn_v ρ u).category = 2 then k + 2 else k + 1) (t.map (mn_v ρ)) := by
      intro u hu hc
      rw [if_neg hc]
      match i, hu with
      | 0, hu => simp at hu; rw [hu]; exact List.mem_cons_self
      | j + 1, hu =>
        have := mn_sl1_mem ρ t (k + 1) j v (by simpa using hu)
        rw [show k + (j + 1) = k + 1 + j by omega]
        exact List.mem_cons_of_mem _ this
    cases w with
    | long a => exact two _ h rfl
    | double a => exact two _ h rfl
    | int a => exact one (.int a) h (by simp [mn_v, Value.category])
    | float a => exact one (.float a) h (by simp [mn_v, Value.category])
    | null => exact one .null h (by simp [mn_v, Value.category])
    | ref a => exact one (.ref a) h (by simp [mn_v, Value.category])
    | retAddr a => exact one (.retAddr a) h (by simp [mn_v, Value.category])
theorem mn_ent_len {nL : Nat} {As : List Value} (h : (mn_sl1 As).length ≤ nL) : (mn_ent nL As).length = nL := by
  unfold mn_ent
  rw [List.length_append, List.length_replicate]
  omega
theorem mn_ent_ok {nL : Nat} {As : List Value} (h : (mn_sl1 As).length ≤ nL) : mn_L ρ ((lg_sl (As.map (mn_v ρ)) ++ List.replicate (nL - (lg_sl (As.map (mn_v ρ))).length) Slot.unset).toArray) (mn_ent nL As) := by
  obtain ⟨h1, h2, h3⟩ := lv_entry (As.map (mn_v ρ)) (n := nL) (by rw [mn_sl1_len]; exact h)
  refine ⟨h1.trans (mn_ent_len h).symm, h2, fun i v hv => ?_⟩
  have hi : (mn_sl1 As)[i]? = some (some v) := by
    unfold mn_ent at hv
    by_cases q : i < (mn_sl1 As).length
    · rw [List.getElem?_append_left q] at hv
      exact hv
    · rw [List.getElem?_append_right (by omega), List.getElem?_replicate] at hv
      split at hv <;> simp at hv
  have := mn_sl1_mem ρ As 0 i v hi
  rw [Nat.zero_add] at this
  exact h3 _ this
/-- where a method ends, the goal holds -/
def mn_End (p : Program) (l : Launch) (e : Env) (R : Room) (s : State) (m : MethodId) (args : Array Value) (below : List Frame) (meth : Method) (c : Code) (Q : State → Prop) (D : va_G) (ρ : Nat → Nat) (z0 : Nat) (M : Nat) (x : mn_I) (r : mn_Res) : Prop :=
  ∀ (pc : Nat) (i : ClassFile.Instr × Nat) (st : List Value) (h : mn_S) (H : Heap) (locs : List Loc) (la : Array Slot), (mi_t x).lookup pc = some i → mn_term M x i pc st h = some r → mn_H s D ρ z0 h H → va_S (fun q => z0 ≤ q) s.heap H locs → la.size = mi_L x → W p l e R s m args below meth c H locs h.2.2.1 h.2.2.2 Q (F0 m pc la (st.map (mn_v ρ)))
theorem mn_dec {M : Nat} {x : mn_I} (hx : mn_all[M]? = some x) {pc : Nat} {i : ClassFile.Instr × Nat} (h : (mi_t x).lookup pc = some i) : decode (mi_c x) pc = .ok i := (mn_facts M x hx).1 (pc, i) (mn_lk h)
theorem mn_end_ret {M : Nat} {x : mn_I} (hM : mn_all[M]? = some x) (C : mn_C p l s m args meth c (mi_o x) (mi_i x) (mi_c x) (mi_L x)) (hr : meth.sig.returnType = mi_r x) {hf : mn_S} {v : Option Value} : mn_End p l e R s m args below meth c (MQ below (mn_Qc D ρ z0 hf v) args s hf.2.2.1 hf.2.2.2 (fun q => z0 ≤ q)) D ρ z0 M x (hf, .inl v) := by
  intro pc i st h H locs la hi ht hH hS hla
  obtain ⟨hx, hb, hml, hown, hts, hin2, hlk, htr⟩ := C
  have hd := mn_dec hM hi
  have post : ∀ (w : Option Value), ∀ t : State, t.heap = H → s.WarmedH t.vm → mn_Qc D ρ z0 h w args s (.returned (w.map (mn_v ρ))) t := fun w t h1 h2 => ⟨rfl, by rw [h1]; exact hH.moved h2.alike, hS.F h1⟩
  unfold mn_term at ht
  split at ht
  · split at ht
    · rename_i hc
      cases ht
      rw [hc.2]
      exact W.vret hx hb (by rw [hr]; exact hc.1) (post none) hS.2.2 hd
    · cases ht
  · split at ht
    · split at ht
      · rename_i hc
        cases ht
        rcases hc with hc | ⟨hc, hv⟩
        · exact W.iret hx hb (by rw [hr]; exact hc) (post (some (.int _))) hS.2.2 hd
        · exact W.zret (ty := .boolean) hx hb (by rw [hr]; exact hc) (by rcases hv with rfl | rfl <;> rfl) (post (some (.int _))) hS.2.2 hd
      · cases ht
    · cases ht
  · split at ht
    · split at ht
      · rename_i hc
        cases ht
        exact W.lret hx hb (by rw [hr]; exact hc) (post (some (.long _))) hS.2.2 hd
      · cases ht
    · cases ht
  · split at ht
    · rename_i v' nm hrt
      split at ht
      · rename_i hc
        cases ht
        rcases mn_r_is hc with ⟨a, rfl⟩ | rfl
        · exact W.aret (v := .ref (ρ a)) hx hb (hr.trans hrt) (Or.inl ⟨_, rfl⟩) (Or.inr ⟨_, rfl⟩) (post (some (.ref a))) hS.2.2 hd
        · exact W.aret (v := .null) hx hb (hr.trans hrt) (Or.inl ⟨_, rfl⟩) (Or.inl rfl) (post (some .null)) hS.2.2 hd
      · cases ht
    · cases ht
  · exfalso
    repeat' (split at ht)
    all_goals cases ht
  · cases ht
end MNE
