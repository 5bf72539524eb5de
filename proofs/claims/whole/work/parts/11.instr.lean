section MNI
variable {p : Program} {l : Launch} {e : Env} {R : Room} {s : State} {m : MethodId} {args : Array Value} {below : List Frame} {meth : Method} {c : Code} {Q : State → Prop} {D : va_G} {ρ : Nat → Nat} {z0 o nL pc : Nat} {ini : Bool} {cc : ByteArray} {H : Heap} {locs : List Loc} {la : Array Slot} {rest : List Value} {h : mn_S} {cells slots : Nat}
/-- the judgement at a state of the small machine -/
def mn_J (p : Program) (l : Launch) (e : Env) (R : Room) (s : State) (m : MethodId) (args : Array Value) (below : List Frame) (meth : Method) (c : Code) (Q : State → Prop) (D : va_G) (ρ : Nat → Nat) (z0 : Nat) (pc : Nat) (ls : List (Option Value)) (st : List Value) (h : mn_S) : Prop :=
  ∀ (H : Heap) (locs : List Loc) (la : Array Slot), mn_H s D ρ z0 h H → va_S (fun q => z0 ≤ q) s.heap H locs → mn_L ρ la ls → W p l e R s m args below meth c H locs h.2.2.1 h.2.2.2 Q (F0 m pc la (st.map (mn_v ρ)))
theorem mn_to_eq {pc : Nat} {off : Int} (h : 0 ≤ (pc : Int) + off) : (pc : Int) + off = ((mn_to pc off : Nat) : Int) := by unfold mn_to; omega
theorem mn_gf_spec {a ci k : Nat} {v : Value} (hv : mn_gf h a ci k = some v) : ∃ fs : List Value, h.1 a = some (.inr (ci, fs)) ∧ fs[k]? = some v := by
  unfold mn_gf at hv
  split at hv
  · rename_i c' fs hq
    split at hv
    · rename_i hc
      subst hc
      exact ⟨fs, hq, hv⟩
    · cases hv
  · cases hv
theorem mn_fl_spec {o idx ci k : Nat} (hl : mn_fl o idx = some (ci, k)) : ci < 9 ∧ k < mn_N ci ∧ Cond.fieldLink (mn_own o) idx (mn_T ci k).1 (mn_T ci k).2.1 (mn_T ci k).2.2.1 ∈ mn_uw := by
  have h1 := mn_fl_in o (idx, ci, k) (mn_lk hl)
  simp only [Bool.and_eq_true, decide_eq_true_eq] at h1
  exact ⟨h1.2.1, h1.2.2, h1.1⟩
theorem mn_i_getf (C : mn_C p l s m args meth c o ini cc nL) (hK : va_K D vwCl [] s) (hH : mn_H s D ρ z0 h H) {idx ci k a : Nat} {v : Value} (hl : mn_fl o idx = some (ci, k)) (hv : mn_gf h a ci k = some v) (hd : decode cc pc = .ok (.getfield idx, 3))
    (kk : W p l e R s m args below meth c H locs cells slots Q (F0 m (pc + 3) la (mn_v ρ v :: rest))) : W p l e R s m args below meth c H locs cells slots Q (F0 m pc la (.ref (ρ a) :: rest)) := by
  obtain ⟨hx, hb, hml, hown, hts, -⟩ := C
  obtain ⟨hci, hk, hw⟩ := mn_fl_spec hl
  obtain ⟨hc1, hc2, hc3, hc4, -⟩ := mn_cls ci hci
  obtain ⟨fs, h1, h2⟩ := mn_gf_spec hv
  obtain ⟨r, hr, hO⟩ := hH.1 a _ h1
  refine va_get (D := D) (cl := vwCl) (tys := []) (ci := ci) (C := mn_own ci) (T := mn_T ci) (N := mn_N ci) (ws := [(ρ a, .inr (ci, fs.map (mn_v ρ)))]) (v := mn_v ρ v) hx hb hts hc2 hown hK (fun k q hq => ?_) 0 rfl hc1 k hk (hts _ hw) (fun _ h9 => h9) (by rw [List.getElem?_map, h2]; rfl) hd kk
  have hz : k < 1 := (List.getElem?_eq_some_iff.mp hq).1
  rw [show k = 0 by omega] at hq
  cases hq
  exact ⟨r, hr, hO⟩
theorem mn_pf_spec {a ci k : Nat} {v : Value} {h' : mn_S} (hv : mn_pf h a ci k v = some h') : ∃ fs : List Value, h.1 a = some (.inr (ci, fs)) ∧ k < fs.length ∧ 3 ≤ a ∧ mn_ok (mn_fty ci k) v = true ∧ h' = (mn_up h.1 a (.inr (ci, fs.set k v)), h.2) := by
  unfold mn_pf at hv
  split at hv
  · rename_i c' fs hq
    split at hv
    · rename_i hc
      obtain ⟨rfl, h1, h2, h3⟩ := hc
      cases hv
      exact ⟨fs, hq, h1, h2, h3, rfl⟩
    · cases hv
  · cases hv
theorem mn_i_putf (C : mn_C p l s m args meth c o ini cc nL) (hK : va_K D vwCl [] s) (hρ : mn_R ρ z0) (hH : mn_H s D ρ z0 h H) (hS : va_S (fun q => z0 ≤ q) s.heap H locs) {idx ci k a : Nat} {v : Value} {h' : mn_S} (hl : mn_fl o idx = some (ci, k)) (hv : mn_pf h a ci k v = some h') (hf : (mn_T ci k).2.2.2 = false ∨ (ini = true ∧ ci = o)) (hd : decode cc pc = .ok (.putfield idx, 3))
    (kk : ∀ (H1 : Heap) (locs1 : List Loc), mn_H s D ρ z0 h' H1 → va_S (fun q => z0 ≤ q) s.heap H1 locs1 → W p l e R s m args below meth c H1 locs1 cells slots Q (F0 m (pc + 3) la rest)) : W p l e R s m args below meth c H locs cells slots Q (F0 m pc la (mn_v ρ v :: .ref (ρ a) :: rest)) := by
  obtain ⟨hx, hb, hml, hown, hts, hin2, -⟩ := C
  obtain ⟨hci, hk, hw⟩ := mn_fl_spec hl
  obtain ⟨hc1, hc2, hc3, hc4, -⟩ := mn_cls ci hci
  obtain ⟨fs, h1, hkl, ha, hok, rfl⟩ := mn_pf_spec hv
  obtain ⟨hn, hfit⟩ := mn_ok_spec hok ρ
  obtain ⟨r, hr, cell, q1, q2, q3, q4⟩ := hH.1 a _ h1
  have hr' : r = (mn_own ci, mn_T ci, mn_N ci) := Option.some.inj (hr.symm.trans hc1)
  subst hr'
  have hap := va_apart (own := mn_own o) hts hc2 (mn_fty ci) hc3 hc4 hK hc1
  obtain ⟨hSl, hfc, kC, hkC, hkind⟩ := hK.1 ci _ hc1
  obtain ⟨cf, kf, fi, f, hi, hsl⟩ := hSl k hk
  have hlay := hts _ (hc2 _ (u_in_lay hk))
  have hst := (u_facts hfc hkC (u_lays hts hc2 hk) hi).1
  have hz : z0 ≤ ρ a := by rw [hρ.2 a ha]; omega
  have fin : ∀ H' : Heap, H'[ρ a]? = some (cell.setSlot f.slot (mn_v ρ v)) → H'.size = H.size → (∀ q, q ≠ ρ a → H'[q]? = H[q]?) → mn_H s D ρ z0 (mn_up h.1 a (.inr (ci, fs.set k v)), h.2) H' := by
    intro H' e1 e2 e3
    refine hH.put hρ ha e2 e3 ⟨_, hc1, ?_⟩
    rw [hsl] at e1
    refine t_OB.to (V := updV (vp_V (fs.map (mn_v ρ))) k (mn_v ρ v)) ⟨_, e1, q2, q3, t_set q4 hap hk (mn_v ρ v)⟩ (fun j _ => ?_)
    rw [vp_updV_set (by rw [List.length_map]; exact hkl), List.map_set]
  by_cases hfl : (mn_T ci k).2.2.2 = true
  · obtain ⟨hi1, hi2⟩ := hf.resolve_left (by rw [hfl]; decide)
    subst hi2
    unfold u_lay at hlay
    rw [if_pos hfl] at hlay
    have hcf : m.cls = cf := by
      obtain ⟨_, _, c', _, _, _, -, -, hf', -, -, -, hown2, -⟩ := Cond.laysFinal_spec hlay
      have e1 : c' = cf := by have := hi.symm.trans hf'; simp at this; exact this.1.symm
      rw [mn_decl ci hci k hk] at hown2
      rw [← e1]; exact Option.some.inj (hown.symm.trans hown2)
    have h6 := u_fits hfc hkC hkind (Or.inr hlay) hi (hc3 k hk) hn hfit
    refine W.putFinK hx hb hown (hts _ hw) hi hst hcf (hin2 hi1) (by rw [q2]; exact h6) q1 q3 (by rw [hsl]; exact k2_hasslot (q4 k hk)) rfl rfl hd fun H' e1 e2 e3 => ?_
    exact kk H' _ (fin H' e1 e2 e3) (hS.put e2 e3 hz)
  · have hfl' : (mn_T ci k).2.2.2 = false := by simpa using hfl
    unfold u_lay at hlay
    rw [if_neg hfl] at hlay
    have h6 := u_store hfc hkC hkind hlay hi (hc3 k hk) hn hfit
    refine W.putK hx hb (f := f) ⟨hown, hts _ hw, ⟨_, _, _, hi⟩, hst⟩ (by rw [q2]; exact h6) q1 q3 (by rw [hsl]; exact k2_hasslot (q4 k hk)) rfl rfl hd fun H' e1 e2 e3 => ?_
    exact kk H' _ (fin H' e1 e2 e3) (hS.put e2 e3 hz)
theorem mn_al_spec {a t : Nat} {i : Int32} {v : Value} (hv : mn_al h a t i = some v) : ∃ n x, h.1 a = some (.inl (t, n, x)) ∧ vp_in i n ∧ v = mn_e x i.toNatClampNeg := by
  unfold mn_al at hv
  split at hv
  · rename_i t' n x hq
    split at hv
    · rename_i hc
      obtain ⟨rfl, h1⟩ := hc
      cases hv
      exact ⟨n, x, hq, mn_in_iff.mp h1, rfl⟩
    · cases hv
  · cases hv
theorem mn_vin {i : Int32} {n : Nat} (h : vp_in i n) : ¬ i < 0 ∧ i.toNatClampNeg < n := ⟨fun q => h (Or.inl q), Nat.not_le.mp fun q => h (Or.inr q)⟩
theorem mn_vin2 {i : Int32} {n k : Nat} (h : vp_in i n) (hk : n ≤ k) : ¬ (i < 0 ∨ k ≤ i.toNatClampNeg) := fun q => h (q.imp id (fun z => Nat.le_trans hk z))
theorem mn_i_al (C : mn_C p l s m args meth c o ini cc nL) (hH : mn_H s D ρ z0 h H) {a t : Nat} {i : Int32} {v : Value} {ins : ClassFile.Instr} (hv : mn_al h a t i = some v) (ht : (t = 0 ∧ ins = .iaload) ∨ (t = 1 ∧ ins = .laload) ∨ (t = 2 ∧ ins = .baload)) (hd : decode cc pc = .ok (ins, 1))
    (kk : W p l e R s m args below meth c H locs cells slots Q (F0 m (pc + 1) la (mn_v ρ v :: rest))) : W p l e R s m args below meth c H locs cells slots Q (F0 m pc la (.int i :: .ref (ρ a) :: rest)) := by
  obtain ⟨hx, hb, -⟩ := C
  obtain ⟨n, x, h1, hin, rfl⟩ := mn_al_spec hv
  obtain ⟨-, cell, g1, g2, g3, g4, g5, -⟩ := hH.1 a _ h1
  have hin' := mn_vin hin
  have hnn : ¬ (i < 0 ∨ cell.slots.size ≤ i.toNatClampNeg) := mn_vin2 hin g4.1
  rcases ht with ⟨rfl, rfl⟩ | ⟨rfl, rfl⟩ | ⟨rfl, rfl⟩
  · exact W.iald hx hb g1 g2 g3 hnn (g5 _ hin'.2) rfl rfl hd kk
  · exact W.lald hx hb g1 g2 g3 hnn (g5 _ hin'.2) rfl rfl hd kk
  · exact W.zald hx hb g1 g2 g3 hnn (g5 _ hin'.2) rfl rfl hd kk
theorem mn_ref (t : Nat) (h : 3 ≤ t) : (mn_ty t).isReference = true := by
  match t, h with
  | 3, _ => rfl
  | 4, _ => rfl
  | n + 5, _ => rfl
theorem mn_i_aq (C : mn_C p l s m args meth c o ini cc nL) (hH : mn_H s D ρ z0 h H) {a : Nat} {i : Int32} {v : Value} (hv : mn_aq h a i = some v) (hd : decode cc pc = .ok (.aaload, 1))
    (kk : W p l e R s m args below meth c H locs cells slots Q (F0 m (pc + 1) la (mn_v ρ v :: rest))) : W p l e R s m args below meth c H locs cells slots Q (F0 m pc la (.int i :: .ref (ρ a) :: rest)) := by
  obtain ⟨hx, hb, -⟩ := C
  unfold mn_aq at hv
  split at hv
  · rename_i t n f hq
    split at hv
    · rename_i hc
      obtain ⟨h3, -, hin⟩ := hc
      cases hv
      obtain ⟨-, cell, g1, g2, g3, g4, g5, -⟩ := hH.1 a _ hq
      have hin := mn_in_iff.mp hin
      have hin' := mn_vin hin
      exact W.aald (ty := mn_ty t) hx hb g1 g2 (mn_ref t h3) g3 (mn_vin2 hin g4.1) (g5 _ hin'.2) rfl rfl hd kk
    · cases hv
  · cases hv
theorem mn_i_len (C : mn_C p l s m args meth c o ini cc nL) (hH : mn_H s D ρ z0 h H) {a : Nat} {v : Value} (hv : mn_len h a = some v) (hd : decode cc pc = .ok (.arraylength, 1))
    (kk : W p l e R s m args below meth c H locs cells slots Q (F0 m (pc + 1) la (mn_v ρ v :: rest))) : W p l e R s m args below meth c H locs cells slots Q (F0 m pc la (.ref (ρ a) :: rest)) := by
  obtain ⟨hx, hb, -⟩ := C
  unfold mn_len at hv
  split at hv
  · rename_i t n x hq
    split at hv
    · cases hv
      obtain ⟨-, cell, g1, g2, g3, g4, g5, -⟩ := hH.1 a _ hq
      exact W.alen (ty := mn_ty t) (n := Int32.ofNat n) hx hb g1 g2 g4.2 rfl rfl hd kk
    · cases hv
  · cases hv
theorem mn_set_at {cell : Cell} {n j : Nat} {v : Value} {f : Nat → Value} (hs : n ≤ cell.slots.size) (hf : ∀ q : Nat, q < n → cell.slots[q]? = some (f q)) (hj : j < n) : (cell.setSlot j v).slots.size = cell.slots.size ∧ ∀ q : Nat, q < n → (cell.setSlot j v).slots[q]? = some (if q = j then v else f q) := by
  constructor
  · simp [Cell.setSlot]
  · intro q hq
    by_cases h : q = j
    · subst h
      have : q < cell.slots.size := Nat.lt_of_lt_of_le hj hs
      simp [Cell.setSlot, this]
    · simp [Cell.setSlot, Array.getElem?_setIfInBounds, h, Ne.symm h, hf q hq]
/-- behind a store into an array: the picture -/
theorem mn_H.arr {U : State} {H H' : Heap} {a t n j : Nat} {x x' : (Nat → Int32) ⊕ (Nat → Int64) ⊕ (Nat → UInt32) ⊕ (Nat → UInt64) ⊕ (Nat → Option Nat)} {cell : Cell} {v : Value} (hρ : mn_R ρ z0) (ha3 : 3 ≤ a) (q : mn_H U D ρ z0 h H) (ha : h.1 a = some (.inl (t, n, x))) (hc : H[ρ a]? = some cell) (hj : j < n)
    (e1 : H'[ρ a]? = some (cell.setSlot j (mn_v ρ v))) (e2 : H'.size = H.size) (e3 : ∀ q, q ≠ ρ a → H'[q]? = H[q]?) (hx : ∀ k, mn_e x' k = if k = j then v else mn_e x k) : mn_H U D ρ z0 (mn_up h.1 a (.inl (t, n, x')), h.2) H' := by
  obtain ⟨h0, cell', g1, g2, g3, g4, g5, g6⟩ := q.1 a _ ha
  cases Option.some.inj (g1.symm.trans hc)
  obtain ⟨s1, s2⟩ := mn_set_at (v := mn_v ρ v) g4.1 g5 hj
  refine q.put hρ ha3 e2 e3 ⟨h0, _, e1, g2, g3, ⟨by rw [s1]; exact g4.1, by rw [s1]; exact g4.2⟩, fun k hk => ?_, g6⟩
  rw [s2 k hk, hx k]
  split <;> rfl
theorem mn_i_asi (C : mn_C p l s m args meth c o ini cc nL) (hρ : mn_R ρ z0) (hH : mn_H s D ρ z0 h H) (hS : va_S (fun q => z0 ≤ q) s.heap H locs) {a : Nat} {i x : Int32} {h' : mn_S} (hv : mn_asi h a i x = some h') (hd : decode cc pc = .ok (.iastore, 1))
    (kk : ∀ (H1 : Heap) (locs1 : List Loc), mn_H s D ρ z0 h' H1 → va_S (fun q => z0 ≤ q) s.heap H1 locs1 → W p l e R s m args below meth c H1 locs1 cells slots Q (F0 m (pc + 1) la rest)) : W p l e R s m args below meth c H locs cells slots Q (F0 m pc la (.int x :: .int i :: .ref (ρ a) :: rest)) := by
  obtain ⟨hx, hb, -⟩ := C
  unfold mn_asi at hv
  split at hv
  · rename_i n f hq
    split at hv
    · rename_i hc
      obtain ⟨hin, ha⟩ := hc
      cases hv
      have hin := mn_in_iff.mp hin
      obtain ⟨-, cell, g1, g2, g3, g4, g5, -⟩ := hH.1 a _ hq
      have hz : z0 ≤ ρ a := by rw [hρ.2 a ha]; omega
      refine W.iast hx hb g1 g2 g3 (mn_vin2 hin g4.1) rfl rfl hd fun H' e1 e2 e3 => ?_
      exact kk H' _ (hH.arr hρ ha hq g1 (mn_vin hin).2 (v := .int x) e1 e2 e3 (fun k => by simp only [mn_e, upd]; split <;> rfl)) (hS.put e2 e3 hz)
    · cases hv
  · cases hv
theorem mn_i_asz (C : mn_C p l s m args meth c o ini cc nL) (hρ : mn_R ρ z0) (hH : mn_H s D ρ z0 h H) (hS : va_S (fun q => z0 ≤ q) s.heap H locs) {a : Nat} {i x : Int32} {h' : mn_S} (hv : mn_asz h a i x = some h') (hd : decode cc pc = .ok (.bastore, 1))
    (kk : ∀ (H1 : Heap) (locs1 : List Loc), mn_H s D ρ z0 h' H1 → va_S (fun q => z0 ≤ q) s.heap H1 locs1 → W p l e R s m args below meth c H1 locs1 cells slots Q (F0 m (pc + 1) la rest)) : W p l e R s m args below meth c H locs cells slots Q (F0 m pc la (.int x :: .int i :: .ref (ρ a) :: rest)) := by
  obtain ⟨hx, hb, -⟩ := C
  unfold mn_asz at hv
  split at hv
  · rename_i n f hq
    split at hv
    · rename_i hc
      obtain ⟨hin, ha, hxx⟩ := hc
      cases hv
      have hin := mn_in_iff.mp hin
      obtain ⟨-, cell, g1, g2, g3, g4, g5, -⟩ := hH.1 a _ hq
      have hz : z0 ≤ ρ a := by rw [hρ.2 a ha]; omega
      have hnr : narrow .boolean (.int x) = .int x := by rcases hxx with rfl | rfl <;> rfl
      refine W.zast hx hb g1 g2 g3 (mn_vin2 hin g4.1) rfl rfl hd fun H' e1 e2 e3 => ?_
      rw [hnr] at e1
      exact kk H' _ (hH.arr hρ ha hq g1 (mn_vin hin).2 (v := .int x) e1 e2 e3 (fun k => by simp only [mn_e, upd]; split <;> rfl)) (hS.put e2 e3 hz)
    · cases hv
  · cases hv
theorem mn_i_asl (C : mn_C p l s m args meth c o ini cc nL) (hρ : mn_R ρ z0) (hH : mn_H s D ρ z0 h H) (hS : va_S (fun q => z0 ≤ q) s.heap H locs) {a : Nat} {i : Int32} {x : Int64} {h' : mn_S} (hv : mn_asl h a i x = some h') (hd : decode cc pc = .ok (.lastore, 1))
    (kk : ∀ (H1 : Heap) (locs1 : List Loc), mn_H s D ρ z0 h' H1 → va_S (fun q => z0 ≤ q) s.heap H1 locs1 → W p l e R s m args below meth c H1 locs1 cells slots Q (F0 m (pc + 1) la rest)) : W p l e R s m args below meth c H locs cells slots Q (F0 m pc la (.long x :: .int i :: .ref (ρ a) :: rest)) := by
  obtain ⟨hx, hb, -⟩ := C
  unfold mn_asl at hv
  split at hv
  · rename_i n f hq
    split at hv
    · rename_i hc
      obtain ⟨hin, ha⟩ := hc
      cases hv
      have hin := mn_in_iff.mp hin
      obtain ⟨-, cell, g1, g2, g3, g4, g5, -⟩ := hH.1 a _ hq
      have hz : z0 ≤ ρ a := by rw [hρ.2 a ha]; omega
      refine W.last hx hb g1 g2 g3 (mn_vin2 hin g4.1) rfl rfl hd fun H' e1 e2 e3 => ?_
      exact kk H' _ (hH.arr hρ ha hq g1 (mn_vin hin).2 (v := .long x) e1 e2 e3 (fun k => by simp only [mn_e, vp_updL]; split <;> rfl)) (hS.put e2 e3 hz)
    · cases hv
  · cases hv
theorem mn_tc_lt (t : Nat) : mn_tc t < 9 := by
  unfold mn_tc
  split <;> decide
theorem mn_i_asq (C : mn_C p l s m args meth c o ini cc nL) (hK : va_K D vwCl [] s) (hρ : mn_R ρ z0) (hH : mn_H s D ρ z0 h H) (hS : va_S (fun q => z0 ≤ q) s.heap H locs) {a b : Nat} {i : Int32} {h' : mn_S} (hv : mn_asq h a i b = some h') (hd : decode cc pc = .ok (.aastore, 1))
    (kk : ∀ (H1 : Heap) (locs1 : List Loc), mn_H s D ρ z0 h' H1 → va_S (fun q => z0 ≤ q) s.heap H1 locs1 → W p l e R s m args below meth c H1 locs1 cells slots Q (F0 m (pc + 1) la rest)) : W p l e R s m args below meth c H locs cells slots Q (F0 m pc la (.ref (ρ b) :: .int i :: .ref (ρ a) :: rest)) := by
  obtain ⟨hx, hb, -⟩ := C
  unfold mn_asq at hv
  split at hv
  · rename_i t n f hq
    split at hv
    · rename_i hc
      obtain ⟨ht3, ht6, hin, ha, hisc⟩ := hc
      cases hv
      have hin := mn_in_iff.mp hin
      obtain ⟨-, cell, g1, g2, g3, g4, g5, g6⟩ := hH.1 a _ hq
      obtain ⟨kA, comp, k1, k2, k3⟩ := g6 ht3
      have hz : z0 ≤ ρ a := by rw [hρ.2 a ha]; omega
      unfold mn_isc at hisc
      split at hisc
      · rename_i cb fsb hqb
        simp only [decide_eq_true_eq] at hisc
        subst hisc
        obtain ⟨r, hr, cellV, v1, v2, v3, -⟩ := hH.1 b _ hqb
        obtain ⟨hc1, -⟩ := mn_cls (mn_tc t) (mn_tc_lt t)
        have hcls := (hK.1 (mn_tc t) _ hc1).2
        have hcomp : comp = D.1 (mn_tc t) := Option.some.inj (k3.symm.trans hcls.1)
        subst hcomp
        obtain ⟨kC, hkC, hkk⟩ := hcls.2
        refine W.aast hx hb g1 g2.1 g3 k1 k2 (mn_ref t ht3) hkC ⟨(mn_vin hin).1, Nat.lt_of_lt_of_le (mn_vin hin).2 g4.1⟩ v1 (fun q h => by rw [v3] at h; cases h) (by rw [v2]; exact hkC) (by rw [v2]; exact va_assign hcls) rfl rfl hd fun H' e1 e2 e3 => ?_
        exact kk H' _ (hH.arr hρ ha hq g1 (mn_vin hin).2 (v := .ref b) e1 e2 e3 (fun k => by simp only [mn_e, va_up]; split <;> rfl)) (hS.put e2 e3 hz)
      · cases hisc
    · cases hv
  · cases hv
end MNI
