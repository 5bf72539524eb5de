/-! pictures by lists: from code z on the cells l, else b -/
def lpic (b : Nat → Option va_E) (z : Nat) (l : List va_E) : Nat → Option va_E := fun k => if z ≤ k ∧ k < z + l.length then l[k - z]? else b k
theorem lp_get {b : Nat → Option va_E} {z : Nat} {l : List va_E} {k : Nat} {e : va_E} (p : Nat) (hk : k = z + p) (he : l[p]? = some e) : lpic b z l k = some e := by
  have hp : p < l.length := (List.getElem?_eq_some_iff.mp he).1
  unfold lpic
  rw [if_pos (by omega), hk, Nat.add_sub_cancel_left]
  exact he
theorem lp_up {b : Nat → Option va_E} {z : Nat} {l l' : List va_E} {k : Nat} {e : va_E} (p : Nat) (hk : k = z + p) (hp : p < l.length) (hl : l.set p e = l') : mn_up (lpic b z l) k e = lpic b z l' := by
  subst hl
  funext j
  unfold mn_up lpic
  rw [List.length_set]
  by_cases hj : j = k
  · subst hj
    rw [if_pos rfl, if_pos (by omega), hk, Nat.add_sub_cancel_left, List.getElem?_set_self hp]
  · rw [if_neg hj]
    by_cases hz : z ≤ j ∧ j < z + l.length
    · rw [if_pos hz, if_pos hz, List.getElem?_set_ne (by omega)]
    · rw [if_neg hz, if_neg hz]
theorem lp_out {b : Nat → Option va_E} {z : Nat} {l : List va_E} {k : Nat} (hk : ¬ (z ≤ k ∧ k < z + l.length)) : lpic b z l k = b k := by unfold lpic; rw [if_neg hk]
theorem mn_asi_of {h : mn_S} {a n : Nat} {f : Nat → Int32} {x y : Int32} (ha : h.1 a = some (.inl (0, n, .inl f))) (hx : mn_in x n = true) (h3 : 3 ≤ a) : mn_asi h a x y = some (mn_up h.1 a (.inl (0, n, .inl (upd f x.toNatClampNeg y))), h.2) := by
  unfold mn_asi
  rw [ha]
  exact if_pos ⟨hx, h3⟩
theorem mn_asz_of {h : mn_S} {a n : Nat} {f : Nat → Int32} {x y : Int32} (ha : h.1 a = some (.inl (2, n, .inl f))) (hx : mn_in x n = true) (h3 : 3 ≤ a) (hy : y = 0 ∨ y = 1) : mn_asz h a x y = some (mn_up h.1 a (.inl (2, n, .inl (upd f x.toNatClampNeg y))), h.2) := by
  unfold mn_asz
  rw [ha]
  exact if_pos ⟨hx, h3, hy⟩
theorem mn_asl_of {h : mn_S} {a n : Nat} {f : Nat → Int64} {x : Int32} {u : Int64} (ha : h.1 a = some (.inl (1, n, .inr (.inl f)))) (hx : mn_in x n = true) (h3 : 3 ≤ a) : mn_asl h a x u = some (mn_up h.1 a (.inl (1, n, .inr (.inl (vp_updL f x.toNatClampNeg u)))), h.2) := by
  unfold mn_asl
  rw [ha]
  exact if_pos ⟨hx, h3⟩
/-- fields F, arrays of ints A, of longs L: by the number of the field -/
def up1 (F : Nat → Int32) (k : Nat) (x : Int32) : Nat → Int32 := fun j => if j = k then x else F j
def up2 (A : Nat → Nat → Int32) (k i : Nat) (x : Int32) : Nat → Nat → Int32 := fun j => if j = k then upd (A k) i x else A j
def upL (L : Nat → Nat → Int64) (k i : Nat) (x : Int64) : Nat → Nat → Int64 := fun j => if j = k then vp_updL (L k) i x else L j

def mls (F : Nat → Int32) (A : Nat → Nat → Int32) (L : Nat → Nat → Int64) : List va_E := [.inr (8, [.int (F 0), .int (F 1), .int (F 2), .int (F 3), .ref 150, .ref 151, .ref 152, .ref 153, .ref 154, .int (F 9), .ref 155, .int (F 11), .int (F 12), .int (F 13), .ref 156, .ref 157, .ref 158, .ref 159, .ref 160, .ref 161, .ref 162, .ref 163, .ref 164, .ref 165, .ref 166, .ref 167, .ref 168, .ref 169, .ref 170, .ref 171, .ref 172, .ref 173, .ref 174, .ref 175]), .inl (0, 8, .inl (A 4)), .inl (0, 192, .inl (A 5)), .inl (0, 192, .inl (A 6)), .inl (0, 12, .inl (A 7)), .inl (0, 12, .inl (A 8)), .inl (2, 192, .inl (A 10)), .inl (0, 12, .inl (A 14)), .inl (0, 12, .inl (A 15)), .inl (0, 12, .inl (A 16)), .inl (0, 12, .inl (A 17)), .inl (0, 12, .inl (A 18)), .inl (0, 12, .inl (A 19)), .inl (0, 12, .inl (A 20)), .inl (0, 12, .inl (A 21)), .inl (1, 96, .inr (.inl (L 22))), .inl (1, 48, .inr (.inl (L 23))), .inl (0, 12, .inl (A 24)), .inl (1, 360, .inr (.inl (L 25))), .inl (1, 12, .inr (.inl (L 26))), .inl (0, 12, .inl (A 27)), .inl (0, 12, .inl (A 28)), .inl (2, 40, .inl (A 29)), .inl (0, 40, .inl (A 30)), .inl (0, 40, .inl (A 31)), .inl (1, 480, .inr (.inl (L 32))), .inl (1, 8, .inr (.inl (L 33)))]
abbrev mpic (b : Nat → Option va_E) (F : Nat → Int32) (A : Nat → Nat → Int32) (L : Nat → Nat → Int64) : Nat → Option va_E := lpic b 149 (mls F A L)
section MP
variable {b : Nat → Option va_E} {F : Nat → Int32} {A : Nat → Nat → Int32} {L : Nat → Nat → Int64} {q : Option Nat × Nat × Nat} {x y : Int32} {u : Int64} {k : Nat}
theorem mg_obj : mpic b F A L 149 = some (.inr (8, [.int (F 0), .int (F 1), .int (F 2), .int (F 3), .ref 150, .ref 151, .ref 152, .ref 153, .ref 154, .int (F 9), .ref 155, .int (F 11), .int (F 12), .int (F 13), .ref 156, .ref 157, .ref 158, .ref 159, .ref 160, .ref 161, .ref 162, .ref 163, .ref 164, .ref 165, .ref 166, .ref 167, .ref 168, .ref 169, .ref 170, .ref 171, .ref 172, .ref 173, .ref 174, .ref 175])) := lp_get 0 rfl rfl
theorem mg_code : mn_gf (mpic b F A L, q) 149 8 0 = some (.int (F 0)) := by unfold mn_gf; dsimp only; rw [mg_obj]; rfl
theorem mp_code : mn_pf (mpic b F A L, q) 149 8 0 (.int x) = some (mpic b (up1 F 0 x) A L, q) := by
  unfold mn_pf; dsimp only; rw [mg_obj]; dsimp only; rw [if_pos ⟨rfl, Nat.le_of_ble_eq_true rfl, by decide, rfl⟩, lp_up 0 rfl (Nat.le_of_ble_eq_true rfl) (l' := mls (up1 F 0 x) A L) rfl]
theorem mg_blocks : mn_gf (mpic b F A L, q) 149 8 1 = some (.int (F 1)) := by unfold mn_gf; dsimp only; rw [mg_obj]; rfl
theorem mp_blocks : mn_pf (mpic b F A L, q) 149 8 1 (.int x) = some (mpic b (up1 F 1 x) A L, q) := by
  unfold mn_pf; dsimp only; rw [mg_obj]; dsimp only; rw [if_pos ⟨rfl, Nat.le_of_ble_eq_true rfl, by decide, rfl⟩, lp_up 0 rfl (Nat.le_of_ble_eq_true rfl) (l' := mls (up1 F 1 x) A L) rfl]
theorem mg_merges : mn_gf (mpic b F A L, q) 149 8 2 = some (.int (F 2)) := by unfold mn_gf; dsimp only; rw [mg_obj]; rfl
theorem mp_merges : mn_pf (mpic b F A L, q) 149 8 2 (.int x) = some (mpic b (up1 F 2 x) A L, q) := by
  unfold mn_pf; dsimp only; rw [mg_obj]; dsimp only; rw [if_pos ⟨rfl, Nat.le_of_ble_eq_true rfl, by decide, rfl⟩, lp_up 0 rfl (Nat.le_of_ble_eq_true rfl) (l' := mls (up1 F 2 x) A L) rfl]
theorem mg_latest : mn_gf (mpic b F A L, q) 149 8 3 = some (.int (F 3)) := by unfold mn_gf; dsimp only; rw [mg_obj]; rfl
theorem mp_latest : mn_pf (mpic b F A L, q) 149 8 3 (.int x) = some (mpic b (up1 F 3 x) A L, q) := by
  unfold mn_pf; dsimp only; rw [mg_obj]; dsimp only; rw [if_pos ⟨rfl, Nat.le_of_ble_eq_true rfl, by decide, rfl⟩, lp_up 0 rfl (Nat.le_of_ble_eq_true rfl) (l' := mls (up1 F 3 x) A L) rfl]
theorem mg_size : mn_gf (mpic b F A L, q) 149 8 4 = some (.ref 150) := by unfold mn_gf; dsimp only; rw [mg_obj]; rfl
theorem mc_size : mpic b F A L 150 = some (.inl (0, 8, .inl (A 4))) := lp_get 1 rfl rfl
theorem ml_size (hk : k < 8) : mn_al (mpic b F A L, q) 150 0 (nI k) = some (.int (A 4 k)) := by
  have hx : mn_in (nI k) 8 = true := mn_in_iff.mpr (vp_in_nI hk (by decide))
  have hc : (nI k).toNatClampNeg = k := nI_clamp (by omega)
  unfold mn_al; dsimp only; rw [mc_size]; dsimp only; rw [if_pos ⟨rfl, hx⟩]; unfold mn_e; rw [hc]
theorem ms_size (hk : k < 8) : mn_asi (mpic b F A L, q) 150 (nI k) y = some (mpic b F (up2 A 4 k y) L, q) := by
  have hx : mn_in (nI k) 8 = true := mn_in_iff.mpr (vp_in_nI hk (by decide))
  have hc : (nI k).toNatClampNeg = k := nI_clamp (by omega)
  rw [mn_asi_of (h := (mpic b F A L, q)) (mc_size (b := b)) hx (by decide), hc, lp_up 1 rfl (Nat.le_of_ble_eq_true rfl) (l' := mls F (up2 A 4 k y) L) rfl]
theorem mg_operation : mn_gf (mpic b F A L, q) 149 8 5 = some (.ref 151) := by unfold mn_gf; dsimp only; rw [mg_obj]; rfl
theorem mc_operation : mpic b F A L 151 = some (.inl (0, 192, .inl (A 5))) := lp_get 2 rfl rfl
theorem ml_operation (hk : k < 192) : mn_al (mpic b F A L, q) 151 0 (nI k) = some (.int (A 5 k)) := by
  have hx : mn_in (nI k) 192 = true := mn_in_iff.mpr (vp_in_nI hk (by decide))
  have hc : (nI k).toNatClampNeg = k := nI_clamp (by omega)
  unfold mn_al; dsimp only; rw [mc_operation]; dsimp only; rw [if_pos ⟨rfl, hx⟩]; unfold mn_e; rw [hc]
theorem ms_operation (hk : k < 192) : mn_asi (mpic b F A L, q) 151 (nI k) y = some (mpic b F (up2 A 5 k y) L, q) := by
  have hx : mn_in (nI k) 192 = true := mn_in_iff.mpr (vp_in_nI hk (by decide))
  have hc : (nI k).toNatClampNeg = k := nI_clamp (by omega)
  rw [mn_asi_of (h := (mpic b F A L, q)) (mc_operation (b := b)) hx (by decide), hc, lp_up 2 rfl (Nat.le_of_ble_eq_true rfl) (l' := mls F (up2 A 5 k y) L) rfl]
theorem mg_argument : mn_gf (mpic b F A L, q) 149 8 6 = some (.ref 152) := by unfold mn_gf; dsimp only; rw [mg_obj]; rfl
theorem mc_argument : mpic b F A L 152 = some (.inl (0, 192, .inl (A 6))) := lp_get 3 rfl rfl
theorem ml_argument (hk : k < 192) : mn_al (mpic b F A L, q) 152 0 (nI k) = some (.int (A 6 k)) := by
  have hx : mn_in (nI k) 192 = true := mn_in_iff.mpr (vp_in_nI hk (by decide))
  have hc : (nI k).toNatClampNeg = k := nI_clamp (by omega)
  unfold mn_al; dsimp only; rw [mc_argument]; dsimp only; rw [if_pos ⟨rfl, hx⟩]; unfold mn_e; rw [hc]
theorem ms_argument (hk : k < 192) : mn_asi (mpic b F A L, q) 152 (nI k) y = some (mpic b F (up2 A 6 k y) L, q) := by
  have hx : mn_in (nI k) 192 = true := mn_in_iff.mpr (vp_in_nI hk (by decide))
  have hc : (nI k).toNatClampNeg = k := nI_clamp (by omega)
  rw [mn_asi_of (h := (mpic b F A L, q)) (mc_argument (b := b)) hx (by decide), hc, lp_up 3 rfl (Nat.le_of_ble_eq_true rfl) (l' := mls F (up2 A 6 k y) L) rfl]
theorem mg_kind : mn_gf (mpic b F A L, q) 149 8 7 = some (.ref 153) := by unfold mn_gf; dsimp only; rw [mg_obj]; rfl
theorem mc_kind : mpic b F A L 153 = some (.inl (0, 12, .inl (A 7))) := lp_get 4 rfl rfl
theorem ml_kind (hk : k < 12) : mn_al (mpic b F A L, q) 153 0 (nI k) = some (.int (A 7 k)) := by
  have hx : mn_in (nI k) 12 = true := mn_in_iff.mpr (vp_in_nI hk (by decide))
  have hc : (nI k).toNatClampNeg = k := nI_clamp (by omega)
  unfold mn_al; dsimp only; rw [mc_kind]; dsimp only; rw [if_pos ⟨rfl, hx⟩]; unfold mn_e; rw [hc]
theorem ms_kind (hk : k < 12) : mn_asi (mpic b F A L, q) 153 (nI k) y = some (mpic b F (up2 A 7 k y) L, q) := by
  have hx : mn_in (nI k) 12 = true := mn_in_iff.mpr (vp_in_nI hk (by decide))
  have hc : (nI k).toNatClampNeg = k := nI_clamp (by omega)
  rw [mn_asi_of (h := (mpic b F A L, q)) (mc_kind (b := b)) hx (by decide), hc, lp_up 4 rfl (Nat.le_of_ble_eq_true rfl) (l' := mls F (up2 A 7 k y) L) rfl]
theorem mg_mergeOf : mn_gf (mpic b F A L, q) 149 8 8 = some (.ref 154) := by unfold mn_gf; dsimp only; rw [mg_obj]; rfl
theorem mc_mergeOf : mpic b F A L 154 = some (.inl (0, 12, .inl (A 8))) := lp_get 5 rfl rfl
theorem ml_mergeOf (hk : k < 12) : mn_al (mpic b F A L, q) 154 0 (nI k) = some (.int (A 8 k)) := by
  have hx : mn_in (nI k) 12 = true := mn_in_iff.mpr (vp_in_nI hk (by decide))
  have hc : (nI k).toNatClampNeg = k := nI_clamp (by omega)
  unfold mn_al; dsimp only; rw [mc_mergeOf]; dsimp only; rw [if_pos ⟨rfl, hx⟩]; unfold mn_e; rw [hc]
theorem ms_mergeOf (hk : k < 12) : mn_asi (mpic b F A L, q) 154 (nI k) y = some (mpic b F (up2 A 8 k y) L, q) := by
  have hx : mn_in (nI k) 12 = true := mn_in_iff.mpr (vp_in_nI hk (by decide))
  have hc : (nI k).toNatClampNeg = k := nI_clamp (by omega)
  rw [mn_asi_of (h := (mpic b F A L, q)) (mc_mergeOf (b := b)) hx (by decide), hc, lp_up 5 rfl (Nat.le_of_ble_eq_true rfl) (l' := mls F (up2 A 8 k y) L) rfl]
theorem mg_runs : mn_gf (mpic b F A L, q) 149 8 9 = some (.int (F 9)) := by unfold mn_gf; dsimp only; rw [mg_obj]; rfl
theorem mp_runs (hx : x = nI 0 ∨ x = nI 1) : mn_pf (mpic b F A L, q) 149 8 9 (.int x) = some (mpic b (up1 F 9 x) A L, q) := by
  have ho : mn_ok (mn_fty 8 9) (.int x) = true := by rcases hx with rfl | rfl <;> rfl
  unfold mn_pf; dsimp only; rw [mg_obj]; dsimp only; rw [if_pos ⟨rfl, Nat.le_of_ble_eq_true rfl, by decide, ho⟩, lp_up 0 rfl (Nat.le_of_ble_eq_true rfl) (l' := mls (up1 F 9 x) A L) rfl]
theorem mp_runs0 : mn_pf (mpic b F A L, q) 149 8 9 (.int (nI 0)) = some (mpic b (up1 F 9 (nI 0)) A L, q) := mp_runs (Or.inl rfl)
theorem mp_runs1 : mn_pf (mpic b F A L, q) 149 8 9 (.int (nI 1)) = some (mpic b (up1 F 9 (nI 1)) A L, q) := mp_runs (Or.inr rfl)
theorem mg_reached : mn_gf (mpic b F A L, q) 149 8 10 = some (.ref 155) := by unfold mn_gf; dsimp only; rw [mg_obj]; rfl
theorem mc_reached : mpic b F A L 155 = some (.inl (2, 192, .inl (A 10))) := lp_get 6 rfl rfl
theorem ml_reached (hk : k < 192) : mn_al (mpic b F A L, q) 155 2 (nI k) = some (.int (A 10 k)) := by
  have hx : mn_in (nI k) 192 = true := mn_in_iff.mpr (vp_in_nI hk (by decide))
  have hc : (nI k).toNatClampNeg = k := nI_clamp (by omega)
  unfold mn_al; dsimp only; rw [mc_reached]; dsimp only; rw [if_pos ⟨rfl, hx⟩]; unfold mn_e; rw [hc]
theorem ms_reached (hk : k < 192) (hy : y = nI 0 ∨ y = nI 1) : mn_asz (mpic b F A L, q) 155 (nI k) y = some (mpic b F (up2 A 10 k y) L, q) := by
  have hx : mn_in (nI k) 192 = true := mn_in_iff.mpr (vp_in_nI hk (by decide))
  have hc : (nI k).toNatClampNeg = k := nI_clamp (by omega)
  rw [mn_asz_of (h := (mpic b F A L, q)) (mc_reached (b := b)) hx (by decide) hy, hc, lp_up 6 rfl (Nat.le_of_ble_eq_true rfl) (l' := mls F (up2 A 10 k y) L) rfl]
theorem ms_reached0 (hk : k < 192) : mn_asz (mpic b F A L, q) 155 (nI k) (nI 0) = some (mpic b F (up2 A 10 k (nI 0)) L, q) := ms_reached hk (Or.inl rfl)
theorem ms_reached1 (hk : k < 192) : mn_asz (mpic b F A L, q) 155 (nI k) (nI 1) = some (mpic b F (up2 A 10 k (nI 1)) L, q) := ms_reached hk (Or.inr rfl)
theorem mg_tasks : mn_gf (mpic b F A L, q) 149 8 11 = some (.int (F 11)) := by unfold mn_gf; dsimp only; rw [mg_obj]; rfl
theorem mp_tasks : mn_pf (mpic b F A L, q) 149 8 11 (.int x) = some (mpic b (up1 F 11 x) A L, q) := by
  unfold mn_pf; dsimp only; rw [mg_obj]; dsimp only; rw [if_pos ⟨rfl, Nat.le_of_ble_eq_true rfl, by decide, rfl⟩, lp_up 0 rfl (Nat.le_of_ble_eq_true rfl) (l' := mls (up1 F 11 x) A L) rfl]
theorem mg_steps : mn_gf (mpic b F A L, q) 149 8 12 = some (.int (F 12)) := by unfold mn_gf; dsimp only; rw [mg_obj]; rfl
theorem mp_steps : mn_pf (mpic b F A L, q) 149 8 12 (.int x) = some (mpic b (up1 F 12 x) A L, q) := by
  unfold mn_pf; dsimp only; rw [mg_obj]; dsimp only; rw [if_pos ⟨rfl, Nat.le_of_ble_eq_true rfl, by decide, rfl⟩, lp_up 0 rfl (Nat.le_of_ble_eq_true rfl) (l' := mls (up1 F 12 x) A L) rfl]
theorem mg_brought : mn_gf (mpic b F A L, q) 149 8 13 = some (.int (F 13)) := by unfold mn_gf; dsimp only; rw [mg_obj]; rfl
theorem mp_brought : mn_pf (mpic b F A L, q) 149 8 13 (.int x) = some (mpic b (up1 F 13 x) A L, q) := by
  unfold mn_pf; dsimp only; rw [mg_obj]; dsimp only; rw [if_pos ⟨rfl, Nat.le_of_ble_eq_true rfl, by decide, rfl⟩, lp_up 0 rfl (Nat.le_of_ble_eq_true rfl) (l' := mls (up1 F 13 x) A L) rfl]
theorem mg_block : mn_gf (mpic b F A L, q) 149 8 14 = some (.ref 156) := by unfold mn_gf; dsimp only; rw [mg_obj]; rfl
theorem mc_block : mpic b F A L 156 = some (.inl (0, 12, .inl (A 14))) := lp_get 7 rfl rfl
theorem ml_block (hk : k < 12) : mn_al (mpic b F A L, q) 156 0 (nI k) = some (.int (A 14 k)) := by
  have hx : mn_in (nI k) 12 = true := mn_in_iff.mpr (vp_in_nI hk (by decide))
  have hc : (nI k).toNatClampNeg = k := nI_clamp (by omega)
  unfold mn_al; dsimp only; rw [mc_block]; dsimp only; rw [if_pos ⟨rfl, hx⟩]; unfold mn_e; rw [hc]
theorem ms_block (hk : k < 12) : mn_asi (mpic b F A L, q) 156 (nI k) y = some (mpic b F (up2 A 14 k y) L, q) := by
  have hx : mn_in (nI k) 12 = true := mn_in_iff.mpr (vp_in_nI hk (by decide))
  have hc : (nI k).toNatClampNeg = k := nI_clamp (by omega)
  rw [mn_asi_of (h := (mpic b F A L, q)) (mc_block (b := b)) hx (by decide), hc, lp_up 7 rfl (Nat.le_of_ble_eq_true rfl) (l' := mls F (up2 A 14 k y) L) rfl]
theorem mg_at : mn_gf (mpic b F A L, q) 149 8 15 = some (.ref 157) := by unfold mn_gf; dsimp only; rw [mg_obj]; rfl
theorem mc_at : mpic b F A L 157 = some (.inl (0, 12, .inl (A 15))) := lp_get 8 rfl rfl
theorem ml_at (hk : k < 12) : mn_al (mpic b F A L, q) 157 0 (nI k) = some (.int (A 15 k)) := by
  have hx : mn_in (nI k) 12 = true := mn_in_iff.mpr (vp_in_nI hk (by decide))
  have hc : (nI k).toNatClampNeg = k := nI_clamp (by omega)
  unfold mn_al; dsimp only; rw [mc_at]; dsimp only; rw [if_pos ⟨rfl, hx⟩]; unfold mn_e; rw [hc]
theorem ms_at (hk : k < 12) : mn_asi (mpic b F A L, q) 157 (nI k) y = some (mpic b F (up2 A 15 k y) L, q) := by
  have hx : mn_in (nI k) 12 = true := mn_in_iff.mpr (vp_in_nI hk (by decide))
  have hc : (nI k).toNatClampNeg = k := nI_clamp (by omega)
  rw [mn_asi_of (h := (mpic b F A L, q)) (mc_at (b := b)) hx (by decide), hc, lp_up 8 rfl (Nat.le_of_ble_eq_true rfl) (l' := mls F (up2 A 15 k y) L) rfl]
theorem mg_state : mn_gf (mpic b F A L, q) 149 8 16 = some (.ref 158) := by unfold mn_gf; dsimp only; rw [mg_obj]; rfl
theorem mc_state : mpic b F A L 158 = some (.inl (0, 12, .inl (A 16))) := lp_get 9 rfl rfl
theorem ml_state (hk : k < 12) : mn_al (mpic b F A L, q) 158 0 (nI k) = some (.int (A 16 k)) := by
  have hx : mn_in (nI k) 12 = true := mn_in_iff.mpr (vp_in_nI hk (by decide))
  have hc : (nI k).toNatClampNeg = k := nI_clamp (by omega)
  unfold mn_al; dsimp only; rw [mc_state]; dsimp only; rw [if_pos ⟨rfl, hx⟩]; unfold mn_e; rw [hc]
theorem ms_state (hk : k < 12) : mn_asi (mpic b F A L, q) 158 (nI k) y = some (mpic b F (up2 A 16 k y) L, q) := by
  have hx : mn_in (nI k) 12 = true := mn_in_iff.mpr (vp_in_nI hk (by decide))
  have hc : (nI k).toNatClampNeg = k := nI_clamp (by omega)
  rw [mn_asi_of (h := (mpic b F A L, q)) (mc_state (b := b)) hx (by decide), hc, lp_up 9 rfl (Nat.le_of_ble_eq_true rfl) (l' := mls F (up2 A 16 k y) L) rfl]
theorem mg_failure : mn_gf (mpic b F A L, q) 149 8 17 = some (.ref 159) := by unfold mn_gf; dsimp only; rw [mg_obj]; rfl
theorem mc_failure : mpic b F A L 159 = some (.inl (0, 12, .inl (A 17))) := lp_get 10 rfl rfl
theorem ml_failure (hk : k < 12) : mn_al (mpic b F A L, q) 159 0 (nI k) = some (.int (A 17 k)) := by
  have hx : mn_in (nI k) 12 = true := mn_in_iff.mpr (vp_in_nI hk (by decide))
  have hc : (nI k).toNatClampNeg = k := nI_clamp (by omega)
  unfold mn_al; dsimp only; rw [mc_failure]; dsimp only; rw [if_pos ⟨rfl, hx⟩]; unfold mn_e; rw [hc]
theorem ms_failure (hk : k < 12) : mn_asi (mpic b F A L, q) 159 (nI k) y = some (mpic b F (up2 A 17 k y) L, q) := by
  have hx : mn_in (nI k) 12 = true := mn_in_iff.mpr (vp_in_nI hk (by decide))
  have hc : (nI k).toNatClampNeg = k := nI_clamp (by omega)
  rw [mn_asi_of (h := (mpic b F A L, q)) (mc_failure (b := b)) hx (by decide), hc, lp_up 10 rfl (Nat.le_of_ble_eq_true rfl) (l' := mls F (up2 A 17 k y) L) rfl]
theorem mg_forker : mn_gf (mpic b F A L, q) 149 8 18 = some (.ref 160) := by unfold mn_gf; dsimp only; rw [mg_obj]; rfl
theorem mc_forker : mpic b F A L 160 = some (.inl (0, 12, .inl (A 18))) := lp_get 11 rfl rfl
theorem ml_forker (hk : k < 12) : mn_al (mpic b F A L, q) 160 0 (nI k) = some (.int (A 18 k)) := by
  have hx : mn_in (nI k) 12 = true := mn_in_iff.mpr (vp_in_nI hk (by decide))
  have hc : (nI k).toNatClampNeg = k := nI_clamp (by omega)
  unfold mn_al; dsimp only; rw [mc_forker]; dsimp only; rw [if_pos ⟨rfl, hx⟩]; unfold mn_e; rw [hc]
theorem ms_forker (hk : k < 12) : mn_asi (mpic b F A L, q) 160 (nI k) y = some (mpic b F (up2 A 18 k y) L, q) := by
  have hx : mn_in (nI k) 12 = true := mn_in_iff.mpr (vp_in_nI hk (by decide))
  have hc : (nI k).toNatClampNeg = k := nI_clamp (by omega)
  rw [mn_asi_of (h := (mpic b F A L, q)) (mc_forker (b := b)) hx (by decide), hc, lp_up 11 rfl (Nat.le_of_ble_eq_true rfl) (l' := mls F (up2 A 18 k y) L) rfl]
theorem mg_joiner : mn_gf (mpic b F A L, q) 149 8 19 = some (.ref 161) := by unfold mn_gf; dsimp only; rw [mg_obj]; rfl
theorem mc_joiner : mpic b F A L 161 = some (.inl (0, 12, .inl (A 19))) := lp_get 12 rfl rfl
theorem ml_joiner (hk : k < 12) : mn_al (mpic b F A L, q) 161 0 (nI k) = some (.int (A 19 k)) := by
  have hx : mn_in (nI k) 12 = true := mn_in_iff.mpr (vp_in_nI hk (by decide))
  have hc : (nI k).toNatClampNeg = k := nI_clamp (by omega)
  unfold mn_al; dsimp only; rw [mc_joiner]; dsimp only; rw [if_pos ⟨rfl, hx⟩]; unfold mn_e; rw [hc]
theorem ms_joiner (hk : k < 12) : mn_asi (mpic b F A L, q) 161 (nI k) y = some (mpic b F (up2 A 19 k y) L, q) := by
  have hx : mn_in (nI k) 12 = true := mn_in_iff.mpr (vp_in_nI hk (by decide))
  have hc : (nI k).toNatClampNeg = k := nI_clamp (by omega)
  rw [mn_asi_of (h := (mpic b F A L, q)) (mc_joiner (b := b)) hx (by decide), hc, lp_up 12 rfl (Nat.le_of_ble_eq_true rfl) (l' := mls F (up2 A 19 k y) L) rfl]
theorem mg_did : mn_gf (mpic b F A L, q) 149 8 20 = some (.ref 162) := by unfold mn_gf; dsimp only; rw [mg_obj]; rfl
theorem mc_did : mpic b F A L 162 = some (.inl (0, 12, .inl (A 20))) := lp_get 13 rfl rfl
theorem ml_did (hk : k < 12) : mn_al (mpic b F A L, q) 162 0 (nI k) = some (.int (A 20 k)) := by
  have hx : mn_in (nI k) 12 = true := mn_in_iff.mpr (vp_in_nI hk (by decide))
  have hc : (nI k).toNatClampNeg = k := nI_clamp (by omega)
  unfold mn_al; dsimp only; rw [mc_did]; dsimp only; rw [if_pos ⟨rfl, hx⟩]; unfold mn_e; rw [hc]
theorem ms_did (hk : k < 12) : mn_asi (mpic b F A L, q) 162 (nI k) y = some (mpic b F (up2 A 20 k y) L, q) := by
  have hx : mn_in (nI k) 12 = true := mn_in_iff.mpr (vp_in_nI hk (by decide))
  have hc : (nI k).toNatClampNeg = k := nI_clamp (by omega)
  rw [mn_asi_of (h := (mpic b F A L, q)) (mc_did (b := b)) hx (by decide), hc, lp_up 13 rfl (Nat.le_of_ble_eq_true rfl) (l' := mls F (up2 A 20 k y) L) rfl]
theorem mg_depth : mn_gf (mpic b F A L, q) 149 8 21 = some (.ref 163) := by unfold mn_gf; dsimp only; rw [mg_obj]; rfl
theorem mc_depth : mpic b F A L 163 = some (.inl (0, 12, .inl (A 21))) := lp_get 14 rfl rfl
theorem ml_depth (hk : k < 12) : mn_al (mpic b F A L, q) 163 0 (nI k) = some (.int (A 21 k)) := by
  have hx : mn_in (nI k) 12 = true := mn_in_iff.mpr (vp_in_nI hk (by decide))
  have hc : (nI k).toNatClampNeg = k := nI_clamp (by omega)
  unfold mn_al; dsimp only; rw [mc_depth]; dsimp only; rw [if_pos ⟨rfl, hx⟩]; unfold mn_e; rw [hc]
theorem ms_depth (hk : k < 12) : mn_asi (mpic b F A L, q) 163 (nI k) y = some (mpic b F (up2 A 21 k y) L, q) := by
  have hx : mn_in (nI k) 12 = true := mn_in_iff.mpr (vp_in_nI hk (by decide))
  have hc : (nI k).toNatClampNeg = k := nI_clamp (by omega)
  rw [mn_asi_of (h := (mpic b F A L, q)) (mc_depth (b := b)) hx (by decide), hc, lp_up 14 rfl (Nat.le_of_ble_eq_true rfl) (l' := mls F (up2 A 21 k y) L) rfl]
theorem mg_stack : mn_gf (mpic b F A L, q) 149 8 22 = some (.ref 164) := by unfold mn_gf; dsimp only; rw [mg_obj]; rfl
theorem mc_stack : mpic b F A L 164 = some (.inl (1, 96, .inr (.inl (L 22)))) := lp_get 15 rfl rfl
theorem ml_stack (hk : k < 96) : mn_al (mpic b F A L, q) 164 1 (nI k) = some (.long (L 22 k)) := by
  have hx : mn_in (nI k) 96 = true := mn_in_iff.mpr (vp_in_nI hk (by decide))
  have hc : (nI k).toNatClampNeg = k := nI_clamp (by omega)
  unfold mn_al; dsimp only; rw [mc_stack]; dsimp only; rw [if_pos ⟨rfl, hx⟩]; unfold mn_e; rw [hc]
theorem ms_stack (hk : k < 96) : mn_asl (mpic b F A L, q) 164 (nI k) u = some (mpic b F A (upL L 22 k u), q) := by
  have hx : mn_in (nI k) 96 = true := mn_in_iff.mpr (vp_in_nI hk (by decide))
  have hc : (nI k).toNatClampNeg = k := nI_clamp (by omega)
  rw [mn_asl_of (h := (mpic b F A L, q)) (mc_stack (b := b)) hx (by decide), hc, lp_up 15 rfl (Nat.le_of_ble_eq_true rfl) (l' := mls F A (upL L 22 k u)) rfl]
theorem mg_local : mn_gf (mpic b F A L, q) 149 8 23 = some (.ref 165) := by unfold mn_gf; dsimp only; rw [mg_obj]; rfl
theorem mc_local : mpic b F A L 165 = some (.inl (1, 48, .inr (.inl (L 23)))) := lp_get 16 rfl rfl
theorem ml_local (hk : k < 48) : mn_al (mpic b F A L, q) 165 1 (nI k) = some (.long (L 23 k)) := by
  have hx : mn_in (nI k) 48 = true := mn_in_iff.mpr (vp_in_nI hk (by decide))
  have hc : (nI k).toNatClampNeg = k := nI_clamp (by omega)
  unfold mn_al; dsimp only; rw [mc_local]; dsimp only; rw [if_pos ⟨rfl, hx⟩]; unfold mn_e; rw [hc]
theorem ms_local (hk : k < 48) : mn_asl (mpic b F A L, q) 165 (nI k) u = some (mpic b F A (upL L 23 k u), q) := by
  have hx : mn_in (nI k) 48 = true := mn_in_iff.mpr (vp_in_nI hk (by decide))
  have hc : (nI k).toNatClampNeg = k := nI_clamp (by omega)
  rw [mn_asl_of (h := (mpic b F A L, q)) (mc_local (b := b)) hx (by decide), hc, lp_up 16 rfl (Nat.le_of_ble_eq_true rfl) (l' := mls F A (upL L 23 k u)) rfl]
theorem mg_prints : mn_gf (mpic b F A L, q) 149 8 24 = some (.ref 166) := by unfold mn_gf; dsimp only; rw [mg_obj]; rfl
theorem mc_prints : mpic b F A L 166 = some (.inl (0, 12, .inl (A 24))) := lp_get 17 rfl rfl
theorem ml_prints (hk : k < 12) : mn_al (mpic b F A L, q) 166 0 (nI k) = some (.int (A 24 k)) := by
  have hx : mn_in (nI k) 12 = true := mn_in_iff.mpr (vp_in_nI hk (by decide))
  have hc : (nI k).toNatClampNeg = k := nI_clamp (by omega)
  unfold mn_al; dsimp only; rw [mc_prints]; dsimp only; rw [if_pos ⟨rfl, hx⟩]; unfold mn_e; rw [hc]
theorem ms_prints (hk : k < 12) : mn_asi (mpic b F A L, q) 166 (nI k) y = some (mpic b F (up2 A 24 k y) L, q) := by
  have hx : mn_in (nI k) 12 = true := mn_in_iff.mpr (vp_in_nI hk (by decide))
  have hc : (nI k).toNatClampNeg = k := nI_clamp (by omega)
  rw [mn_asi_of (h := (mpic b F A L, q)) (mc_prints (b := b)) hx (by decide), hc, lp_up 17 rfl (Nat.le_of_ble_eq_true rfl) (l' := mls F (up2 A 24 k y) L) rfl]
theorem mg_print : mn_gf (mpic b F A L, q) 149 8 25 = some (.ref 167) := by unfold mn_gf; dsimp only; rw [mg_obj]; rfl
theorem mc_print : mpic b F A L 167 = some (.inl (1, 360, .inr (.inl (L 25)))) := lp_get 18 rfl rfl
theorem ml_print (hk : k < 360) : mn_al (mpic b F A L, q) 167 1 (nI k) = some (.long (L 25 k)) := by
  have hx : mn_in (nI k) 360 = true := mn_in_iff.mpr (vp_in_nI hk (by decide))
  have hc : (nI k).toNatClampNeg = k := nI_clamp (by omega)
  unfold mn_al; dsimp only; rw [mc_print]; dsimp only; rw [if_pos ⟨rfl, hx⟩]; unfold mn_e; rw [hc]
theorem ms_print (hk : k < 360) : mn_asl (mpic b F A L, q) 167 (nI k) u = some (mpic b F A (upL L 25 k u), q) := by
  have hx : mn_in (nI k) 360 = true := mn_in_iff.mpr (vp_in_nI hk (by decide))
  have hc : (nI k).toNatClampNeg = k := nI_clamp (by omega)
  rw [mn_asl_of (h := (mpic b F A L, q)) (mc_print (b := b)) hx (by decide), hc, lp_up 18 rfl (Nat.le_of_ble_eq_true rfl) (l' := mls F A (upL L 25 k u)) rfl]
theorem mg_result : mn_gf (mpic b F A L, q) 149 8 26 = some (.ref 168) := by unfold mn_gf; dsimp only; rw [mg_obj]; rfl
theorem mc_result : mpic b F A L 168 = some (.inl (1, 12, .inr (.inl (L 26)))) := lp_get 19 rfl rfl
theorem ml_result (hk : k < 12) : mn_al (mpic b F A L, q) 168 1 (nI k) = some (.long (L 26 k)) := by
  have hx : mn_in (nI k) 12 = true := mn_in_iff.mpr (vp_in_nI hk (by decide))
  have hc : (nI k).toNatClampNeg = k := nI_clamp (by omega)
  unfold mn_al; dsimp only; rw [mc_result]; dsimp only; rw [if_pos ⟨rfl, hx⟩]; unfold mn_e; rw [hc]
theorem ms_result (hk : k < 12) : mn_asl (mpic b F A L, q) 168 (nI k) u = some (mpic b F A (upL L 26 k u), q) := by
  have hx : mn_in (nI k) 12 = true := mn_in_iff.mpr (vp_in_nI hk (by decide))
  have hc : (nI k).toNatClampNeg = k := nI_clamp (by omega)
  rw [mn_asl_of (h := (mpic b F A L, q)) (mc_result (b := b)) hx (by decide), hc, lp_up 19 rfl (Nat.le_of_ble_eq_true rfl) (l' := mls F A (upL L 26 k u)) rfl]
theorem mg_segment : mn_gf (mpic b F A L, q) 149 8 27 = some (.ref 169) := by unfold mn_gf; dsimp only; rw [mg_obj]; rfl
theorem mc_segment : mpic b F A L 169 = some (.inl (0, 12, .inl (A 27))) := lp_get 20 rfl rfl
theorem ml_segment (hk : k < 12) : mn_al (mpic b F A L, q) 169 0 (nI k) = some (.int (A 27 k)) := by
  have hx : mn_in (nI k) 12 = true := mn_in_iff.mpr (vp_in_nI hk (by decide))
  have hc : (nI k).toNatClampNeg = k := nI_clamp (by omega)
  unfold mn_al; dsimp only; rw [mc_segment]; dsimp only; rw [if_pos ⟨rfl, hx⟩]; unfold mn_e; rw [hc]
theorem ms_segment (hk : k < 12) : mn_asi (mpic b F A L, q) 169 (nI k) y = some (mpic b F (up2 A 27 k y) L, q) := by
  have hx : mn_in (nI k) 12 = true := mn_in_iff.mpr (vp_in_nI hk (by decide))
  have hc : (nI k).toNatClampNeg = k := nI_clamp (by omega)
  rw [mn_asi_of (h := (mpic b F A L, q)) (mc_segment (b := b)) hx (by decide), hc, lp_up 20 rfl (Nat.le_of_ble_eq_true rfl) (l' := mls F (up2 A 27 k y) L) rfl]
theorem mg_base : mn_gf (mpic b F A L, q) 149 8 28 = some (.ref 170) := by unfold mn_gf; dsimp only; rw [mg_obj]; rfl
theorem mc_base : mpic b F A L 170 = some (.inl (0, 12, .inl (A 28))) := lp_get 21 rfl rfl
theorem ml_base (hk : k < 12) : mn_al (mpic b F A L, q) 170 0 (nI k) = some (.int (A 28 k)) := by
  have hx : mn_in (nI k) 12 = true := mn_in_iff.mpr (vp_in_nI hk (by decide))
  have hc : (nI k).toNatClampNeg = k := nI_clamp (by omega)
  unfold mn_al; dsimp only; rw [mc_base]; dsimp only; rw [if_pos ⟨rfl, hx⟩]; unfold mn_e; rw [hc]
theorem ms_base (hk : k < 12) : mn_asi (mpic b F A L, q) 170 (nI k) y = some (mpic b F (up2 A 28 k y) L, q) := by
  have hx : mn_in (nI k) 12 = true := mn_in_iff.mpr (vp_in_nI hk (by decide))
  have hc : (nI k).toNatClampNeg = k := nI_clamp (by omega)
  rw [mn_asi_of (h := (mpic b F A L, q)) (mc_base (b := b)) hx (by decide), hc, lp_up 21 rfl (Nat.le_of_ble_eq_true rfl) (l' := mls F (up2 A 28 k y) L) rfl]
theorem mg_used : mn_gf (mpic b F A L, q) 149 8 29 = some (.ref 171) := by unfold mn_gf; dsimp only; rw [mg_obj]; rfl
theorem mc_used : mpic b F A L 171 = some (.inl (2, 40, .inl (A 29))) := lp_get 22 rfl rfl
theorem ml_used (hk : k < 40) : mn_al (mpic b F A L, q) 171 2 (nI k) = some (.int (A 29 k)) := by
  have hx : mn_in (nI k) 40 = true := mn_in_iff.mpr (vp_in_nI hk (by decide))
  have hc : (nI k).toNatClampNeg = k := nI_clamp (by omega)
  unfold mn_al; dsimp only; rw [mc_used]; dsimp only; rw [if_pos ⟨rfl, hx⟩]; unfold mn_e; rw [hc]
theorem ms_used (hk : k < 40) (hy : y = nI 0 ∨ y = nI 1) : mn_asz (mpic b F A L, q) 171 (nI k) y = some (mpic b F (up2 A 29 k y) L, q) := by
  have hx : mn_in (nI k) 40 = true := mn_in_iff.mpr (vp_in_nI hk (by decide))
  have hc : (nI k).toNatClampNeg = k := nI_clamp (by omega)
  rw [mn_asz_of (h := (mpic b F A L, q)) (mc_used (b := b)) hx (by decide) hy, hc, lp_up 22 rfl (Nat.le_of_ble_eq_true rfl) (l' := mls F (up2 A 29 k y) L) rfl]
theorem ms_used0 (hk : k < 40) : mn_asz (mpic b F A L, q) 171 (nI k) (nI 0) = some (mpic b F (up2 A 29 k (nI 0)) L, q) := ms_used hk (Or.inl rfl)
theorem ms_used1 (hk : k < 40) : mn_asz (mpic b F A L, q) 171 (nI k) (nI 1) = some (mpic b F (up2 A 29 k (nI 1)) L, q) := ms_used hk (Or.inr rfl)
theorem mg_below : mn_gf (mpic b F A L, q) 149 8 30 = some (.ref 172) := by unfold mn_gf; dsimp only; rw [mg_obj]; rfl
theorem mc_below : mpic b F A L 172 = some (.inl (0, 40, .inl (A 30))) := lp_get 23 rfl rfl
theorem ml_below (hk : k < 40) : mn_al (mpic b F A L, q) 172 0 (nI k) = some (.int (A 30 k)) := by
  have hx : mn_in (nI k) 40 = true := mn_in_iff.mpr (vp_in_nI hk (by decide))
  have hc : (nI k).toNatClampNeg = k := nI_clamp (by omega)
  unfold mn_al; dsimp only; rw [mc_below]; dsimp only; rw [if_pos ⟨rfl, hx⟩]; unfold mn_e; rw [hc]
theorem ms_below (hk : k < 40) : mn_asi (mpic b F A L, q) 172 (nI k) y = some (mpic b F (up2 A 30 k y) L, q) := by
  have hx : mn_in (nI k) 40 = true := mn_in_iff.mpr (vp_in_nI hk (by decide))
  have hc : (nI k).toNatClampNeg = k := nI_clamp (by omega)
  rw [mn_asi_of (h := (mpic b F A L, q)) (mc_below (b := b)) hx (by decide), hc, lp_up 23 rfl (Nat.le_of_ble_eq_true rfl) (l' := mls F (up2 A 30 k y) L) rfl]
theorem mg_written : mn_gf (mpic b F A L, q) 149 8 31 = some (.ref 173) := by unfold mn_gf; dsimp only; rw [mg_obj]; rfl
theorem mc_written : mpic b F A L 173 = some (.inl (0, 40, .inl (A 31))) := lp_get 24 rfl rfl
theorem ml_written (hk : k < 40) : mn_al (mpic b F A L, q) 173 0 (nI k) = some (.int (A 31 k)) := by
  have hx : mn_in (nI k) 40 = true := mn_in_iff.mpr (vp_in_nI hk (by decide))
  have hc : (nI k).toNatClampNeg = k := nI_clamp (by omega)
  unfold mn_al; dsimp only; rw [mc_written]; dsimp only; rw [if_pos ⟨rfl, hx⟩]; unfold mn_e; rw [hc]
theorem ms_written (hk : k < 40) : mn_asi (mpic b F A L, q) 173 (nI k) y = some (mpic b F (up2 A 31 k y) L, q) := by
  have hx : mn_in (nI k) 40 = true := mn_in_iff.mpr (vp_in_nI hk (by decide))
  have hc : (nI k).toNatClampNeg = k := nI_clamp (by omega)
  rw [mn_asi_of (h := (mpic b F A L, q)) (mc_written (b := b)) hx (by decide), hc, lp_up 24 rfl (Nat.le_of_ble_eq_true rfl) (l' := mls F (up2 A 31 k y) L) rfl]
theorem mg_value : mn_gf (mpic b F A L, q) 149 8 32 = some (.ref 174) := by unfold mn_gf; dsimp only; rw [mg_obj]; rfl
theorem mc_value : mpic b F A L 174 = some (.inl (1, 480, .inr (.inl (L 32)))) := lp_get 25 rfl rfl
theorem ml_value (hk : k < 480) : mn_al (mpic b F A L, q) 174 1 (nI k) = some (.long (L 32 k)) := by
  have hx : mn_in (nI k) 480 = true := mn_in_iff.mpr (vp_in_nI hk (by decide))
  have hc : (nI k).toNatClampNeg = k := nI_clamp (by omega)
  unfold mn_al; dsimp only; rw [mc_value]; dsimp only; rw [if_pos ⟨rfl, hx⟩]; unfold mn_e; rw [hc]
theorem ms_value (hk : k < 480) : mn_asl (mpic b F A L, q) 174 (nI k) u = some (mpic b F A (upL L 32 k u), q) := by
  have hx : mn_in (nI k) 480 = true := mn_in_iff.mpr (vp_in_nI hk (by decide))
  have hc : (nI k).toNatClampNeg = k := nI_clamp (by omega)
  rw [mn_asl_of (h := (mpic b F A L, q)) (mc_value (b := b)) hx (by decide), hc, lp_up 25 rfl (Nat.le_of_ble_eq_true rfl) (l' := mls F A (upL L 32 k u)) rfl]
theorem mg_row : mn_gf (mpic b F A L, q) 149 8 33 = some (.ref 175) := by unfold mn_gf; dsimp only; rw [mg_obj]; rfl
theorem mc_row : mpic b F A L 175 = some (.inl (1, 8, .inr (.inl (L 33)))) := lp_get 26 rfl rfl
theorem ml_row (hk : k < 8) : mn_al (mpic b F A L, q) 175 1 (nI k) = some (.long (L 33 k)) := by
  have hx : mn_in (nI k) 8 = true := mn_in_iff.mpr (vp_in_nI hk (by decide))
  have hc : (nI k).toNatClampNeg = k := nI_clamp (by omega)
  unfold mn_al; dsimp only; rw [mc_row]; dsimp only; rw [if_pos ⟨rfl, hx⟩]; unfold mn_e; rw [hc]
theorem ms_row (hk : k < 8) : mn_asl (mpic b F A L, q) 175 (nI k) u = some (mpic b F A (upL L 33 k u), q) := by
  have hx : mn_in (nI k) 8 = true := mn_in_iff.mpr (vp_in_nI hk (by decide))
  have hc : (nI k).toNatClampNeg = k := nI_clamp (by omega)
  rw [mn_asl_of (h := (mpic b F A L, q)) (mc_row (b := b)) hx (by decide), hc, lp_up 26 rfl (Nat.le_of_ble_eq_true rfl) (l' := mls F A (upL L 33 k u)) rfl]
theorem mi_obj : mn_isc (mpic b F A L, q) 149 8 = true := by unfold mn_isc; dsimp only; rw [mg_obj]; rfl
end MP
