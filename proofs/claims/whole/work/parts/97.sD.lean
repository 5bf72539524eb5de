/-! making things: the reference's object -/
section SD
variable {b : Nat → Option va_E} {r : mn_Res} {c w : Nat} {q : Option Nat × Nat × Nat}
def oL : List (Nat × Nat × Nat) := [(4, 0, 8), (5, 0, 192), (6, 0, 192), (7, 0, 12), (8, 0, 12), (10, 2, 192), (14, 0, 12), (15, 0, 12), (16, 0, 12), (17, 0, 12), (18, 0, 12), (19, 0, 12), (20, 0, 12), (21, 0, 12), (22, 1, 96), (23, 1, 48), (24, 0, 12), (25, 1, 360), (26, 1, 12), (27, 0, 12), (28, 0, 12), (29, 2, 40), (30, 0, 40), (31, 0, 40), (32, 1, 480), (33, 1, 8)]
def oc (t n : Nat) : va_E := if t = 0 then iA n else if t = 1 then lA n else .inl (2, n, .inl (fun _ => 0))
def oA : List va_E := oL.map (fun q => oc q.2.1 q.2.2)
def oF : Nat → List Value
  | 0 => [.int 0, .int 0, .int 0, .int (-1), .null, .null, .null, .null, .null, .int 0, .null, .int 0, .int 0, .int 0, .null, .null, .null, .null, .null, .null, .null, .null, .null, .null, .null, .null, .null, .null, .null, .null, .null, .null, .null, .null]
  | j + 1 => (oF j).set (oL.getD j (0, 0, 0)).1 (.ref (150 + j))
def oS (b : Nat → Option va_E) (j : Nat) : Nat → Option va_E := lpic b 149 (.inr (8, oF j) :: oA.take j)
def oT (b : Nat → Option va_E) (j : Nat) : Nat → Option va_E := lpic b 149 (.inr (8, oF j) :: oA.take (j + 1))
theorem oF_len : ∀ j, (oF j).length = 34 := by
  intro j
  induction j with
  | zero => rfl
  | succ j ih => rw [oF, List.length_set]; exact ih
theorem oA_len : oA.length = 26 := rfl
theorem mn_okr {ty : FieldType} {x : Nat} : mn_ok ty (.ref x) = mn_ok ty (.ref 0) := by cases ty <;> rfl
theorem oL_ok : ∀ j, j < 26 → (oL.getD j (0, 0, 0)).1 < 34 ∧ (oL.getD j (0, 0, 0)).2.1 < 3 ∧ (oL.getD j (0, 0, 0)).2.2 ≤ 100000 ∧ oA[j]?.isSome = true ∧ mn_ok (mn_fty 8 (oL.getD j (0, 0, 0)).1) (.ref 0) = true := by decide
theorem oA_at : ∀ j, j < 26 → oA[j]? = some (oc (oL.getD j (0, 0, 0)).2.1 (oL.getD j (0, 0, 0)).2.2) := by
  intro j hj
  rcases (show j = 0 ∨ j = 1 ∨ j = 2 ∨ j = 3 ∨ j = 4 ∨ j = 5 ∨ j = 6 ∨ j = 7 ∨ j = 8 ∨ j = 9 ∨ j = 10 ∨ j = 11 ∨ j = 12 ∨ j = 13 ∨ j = 14 ∨ j = 15 ∨ j = 16 ∨ j = 17 ∨ j = 18 ∨ j = 19 ∨ j = 20 ∨ j = 21 ∨ j = 22 ∨ j = 23 ∨ j = 24 ∨ j = 25 by omega) with rfl | rfl | rfl | rfl | rfl | rfl | rfl | rfl | rfl | rfl | rfl | rfl | rfl | rfl | rfl | rfl | rfl | rfl | rfl | rfl | rfl | rfl | rfl | rfl | rfl | rfl <;> rfl
def va_E_len (j : Nat) : List va_E := .inr (8, oF j) :: oA.take j
theorem oS_na {j : Nat} (hj : j < 26) : mn_na (oS b j, some (150 + j), c, w) (oL.getD j (0, 0, 0)).2.1 (nI (oL.getD j (0, 0, 0)).2.2) = some (150 + j, oT b j, some (150 + j + 1), c + 1, w + (oL.getD j (0, 0, 0)).2.2) := by
  obtain ⟨h1, h2, h3, h4, h5⟩ := oL_ok j hj
  have hk : 150 + j = 149 + (va_E_len j).length := by
    unfold va_E_len
    rw [List.length_cons, List.length_take, oA_len]
    omega
  have ht : va_E_len j ++ [oc (oL.getD j (0, 0, 0)).2.1 (oL.getD j (0, 0, 0)).2.2] = .inr (8, oF j) :: oA.take (j + 1) := by
    unfold va_E_len
    rw [List.cons_append, List.take_succ, oA_at j hj]
    rfl
  have key : ∀ e, e = oc (oL.getD j (0, 0, 0)).2.1 (oL.getD j (0, 0, 0)).2.2 → mn_up (oS b j) (150 + j) e = oT b j := by
    intro e he
    show mn_up (lpic b 149 (va_E_len j)) (150 + j) e = _
    rw [lp_add hk, he, ht]
    rfl
  rcases (show (oL.getD j (0, 0, 0)).2.1 = 0 ∨ (oL.getD j (0, 0, 0)).2.1 = 1 ∨ (oL.getD j (0, 0, 0)).2.1 = 2 by omega) with e | e | e
  · rw [e, na_0 h3, key _ (by rw [e]; rfl)]
  · rw [e, na_1 h3, key _ (by rw [e]; rfl)]
  · rw [e, na_2 h3, key _ (by rw [e]; rfl)]
theorem oT_pf {j : Nat} (hj : j < 26) : mn_pf (oT b j, q) 149 8 (oL.getD j (0, 0, 0)).1 (.ref (150 + j)) = some (oS b (j + 1), q) := by
  obtain ⟨h1, h2, h3, h4, h5⟩ := oL_ok j hj
  have h := pf_l (b := b) (z := 149) (j := 0) (ci := 8) (k := (oL.getD j (0, 0, 0)).1) (v := .ref (150 + j)) (q := q) (l := .inr (8, oF j) :: oA.take (j + 1)) (fs := oF j) rfl (by rw [oF_len]; exact h1) (by decide) (by rw [mn_okr]; exact h5)
  exact h
theorem on_0 : mn_na (oS b 0, some 150, c, w) 0 (nI 8) = some (150, oT b 0, some 151, c + 1, w + 8) := oS_na (j := 0) (by decide)
theorem op_0 : mn_pf (oT b 0, q) 149 8 4 (.ref 150) = some (oS b 1, q) := oT_pf (j := 0) (by decide)
theorem on_1 : mn_na (oS b 1, some 151, c, w) 0 (nI 192) = some (151, oT b 1, some 152, c + 1, w + 192) := oS_na (j := 1) (by decide)
theorem op_1 : mn_pf (oT b 1, q) 149 8 5 (.ref 151) = some (oS b 2, q) := oT_pf (j := 1) (by decide)
theorem on_2 : mn_na (oS b 2, some 152, c, w) 0 (nI 192) = some (152, oT b 2, some 153, c + 1, w + 192) := oS_na (j := 2) (by decide)
theorem op_2 : mn_pf (oT b 2, q) 149 8 6 (.ref 152) = some (oS b 3, q) := oT_pf (j := 2) (by decide)
theorem on_3 : mn_na (oS b 3, some 153, c, w) 0 (nI 12) = some (153, oT b 3, some 154, c + 1, w + 12) := oS_na (j := 3) (by decide)
theorem op_3 : mn_pf (oT b 3, q) 149 8 7 (.ref 153) = some (oS b 4, q) := oT_pf (j := 3) (by decide)
theorem on_4 : mn_na (oS b 4, some 154, c, w) 0 (nI 12) = some (154, oT b 4, some 155, c + 1, w + 12) := oS_na (j := 4) (by decide)
theorem op_4 : mn_pf (oT b 4, q) 149 8 8 (.ref 154) = some (oS b 5, q) := oT_pf (j := 4) (by decide)
theorem on_5 : mn_na (oS b 5, some 155, c, w) 2 (nI 192) = some (155, oT b 5, some 156, c + 1, w + 192) := oS_na (j := 5) (by decide)
theorem op_5 : mn_pf (oT b 5, q) 149 8 10 (.ref 155) = some (oS b 6, q) := oT_pf (j := 5) (by decide)
theorem on_6 : mn_na (oS b 6, some 156, c, w) 0 (nI 12) = some (156, oT b 6, some 157, c + 1, w + 12) := oS_na (j := 6) (by decide)
theorem op_6 : mn_pf (oT b 6, q) 149 8 14 (.ref 156) = some (oS b 7, q) := oT_pf (j := 6) (by decide)
theorem on_7 : mn_na (oS b 7, some 157, c, w) 0 (nI 12) = some (157, oT b 7, some 158, c + 1, w + 12) := oS_na (j := 7) (by decide)
theorem op_7 : mn_pf (oT b 7, q) 149 8 15 (.ref 157) = some (oS b 8, q) := oT_pf (j := 7) (by decide)
theorem on_8 : mn_na (oS b 8, some 158, c, w) 0 (nI 12) = some (158, oT b 8, some 159, c + 1, w + 12) := oS_na (j := 8) (by decide)
theorem op_8 : mn_pf (oT b 8, q) 149 8 16 (.ref 158) = some (oS b 9, q) := oT_pf (j := 8) (by decide)
theorem on_9 : mn_na (oS b 9, some 159, c, w) 0 (nI 12) = some (159, oT b 9, some 160, c + 1, w + 12) := oS_na (j := 9) (by decide)
theorem op_9 : mn_pf (oT b 9, q) 149 8 17 (.ref 159) = some (oS b 10, q) := oT_pf (j := 9) (by decide)
theorem on_10 : mn_na (oS b 10, some 160, c, w) 0 (nI 12) = some (160, oT b 10, some 161, c + 1, w + 12) := oS_na (j := 10) (by decide)
theorem op_10 : mn_pf (oT b 10, q) 149 8 18 (.ref 160) = some (oS b 11, q) := oT_pf (j := 10) (by decide)
theorem on_11 : mn_na (oS b 11, some 161, c, w) 0 (nI 12) = some (161, oT b 11, some 162, c + 1, w + 12) := oS_na (j := 11) (by decide)
theorem op_11 : mn_pf (oT b 11, q) 149 8 19 (.ref 161) = some (oS b 12, q) := oT_pf (j := 11) (by decide)
theorem on_12 : mn_na (oS b 12, some 162, c, w) 0 (nI 12) = some (162, oT b 12, some 163, c + 1, w + 12) := oS_na (j := 12) (by decide)
theorem op_12 : mn_pf (oT b 12, q) 149 8 20 (.ref 162) = some (oS b 13, q) := oT_pf (j := 12) (by decide)
theorem on_13 : mn_na (oS b 13, some 163, c, w) 0 (nI 12) = some (163, oT b 13, some 164, c + 1, w + 12) := oS_na (j := 13) (by decide)
theorem op_13 : mn_pf (oT b 13, q) 149 8 21 (.ref 163) = some (oS b 14, q) := oT_pf (j := 13) (by decide)
theorem on_14 : mn_na (oS b 14, some 164, c, w) 1 (nI 96) = some (164, oT b 14, some 165, c + 1, w + 96) := oS_na (j := 14) (by decide)
theorem op_14 : mn_pf (oT b 14, q) 149 8 22 (.ref 164) = some (oS b 15, q) := oT_pf (j := 14) (by decide)
theorem on_15 : mn_na (oS b 15, some 165, c, w) 1 (nI 48) = some (165, oT b 15, some 166, c + 1, w + 48) := oS_na (j := 15) (by decide)
theorem op_15 : mn_pf (oT b 15, q) 149 8 23 (.ref 165) = some (oS b 16, q) := oT_pf (j := 15) (by decide)
theorem on_16 : mn_na (oS b 16, some 166, c, w) 0 (nI 12) = some (166, oT b 16, some 167, c + 1, w + 12) := oS_na (j := 16) (by decide)
theorem op_16 : mn_pf (oT b 16, q) 149 8 24 (.ref 166) = some (oS b 17, q) := oT_pf (j := 16) (by decide)
theorem on_17 : mn_na (oS b 17, some 167, c, w) 1 (nI 360) = some (167, oT b 17, some 168, c + 1, w + 360) := oS_na (j := 17) (by decide)
theorem op_17 : mn_pf (oT b 17, q) 149 8 25 (.ref 167) = some (oS b 18, q) := oT_pf (j := 17) (by decide)
theorem on_18 : mn_na (oS b 18, some 168, c, w) 1 (nI 12) = some (168, oT b 18, some 169, c + 1, w + 12) := oS_na (j := 18) (by decide)
theorem op_18 : mn_pf (oT b 18, q) 149 8 26 (.ref 168) = some (oS b 19, q) := oT_pf (j := 18) (by decide)
theorem on_19 : mn_na (oS b 19, some 169, c, w) 0 (nI 12) = some (169, oT b 19, some 170, c + 1, w + 12) := oS_na (j := 19) (by decide)
theorem op_19 : mn_pf (oT b 19, q) 149 8 27 (.ref 169) = some (oS b 20, q) := oT_pf (j := 19) (by decide)
theorem on_20 : mn_na (oS b 20, some 170, c, w) 0 (nI 12) = some (170, oT b 20, some 171, c + 1, w + 12) := oS_na (j := 20) (by decide)
theorem op_20 : mn_pf (oT b 20, q) 149 8 28 (.ref 170) = some (oS b 21, q) := oT_pf (j := 20) (by decide)
theorem on_21 : mn_na (oS b 21, some 171, c, w) 2 (nI 40) = some (171, oT b 21, some 172, c + 1, w + 40) := oS_na (j := 21) (by decide)
theorem op_21 : mn_pf (oT b 21, q) 149 8 29 (.ref 171) = some (oS b 22, q) := oT_pf (j := 21) (by decide)
theorem on_22 : mn_na (oS b 22, some 172, c, w) 0 (nI 40) = some (172, oT b 22, some 173, c + 1, w + 40) := oS_na (j := 22) (by decide)
theorem op_22 : mn_pf (oT b 22, q) 149 8 30 (.ref 172) = some (oS b 23, q) := oT_pf (j := 22) (by decide)
theorem on_23 : mn_na (oS b 23, some 173, c, w) 0 (nI 40) = some (173, oT b 23, some 174, c + 1, w + 40) := oS_na (j := 23) (by decide)
theorem op_23 : mn_pf (oT b 23, q) 149 8 31 (.ref 173) = some (oS b 24, q) := oT_pf (j := 23) (by decide)
theorem on_24 : mn_na (oS b 24, some 174, c, w) 1 (nI 480) = some (174, oT b 24, some 175, c + 1, w + 480) := oS_na (j := 24) (by decide)
theorem op_24 : mn_pf (oT b 24, q) 149 8 32 (.ref 174) = some (oS b 25, q) := oT_pf (j := 24) (by decide)
theorem on_25 : mn_na (oS b 25, some 175, c, w) 1 (nI 8) = some (175, oT b 25, some 176, c + 1, w + 8) := oS_na (j := 25) (by decide)
theorem op_25 : mn_pf (oT b 25, q) 149 8 33 (.ref 175) = some (oS b 26, q) := oT_pf (j := 25) (by decide)
def Fz : Nat → Int32 := fun q => if q = 3 then -1 else 0
def Az : Nat → Nat → Int32 := fun _ _ => 0
def Lz : Nat → Nat → Int64 := fun _ _ => 0
theorem nw_8 {p : Nat → Option va_E} {n : Nat} : mn_new (p, some n, c, w) 8 = some (n, mn_up p n (.inr (8, [.int 0, .int 0, .int 0, .int 0, .null, .null, .null, .null, .null, .int 0, .null, .int 0, .int 0, .int 0, .null, .null, .null, .null, .null, .null, .null, .null, .null, .null, .null, .null, .null, .null, .null, .null, .null, .null, .null, .null])), some (n + 1), c + 1, w + 34) := rfl
theorem oS_fin : oS b 26 = mpic b Fz Az Lz := by
  show lpic b 149 _ = lpic b 149 _
  congr 1
set_option maxHeartbeats 8000000 in
theorem kc_model : Cl 84 [.ref 149] (mn_up b 149 (.inr (8, [.int 0, .int 0, .int 0, .int 0, .null, .null, .null, .null, .null, .int 0, .null, .int 0, .int 0, .int 0, .null, .null, .null, .null, .null, .null, .null, .null, .null, .null, .null, .null, .null, .null, .null, .null, .null, .null, .null, .null]))) (some 150) = some ((mpic b Fz Az Lz, some 176, 26, 1864), .inl none) := by
  refine Cl_of (x := mnI_X8_init) rfl ?_
  show Ev 84 0 [some (.ref 149)] [] _ _
  have e0 := pf_u0 (p := b) (a := 149) (q := (some 150, 0, 0)) (ci := 8) (k := 3) (fs := [.int 0, .int 0, .int 0, .int 0, .null, .null, .null, .null, .null, .int 0, .null, .int 0, .int 0, .int 0, .null, .null, .null, .null, .null, .null, .null, .null, .null, .null, .null, .null, .null, .null, .null, .null, .null, .null, .null, .null]) (v := .int (-1)) (by decide) (by decide) rfl
  simp only [List.set] at e0
  have e1 : mn_up b 149 (.inr (8, [.int 0, .int 0, .int 0, .int (-1), .null, .null, .null, .null, .null, .int 0, .null, .int 0, .int 0, .int 0, .null, .null, .null, .null, .null, .null, .null, .null, .null, .null, .null, .null, .null, .null, .null, .null, .null, .null, .null, .null])) = oS b 0 := lp_one
  rw [e1] at e0
  simp (disch := first | omega | decide) only [eX8_init_0, eX8_init_1, eX8_init_4, eX8_init_5, eX8_init_6, eX8_init_9, eX8_init_10, eX8_init_12, eX8_init_14, eX8_init_17, eX8_init_18, eX8_init_21, eX8_init_23, eX8_init_26, eX8_init_27, eX8_init_30, eX8_init_32, eX8_init_35, eX8_init_36, eX8_init_38, eX8_init_40, eX8_init_43, eX8_init_44, eX8_init_46, eX8_init_48, eX8_init_51, eX8_init_52, eX8_init_55, eX8_init_57, eX8_init_60, eX8_init_61, eX8_init_63, eX8_init_65, eX8_init_68, eX8_init_69, eX8_init_71, eX8_init_73, eX8_init_76, eX8_init_77, eX8_init_79, eX8_init_81, eX8_init_84, eX8_init_85, eX8_init_87, eX8_init_89, eX8_init_92, eX8_init_93, eX8_init_95, eX8_init_97, eX8_init_100, eX8_init_101, eX8_init_103, eX8_init_105, eX8_init_108, eX8_init_109, eX8_init_111, eX8_init_113, eX8_init_116, eX8_init_117, eX8_init_119, eX8_init_121, eX8_init_124, eX8_init_125, eX8_init_127, eX8_init_129, eX8_init_132, eX8_init_133, eX8_init_135, eX8_init_137, eX8_init_140, eX8_init_141, eX8_init_143, eX8_init_145, eX8_init_148, eX8_init_149, eX8_init_152, eX8_init_154, eX8_init_157, eX8_init_158, eX8_init_160, eX8_init_162, eX8_init_165, eX8_init_166, eX8_init_168, eX8_init_170, eX8_init_173, eX8_init_174, eX8_init_176, eX8_init_178, eX8_init_181, eX8_init_182, eX8_init_184, eX8_init_186, eX8_init_189, eX8_init_190, eX8_init_192, eX8_init_194, eX8_init_197, eX8_init_198, eX8_init_200, eX8_init_202, eX8_init_205, eX8_init_206, eX8_init_209, eX8_init_211, eX8_init_214, eX8_init_215, eX8_init_217, eX8_init_219, eX8_init_222, Evh_some, Evn_some, Nat.reduceAdd, e0, on_0, op_0, on_1, op_1, on_2, op_2, on_3, op_3, on_4, op_4, on_5, op_5, on_6, op_6, on_7, op_7, on_8, op_8, on_9, op_9, on_10, op_10, on_11, op_11, on_12, op_12, on_13, op_13, on_14, op_14, on_15, op_15, on_16, op_16, on_17, op_17, on_18, op_18, on_19, op_19, on_20, op_20, on_21, op_21, on_22, op_22, on_23, op_23, on_24, op_24, on_25, op_25]
  rw [oS_fin]
end SD
