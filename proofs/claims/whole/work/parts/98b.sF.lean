/-! the law -/
section SF
variable {N N' : cN} {J J' : cJ} {P P' : cP} {F F' : Nat → Int32} {A A' : Nat → Nat → Int32} {L L' : Nat → Nat → Int64} {nx : Option Nat} {u : Nat → Int64} {q : Option Nat × Nat × Nat} {Lx : Nat} {xs : Nat → Int32}
abbrev bo (Lx : Nat) (xs : Nat → Int32) (u : Nat → Int64) : Nat → Option va_E := mn_up (mn_p0 Lx xs) 176 (ou u)
abbrev wp (Lx : Nat) (xs : Nat → Int32) (u : Nat → Int64) (N : cN) (J : cJ) (P : cP) (F : Nat → Int32) (A : Nat → Nat → Int32) (L : Nat → Nat → Int64) : Nat → Option va_E := cpic (mpic (bo Lx xs u) F A L) N J P
theorem bo_o {k : Nat} (h : k < 3) : mpic (bo Lx xs u) F A L k = mn_p0 Lx xs k := by
  rw [mp_at, if_neg (by omega)]
  exact up_o (by omega)
theorem wp_o {k : Nat} (h : k < 3) : wp Lx xs u N J P F A L k = mn_p0 Lx xs k := by
  show cpic _ N J P k = _
  rw [c_out (by omega)]
  exact bo_o h
theorem wp_bS : bS (mpic (bo Lx xs u) F A L) := ⟨bo_o (by decide), bo_o (by decide)⟩
theorem wp_rd {k : Nat} (hk : k < Lx) (hL : Lx ≤ 2048) : mn_al (wp Lx xs u N J P F A L, q) 0 0 (nI k) = some (.int (xs k)) := mn_al_of (h := (wp Lx xs u N J P F A L, q)) (a := 0) (t := 0) (n := Lx) (k := k) (x := .inl xs) (wp_o (Lx := Lx) (xs := xs) (u := u) (N := N) (J := J) (P := P) (F := F) (A := A) (L := L) (k := 0) (by decide)) hk (by omega)
theorem wp_len : mn_len (wp Lx xs u N J P F A L, q) 0 = some (.int (nI Lx)) := mn_len_of (h := (wp Lx xs u N J P F A L, q)) (a := 0) (t := 0) (n := Lx) (x := .inl xs) (wp_o (Lx := Lx) (xs := xs) (u := u) (N := N) (J := J) (P := P) (F := F) (A := A) (L := L) (k := 0) (by decide)) (by decide)
theorem wp_out : mn_al (wp Lx xs u N J P F A L, q) 176 1 (nI 0) = some (.long (u 0)) := mn_al_of (h := (wp Lx xs u N J P F A L, q)) (a := 176) (t := 1) (n := 1) (k := 0) (x := .inr (.inl u)) (o_at (b := mn_p0 Lx xs) (u := u) (N := N) (J := J) (P := P) (F := F) (A := A) (L := L)) (by decide) (by decide)
theorem wp_3 : mn_isc (wp Lx xs u N J P F A L, q) 3 7 = true := ci_Main
theorem wp_149 : mn_isc (wp Lx xs u N J P F A L, q) 149 8 = true := by
  have e : wp Lx xs u N J P F A L = mpic (cpic (bo Lx xs u) N J P) F A L := mc_comm.symm
  rw [e]
  exact mi_obj
theorem wp_thr : Cl 85 [.ref 149] (wp Lx xs u N J P F A L) nx = some ((wp Lx xs u N J P F A L, nx, 0, 0), .inl (some (.int (F 0)))) := by
  have e : wp Lx xs u N J P F A L = mpic (cpic (bo Lx xs u) N J P) F A L := mc_comm.symm
  rw [e]
  exact cl_thrown
theorem sub_lt {t : Nat} (h : Lx < 4 * t + 4) (hL : Lx ≤ 2048) (ht : t < 10000) : nI Lx - nI 4 < nI (4 * t) := by
  by_cases h4 : 4 ≤ Lx
  · rw [pk_sub (by omega), nI_ltI (by omega) (by omega)]
    omega
  · rw [Int32.lt_iff_toInt_lt, nI_toInt (n := 4 * t) (by omega)]
    have : (nI Lx - nI 4).toInt < 0 := by
      rcases (show Lx = 0 ∨ Lx = 1 ∨ Lx = 2 ∨ Lx = 3 by omega) with rfl | rfl | rfl | rfl <;> decide
    omega
theorem sub_ge {t : Nat} (h : 4 * t + 4 ≤ Lx) (hL : Lx ≤ 2048) : ¬ nI Lx - nI 4 < nI (4 * t) := by
  rw [pk_sub (by omega), nI_ltI (by omega) (by omega)]
  omega
/-- out's row after an answer -/
def ov (u : Nat → Int64) (v : Option Value) : Nat → Int64 := match v with
  | some (.int x) => vp_updL u 0 x.toInt64
  | some (.long x) => vp_updL u 0 x
  | _ => u
theorem ov_i {x : Int32} : ov u (some (.int x)) 0 = x.toInt64 := by show vp_updL u 0 x.toInt64 0 = _; simp [vp_updL]
theorem ov_l {x : Int64} : ov u (some (.long x)) 0 = x := by show vp_updL u 0 x 0 = _; simp [vp_updL]
theorem hO_i {x : Int32} : mn_up (wp Lx xs u N J P F A L) 176 (ou (vp_updL u 0 x.toInt64)) = wp Lx xs (ov u (some (.int x))) N J P F A L := o_up
theorem hO_l {x : Int64} : mn_up (wp Lx xs u N J P F A L) 176 (ou (vp_updL u 0 x)) = wp Lx xs (ov u (some (.long x))) N J P F A L := o_up
theorem one_i {es : List Nat} {i e a : Nat} (h : es[i]? = some e) (hes : es = [a]) : i = 0 ∧ e = a := by
  subst hes
  match i, h with
  | 0, h => cases h; exact ⟨rfl, rfl⟩
  | i + 1, h => cases h
theorem two_i {es : List Nat} {i e a c : Nat} (h : es[i]? = some e) (hes : es = [a, c]) : (i = 0 ∧ e = a) ∨ (i = 1 ∧ e = c) := by
  subst hes
  match i, h with
  | 0, h => cases h; exact Or.inl ⟨rfl, rfl⟩
  | 1, h => cases h; exact Or.inr ⟨rfl, rfl⟩
  | i + 2, h => cases h
set_option maxHeartbeats 8000000 in
theorem lw_c_block {t c0 w0 : Nat} {Bd : mn_S → Prop} {c5 c6 c7 : Option Value} (hr : Rel N J P F A L) (hL : Lx ≤ 2048) (ht : 4 * t + 4 ≤ Lx) (cont : ∀ (u : Nat → Int64) (N : cN) (J : cJ) (P : cP) (F : Nat → Int32) (A : Nat → Nat → Int32) (L : Nat → Nat → Int64) (nx : Option Nat) (c w : Nat) (c5 c6 c7 : Option Value), Rel N J P F A L → c ≤ c0 + 1 → w ≤ w0 + 6 → ∃ hf : mn_S, Bd hf ∧ Ev 147 736 [some (.ref 0), some (.ref 3), some (.ref 149), some (.ref 176), some (.int (nI (4 * t))), c5, c6, c7] [] (wp Lx xs u N J P F A L, nx, c, w) (hf, .inl (some (.int 1)))) : ∃ hf : mn_S, Bd hf ∧ Ev 147 108 [some (.ref 0), some (.ref 3), some (.ref 149), some (.ref 176), some (.int (nI (4 * t))), c5, c6, c7] [] (wp Lx xs u N J P F A L, nx, c0, w0) (hf, .inl (some (.int 1))) := by
  obtain ⟨N', J', P', F', A', L', hr', hh⟩ := Ans.two (b := bo Lx xs u) (nx := nx) (fun v => bo Lx xs (ov u v)) (fun b2 nx2 => call_block (b1 := mpic (bo Lx xs u) F A L) (nx1 := nx) (b2 := b2) (nx2 := nx2) hr)
  rcases hh with ⟨v, hk, h1, h2, h3⟩ | ⟨i, e, v, he, hk, h1, h2, h3⟩
  · obtain ⟨x, rfl⟩ := hk
    have e1 := hL_block (p := wp Lx xs u N J P F A L) (nx := nx) wp_3 o_at h1
    rw [hO_i] at e1
    obtain ⟨hf, b1, b2⟩ := cont (ov u (some (.int x))) N' J' P' F' A' L' nx c0 w0 (some (.int (nI 0))) (some (.int x)) (c7) hr' (by omega) (by omega)
    refine ⟨hf, b1, ?_⟩
    simp (disch := first | omega | decide) only [eL_law_108, eL_law_108n, eL_law_108t, eL_law_108s, eL_law_108c, eL_law_109, eL_law_109n, eL_law_109t, eL_law_109s, eL_law_109c, eL_law_110, eL_law_113, eL_law_115, eL_law_115n, eL_law_115t, eL_law_115s, eL_law_115c, eL_law_116, eL_law_119, eL_law_121, eL_law_121n, eL_law_121t, eL_law_121s, eL_law_121c, eL_law_122, eL_law_125, eL_law_127, eL_law_130, eL_law_131, eL_law_132, eL_law_134, eL_law_137, eL_law_137n, eL_law_137t, eL_law_137s, eL_law_137c, eL_law_138, eL_law_139, eL_law_140, eL_law_142, eL_law_143, eL_law_144, eL_law_147, eL_law_148, eL_law_149, ↓reduceIte, Evk_some, Evh_some, Evn_some, Evr_v, Evr_n, mk_i, mk_r, mk_0, mk_n, mk_l, mc0, mc1, mc2, mc3, mc4, mi_obj, Bool.and_self, Bool.true_and, Nat.add_zero, Nat.zero_add, nI_add, pk_mul, pk_sub, Nat.add_sub_cancel, eq_self, if_true, if_false, n10, bI_t, bI_f, bI_0, Nat.reduceAdd, Nat.reduceMul, Nat.reduceSub, nI_eq, nI_ltI, nI_leI, Nat.reduceEqDiff, Nat.reduceLT, Nat.reduceDiv, Nat.reduceMod, Nat.reduceLeDiff, wp_3, wp_149, wp_thr, wp_out, e1, h2, h3, ov_i, lc_eq]
    exact b2
  · obtain ⟨rfl, rfl⟩ := one_i he rfl
    obtain ⟨x, rfl⟩ := hk
    have e1 := hL_block_0 (p := wp Lx xs u N J P F A L) (nx := nx) wp_3 h1
    obtain ⟨hf, b1, b2⟩ := cont u N' J' P' F' A' L' none (c0 + 1) (w0 + 6) (some (.int (nI 1))) (some (.int x)) c7 hr' (by omega) (by omega)
    refine ⟨hf, b1, ?_⟩
    simp (disch := first | omega | decide) only [eL_law_108, eL_law_108n, eL_law_108t, eL_law_108s, eL_law_108c, eL_law_109, eL_law_109n, eL_law_109t, eL_law_109s, eL_law_109c, eL_law_110, eL_law_113, eL_law_115, eL_law_115n, eL_law_115t, eL_law_115s, eL_law_115c, eL_law_116, eL_law_119, eL_law_121, eL_law_121n, eL_law_121t, eL_law_121s, eL_law_121c, eL_law_122, eL_law_125, eL_law_127, eL_law_130, eL_law_131, eL_law_132, eL_law_134, eL_law_137, eL_law_137n, eL_law_137t, eL_law_137s, eL_law_137c, eL_law_138, eL_law_139, eL_law_140, eL_law_142, eL_law_143, eL_law_144, eL_law_147, eL_law_148, eL_law_149, ↓reduceIte, Evk_some, Evh_some, Evn_some, Evr_v, Evr_n, mk_i, mk_r, mk_0, mk_n, mk_l, mc0, mc1, mc2, mc3, mc4, mi_obj, Bool.and_self, Bool.true_and, Nat.add_zero, Nat.zero_add, nI_add, pk_mul, pk_sub, Nat.add_sub_cancel, eq_self, if_true, if_false, n10, bI_t, bI_f, bI_0, Nat.reduceAdd, Nat.reduceMul, Nat.reduceSub, nI_eq, nI_ltI, nI_leI, Nat.reduceEqDiff, Nat.reduceLT, Nat.reduceDiv, Nat.reduceMod, Nat.reduceLeDiff, wp_3, wp_149, wp_thr, wp_out, e1, h2, h3]
    exact b2
set_option maxHeartbeats 8000000 in
theorem lw_c_add {t c0 w0 : Nat} {Bd : mn_S → Prop} {c5 c6 c7 : Option Value} (hr : Rel N J P F A L) (hL : Lx ≤ 2048) (ht : 4 * t + 4 ≤ Lx) (cont : ∀ (u : Nat → Int64) (N : cN) (J : cJ) (P : cP) (F : Nat → Int32) (A : Nat → Nat → Int32) (L : Nat → Nat → Int64) (nx : Option Nat) (c w : Nat) (c5 c6 c7 : Option Value), Rel N J P F A L → c ≤ c0 + 1 → w ≤ w0 + 6 → ∃ hf : mn_S, Bd hf ∧ Ev 147 736 [some (.ref 0), some (.ref 3), some (.ref 149), some (.ref 176), some (.int (nI (4 * t))), c5, c6, c7] [] (wp Lx xs u N J P F A L, nx, c, w) (hf, .inl (some (.int 1)))) : ∃ hf : mn_S, Bd hf ∧ Ev 147 152 [some (.ref 0), some (.ref 3), some (.ref 149), some (.ref 176), some (.int (nI (4 * t))), c5, c6, c7] [] (wp Lx xs u N J P F A L, nx, c0, w0) (hf, .inl (some (.int 1))) := by
  obtain ⟨N', J', P', F', A', L', hr', hh⟩ := Ans.two (b := bo Lx xs u) (nx := nx) (fun v => bo Lx xs (ov u v)) (fun b2 nx2 => call_add (x := xs (4 * t + 1)) (y := xs (4 * t + 2)) (b1 := mpic (bo Lx xs u) F A L) (nx1 := nx) (b2 := b2) (nx2 := nx2) wp_bS hr)
  have r1 := fun (N : cN) (J : cJ) (P : cP) (F : Nat → Int32) (A : Nat → Nat → Int32) (L : Nat → Nat → Int64) (u : Nat → Int64) (q : Option Nat × Nat × Nat) => wp_rd (xs := xs) (u := u) (N := N) (J := J) (P := P) (F := F) (A := A) (L := L) (q := q) (show 4 * t + 1 < Lx by omega) hL
  have r2 := fun (N : cN) (J : cJ) (P : cP) (F : Nat → Int32) (A : Nat → Nat → Int32) (L : Nat → Nat → Int64) (u : Nat → Int64) (q : Option Nat × Nat × Nat) => wp_rd (xs := xs) (u := u) (N := N) (J := J) (P := P) (F := F) (A := A) (L := L) (q := q) (show 4 * t + 2 < Lx by omega) hL
  rcases hh with ⟨v, hk, h1, h2, h3⟩ | ⟨i, e, v, he, hk, h1, h2, h3⟩
  · obtain ⟨x, rfl⟩ := hk
    have e1 := hL_add (p := wp Lx xs u N J P F A L) (nx := nx) wp_3 o_at h1
    rw [hO_i] at e1
    obtain ⟨hf, b1, b2⟩ := cont (ov u (some (.int x))) N' J' P' F' A' L' nx c0 w0 (some (.int (nI 0))) (some (.int x)) (c7) hr' (by omega) (by omega)
    refine ⟨hf, b1, ?_⟩
    simp (disch := first | omega | decide) only [eL_law_152, eL_law_152n, eL_law_152t, eL_law_152s, eL_law_152c, eL_law_153, eL_law_153n, eL_law_153t, eL_law_153s, eL_law_153c, eL_law_154, eL_law_156, eL_law_157, eL_law_158, eL_law_159, eL_law_159n, eL_law_159t, eL_law_159s, eL_law_159c, eL_law_160, eL_law_162, eL_law_163, eL_law_164, eL_law_165, eL_law_165n, eL_law_165t, eL_law_165s, eL_law_165c, eL_law_166, eL_law_169, eL_law_171, eL_law_171n, eL_law_171t, eL_law_171s, eL_law_171c, eL_law_172, eL_law_172n, eL_law_172t, eL_law_172s, eL_law_172c, eL_law_173, eL_law_175, eL_law_176, eL_law_177, eL_law_178, eL_law_178n, eL_law_178t, eL_law_178s, eL_law_178c, eL_law_179, eL_law_181, eL_law_182, eL_law_183, eL_law_184, eL_law_187, eL_law_189, eL_law_189n, eL_law_189t, eL_law_189s, eL_law_189c, eL_law_190, eL_law_193, eL_law_195, eL_law_198, eL_law_199, eL_law_200, eL_law_202, eL_law_205, eL_law_205n, eL_law_205t, eL_law_205s, eL_law_205c, eL_law_206, eL_law_207, eL_law_208, eL_law_210, eL_law_211, eL_law_212, eL_law_215, eL_law_216, eL_law_217, ↓reduceIte, Evk_some, Evh_some, Evn_some, Evr_v, Evr_n, mk_i, mk_r, mk_0, mk_n, mk_l, mc0, mc1, mc2, mc3, mc4, mi_obj, Bool.and_self, Bool.true_and, Nat.add_zero, Nat.zero_add, nI_add, pk_mul, pk_sub, Nat.add_sub_cancel, eq_self, if_true, if_false, n10, bI_t, bI_f, bI_0, Nat.reduceAdd, Nat.reduceMul, Nat.reduceSub, nI_eq, nI_ltI, nI_leI, Nat.reduceEqDiff, Nat.reduceLT, Nat.reduceDiv, Nat.reduceMod, Nat.reduceLeDiff, wp_3, wp_149, wp_thr, wp_out, r1, r2, e1, h2, h3, ov_i, lc_eq]
    exact b2
  · rcases two_i he rfl with ⟨rfl, rfl⟩ | ⟨rfl, rfl⟩
    · obtain ⟨x, rfl⟩ := hk
      have e1 := hL_add_1 (p := wp Lx xs u N J P F A L) (nx := nx) wp_3 h1
      obtain ⟨hf, b1, b2⟩ := cont u N' J' P' F' A' L' none (c0 + 1) (w0 + 6) (some (.int (nI 1))) (some (.int x)) c7 hr' (by omega) (by omega)
      refine ⟨hf, b1, ?_⟩
      simp (disch := first | omega | decide) only [eL_law_152, eL_law_152n, eL_law_152t, eL_law_152s, eL_law_152c, eL_law_153, eL_law_153n, eL_law_153t, eL_law_153s, eL_law_153c, eL_law_154, eL_law_156, eL_law_157, eL_law_158, eL_law_159, eL_law_159n, eL_law_159t, eL_law_159s, eL_law_159c, eL_law_160, eL_law_162, eL_law_163, eL_law_164, eL_law_165, eL_law_165n, eL_law_165t, eL_law_165s, eL_law_165c, eL_law_166, eL_law_169, eL_law_171, eL_law_171n, eL_law_171t, eL_law_171s, eL_law_171c, eL_law_172, eL_law_172n, eL_law_172t, eL_law_172s, eL_law_172c, eL_law_173, eL_law_175, eL_law_176, eL_law_177, eL_law_178, eL_law_178n, eL_law_178t, eL_law_178s, eL_law_178c, eL_law_179, eL_law_181, eL_law_182, eL_law_183, eL_law_184, eL_law_187, eL_law_189, eL_law_189n, eL_law_189t, eL_law_189s, eL_law_189c, eL_law_190, eL_law_193, eL_law_195, eL_law_198, eL_law_199, eL_law_200, eL_law_202, eL_law_205, eL_law_205n, eL_law_205t, eL_law_205s, eL_law_205c, eL_law_206, eL_law_207, eL_law_208, eL_law_210, eL_law_211, eL_law_212, eL_law_215, eL_law_216, eL_law_217, ↓reduceIte, Evk_some, Evh_some, Evn_some, Evr_v, Evr_n, mk_i, mk_r, mk_0, mk_n, mk_l, mc0, mc1, mc2, mc3, mc4, mi_obj, Bool.and_self, Bool.true_and, Nat.add_zero, Nat.zero_add, nI_add, pk_mul, pk_sub, Nat.add_sub_cancel, eq_self, if_true, if_false, n10, bI_t, bI_f, bI_0, Nat.reduceAdd, Nat.reduceMul, Nat.reduceSub, nI_eq, nI_ltI, nI_leI, Nat.reduceEqDiff, Nat.reduceLT, Nat.reduceDiv, Nat.reduceMod, Nat.reduceLeDiff, wp_3, wp_149, wp_thr, wp_out, r1, r2, e1, h2, h3]
      exact b2
    · obtain ⟨x, rfl⟩ := hk
      have e1 := hL_add_0 (p := wp Lx xs u N J P F A L) (nx := nx) wp_3 h1
      obtain ⟨hf, b1, b2⟩ := cont u N' J' P' F' A' L' none (c0 + 1) (w0 + 6) (some (.int (nI 2))) (some (.int x)) c7 hr' (by omega) (by omega)
      refine ⟨hf, b1, ?_⟩
      simp (disch := first | omega | decide) only [eL_law_152, eL_law_152n, eL_law_152t, eL_law_152s, eL_law_152c, eL_law_153, eL_law_153n, eL_law_153t, eL_law_153s, eL_law_153c, eL_law_154, eL_law_156, eL_law_157, eL_law_158, eL_law_159, eL_law_159n, eL_law_159t, eL_law_159s, eL_law_159c, eL_law_160, eL_law_162, eL_law_163, eL_law_164, eL_law_165, eL_law_165n, eL_law_165t, eL_law_165s, eL_law_165c, eL_law_166, eL_law_169, eL_law_171, eL_law_171n, eL_law_171t, eL_law_171s, eL_law_171c, eL_law_172, eL_law_172n, eL_law_172t, eL_law_172s, eL_law_172c, eL_law_173, eL_law_175, eL_law_176, eL_law_177, eL_law_178, eL_law_178n, eL_law_178t, eL_law_178s, eL_law_178c, eL_law_179, eL_law_181, eL_law_182, eL_law_183, eL_law_184, eL_law_187, eL_law_189, eL_law_189n, eL_law_189t, eL_law_189s, eL_law_189c, eL_law_190, eL_law_193, eL_law_195, eL_law_198, eL_law_199, eL_law_200, eL_law_202, eL_law_205, eL_law_205n, eL_law_205t, eL_law_205s, eL_law_205c, eL_law_206, eL_law_207, eL_law_208, eL_law_210, eL_law_211, eL_law_212, eL_law_215, eL_law_216, eL_law_217, ↓reduceIte, Evk_some, Evh_some, Evn_some, Evr_v, Evr_n, mk_i, mk_r, mk_0, mk_n, mk_l, mc0, mc1, mc2, mc3, mc4, mi_obj, Bool.and_self, Bool.true_and, Nat.add_zero, Nat.zero_add, nI_add, pk_mul, pk_sub, Nat.add_sub_cancel, eq_self, if_true, if_false, n10, bI_t, bI_f, bI_0, Nat.reduceAdd, Nat.reduceMul, Nat.reduceSub, nI_eq, nI_ltI, nI_leI, Nat.reduceEqDiff, Nat.reduceLT, Nat.reduceDiv, Nat.reduceMod, Nat.reduceLeDiff, wp_3, wp_149, wp_thr, wp_out, r1, r2, e1, h2, h3]
      exact b2
set_option maxHeartbeats 8000000 in
theorem lw_c_merge {t c0 w0 : Nat} {Bd : mn_S → Prop} {c5 c6 c7 : Option Value} (hr : Rel N J P F A L) (hL : Lx ≤ 2048) (ht : 4 * t + 4 ≤ Lx) (cont : ∀ (u : Nat → Int64) (N : cN) (J : cJ) (P : cP) (F : Nat → Int32) (A : Nat → Nat → Int32) (L : Nat → Nat → Int64) (nx : Option Nat) (c w : Nat) (c5 c6 c7 : Option Value), Rel N J P F A L → c ≤ c0 + 1 → w ≤ w0 + 6 → ∃ hf : mn_S, Bd hf ∧ Ev 147 736 [some (.ref 0), some (.ref 3), some (.ref 149), some (.ref 176), some (.int (nI (4 * t))), c5, c6, c7] [] (wp Lx xs u N J P F A L, nx, c, w) (hf, .inl (some (.int 1)))) : ∃ hf : mn_S, Bd hf ∧ Ev 147 220 [some (.ref 0), some (.ref 3), some (.ref 149), some (.ref 176), some (.int (nI (4 * t))), c5, c6, c7] [] (wp Lx xs u N J P F A L, nx, c0, w0) (hf, .inl (some (.int 1))) := by
  obtain ⟨N', J', P', F', A', L', hr', hh⟩ := Ans.two (b := bo Lx xs u) (nx := nx) (fun v => bo Lx xs (ov u v)) (fun b2 nx2 => call_merge (b1 := mpic (bo Lx xs u) F A L) (nx1 := nx) (b2 := b2) (nx2 := nx2) hr)
  rcases hh with ⟨v, hk, h1, h2, h3⟩ | ⟨i, e, v, he, hk, h1, h2, h3⟩
  · obtain ⟨x, rfl⟩ := hk
    have e1 := hL_merge (p := wp Lx xs u N J P F A L) (nx := nx) wp_3 o_at h1
    rw [hO_i] at e1
    obtain ⟨hf, b1, b2⟩ := cont (ov u (some (.int x))) N' J' P' F' A' L' nx c0 w0 (some (.int (nI 0))) (some (.int x)) (c7) hr' (by omega) (by omega)
    refine ⟨hf, b1, ?_⟩
    simp (disch := first | omega | decide) only [eL_law_220, eL_law_220n, eL_law_220t, eL_law_220s, eL_law_220c, eL_law_221, eL_law_221n, eL_law_221t, eL_law_221s, eL_law_221c, eL_law_222, eL_law_225, eL_law_227, eL_law_227n, eL_law_227t, eL_law_227s, eL_law_227c, eL_law_228, eL_law_231, eL_law_233, eL_law_233n, eL_law_233t, eL_law_233s, eL_law_233c, eL_law_234, eL_law_237, eL_law_239, eL_law_242, eL_law_243, eL_law_244, eL_law_246, eL_law_249, eL_law_249n, eL_law_249t, eL_law_249s, eL_law_249c, eL_law_250, eL_law_251, eL_law_252, eL_law_254, eL_law_255, eL_law_256, eL_law_259, eL_law_260, eL_law_261, ↓reduceIte, Evk_some, Evh_some, Evn_some, Evr_v, Evr_n, mk_i, mk_r, mk_0, mk_n, mk_l, mc0, mc1, mc2, mc3, mc4, mi_obj, Bool.and_self, Bool.true_and, Nat.add_zero, Nat.zero_add, nI_add, pk_mul, pk_sub, Nat.add_sub_cancel, eq_self, if_true, if_false, n10, bI_t, bI_f, bI_0, Nat.reduceAdd, Nat.reduceMul, Nat.reduceSub, nI_eq, nI_ltI, nI_leI, Nat.reduceEqDiff, Nat.reduceLT, Nat.reduceDiv, Nat.reduceMod, Nat.reduceLeDiff, wp_3, wp_149, wp_thr, wp_out, e1, h2, h3, ov_i, lc_eq]
    exact b2
  · obtain ⟨rfl, rfl⟩ := one_i he rfl
    obtain ⟨x, rfl⟩ := hk
    have e1 := hL_merge_0 (p := wp Lx xs u N J P F A L) (nx := nx) wp_3 h1
    obtain ⟨hf, b1, b2⟩ := cont u N' J' P' F' A' L' none (c0 + 1) (w0 + 6) (some (.int (nI 1))) (some (.int x)) c7 hr' (by omega) (by omega)
    refine ⟨hf, b1, ?_⟩
    simp (disch := first | omega | decide) only [eL_law_220, eL_law_220n, eL_law_220t, eL_law_220s, eL_law_220c, eL_law_221, eL_law_221n, eL_law_221t, eL_law_221s, eL_law_221c, eL_law_222, eL_law_225, eL_law_227, eL_law_227n, eL_law_227t, eL_law_227s, eL_law_227c, eL_law_228, eL_law_231, eL_law_233, eL_law_233n, eL_law_233t, eL_law_233s, eL_law_233c, eL_law_234, eL_law_237, eL_law_239, eL_law_242, eL_law_243, eL_law_244, eL_law_246, eL_law_249, eL_law_249n, eL_law_249t, eL_law_249s, eL_law_249c, eL_law_250, eL_law_251, eL_law_252, eL_law_254, eL_law_255, eL_law_256, eL_law_259, eL_law_260, eL_law_261, ↓reduceIte, Evk_some, Evh_some, Evn_some, Evr_v, Evr_n, mk_i, mk_r, mk_0, mk_n, mk_l, mc0, mc1, mc2, mc3, mc4, mi_obj, Bool.and_self, Bool.true_and, Nat.add_zero, Nat.zero_add, nI_add, pk_mul, pk_sub, Nat.add_sub_cancel, eq_self, if_true, if_false, n10, bI_t, bI_f, bI_0, Nat.reduceAdd, Nat.reduceMul, Nat.reduceSub, nI_eq, nI_ltI, nI_leI, Nat.reduceEqDiff, Nat.reduceLT, Nat.reduceDiv, Nat.reduceMod, Nat.reduceLeDiff, wp_3, wp_149, wp_thr, wp_out, e1, h2, h3]
    exact b2
set_option maxHeartbeats 8000000 in
theorem lw_c_cell {t c0 w0 : Nat} {Bd : mn_S → Prop} {c5 c6 c7 : Option Value} (hr : Rel N J P F A L) (hL : Lx ≤ 2048) (ht : 4 * t + 4 ≤ Lx) (cont : ∀ (u : Nat → Int64) (N : cN) (J : cJ) (P : cP) (F : Nat → Int32) (A : Nat → Nat → Int32) (L : Nat → Nat → Int64) (nx : Option Nat) (c w : Nat) (c5 c6 c7 : Option Value), Rel N J P F A L → c ≤ c0 + 1 → w ≤ w0 + 6 → ∃ hf : mn_S, Bd hf ∧ Ev 147 736 [some (.ref 0), some (.ref 3), some (.ref 149), some (.ref 176), some (.int (nI (4 * t))), c5, c6, c7] [] (wp Lx xs u N J P F A L, nx, c, w) (hf, .inl (some (.int 1)))) : ∃ hf : mn_S, Bd hf ∧ Ev 147 264 [some (.ref 0), some (.ref 3), some (.ref 149), some (.ref 176), some (.int (nI (4 * t))), c5, c6, c7] [] (wp Lx xs u N J P F A L, nx, c0, w0) (hf, .inl (some (.int 1))) := by
  obtain ⟨N', J', P', F', A', L', hr', hh⟩ := Ans.two (b := bo Lx xs u) (nx := nx) (fun _ => bo Lx xs u) (fun b2 nx2 => call_cell (x := xs (4 * t + 1)) (y := xs (4 * t + 2)) (z := xs (4 * t + 3)) (b1 := mpic (bo Lx xs u) F A L) (nx1 := nx) (b2 := b2) (nx2 := nx2) hr)
  have r1 := fun (N : cN) (J : cJ) (P : cP) (F : Nat → Int32) (A : Nat → Nat → Int32) (L : Nat → Nat → Int64) (u : Nat → Int64) (q : Option Nat × Nat × Nat) => wp_rd (xs := xs) (u := u) (N := N) (J := J) (P := P) (F := F) (A := A) (L := L) (q := q) (show 4 * t + 1 < Lx by omega) hL
  have r2 := fun (N : cN) (J : cJ) (P : cP) (F : Nat → Int32) (A : Nat → Nat → Int32) (L : Nat → Nat → Int64) (u : Nat → Int64) (q : Option Nat × Nat × Nat) => wp_rd (xs := xs) (u := u) (N := N) (J := J) (P := P) (F := F) (A := A) (L := L) (q := q) (show 4 * t + 2 < Lx by omega) hL
  have r3 := fun (N : cN) (J : cJ) (P : cP) (F : Nat → Int32) (A : Nat → Nat → Int32) (L : Nat → Nat → Int64) (u : Nat → Int64) (q : Option Nat × Nat × Nat) => wp_rd (xs := xs) (u := u) (N := N) (J := J) (P := P) (F := F) (A := A) (L := L) (q := q) (show 4 * t + 3 < Lx by omega) hL
  rcases hh with ⟨v, hk, h1, h2, h3⟩ | ⟨i, e, v, he, hk, h1, h2, h3⟩
  · have hv : v = none := hk
    subst hv
    have e1 := hL_cell (p := wp Lx xs u N J P F A L) (nx := nx) wp_3 h1
    obtain ⟨hf, b1, b2⟩ := cont u N' J' P' F' A' L' nx c0 w0 (some (.int (nI 0))) c6 c7 hr' (by omega) (by omega)
    refine ⟨hf, b1, ?_⟩
    simp (disch := first | omega | decide) only [eL_law_264, eL_law_264n, eL_law_264t, eL_law_264s, eL_law_264c, eL_law_265, eL_law_265n, eL_law_265t, eL_law_265s, eL_law_265c, eL_law_266, eL_law_268, eL_law_269, eL_law_270, eL_law_271, eL_law_271n, eL_law_271t, eL_law_271s, eL_law_271c, eL_law_272, eL_law_274, eL_law_275, eL_law_276, eL_law_277, eL_law_277n, eL_law_277t, eL_law_277s, eL_law_277c, eL_law_278, eL_law_280, eL_law_281, eL_law_282, eL_law_283, eL_law_286, eL_law_288, eL_law_288n, eL_law_288t, eL_law_288s, eL_law_288c, eL_law_289, eL_law_289n, eL_law_289t, eL_law_289s, eL_law_289c, eL_law_290, eL_law_292, eL_law_293, eL_law_294, eL_law_295, eL_law_295n, eL_law_295t, eL_law_295s, eL_law_295c, eL_law_296, eL_law_298, eL_law_299, eL_law_300, eL_law_301, eL_law_301n, eL_law_301t, eL_law_301s, eL_law_301c, eL_law_302, eL_law_304, eL_law_305, eL_law_306, eL_law_307, eL_law_310, eL_law_310n, eL_law_310t, eL_law_310s, eL_law_310c, eL_law_311, eL_law_314, eL_law_316, eL_law_319, eL_law_320, eL_law_321, ↓reduceIte, Evk_some, Evh_some, Evn_some, Evr_v, Evr_n, mk_i, mk_r, mk_0, mk_n, mk_l, mc0, mc1, mc2, mc3, mc4, mi_obj, Bool.and_self, Bool.true_and, Nat.add_zero, Nat.zero_add, nI_add, pk_mul, pk_sub, Nat.add_sub_cancel, eq_self, if_true, if_false, n10, bI_t, bI_f, bI_0, Nat.reduceAdd, Nat.reduceMul, Nat.reduceSub, nI_eq, nI_ltI, nI_leI, Nat.reduceEqDiff, Nat.reduceLT, Nat.reduceDiv, Nat.reduceMod, Nat.reduceLeDiff, wp_3, wp_149, wp_thr, wp_out, r1, r2, r3, e1, h2, h3]
    exact b2
  · rcases two_i he rfl with ⟨rfl, rfl⟩ | ⟨rfl, rfl⟩
    · have hv : v = none := hk
      subst hv
      have e1 := hL_cell_1 (p := wp Lx xs u N J P F A L) (nx := nx) wp_3 h1
      obtain ⟨hf, b1, b2⟩ := cont u N' J' P' F' A' L' none (c0 + 1) (w0 + 6) (some (.int (nI 1))) c6 c7 hr' (by omega) (by omega)
      refine ⟨hf, b1, ?_⟩
      simp (disch := first | omega | decide) only [eL_law_264, eL_law_264n, eL_law_264t, eL_law_264s, eL_law_264c, eL_law_265, eL_law_265n, eL_law_265t, eL_law_265s, eL_law_265c, eL_law_266, eL_law_268, eL_law_269, eL_law_270, eL_law_271, eL_law_271n, eL_law_271t, eL_law_271s, eL_law_271c, eL_law_272, eL_law_274, eL_law_275, eL_law_276, eL_law_277, eL_law_277n, eL_law_277t, eL_law_277s, eL_law_277c, eL_law_278, eL_law_280, eL_law_281, eL_law_282, eL_law_283, eL_law_286, eL_law_288, eL_law_288n, eL_law_288t, eL_law_288s, eL_law_288c, eL_law_289, eL_law_289n, eL_law_289t, eL_law_289s, eL_law_289c, eL_law_290, eL_law_292, eL_law_293, eL_law_294, eL_law_295, eL_law_295n, eL_law_295t, eL_law_295s, eL_law_295c, eL_law_296, eL_law_298, eL_law_299, eL_law_300, eL_law_301, eL_law_301n, eL_law_301t, eL_law_301s, eL_law_301c, eL_law_302, eL_law_304, eL_law_305, eL_law_306, eL_law_307, eL_law_310, eL_law_310n, eL_law_310t, eL_law_310s, eL_law_310c, eL_law_311, eL_law_314, eL_law_316, eL_law_319, eL_law_320, eL_law_321, ↓reduceIte, Evk_some, Evh_some, Evn_some, Evr_v, Evr_n, mk_i, mk_r, mk_0, mk_n, mk_l, mc0, mc1, mc2, mc3, mc4, mi_obj, Bool.and_self, Bool.true_and, Nat.add_zero, Nat.zero_add, nI_add, pk_mul, pk_sub, Nat.add_sub_cancel, eq_self, if_true, if_false, n10, bI_t, bI_f, bI_0, Nat.reduceAdd, Nat.reduceMul, Nat.reduceSub, nI_eq, nI_ltI, nI_leI, Nat.reduceEqDiff, Nat.reduceLT, Nat.reduceDiv, Nat.reduceMod, Nat.reduceLeDiff, wp_3, wp_149, wp_thr, wp_out, r1, r2, r3, e1, h2, h3]
      exact b2
    · have hv : v = none := hk
      subst hv
      have e1 := hL_cell_0 (p := wp Lx xs u N J P F A L) (nx := nx) wp_3 h1
      obtain ⟨hf, b1, b2⟩ := cont u N' J' P' F' A' L' none (c0 + 1) (w0 + 6) (some (.int (nI 2))) c6 c7 hr' (by omega) (by omega)
      refine ⟨hf, b1, ?_⟩
      simp (disch := first | omega | decide) only [eL_law_264, eL_law_264n, eL_law_264t, eL_law_264s, eL_law_264c, eL_law_265, eL_law_265n, eL_law_265t, eL_law_265s, eL_law_265c, eL_law_266, eL_law_268, eL_law_269, eL_law_270, eL_law_271, eL_law_271n, eL_law_271t, eL_law_271s, eL_law_271c, eL_law_272, eL_law_274, eL_law_275, eL_law_276, eL_law_277, eL_law_277n, eL_law_277t, eL_law_277s, eL_law_277c, eL_law_278, eL_law_280, eL_law_281, eL_law_282, eL_law_283, eL_law_286, eL_law_288, eL_law_288n, eL_law_288t, eL_law_288s, eL_law_288c, eL_law_289, eL_law_289n, eL_law_289t, eL_law_289s, eL_law_289c, eL_law_290, eL_law_292, eL_law_293, eL_law_294, eL_law_295, eL_law_295n, eL_law_295t, eL_law_295s, eL_law_295c, eL_law_296, eL_law_298, eL_law_299, eL_law_300, eL_law_301, eL_law_301n, eL_law_301t, eL_law_301s, eL_law_301c, eL_law_302, eL_law_304, eL_law_305, eL_law_306, eL_law_307, eL_law_310, eL_law_310n, eL_law_310t, eL_law_310s, eL_law_310c, eL_law_311, eL_law_314, eL_law_316, eL_law_319, eL_law_320, eL_law_321, ↓reduceIte, Evk_some, Evh_some, Evn_some, Evr_v, Evr_n, mk_i, mk_r, mk_0, mk_n, mk_l, mc0, mc1, mc2, mc3, mc4, mi_obj, Bool.and_self, Bool.true_and, Nat.add_zero, Nat.zero_add, nI_add, pk_mul, pk_sub, Nat.add_sub_cancel, eq_self, if_true, if_false, n10, bI_t, bI_f, bI_0, Nat.reduceAdd, Nat.reduceMul, Nat.reduceSub, nI_eq, nI_ltI, nI_leI, Nat.reduceEqDiff, Nat.reduceLT, Nat.reduceDiv, Nat.reduceMod, Nat.reduceLeDiff, wp_3, wp_149, wp_thr, wp_out, r1, r2, r3, e1, h2, h3]
      exact b2
set_option maxHeartbeats 8000000 in
theorem lw_c_start {t c0 w0 : Nat} {Bd : mn_S → Prop} {c5 c6 c7 : Option Value} (hr : Rel N J P F A L) (hL : Lx ≤ 2048) (ht : 4 * t + 4 ≤ Lx) (cont : ∀ (u : Nat → Int64) (N : cN) (J : cJ) (P : cP) (F : Nat → Int32) (A : Nat → Nat → Int32) (L : Nat → Nat → Int64) (nx : Option Nat) (c w : Nat) (c5 c6 c7 : Option Value), Rel N J P F A L → c ≤ c0 + 1 → w ≤ w0 + 6 → ∃ hf : mn_S, Bd hf ∧ Ev 147 736 [some (.ref 0), some (.ref 3), some (.ref 149), some (.ref 176), some (.int (nI (4 * t))), c5, c6, c7] [] (wp Lx xs u N J P F A L, nx, c, w) (hf, .inl (some (.int 1)))) : ∃ hf : mn_S, Bd hf ∧ Ev 147 324 [some (.ref 0), some (.ref 3), some (.ref 149), some (.ref 176), some (.int (nI (4 * t))), c5, c6, c7] [] (wp Lx xs u N J P F A L, nx, c0, w0) (hf, .inl (some (.int 1))) := by
  obtain ⟨N', J', P', F', A', L', hr', hh⟩ := Ans.two (b := bo Lx xs u) (nx := nx) (fun _ => bo Lx xs u) (fun b2 nx2 => call_start (b1 := mpic (bo Lx xs u) F A L) (nx1 := nx) (b2 := b2) (nx2 := nx2) wp_bS hr)
  rcases hh with ⟨v, hk, h1, h2, h3⟩ | ⟨i, e, v, he, hk, h1, h2, h3⟩
  · have hv : v = none := hk
    subst hv
    have e1 := hL_start (p := wp Lx xs u N J P F A L) (nx := nx) wp_3 h1
    obtain ⟨hf, b1, b2⟩ := cont u N' J' P' F' A' L' nx c0 w0 (some (.int (nI 0))) c6 c7 hr' (by omega) (by omega)
    refine ⟨hf, b1, ?_⟩
    simp (disch := first | omega | decide) only [eL_law_324, eL_law_324n, eL_law_324t, eL_law_324s, eL_law_324c, eL_law_325, eL_law_328, eL_law_330, eL_law_330n, eL_law_330t, eL_law_330s, eL_law_330c, eL_law_331, eL_law_334, eL_law_334n, eL_law_334t, eL_law_334s, eL_law_334c, eL_law_335, eL_law_338, eL_law_340, eL_law_343, eL_law_344, eL_law_345, ↓reduceIte, Evk_some, Evh_some, Evn_some, Evr_v, Evr_n, mk_i, mk_r, mk_0, mk_n, mk_l, mc0, mc1, mc2, mc3, mc4, mi_obj, Bool.and_self, Bool.true_and, Nat.add_zero, Nat.zero_add, nI_add, pk_mul, pk_sub, Nat.add_sub_cancel, eq_self, if_true, if_false, n10, bI_t, bI_f, bI_0, Nat.reduceAdd, Nat.reduceMul, Nat.reduceSub, nI_eq, nI_ltI, nI_leI, Nat.reduceEqDiff, Nat.reduceLT, Nat.reduceDiv, Nat.reduceMod, Nat.reduceLeDiff, wp_3, wp_149, wp_thr, wp_out, e1, h2, h3]
    exact b2
  · obtain ⟨rfl, rfl⟩ := one_i he rfl
    have hv : v = none := hk
    subst hv
    have e1 := hL_start_1 (p := wp Lx xs u N J P F A L) (nx := nx) wp_3 h1
    obtain ⟨hf, b1, b2⟩ := cont u N' J' P' F' A' L' none (c0 + 1) (w0 + 6) (some (.int (nI 1))) c6 c7 hr' (by omega) (by omega)
    refine ⟨hf, b1, ?_⟩
    simp (disch := first | omega | decide) only [eL_law_324, eL_law_324n, eL_law_324t, eL_law_324s, eL_law_324c, eL_law_325, eL_law_328, eL_law_330, eL_law_330n, eL_law_330t, eL_law_330s, eL_law_330c, eL_law_331, eL_law_334, eL_law_334n, eL_law_334t, eL_law_334s, eL_law_334c, eL_law_335, eL_law_338, eL_law_340, eL_law_343, eL_law_344, eL_law_345, ↓reduceIte, Evk_some, Evh_some, Evn_some, Evr_v, Evr_n, mk_i, mk_r, mk_0, mk_n, mk_l, mc0, mc1, mc2, mc3, mc4, mi_obj, Bool.and_self, Bool.true_and, Nat.add_zero, Nat.zero_add, nI_add, pk_mul, pk_sub, Nat.add_sub_cancel, eq_self, if_true, if_false, n10, bI_t, bI_f, bI_0, Nat.reduceAdd, Nat.reduceMul, Nat.reduceSub, nI_eq, nI_ltI, nI_leI, Nat.reduceEqDiff, Nat.reduceLT, Nat.reduceDiv, Nat.reduceMod, Nat.reduceLeDiff, wp_3, wp_149, wp_thr, wp_out, e1, h2, h3]
    exact b2
set_option maxHeartbeats 8000000 in
theorem lw_c_fault {t c0 w0 : Nat} {Bd : mn_S → Prop} {c5 c6 c7 : Option Value} (hr : Rel N J P F A L) (hL : Lx ≤ 2048) (ht : 4 * t + 4 ≤ Lx) (cont : ∀ (u : Nat → Int64) (N : cN) (J : cJ) (P : cP) (F : Nat → Int32) (A : Nat → Nat → Int32) (L : Nat → Nat → Int64) (nx : Option Nat) (c w : Nat) (c5 c6 c7 : Option Value), Rel N J P F A L → c ≤ c0 + 1 → w ≤ w0 + 6 → ∃ hf : mn_S, Bd hf ∧ Ev 147 736 [some (.ref 0), some (.ref 3), some (.ref 149), some (.ref 176), some (.int (nI (4 * t))), c5, c6, c7] [] (wp Lx xs u N J P F A L, nx, c, w) (hf, .inl (some (.int 1)))) : ∃ hf : mn_S, Bd hf ∧ Ev 147 348 [some (.ref 0), some (.ref 3), some (.ref 149), some (.ref 176), some (.int (nI (4 * t))), c5, c6, c7] [] (wp Lx xs u N J P F A L, nx, c0, w0) (hf, .inl (some (.int 1))) := by
  obtain ⟨N', J', P', F', A', L', hr', hh⟩ := Ans.two (b := bo Lx xs u) (nx := nx) (fun _ => bo Lx xs u) (fun b2 nx2 => call_fault (b1 := mpic (bo Lx xs u) F A L) (nx1 := nx) (b2 := b2) (nx2 := nx2) wp_bS hr)
  rcases hh with ⟨v, hk, h1, h2, h3⟩ | ⟨i, e, v, he, hk, h1, h2, h3⟩
  · obtain ⟨x, rfl⟩ := hk
    obtain ⟨hf, b1, b2⟩ := cont u N' J' P' F' A' L' nx c0 w0 c5 c6 c7 hr' (by omega) (by omega)
    refine ⟨hf, b1, ?_⟩
    simp (disch := first | omega | decide) only [eL_law_348, eL_law_348n, eL_law_348t, eL_law_348s, eL_law_348c, eL_law_349, eL_law_352, eL_law_352n, eL_law_352t, eL_law_352s, eL_law_352c, eL_law_353, eL_law_356, ↓reduceIte, Evk_some, Evh_some, Evn_some, Evr_v, Evr_n, mk_i, mk_r, mk_0, mk_n, mk_l, mc0, mc1, mc2, mc3, mc4, mi_obj, Bool.and_self, Bool.true_and, Nat.add_zero, Nat.zero_add, nI_add, pk_mul, pk_sub, Nat.add_sub_cancel, eq_self, if_true, if_false, n10, bI_t, bI_f, bI_0, Nat.reduceAdd, Nat.reduceMul, Nat.reduceSub, nI_eq, nI_ltI, nI_leI, Nat.reduceEqDiff, Nat.reduceLT, Nat.reduceDiv, Nat.reduceMod, Nat.reduceLeDiff, wp_3, wp_149, wp_thr, wp_out, h1, h2]
    exact b2
  · cases he
set_option maxHeartbeats 8000000 in
theorem lw_c_reset {t c0 w0 : Nat} {Bd : mn_S → Prop} {c5 c6 c7 : Option Value} (hr : Rel N J P F A L) (hL : Lx ≤ 2048) (ht : 4 * t + 4 ≤ Lx) (cont : ∀ (u : Nat → Int64) (N : cN) (J : cJ) (P : cP) (F : Nat → Int32) (A : Nat → Nat → Int32) (L : Nat → Nat → Int64) (nx : Option Nat) (c w : Nat) (c5 c6 c7 : Option Value), Rel N J P F A L → c ≤ c0 + 1 → w ≤ w0 + 6 → ∃ hf : mn_S, Bd hf ∧ Ev 147 736 [some (.ref 0), some (.ref 3), some (.ref 149), some (.ref 176), some (.int (nI (4 * t))), c5, c6, c7] [] (wp Lx xs u N J P F A L, nx, c, w) (hf, .inl (some (.int 1)))) : ∃ hf : mn_S, Bd hf ∧ Ev 147 361 [some (.ref 0), some (.ref 3), some (.ref 149), some (.ref 176), some (.int (nI (4 * t))), c5, c6, c7] [] (wp Lx xs u N J P F A L, nx, c0, w0) (hf, .inl (some (.int 1))) := by
  obtain ⟨N', J', P', F', A', L', hr', hh⟩ := Ans.two (b := bo Lx xs u) (nx := nx) (fun _ => bo Lx xs u) (fun b2 nx2 => call_reset (b1 := mpic (bo Lx xs u) F A L) (nx1 := nx) (b2 := b2) (nx2 := nx2) hr)
  rcases hh with ⟨v, hk, h1, h2, h3⟩ | ⟨i, e, v, he, hk, h1, h2, h3⟩
  · have hv : v = none := hk
    subst hv
    obtain ⟨hf, b1, b2⟩ := cont u N' J' P' F' A' L' nx c0 w0 c5 c6 c7 hr' (by omega) (by omega)
    refine ⟨hf, b1, ?_⟩
    simp (disch := first | omega | decide) only [eL_law_361, eL_law_361n, eL_law_361t, eL_law_361s, eL_law_361c, eL_law_362, eL_law_365, eL_law_365n, eL_law_365t, eL_law_365s, eL_law_365c, eL_law_366, eL_law_369, ↓reduceIte, Evk_some, Evh_some, Evn_some, Evr_v, Evr_n, mk_i, mk_r, mk_0, mk_n, mk_l, mc0, mc1, mc2, mc3, mc4, mi_obj, Bool.and_self, Bool.true_and, Nat.add_zero, Nat.zero_add, nI_add, pk_mul, pk_sub, Nat.add_sub_cancel, eq_self, if_true, if_false, n10, bI_t, bI_f, bI_0, Nat.reduceAdd, Nat.reduceMul, Nat.reduceSub, nI_eq, nI_ltI, nI_leI, Nat.reduceEqDiff, Nat.reduceLT, Nat.reduceDiv, Nat.reduceMod, Nat.reduceLeDiff, wp_3, wp_149, wp_thr, wp_out, h1, h2]
    exact b2
  · cases he
set_option maxHeartbeats 8000000 in
theorem lw_c_step {t c0 w0 : Nat} {Bd : mn_S → Prop} {c5 c6 c7 : Option Value} (hr : Rel N J P F A L) (hL : Lx ≤ 2048) (ht : 4 * t + 4 ≤ Lx) (cont : ∀ (u : Nat → Int64) (N : cN) (J : cJ) (P : cP) (F : Nat → Int32) (A : Nat → Nat → Int32) (L : Nat → Nat → Int64) (nx : Option Nat) (c w : Nat) (c5 c6 c7 : Option Value), Rel N J P F A L → c ≤ c0 + 1 → w ≤ w0 + 6 → ∃ hf : mn_S, Bd hf ∧ Ev 147 736 [some (.ref 0), some (.ref 3), some (.ref 149), some (.ref 176), some (.int (nI (4 * t))), c5, c6, c7] [] (wp Lx xs u N J P F A L, nx, c, w) (hf, .inl (some (.int 1)))) : ∃ hf : mn_S, Bd hf ∧ Ev 147 372 [some (.ref 0), some (.ref 3), some (.ref 149), some (.ref 176), some (.int (nI (4 * t))), c5, c6, c7] [] (wp Lx xs u N J P F A L, nx, c0, w0) (hf, .inl (some (.int 1))) := by
  obtain ⟨N', J', P', F', A', L', hr', hh⟩ := Ans.two (b := bo Lx xs u) (nx := nx) (fun v => bo Lx xs (ov u v)) (fun b2 nx2 => call_step (x := xs (4 * t + 1)) (y := xs (4 * t + 2)) (b1 := mpic (bo Lx xs u) F A L) (nx1 := nx) (b2 := b2) (nx2 := nx2) hr)
  have r1 := fun (N : cN) (J : cJ) (P : cP) (F : Nat → Int32) (A : Nat → Nat → Int32) (L : Nat → Nat → Int64) (u : Nat → Int64) (q : Option Nat × Nat × Nat) => wp_rd (xs := xs) (u := u) (N := N) (J := J) (P := P) (F := F) (A := A) (L := L) (q := q) (show 4 * t + 1 < Lx by omega) hL
  have r2 := fun (N : cN) (J : cJ) (P : cP) (F : Nat → Int32) (A : Nat → Nat → Int32) (L : Nat → Nat → Int64) (u : Nat → Int64) (q : Option Nat × Nat × Nat) => wp_rd (xs := xs) (u := u) (N := N) (J := J) (P := P) (F := F) (A := A) (L := L) (q := q) (show 4 * t + 2 < Lx by omega) hL
  rcases hh with ⟨v, hk, h1, h2, h3⟩ | ⟨i, e, v, he, hk, h1, h2, h3⟩
  · obtain ⟨x, rfl⟩ := hk
    have e1 := hL_step (p := wp Lx xs u N J P F A L) (nx := nx) wp_3 o_at h1
    rw [hO_i] at e1
    obtain ⟨hf, b1, b2⟩ := cont (ov u (some (.int x))) N' J' P' F' A' L' nx c0 w0 (some (.int (nI 0))) (some (.int x)) (c7) hr' (by omega) (by omega)
    refine ⟨hf, b1, ?_⟩
    simp (disch := first | omega | decide) only [eL_law_372, eL_law_372n, eL_law_372t, eL_law_372s, eL_law_372c, eL_law_373, eL_law_373n, eL_law_373t, eL_law_373s, eL_law_373c, eL_law_374, eL_law_376, eL_law_377, eL_law_378, eL_law_379, eL_law_379n, eL_law_379t, eL_law_379s, eL_law_379c, eL_law_380, eL_law_382, eL_law_383, eL_law_384, eL_law_385, eL_law_385n, eL_law_385t, eL_law_385s, eL_law_385c, eL_law_386, eL_law_389, eL_law_391, eL_law_391n, eL_law_391t, eL_law_391s, eL_law_391c, eL_law_392, eL_law_392n, eL_law_392t, eL_law_392s, eL_law_392c, eL_law_393, eL_law_395, eL_law_396, eL_law_397, eL_law_398, eL_law_398n, eL_law_398t, eL_law_398s, eL_law_398c, eL_law_399, eL_law_401, eL_law_402, eL_law_403, eL_law_404, eL_law_407, eL_law_409, eL_law_409n, eL_law_409t, eL_law_409s, eL_law_409c, eL_law_410, eL_law_413, eL_law_415, eL_law_418, eL_law_419, eL_law_420, eL_law_422, eL_law_425, eL_law_425n, eL_law_425t, eL_law_425s, eL_law_425c, eL_law_426, eL_law_427, eL_law_428, eL_law_430, eL_law_431, eL_law_432, eL_law_435, eL_law_436, eL_law_437, ↓reduceIte, Evk_some, Evh_some, Evn_some, Evr_v, Evr_n, mk_i, mk_r, mk_0, mk_n, mk_l, mc0, mc1, mc2, mc3, mc4, mi_obj, Bool.and_self, Bool.true_and, Nat.add_zero, Nat.zero_add, nI_add, pk_mul, pk_sub, Nat.add_sub_cancel, eq_self, if_true, if_false, n10, bI_t, bI_f, bI_0, Nat.reduceAdd, Nat.reduceMul, Nat.reduceSub, nI_eq, nI_ltI, nI_leI, Nat.reduceEqDiff, Nat.reduceLT, Nat.reduceDiv, Nat.reduceMod, Nat.reduceLeDiff, wp_3, wp_149, wp_thr, wp_out, r1, r2, e1, h2, h3, ov_i, lc_eq]
    exact b2
  · rcases two_i he rfl with ⟨rfl, rfl⟩ | ⟨rfl, rfl⟩
    · obtain ⟨x, rfl⟩ := hk
      have e1 := hL_step_0 (p := wp Lx xs u N J P F A L) (nx := nx) wp_3 h1
      obtain ⟨hf, b1, b2⟩ := cont u N' J' P' F' A' L' none (c0 + 1) (w0 + 6) (some (.int (nI 1))) (some (.int x)) c7 hr' (by omega) (by omega)
      refine ⟨hf, b1, ?_⟩
      simp (disch := first | omega | decide) only [eL_law_372, eL_law_372n, eL_law_372t, eL_law_372s, eL_law_372c, eL_law_373, eL_law_373n, eL_law_373t, eL_law_373s, eL_law_373c, eL_law_374, eL_law_376, eL_law_377, eL_law_378, eL_law_379, eL_law_379n, eL_law_379t, eL_law_379s, eL_law_379c, eL_law_380, eL_law_382, eL_law_383, eL_law_384, eL_law_385, eL_law_385n, eL_law_385t, eL_law_385s, eL_law_385c, eL_law_386, eL_law_389, eL_law_391, eL_law_391n, eL_law_391t, eL_law_391s, eL_law_391c, eL_law_392, eL_law_392n, eL_law_392t, eL_law_392s, eL_law_392c, eL_law_393, eL_law_395, eL_law_396, eL_law_397, eL_law_398, eL_law_398n, eL_law_398t, eL_law_398s, eL_law_398c, eL_law_399, eL_law_401, eL_law_402, eL_law_403, eL_law_404, eL_law_407, eL_law_409, eL_law_409n, eL_law_409t, eL_law_409s, eL_law_409c, eL_law_410, eL_law_413, eL_law_415, eL_law_418, eL_law_419, eL_law_420, eL_law_422, eL_law_425, eL_law_425n, eL_law_425t, eL_law_425s, eL_law_425c, eL_law_426, eL_law_427, eL_law_428, eL_law_430, eL_law_431, eL_law_432, eL_law_435, eL_law_436, eL_law_437, ↓reduceIte, Evk_some, Evh_some, Evn_some, Evr_v, Evr_n, mk_i, mk_r, mk_0, mk_n, mk_l, mc0, mc1, mc2, mc3, mc4, mi_obj, Bool.and_self, Bool.true_and, Nat.add_zero, Nat.zero_add, nI_add, pk_mul, pk_sub, Nat.add_sub_cancel, eq_self, if_true, if_false, n10, bI_t, bI_f, bI_0, Nat.reduceAdd, Nat.reduceMul, Nat.reduceSub, nI_eq, nI_ltI, nI_leI, Nat.reduceEqDiff, Nat.reduceLT, Nat.reduceDiv, Nat.reduceMod, Nat.reduceLeDiff, wp_3, wp_149, wp_thr, wp_out, r1, r2, e1, h2, h3]
      exact b2
    · obtain ⟨x, rfl⟩ := hk
      have e1 := hL_step_1 (p := wp Lx xs u N J P F A L) (nx := nx) wp_3 h1
      obtain ⟨hf, b1, b2⟩ := cont u N' J' P' F' A' L' none (c0 + 1) (w0 + 6) (some (.int (nI 2))) (some (.int x)) c7 hr' (by omega) (by omega)
      refine ⟨hf, b1, ?_⟩
      simp (disch := first | omega | decide) only [eL_law_372, eL_law_372n, eL_law_372t, eL_law_372s, eL_law_372c, eL_law_373, eL_law_373n, eL_law_373t, eL_law_373s, eL_law_373c, eL_law_374, eL_law_376, eL_law_377, eL_law_378, eL_law_379, eL_law_379n, eL_law_379t, eL_law_379s, eL_law_379c, eL_law_380, eL_law_382, eL_law_383, eL_law_384, eL_law_385, eL_law_385n, eL_law_385t, eL_law_385s, eL_law_385c, eL_law_386, eL_law_389, eL_law_391, eL_law_391n, eL_law_391t, eL_law_391s, eL_law_391c, eL_law_392, eL_law_392n, eL_law_392t, eL_law_392s, eL_law_392c, eL_law_393, eL_law_395, eL_law_396, eL_law_397, eL_law_398, eL_law_398n, eL_law_398t, eL_law_398s, eL_law_398c, eL_law_399, eL_law_401, eL_law_402, eL_law_403, eL_law_404, eL_law_407, eL_law_409, eL_law_409n, eL_law_409t, eL_law_409s, eL_law_409c, eL_law_410, eL_law_413, eL_law_415, eL_law_418, eL_law_419, eL_law_420, eL_law_422, eL_law_425, eL_law_425n, eL_law_425t, eL_law_425s, eL_law_425c, eL_law_426, eL_law_427, eL_law_428, eL_law_430, eL_law_431, eL_law_432, eL_law_435, eL_law_436, eL_law_437, ↓reduceIte, Evk_some, Evh_some, Evn_some, Evr_v, Evr_n, mk_i, mk_r, mk_0, mk_n, mk_l, mc0, mc1, mc2, mc3, mc4, mi_obj, Bool.and_self, Bool.true_and, Nat.add_zero, Nat.zero_add, nI_add, pk_mul, pk_sub, Nat.add_sub_cancel, eq_self, if_true, if_false, n10, bI_t, bI_f, bI_0, Nat.reduceAdd, Nat.reduceMul, Nat.reduceSub, nI_eq, nI_ltI, nI_leI, Nat.reduceEqDiff, Nat.reduceLT, Nat.reduceDiv, Nat.reduceMod, Nat.reduceLeDiff, wp_3, wp_149, wp_thr, wp_out, r1, r2, e1, h2, h3]
      exact b2
set_option maxHeartbeats 8000000 in
theorem lw_c_run {t c0 w0 : Nat} {Bd : mn_S → Prop} {c5 c6 c7 : Option Value} (hr : Rel N J P F A L) (hL : Lx ≤ 2048) (ht : 4 * t + 4 ≤ Lx) (cont : ∀ (u : Nat → Int64) (N : cN) (J : cJ) (P : cP) (F : Nat → Int32) (A : Nat → Nat → Int32) (L : Nat → Nat → Int64) (nx : Option Nat) (c w : Nat) (c5 c6 c7 : Option Value), Rel N J P F A L → c ≤ c0 + 1 → w ≤ w0 + 6 → ∃ hf : mn_S, Bd hf ∧ Ev 147 736 [some (.ref 0), some (.ref 3), some (.ref 149), some (.ref 176), some (.int (nI (4 * t))), c5, c6, c7] [] (wp Lx xs u N J P F A L, nx, c, w) (hf, .inl (some (.int 1)))) : ∃ hf : mn_S, Bd hf ∧ Ev 147 440 [some (.ref 0), some (.ref 3), some (.ref 149), some (.ref 176), some (.int (nI (4 * t))), c5, c6, c7] [] (wp Lx xs u N J P F A L, nx, c0, w0) (hf, .inl (some (.int 1))) := by
  obtain ⟨N', J', P', F', A', L', hr', hh⟩ := Ans.two (b := bo Lx xs u) (nx := nx) (fun v => bo Lx xs (ov u v)) (fun b2 nx2 => call_run (x := xs (4 * t + 1)) (b1 := mpic (bo Lx xs u) F A L) (nx1 := nx) (b2 := b2) (nx2 := nx2) hr)
  have r1 := fun (N : cN) (J : cJ) (P : cP) (F : Nat → Int32) (A : Nat → Nat → Int32) (L : Nat → Nat → Int64) (u : Nat → Int64) (q : Option Nat × Nat × Nat) => wp_rd (xs := xs) (u := u) (N := N) (J := J) (P := P) (F := F) (A := A) (L := L) (q := q) (show 4 * t + 1 < Lx by omega) hL
  rcases hh with ⟨v, hk, h1, h2, h3⟩ | ⟨i, e, v, he, hk, h1, h2, h3⟩
  · obtain ⟨x, rfl⟩ := hk
    have e1 := hL_run (p := wp Lx xs u N J P F A L) (nx := nx) wp_3 o_at h1
    rw [hO_i] at e1
    obtain ⟨hf, b1, b2⟩ := cont (ov u (some (.int x))) N' J' P' F' A' L' nx c0 w0 (some (.int (nI 0))) (some (.int x)) (c7) hr' (by omega) (by omega)
    refine ⟨hf, b1, ?_⟩
    simp (disch := first | omega | decide) only [eL_law_440, eL_law_440n, eL_law_440t, eL_law_440s, eL_law_440c, eL_law_441, eL_law_441n, eL_law_441t, eL_law_441s, eL_law_441c, eL_law_442, eL_law_444, eL_law_445, eL_law_446, eL_law_447, eL_law_447n, eL_law_447t, eL_law_447s, eL_law_447c, eL_law_448, eL_law_451, eL_law_453, eL_law_453n, eL_law_453t, eL_law_453s, eL_law_453c, eL_law_454, eL_law_454n, eL_law_454t, eL_law_454s, eL_law_454c, eL_law_455, eL_law_457, eL_law_458, eL_law_459, eL_law_460, eL_law_463, eL_law_465, eL_law_465n, eL_law_465t, eL_law_465s, eL_law_465c, eL_law_466, eL_law_469, eL_law_471, eL_law_474, eL_law_475, eL_law_476, eL_law_478, eL_law_481, eL_law_481n, eL_law_481t, eL_law_481s, eL_law_481c, eL_law_482, eL_law_483, eL_law_484, eL_law_486, eL_law_487, eL_law_488, eL_law_491, eL_law_492, eL_law_493, ↓reduceIte, Evk_some, Evh_some, Evn_some, Evr_v, Evr_n, mk_i, mk_r, mk_0, mk_n, mk_l, mc0, mc1, mc2, mc3, mc4, mi_obj, Bool.and_self, Bool.true_and, Nat.add_zero, Nat.zero_add, nI_add, pk_mul, pk_sub, Nat.add_sub_cancel, eq_self, if_true, if_false, n10, bI_t, bI_f, bI_0, Nat.reduceAdd, Nat.reduceMul, Nat.reduceSub, nI_eq, nI_ltI, nI_leI, Nat.reduceEqDiff, Nat.reduceLT, Nat.reduceDiv, Nat.reduceMod, Nat.reduceLeDiff, wp_3, wp_149, wp_thr, wp_out, r1, e1, h2, h3, ov_i, lc_eq]
    exact b2
  · obtain ⟨rfl, rfl⟩ := one_i he rfl
    obtain ⟨x, rfl⟩ := hk
    have e1 := hL_run_0 (p := wp Lx xs u N J P F A L) (nx := nx) wp_3 h1
    obtain ⟨hf, b1, b2⟩ := cont u N' J' P' F' A' L' none (c0 + 1) (w0 + 6) (some (.int (nI 1))) (some (.int x)) c7 hr' (by omega) (by omega)
    refine ⟨hf, b1, ?_⟩
    simp (disch := first | omega | decide) only [eL_law_440, eL_law_440n, eL_law_440t, eL_law_440s, eL_law_440c, eL_law_441, eL_law_441n, eL_law_441t, eL_law_441s, eL_law_441c, eL_law_442, eL_law_444, eL_law_445, eL_law_446, eL_law_447, eL_law_447n, eL_law_447t, eL_law_447s, eL_law_447c, eL_law_448, eL_law_451, eL_law_453, eL_law_453n, eL_law_453t, eL_law_453s, eL_law_453c, eL_law_454, eL_law_454n, eL_law_454t, eL_law_454s, eL_law_454c, eL_law_455, eL_law_457, eL_law_458, eL_law_459, eL_law_460, eL_law_463, eL_law_465, eL_law_465n, eL_law_465t, eL_law_465s, eL_law_465c, eL_law_466, eL_law_469, eL_law_471, eL_law_474, eL_law_475, eL_law_476, eL_law_478, eL_law_481, eL_law_481n, eL_law_481t, eL_law_481s, eL_law_481c, eL_law_482, eL_law_483, eL_law_484, eL_law_486, eL_law_487, eL_law_488, eL_law_491, eL_law_492, eL_law_493, ↓reduceIte, Evk_some, Evh_some, Evn_some, Evr_v, Evr_n, mk_i, mk_r, mk_0, mk_n, mk_l, mc0, mc1, mc2, mc3, mc4, mi_obj, Bool.and_self, Bool.true_and, Nat.add_zero, Nat.zero_add, nI_add, pk_mul, pk_sub, Nat.add_sub_cancel, eq_self, if_true, if_false, n10, bI_t, bI_f, bI_0, Nat.reduceAdd, Nat.reduceMul, Nat.reduceSub, nI_eq, nI_ltI, nI_leI, Nat.reduceEqDiff, Nat.reduceLT, Nat.reduceDiv, Nat.reduceMod, Nat.reduceLeDiff, wp_3, wp_149, wp_thr, wp_out, r1, e1, h2, h3]
    exact b2
set_option maxHeartbeats 8000000 in
theorem lw_c_task {t c0 w0 : Nat} {Bd : mn_S → Prop} {c5 c6 c7 : Option Value} (hr : Rel N J P F A L) (hL : Lx ≤ 2048) (ht : 4 * t + 4 ≤ Lx) (cont : ∀ (u : Nat → Int64) (N : cN) (J : cJ) (P : cP) (F : Nat → Int32) (A : Nat → Nat → Int32) (L : Nat → Nat → Int64) (nx : Option Nat) (c w : Nat) (c5 c6 c7 : Option Value), Rel N J P F A L → c ≤ c0 + 1 → w ≤ w0 + 6 → ∃ hf : mn_S, Bd hf ∧ Ev 147 736 [some (.ref 0), some (.ref 3), some (.ref 149), some (.ref 176), some (.int (nI (4 * t))), c5, c6, c7] [] (wp Lx xs u N J P F A L, nx, c, w) (hf, .inl (some (.int 1)))) : ∃ hf : mn_S, Bd hf ∧ Ev 147 496 [some (.ref 0), some (.ref 3), some (.ref 149), some (.ref 176), some (.int (nI (4 * t))), c5, c6, c7] [] (wp Lx xs u N J P F A L, nx, c0, w0) (hf, .inl (some (.int 1))) := by
  obtain ⟨N', J', P', F', A', L', hr', hh⟩ := Ans.two (b := bo Lx xs u) (nx := nx) (fun v => bo Lx xs (ov u v)) (fun b2 nx2 => call_task (x := xs (4 * t + 1)) (y := xs (4 * t + 2)) (b1 := mpic (bo Lx xs u) F A L) (nx1 := nx) (b2 := b2) (nx2 := nx2) hr)
  have r1 := fun (N : cN) (J : cJ) (P : cP) (F : Nat → Int32) (A : Nat → Nat → Int32) (L : Nat → Nat → Int64) (u : Nat → Int64) (q : Option Nat × Nat × Nat) => wp_rd (xs := xs) (u := u) (N := N) (J := J) (P := P) (F := F) (A := A) (L := L) (q := q) (show 4 * t + 1 < Lx by omega) hL
  have r2 := fun (N : cN) (J : cJ) (P : cP) (F : Nat → Int32) (A : Nat → Nat → Int32) (L : Nat → Nat → Int64) (u : Nat → Int64) (q : Option Nat × Nat × Nat) => wp_rd (xs := xs) (u := u) (N := N) (J := J) (P := P) (F := F) (A := A) (L := L) (q := q) (show 4 * t + 2 < Lx by omega) hL
  rcases hh with ⟨v, hk, h1, h2, h3⟩ | ⟨i, e, v, he, hk, h1, h2, h3⟩
  · obtain ⟨x, rfl⟩ := hk
    have e1 := hL_task (p := wp Lx xs u N J P F A L) (nx := nx) wp_3 o_at h1
    rw [hO_i] at e1
    obtain ⟨hf, b1, b2⟩ := cont (ov u (some (.int x))) N' J' P' F' A' L' nx c0 w0 (some (.int (nI 0))) (some (.int x)) (c7) hr' (by omega) (by omega)
    refine ⟨hf, b1, ?_⟩
    simp (disch := first | omega | decide) only [eL_law_496, eL_law_496n, eL_law_496t, eL_law_496s, eL_law_496c, eL_law_497, eL_law_497n, eL_law_497t, eL_law_497s, eL_law_497c, eL_law_498, eL_law_500, eL_law_501, eL_law_502, eL_law_503, eL_law_503n, eL_law_503t, eL_law_503s, eL_law_503c, eL_law_504, eL_law_506, eL_law_507, eL_law_508, eL_law_509, eL_law_509n, eL_law_509t, eL_law_509s, eL_law_509c, eL_law_510, eL_law_513, eL_law_515, eL_law_515n, eL_law_515t, eL_law_515s, eL_law_515c, eL_law_516, eL_law_516n, eL_law_516t, eL_law_516s, eL_law_516c, eL_law_517, eL_law_519, eL_law_520, eL_law_521, eL_law_522, eL_law_522n, eL_law_522t, eL_law_522s, eL_law_522c, eL_law_523, eL_law_525, eL_law_526, eL_law_527, eL_law_528, eL_law_531, eL_law_533, eL_law_533n, eL_law_533t, eL_law_533s, eL_law_533c, eL_law_534, eL_law_537, eL_law_539, eL_law_542, eL_law_543, eL_law_544, eL_law_546, eL_law_549, eL_law_549n, eL_law_549t, eL_law_549s, eL_law_549c, eL_law_550, eL_law_551, eL_law_552, eL_law_554, eL_law_555, eL_law_556, eL_law_559, eL_law_560, eL_law_561, ↓reduceIte, Evk_some, Evh_some, Evn_some, Evr_v, Evr_n, mk_i, mk_r, mk_0, mk_n, mk_l, mc0, mc1, mc2, mc3, mc4, mi_obj, Bool.and_self, Bool.true_and, Nat.add_zero, Nat.zero_add, nI_add, pk_mul, pk_sub, Nat.add_sub_cancel, eq_self, if_true, if_false, n10, bI_t, bI_f, bI_0, Nat.reduceAdd, Nat.reduceMul, Nat.reduceSub, nI_eq, nI_ltI, nI_leI, Nat.reduceEqDiff, Nat.reduceLT, Nat.reduceDiv, Nat.reduceMod, Nat.reduceLeDiff, wp_3, wp_149, wp_thr, wp_out, r1, r2, e1, h2, h3, ov_i, lc_eq]
    exact b2
  · rcases two_i he rfl with ⟨rfl, rfl⟩ | ⟨rfl, rfl⟩
    · obtain ⟨x, rfl⟩ := hk
      have e1 := hL_task_2 (p := wp Lx xs u N J P F A L) (nx := nx) wp_3 h1
      obtain ⟨hf, b1, b2⟩ := cont u N' J' P' F' A' L' none (c0 + 1) (w0 + 6) (some (.int (nI 1))) (some (.int x)) c7 hr' (by omega) (by omega)
      refine ⟨hf, b1, ?_⟩
      simp (disch := first | omega | decide) only [eL_law_496, eL_law_496n, eL_law_496t, eL_law_496s, eL_law_496c, eL_law_497, eL_law_497n, eL_law_497t, eL_law_497s, eL_law_497c, eL_law_498, eL_law_500, eL_law_501, eL_law_502, eL_law_503, eL_law_503n, eL_law_503t, eL_law_503s, eL_law_503c, eL_law_504, eL_law_506, eL_law_507, eL_law_508, eL_law_509, eL_law_509n, eL_law_509t, eL_law_509s, eL_law_509c, eL_law_510, eL_law_513, eL_law_515, eL_law_515n, eL_law_515t, eL_law_515s, eL_law_515c, eL_law_516, eL_law_516n, eL_law_516t, eL_law_516s, eL_law_516c, eL_law_517, eL_law_519, eL_law_520, eL_law_521, eL_law_522, eL_law_522n, eL_law_522t, eL_law_522s, eL_law_522c, eL_law_523, eL_law_525, eL_law_526, eL_law_527, eL_law_528, eL_law_531, eL_law_533, eL_law_533n, eL_law_533t, eL_law_533s, eL_law_533c, eL_law_534, eL_law_537, eL_law_539, eL_law_542, eL_law_543, eL_law_544, eL_law_546, eL_law_549, eL_law_549n, eL_law_549t, eL_law_549s, eL_law_549c, eL_law_550, eL_law_551, eL_law_552, eL_law_554, eL_law_555, eL_law_556, eL_law_559, eL_law_560, eL_law_561, ↓reduceIte, Evk_some, Evh_some, Evn_some, Evr_v, Evr_n, mk_i, mk_r, mk_0, mk_n, mk_l, mc0, mc1, mc2, mc3, mc4, mi_obj, Bool.and_self, Bool.true_and, Nat.add_zero, Nat.zero_add, nI_add, pk_mul, pk_sub, Nat.add_sub_cancel, eq_self, if_true, if_false, n10, bI_t, bI_f, bI_0, Nat.reduceAdd, Nat.reduceMul, Nat.reduceSub, nI_eq, nI_ltI, nI_leI, Nat.reduceEqDiff, Nat.reduceLT, Nat.reduceDiv, Nat.reduceMod, Nat.reduceLeDiff, wp_3, wp_149, wp_thr, wp_out, r1, r2, e1, h2, h3]
      exact b2
    · obtain ⟨x, rfl⟩ := hk
      have e1 := hL_task_1 (p := wp Lx xs u N J P F A L) (nx := nx) wp_3 h1
      obtain ⟨hf, b1, b2⟩ := cont u N' J' P' F' A' L' none (c0 + 1) (w0 + 6) (some (.int (nI 2))) (some (.int x)) c7 hr' (by omega) (by omega)
      refine ⟨hf, b1, ?_⟩
      simp (disch := first | omega | decide) only [eL_law_496, eL_law_496n, eL_law_496t, eL_law_496s, eL_law_496c, eL_law_497, eL_law_497n, eL_law_497t, eL_law_497s, eL_law_497c, eL_law_498, eL_law_500, eL_law_501, eL_law_502, eL_law_503, eL_law_503n, eL_law_503t, eL_law_503s, eL_law_503c, eL_law_504, eL_law_506, eL_law_507, eL_law_508, eL_law_509, eL_law_509n, eL_law_509t, eL_law_509s, eL_law_509c, eL_law_510, eL_law_513, eL_law_515, eL_law_515n, eL_law_515t, eL_law_515s, eL_law_515c, eL_law_516, eL_law_516n, eL_law_516t, eL_law_516s, eL_law_516c, eL_law_517, eL_law_519, eL_law_520, eL_law_521, eL_law_522, eL_law_522n, eL_law_522t, eL_law_522s, eL_law_522c, eL_law_523, eL_law_525, eL_law_526, eL_law_527, eL_law_528, eL_law_531, eL_law_533, eL_law_533n, eL_law_533t, eL_law_533s, eL_law_533c, eL_law_534, eL_law_537, eL_law_539, eL_law_542, eL_law_543, eL_law_544, eL_law_546, eL_law_549, eL_law_549n, eL_law_549t, eL_law_549s, eL_law_549c, eL_law_550, eL_law_551, eL_law_552, eL_law_554, eL_law_555, eL_law_556, eL_law_559, eL_law_560, eL_law_561, ↓reduceIte, Evk_some, Evh_some, Evn_some, Evr_v, Evr_n, mk_i, mk_r, mk_0, mk_n, mk_l, mc0, mc1, mc2, mc3, mc4, mi_obj, Bool.and_self, Bool.true_and, Nat.add_zero, Nat.zero_add, nI_add, pk_mul, pk_sub, Nat.add_sub_cancel, eq_self, if_true, if_false, n10, bI_t, bI_f, bI_0, Nat.reduceAdd, Nat.reduceMul, Nat.reduceSub, nI_eq, nI_ltI, nI_leI, Nat.reduceEqDiff, Nat.reduceLT, Nat.reduceDiv, Nat.reduceMod, Nat.reduceLeDiff, wp_3, wp_149, wp_thr, wp_out, r1, r2, e1, h2, h3]
      exact b2
set_option maxHeartbeats 8000000 in
theorem lw_c_tasks {t c0 w0 : Nat} {Bd : mn_S → Prop} {c5 c6 c7 : Option Value} (hr : Rel N J P F A L) (hL : Lx ≤ 2048) (ht : 4 * t + 4 ≤ Lx) (cont : ∀ (u : Nat → Int64) (N : cN) (J : cJ) (P : cP) (F : Nat → Int32) (A : Nat → Nat → Int32) (L : Nat → Nat → Int64) (nx : Option Nat) (c w : Nat) (c5 c6 c7 : Option Value), Rel N J P F A L → c ≤ c0 + 1 → w ≤ w0 + 6 → ∃ hf : mn_S, Bd hf ∧ Ev 147 736 [some (.ref 0), some (.ref 3), some (.ref 149), some (.ref 176), some (.int (nI (4 * t))), c5, c6, c7] [] (wp Lx xs u N J P F A L, nx, c, w) (hf, .inl (some (.int 1)))) : ∃ hf : mn_S, Bd hf ∧ Ev 147 564 [some (.ref 0), some (.ref 3), some (.ref 149), some (.ref 176), some (.int (nI (4 * t))), c5, c6, c7] [] (wp Lx xs u N J P F A L, nx, c0, w0) (hf, .inl (some (.int 1))) := by
  obtain ⟨N', J', P', F', A', L', hr', hh⟩ := Ans.two (b := bo Lx xs u) (nx := nx) (fun _ => bo Lx xs u) (fun b2 nx2 => call_tasks (b1 := mpic (bo Lx xs u) F A L) (nx1 := nx) (b2 := b2) (nx2 := nx2) hr)
  rcases hh with ⟨v, hk, h1, h2, h3⟩ | ⟨i, e, v, he, hk, h1, h2, h3⟩
  · obtain ⟨x, rfl⟩ := hk
    obtain ⟨hf, b1, b2⟩ := cont u N' J' P' F' A' L' nx c0 w0 c5 c6 c7 hr' (by omega) (by omega)
    refine ⟨hf, b1, ?_⟩
    simp (disch := first | omega | decide) only [eL_law_564, eL_law_564n, eL_law_564t, eL_law_564s, eL_law_564c, eL_law_565, eL_law_568, eL_law_568n, eL_law_568t, eL_law_568s, eL_law_568c, eL_law_569, eL_law_572, ↓reduceIte, Evk_some, Evh_some, Evn_some, Evr_v, Evr_n, mk_i, mk_r, mk_0, mk_n, mk_l, mc0, mc1, mc2, mc3, mc4, mi_obj, Bool.and_self, Bool.true_and, Nat.add_zero, Nat.zero_add, nI_add, pk_mul, pk_sub, Nat.add_sub_cancel, eq_self, if_true, if_false, n10, bI_t, bI_f, bI_0, Nat.reduceAdd, Nat.reduceMul, Nat.reduceSub, nI_eq, nI_ltI, nI_leI, Nat.reduceEqDiff, Nat.reduceLT, Nat.reduceDiv, Nat.reduceMod, Nat.reduceLeDiff, wp_3, wp_149, wp_thr, wp_out, h1, h2]
    exact b2
  · cases he
set_option maxHeartbeats 8000000 in
theorem lw_c_read {t c0 w0 : Nat} {Bd : mn_S → Prop} {c5 c6 c7 : Option Value} (hr : Rel N J P F A L) (hL : Lx ≤ 2048) (ht : 4 * t + 4 ≤ Lx) (cont : ∀ (u : Nat → Int64) (N : cN) (J : cJ) (P : cP) (F : Nat → Int32) (A : Nat → Nat → Int32) (L : Nat → Nat → Int64) (nx : Option Nat) (c w : Nat) (c5 c6 c7 : Option Value), Rel N J P F A L → c ≤ c0 + 1 → w ≤ w0 + 6 → ∃ hf : mn_S, Bd hf ∧ Ev 147 736 [some (.ref 0), some (.ref 3), some (.ref 149), some (.ref 176), some (.int (nI (4 * t))), c5, c6, c7] [] (wp Lx xs u N J P F A L, nx, c, w) (hf, .inl (some (.int 1)))) : ∃ hf : mn_S, Bd hf ∧ Ev 147 577 [some (.ref 0), some (.ref 3), some (.ref 149), some (.ref 176), some (.int (nI (4 * t))), c5, c6, c7] [] (wp Lx xs u N J P F A L, nx, c0, w0) (hf, .inl (some (.int 1))) := by
  obtain ⟨N', J', P', F', A', L', hr', hh⟩ := Ans.two (b := bo Lx xs u) (nx := nx) (fun v => bo Lx xs (ov u v)) (fun b2 nx2 => call_read (x := xs (4 * t + 1)) (y := xs (4 * t + 2)) (b1 := mpic (bo Lx xs u) F A L) (nx1 := nx) (b2 := b2) (nx2 := nx2) hr)
  have r1 := fun (N : cN) (J : cJ) (P : cP) (F : Nat → Int32) (A : Nat → Nat → Int32) (L : Nat → Nat → Int64) (u : Nat → Int64) (q : Option Nat × Nat × Nat) => wp_rd (xs := xs) (u := u) (N := N) (J := J) (P := P) (F := F) (A := A) (L := L) (q := q) (show 4 * t + 1 < Lx by omega) hL
  have r2 := fun (N : cN) (J : cJ) (P : cP) (F : Nat → Int32) (A : Nat → Nat → Int32) (L : Nat → Nat → Int64) (u : Nat → Int64) (q : Option Nat × Nat × Nat) => wp_rd (xs := xs) (u := u) (N := N) (J := J) (P := P) (F := F) (A := A) (L := L) (q := q) (show 4 * t + 2 < Lx by omega) hL
  rcases hh with ⟨v, hk, h1, h2, h3⟩ | ⟨i, e, v, he, hk, h1, h2, h3⟩
  · obtain ⟨x, rfl⟩ := hk
    have e1 := hL_read (p := wp Lx xs u N J P F A L) (nx := nx) wp_3 o_at h1
    rw [hO_l] at e1
    obtain ⟨hf, b1, b2⟩ := cont (ov u (some (.long x))) N' J' P' F' A' L' nx c0 w0 (some (.int (nI 0))) (some (.long x)) (none) hr' (by omega) (by omega)
    refine ⟨hf, b1, ?_⟩
    simp (disch := first | omega | decide) only [eL_law_577, eL_law_577n, eL_law_577t, eL_law_577s, eL_law_577c, eL_law_578, eL_law_578n, eL_law_578t, eL_law_578s, eL_law_578c, eL_law_579, eL_law_581, eL_law_582, eL_law_583, eL_law_584, eL_law_584n, eL_law_584t, eL_law_584s, eL_law_584c, eL_law_585, eL_law_587, eL_law_588, eL_law_589, eL_law_590, eL_law_590n, eL_law_590t, eL_law_590s, eL_law_590c, eL_law_591, eL_law_594, eL_law_596, eL_law_596n, eL_law_596t, eL_law_596s, eL_law_596c, eL_law_597, eL_law_597n, eL_law_597t, eL_law_597s, eL_law_597c, eL_law_598, eL_law_600, eL_law_601, eL_law_602, eL_law_603, eL_law_603n, eL_law_603t, eL_law_603s, eL_law_603c, eL_law_604, eL_law_606, eL_law_607, eL_law_608, eL_law_609, eL_law_612, eL_law_614, eL_law_614n, eL_law_614t, eL_law_614s, eL_law_614c, eL_law_615, eL_law_618, eL_law_620, eL_law_623, eL_law_624, eL_law_625, eL_law_627, eL_law_630, eL_law_630n, eL_law_630t, eL_law_630s, eL_law_630c, eL_law_631, eL_law_632, eL_law_633, eL_law_635, eL_law_636, eL_law_639, eL_law_640, eL_law_641, ↓reduceIte, Evk_some, Evh_some, Evn_some, Evr_v, Evr_n, mk_i, mk_r, mk_0, mk_n, mk_l, mc0, mc1, mc2, mc3, mc4, mi_obj, Bool.and_self, Bool.true_and, Nat.add_zero, Nat.zero_add, nI_add, pk_mul, pk_sub, Nat.add_sub_cancel, eq_self, if_true, if_false, n10, bI_t, bI_f, bI_0, Nat.reduceAdd, Nat.reduceMul, Nat.reduceSub, nI_eq, nI_ltI, nI_leI, Nat.reduceEqDiff, Nat.reduceLT, Nat.reduceDiv, Nat.reduceMod, Nat.reduceLeDiff, wp_3, wp_149, wp_thr, wp_out, r1, r2, e1, h2, h3, ov_l, lc_eq]
    exact b2
  · rcases two_i he rfl with ⟨rfl, rfl⟩ | ⟨rfl, rfl⟩
    · obtain ⟨x, rfl⟩ := hk
      have e1 := hL_read_2 (p := wp Lx xs u N J P F A L) (nx := nx) wp_3 h1
      obtain ⟨hf, b1, b2⟩ := cont u N' J' P' F' A' L' none (c0 + 1) (w0 + 6) (some (.int (nI 1))) (some (.long x)) none hr' (by omega) (by omega)
      refine ⟨hf, b1, ?_⟩
      simp (disch := first | omega | decide) only [eL_law_577, eL_law_577n, eL_law_577t, eL_law_577s, eL_law_577c, eL_law_578, eL_law_578n, eL_law_578t, eL_law_578s, eL_law_578c, eL_law_579, eL_law_581, eL_law_582, eL_law_583, eL_law_584, eL_law_584n, eL_law_584t, eL_law_584s, eL_law_584c, eL_law_585, eL_law_587, eL_law_588, eL_law_589, eL_law_590, eL_law_590n, eL_law_590t, eL_law_590s, eL_law_590c, eL_law_591, eL_law_594, eL_law_596, eL_law_596n, eL_law_596t, eL_law_596s, eL_law_596c, eL_law_597, eL_law_597n, eL_law_597t, eL_law_597s, eL_law_597c, eL_law_598, eL_law_600, eL_law_601, eL_law_602, eL_law_603, eL_law_603n, eL_law_603t, eL_law_603s, eL_law_603c, eL_law_604, eL_law_606, eL_law_607, eL_law_608, eL_law_609, eL_law_612, eL_law_614, eL_law_614n, eL_law_614t, eL_law_614s, eL_law_614c, eL_law_615, eL_law_618, eL_law_620, eL_law_623, eL_law_624, eL_law_625, eL_law_627, eL_law_630, eL_law_630n, eL_law_630t, eL_law_630s, eL_law_630c, eL_law_631, eL_law_632, eL_law_633, eL_law_635, eL_law_636, eL_law_639, eL_law_640, eL_law_641, ↓reduceIte, Evk_some, Evh_some, Evn_some, Evr_v, Evr_n, mk_i, mk_r, mk_0, mk_n, mk_l, mc0, mc1, mc2, mc3, mc4, mi_obj, Bool.and_self, Bool.true_and, Nat.add_zero, Nat.zero_add, nI_add, pk_mul, pk_sub, Nat.add_sub_cancel, eq_self, if_true, if_false, n10, bI_t, bI_f, bI_0, Nat.reduceAdd, Nat.reduceMul, Nat.reduceSub, nI_eq, nI_ltI, nI_leI, Nat.reduceEqDiff, Nat.reduceLT, Nat.reduceDiv, Nat.reduceMod, Nat.reduceLeDiff, wp_3, wp_149, wp_thr, wp_out, r1, r2, e1, h2, h3]
      exact b2
    · obtain ⟨x, rfl⟩ := hk
      have e1 := hL_read_1 (p := wp Lx xs u N J P F A L) (nx := nx) wp_3 h1
      obtain ⟨hf, b1, b2⟩ := cont u N' J' P' F' A' L' none (c0 + 1) (w0 + 6) (some (.int (nI 2))) (some (.long x)) none hr' (by omega) (by omega)
      refine ⟨hf, b1, ?_⟩
      simp (disch := first | omega | decide) only [eL_law_577, eL_law_577n, eL_law_577t, eL_law_577s, eL_law_577c, eL_law_578, eL_law_578n, eL_law_578t, eL_law_578s, eL_law_578c, eL_law_579, eL_law_581, eL_law_582, eL_law_583, eL_law_584, eL_law_584n, eL_law_584t, eL_law_584s, eL_law_584c, eL_law_585, eL_law_587, eL_law_588, eL_law_589, eL_law_590, eL_law_590n, eL_law_590t, eL_law_590s, eL_law_590c, eL_law_591, eL_law_594, eL_law_596, eL_law_596n, eL_law_596t, eL_law_596s, eL_law_596c, eL_law_597, eL_law_597n, eL_law_597t, eL_law_597s, eL_law_597c, eL_law_598, eL_law_600, eL_law_601, eL_law_602, eL_law_603, eL_law_603n, eL_law_603t, eL_law_603s, eL_law_603c, eL_law_604, eL_law_606, eL_law_607, eL_law_608, eL_law_609, eL_law_612, eL_law_614, eL_law_614n, eL_law_614t, eL_law_614s, eL_law_614c, eL_law_615, eL_law_618, eL_law_620, eL_law_623, eL_law_624, eL_law_625, eL_law_627, eL_law_630, eL_law_630n, eL_law_630t, eL_law_630s, eL_law_630c, eL_law_631, eL_law_632, eL_law_633, eL_law_635, eL_law_636, eL_law_639, eL_law_640, eL_law_641, ↓reduceIte, Evk_some, Evh_some, Evn_some, Evr_v, Evr_n, mk_i, mk_r, mk_0, mk_n, mk_l, mc0, mc1, mc2, mc3, mc4, mi_obj, Bool.and_self, Bool.true_and, Nat.add_zero, Nat.zero_add, nI_add, pk_mul, pk_sub, Nat.add_sub_cancel, eq_self, if_true, if_false, n10, bI_t, bI_f, bI_0, Nat.reduceAdd, Nat.reduceMul, Nat.reduceSub, nI_eq, nI_ltI, nI_leI, Nat.reduceEqDiff, Nat.reduceLT, Nat.reduceDiv, Nat.reduceMod, Nat.reduceLeDiff, wp_3, wp_149, wp_thr, wp_out, r1, r2, e1, h2, h3]
      exact b2
set_option maxHeartbeats 8000000 in
theorem lw_c_print {t c0 w0 : Nat} {Bd : mn_S → Prop} {c5 c6 c7 : Option Value} (hr : Rel N J P F A L) (hL : Lx ≤ 2048) (ht : 4 * t + 4 ≤ Lx) (cont : ∀ (u : Nat → Int64) (N : cN) (J : cJ) (P : cP) (F : Nat → Int32) (A : Nat → Nat → Int32) (L : Nat → Nat → Int64) (nx : Option Nat) (c w : Nat) (c5 c6 c7 : Option Value), Rel N J P F A L → c ≤ c0 + 1 → w ≤ w0 + 6 → ∃ hf : mn_S, Bd hf ∧ Ev 147 736 [some (.ref 0), some (.ref 3), some (.ref 149), some (.ref 176), some (.int (nI (4 * t))), c5, c6, c7] [] (wp Lx xs u N J P F A L, nx, c, w) (hf, .inl (some (.int 1)))) : ∃ hf : mn_S, Bd hf ∧ Ev 147 644 [some (.ref 0), some (.ref 3), some (.ref 149), some (.ref 176), some (.int (nI (4 * t))), c5, c6, c7] [] (wp Lx xs u N J P F A L, nx, c0, w0) (hf, .inl (some (.int 1))) := by
  obtain ⟨N', J', P', F', A', L', hr', hh⟩ := Ans.two (b := bo Lx xs u) (nx := nx) (fun v => bo Lx xs (ov u v)) (fun b2 nx2 => call_print (x := xs (4 * t + 1)) (y := xs (4 * t + 2)) (b1 := mpic (bo Lx xs u) F A L) (nx1 := nx) (b2 := b2) (nx2 := nx2) hr)
  have r1 := fun (N : cN) (J : cJ) (P : cP) (F : Nat → Int32) (A : Nat → Nat → Int32) (L : Nat → Nat → Int64) (u : Nat → Int64) (q : Option Nat × Nat × Nat) => wp_rd (xs := xs) (u := u) (N := N) (J := J) (P := P) (F := F) (A := A) (L := L) (q := q) (show 4 * t + 1 < Lx by omega) hL
  have r2 := fun (N : cN) (J : cJ) (P : cP) (F : Nat → Int32) (A : Nat → Nat → Int32) (L : Nat → Nat → Int64) (u : Nat → Int64) (q : Option Nat × Nat × Nat) => wp_rd (xs := xs) (u := u) (N := N) (J := J) (P := P) (F := F) (A := A) (L := L) (q := q) (show 4 * t + 2 < Lx by omega) hL
  rcases hh with ⟨v, hk, h1, h2, h3⟩ | ⟨i, e, v, he, hk, h1, h2, h3⟩
  · obtain ⟨x, rfl⟩ := hk
    have e1 := hL_print (p := wp Lx xs u N J P F A L) (nx := nx) wp_3 o_at h1
    rw [hO_l] at e1
    obtain ⟨hf, b1, b2⟩ := cont (ov u (some (.long x))) N' J' P' F' A' L' nx c0 w0 (some (.int (nI 0))) (some (.long x)) (none) hr' (by omega) (by omega)
    refine ⟨hf, b1, ?_⟩
    simp (disch := first | omega | decide) only [eL_law_644, eL_law_644n, eL_law_644t, eL_law_644s, eL_law_644c, eL_law_645, eL_law_645n, eL_law_645t, eL_law_645s, eL_law_645c, eL_law_646, eL_law_648, eL_law_649, eL_law_650, eL_law_651, eL_law_651n, eL_law_651t, eL_law_651s, eL_law_651c, eL_law_652, eL_law_654, eL_law_655, eL_law_656, eL_law_657, eL_law_657n, eL_law_657t, eL_law_657s, eL_law_657c, eL_law_658, eL_law_661, eL_law_663, eL_law_663n, eL_law_663t, eL_law_663s, eL_law_663c, eL_law_664, eL_law_664n, eL_law_664t, eL_law_664s, eL_law_664c, eL_law_665, eL_law_667, eL_law_668, eL_law_669, eL_law_670, eL_law_670n, eL_law_670t, eL_law_670s, eL_law_670c, eL_law_671, eL_law_673, eL_law_674, eL_law_675, eL_law_676, eL_law_679, eL_law_681, eL_law_681n, eL_law_681t, eL_law_681s, eL_law_681c, eL_law_682, eL_law_685, eL_law_687, eL_law_690, eL_law_691, eL_law_692, eL_law_694, eL_law_697, eL_law_697n, eL_law_697t, eL_law_697s, eL_law_697c, eL_law_698, eL_law_699, eL_law_700, eL_law_702, eL_law_703, eL_law_706, eL_law_707, eL_law_708, ↓reduceIte, Evk_some, Evh_some, Evn_some, Evr_v, Evr_n, mk_i, mk_r, mk_0, mk_n, mk_l, mc0, mc1, mc2, mc3, mc4, mi_obj, Bool.and_self, Bool.true_and, Nat.add_zero, Nat.zero_add, nI_add, pk_mul, pk_sub, Nat.add_sub_cancel, eq_self, if_true, if_false, n10, bI_t, bI_f, bI_0, Nat.reduceAdd, Nat.reduceMul, Nat.reduceSub, nI_eq, nI_ltI, nI_leI, Nat.reduceEqDiff, Nat.reduceLT, Nat.reduceDiv, Nat.reduceMod, Nat.reduceLeDiff, wp_3, wp_149, wp_thr, wp_out, r1, r2, e1, h2, h3, ov_l, lc_eq]
    exact b2
  · obtain ⟨rfl, rfl⟩ := one_i he rfl
    obtain ⟨x, rfl⟩ := hk
    have e1 := hL_print_2 (p := wp Lx xs u N J P F A L) (nx := nx) wp_3 h1
    obtain ⟨hf, b1, b2⟩ := cont u N' J' P' F' A' L' none (c0 + 1) (w0 + 6) (some (.int (nI 1))) (some (.long x)) none hr' (by omega) (by omega)
    refine ⟨hf, b1, ?_⟩
    simp (disch := first | omega | decide) only [eL_law_644, eL_law_644n, eL_law_644t, eL_law_644s, eL_law_644c, eL_law_645, eL_law_645n, eL_law_645t, eL_law_645s, eL_law_645c, eL_law_646, eL_law_648, eL_law_649, eL_law_650, eL_law_651, eL_law_651n, eL_law_651t, eL_law_651s, eL_law_651c, eL_law_652, eL_law_654, eL_law_655, eL_law_656, eL_law_657, eL_law_657n, eL_law_657t, eL_law_657s, eL_law_657c, eL_law_658, eL_law_661, eL_law_663, eL_law_663n, eL_law_663t, eL_law_663s, eL_law_663c, eL_law_664, eL_law_664n, eL_law_664t, eL_law_664s, eL_law_664c, eL_law_665, eL_law_667, eL_law_668, eL_law_669, eL_law_670, eL_law_670n, eL_law_670t, eL_law_670s, eL_law_670c, eL_law_671, eL_law_673, eL_law_674, eL_law_675, eL_law_676, eL_law_679, eL_law_681, eL_law_681n, eL_law_681t, eL_law_681s, eL_law_681c, eL_law_682, eL_law_685, eL_law_687, eL_law_690, eL_law_691, eL_law_692, eL_law_694, eL_law_697, eL_law_697n, eL_law_697t, eL_law_697s, eL_law_697c, eL_law_698, eL_law_699, eL_law_700, eL_law_702, eL_law_703, eL_law_706, eL_law_707, eL_law_708, ↓reduceIte, Evk_some, Evh_some, Evn_some, Evr_v, Evr_n, mk_i, mk_r, mk_0, mk_n, mk_l, mc0, mc1, mc2, mc3, mc4, mi_obj, Bool.and_self, Bool.true_and, Nat.add_zero, Nat.zero_add, nI_add, pk_mul, pk_sub, Nat.add_sub_cancel, eq_self, if_true, if_false, n10, bI_t, bI_f, bI_0, Nat.reduceAdd, Nat.reduceMul, Nat.reduceSub, nI_eq, nI_ltI, nI_leI, Nat.reduceEqDiff, Nat.reduceLT, Nat.reduceDiv, Nat.reduceMod, Nat.reduceLeDiff, wp_3, wp_149, wp_thr, wp_out, r1, r2, e1, h2, h3]
    exact b2
set_option maxHeartbeats 8000000 in
theorem lw_c_count {t c0 w0 : Nat} {Bd : mn_S → Prop} {c5 c6 c7 : Option Value} (hr : Rel N J P F A L) (hL : Lx ≤ 2048) (ht : 4 * t + 4 ≤ Lx) (cont : ∀ (u : Nat → Int64) (N : cN) (J : cJ) (P : cP) (F : Nat → Int32) (A : Nat → Nat → Int32) (L : Nat → Nat → Int64) (nx : Option Nat) (c w : Nat) (c5 c6 c7 : Option Value), Rel N J P F A L → c ≤ c0 + 1 → w ≤ w0 + 6 → ∃ hf : mn_S, Bd hf ∧ Ev 147 736 [some (.ref 0), some (.ref 3), some (.ref 149), some (.ref 176), some (.int (nI (4 * t))), c5, c6, c7] [] (wp Lx xs u N J P F A L, nx, c, w) (hf, .inl (some (.int 1)))) : ∃ hf : mn_S, Bd hf ∧ Ev 147 711 [some (.ref 0), some (.ref 3), some (.ref 149), some (.ref 176), some (.int (nI (4 * t))), c5, c6, c7] [] (wp Lx xs u N J P F A L, nx, c0, w0) (hf, .inl (some (.int 1))) := by
  obtain ⟨N', J', P', F', A', L', hr', hh⟩ := Ans.two (b := bo Lx xs u) (nx := nx) (fun _ => bo Lx xs u) (fun b2 nx2 => call_count (x := xs (4 * t + 1)) (b1 := mpic (bo Lx xs u) F A L) (nx1 := nx) (b2 := b2) (nx2 := nx2) hr)
  have r1 := fun (N : cN) (J : cJ) (P : cP) (F : Nat → Int32) (A : Nat → Nat → Int32) (L : Nat → Nat → Int64) (u : Nat → Int64) (q : Option Nat × Nat × Nat) => wp_rd (xs := xs) (u := u) (N := N) (J := J) (P := P) (F := F) (A := A) (L := L) (q := q) (show 4 * t + 1 < Lx by omega) hL
  rcases hh with ⟨v, hk, h1, h2, h3⟩ | ⟨i, e, v, he, hk, h1, h2, h3⟩
  · obtain ⟨x, rfl⟩ := hk
    obtain ⟨hf, b1, b2⟩ := cont u N' J' P' F' A' L' nx c0 w0 c5 c6 c7 hr' (by omega) (by omega)
    refine ⟨hf, b1, ?_⟩
    simp (disch := first | omega | decide) only [eL_law_711, eL_law_711n, eL_law_711t, eL_law_711s, eL_law_711c, eL_law_712, eL_law_712n, eL_law_712t, eL_law_712s, eL_law_712c, eL_law_713, eL_law_715, eL_law_716, eL_law_717, eL_law_718, eL_law_721, eL_law_721n, eL_law_721t, eL_law_721s, eL_law_721c, eL_law_722, eL_law_722n, eL_law_722t, eL_law_722s, eL_law_722c, eL_law_723, eL_law_725, eL_law_726, eL_law_727, eL_law_728, eL_law_731, ↓reduceIte, Evk_some, Evh_some, Evn_some, Evr_v, Evr_n, mk_i, mk_r, mk_0, mk_n, mk_l, mc0, mc1, mc2, mc3, mc4, mi_obj, Bool.and_self, Bool.true_and, Nat.add_zero, Nat.zero_add, nI_add, pk_mul, pk_sub, Nat.add_sub_cancel, eq_self, if_true, if_false, n10, bI_t, bI_f, bI_0, Nat.reduceAdd, Nat.reduceMul, Nat.reduceSub, nI_eq, nI_ltI, nI_leI, Nat.reduceEqDiff, Nat.reduceLT, Nat.reduceDiv, Nat.reduceMod, Nat.reduceLeDiff, wp_3, wp_149, wp_thr, wp_out, r1, h1, h2]
    exact b2
  · cases he
set_option maxHeartbeats 8000000 in
theorem law_loop (hL : Lx ≤ 2048) : ∀ (d t : Nat), Lx < 4 * t + 4 + 4 * d → t + d ≤ 1000 → ∀ (u : Nat → Int64) (N : cN) (J : cJ) (P : cP) (F : Nat → Int32) (A : Nat → Nat → Int32) (L : Nat → Nat → Int64) (nx : Option Nat) (c w : Nat) (c5 c6 c7 : Option Value), Rel N J P F A L → ∃ hf : mn_S, (hf.2.2.1 ≤ c + d ∧ hf.2.2.2 ≤ w + 6 * d) ∧ Ev 147 23 [some (.ref 0), some (.ref 3), some (.ref 149), some (.ref 176), some (.int (nI (4 * t))), c5, c6, c7] [] (wp Lx xs u N J P F A L, nx, c, w) (hf, .inl (some (.int 1))) := by
  have fin : ∀ (t d : Nat), Lx < 4 * t + 4 → t ≤ 1000 → ∀ (u : Nat → Int64) (N : cN) (J : cJ) (P : cP) (F : Nat → Int32) (A : Nat → Nat → Int32) (L : Nat → Nat → Int64) (nx : Option Nat) (c w : Nat) (c5 c6 c7 : Option Value), ∃ hf : mn_S, (hf.2.2.1 ≤ c + d ∧ hf.2.2.2 ≤ w + 6 * d) ∧ Ev 147 23 [some (.ref 0), some (.ref 3), some (.ref 149), some (.ref 176), some (.int (nI (4 * t))), c5, c6, c7] [] (wp Lx xs u N J P F A L, nx, c, w) (hf, .inl (some (.int 1))) := by
    intro t d h ht u N J P F A L nx c w c5 c6 c7
    refine ⟨(wp Lx xs u N J P F A L, nx, c, w), ⟨by show c ≤ c + d; omega, by show w ≤ w + 6 * d; omega⟩, ?_⟩
    have hs := sub_lt h hL (by omega)
    refine eL_law_23.mpr ?_
    simp (disch := first | omega | decide) only [eL_law_25, eL_law_25n, eL_law_25t, eL_law_25s, eL_law_25c, eL_law_26, eL_law_27, eL_law_28, eL_law_29, eL_law_742, ↓reduceIte, Evk_some, Evh_some, Evn_some, Evr_v, Evr_n, mk_i, mk_r, mk_0, mk_n, mk_l, mc0, mc1, mc2, mc3, mc4, mi_obj, Bool.and_self, Bool.true_and, Nat.add_zero, Nat.zero_add, nI_add, pk_mul, Nat.add_sub_cancel, eq_self, if_true, if_false, n10, bI_t, bI_f, bI_0, Nat.reduceAdd, Nat.reduceMul, Nat.reduceSub, nI_eq, nI_leI, Nat.reduceEqDiff, Nat.reduceLT, Nat.reduceDiv, Nat.reduceMod, Nat.reduceLeDiff, wp_len, hs]
    exact (eL_law_743 n1_z).mpr rfl
  intro d
  induction d with
  | zero =>
    intro t h ht u N J P F A L nx c w c5 c6 c7 hr
    exact fin t 0 (by omega) (by omega) u N J P F A L nx c w c5 c6 c7
  | succ d ih =>
    intro t h ht u N J P F A L nx c w c5 c6 c7 hr
    by_cases hx : Lx < 4 * t + 4
    · exact fin t (d + 1) hx (by omega) u N J P F A L nx c w c5 c6 c7
    · have ht4 : 4 * t + 4 ≤ Lx := by omega
      have hs := sub_ge ht4 hL
      have r0 := wp_rd (xs := xs) (u := u) (N := N) (J := J) (P := P) (F := F) (A := A) (L := L) (q := (nx, c, w)) (show 4 * t < Lx by omega) hL
      obtain ⟨v, hv, hv2⟩ := pk_andE (xs (4 * t)) (m := nI 15) 4 (by decide)
      have cont : ∀ (u : Nat → Int64) (N : cN) (J : cJ) (P : cP) (F : Nat → Int32) (A : Nat → Nat → Int32) (L : Nat → Nat → Int64) (nx : Option Nat) (c' w' : Nat) (c5 c6 c7 : Option Value), Rel N J P F A L → c' ≤ c + 1 → w' ≤ w + 6 → ∃ hf : mn_S, (fun hf : mn_S => hf.2.2.1 ≤ c + (d + 1) ∧ hf.2.2.2 ≤ w + 6 * (d + 1)) hf ∧ Ev 147 736 [some (.ref 0), some (.ref 3), some (.ref 149), some (.ref 176), some (.int (nI (4 * t))), c5, c6, c7] [] (wp Lx xs u N J P F A L, nx, c', w') (hf, .inl (some (.int 1))) := by
        intro u N J P F A L nx c' w' c5 c6 c7 hr hc hw
        obtain ⟨hf, ⟨b1, b2⟩, b3⟩ := ih (t + 1) (by omega) (by omega) u N J P F A L nx c' w' c5 c6 c7 hr
        refine ⟨hf, ⟨by omega, by omega⟩, ?_⟩
        rw [show 4 * (t + 1) = 4 * t + 4 by omega] at b3
        simp (disch := first | omega | decide) only [eL_law_736, eL_law_739, nI_add, mk_r]
        exact b3
      have sw : ∀ r : mn_Res, Ev 147 23 [some (.ref 0), some (.ref 3), some (.ref 149), some (.ref 176), some (.int (nI (4 * t))), c5, c6, c7] [] (wp Lx xs u N J P F A L, nx, c, w) r ↔ Ev 147 39 [some (.ref 0), some (.ref 3), some (.ref 149), some (.ref 176), some (.int (nI (4 * t))), c5, c6, c7] [.int (nI v)] (wp Lx xs u N J P F A L, nx, c, w) r := by
        intro r
        refine eL_law_23.trans ?_
        simp (disch := first | omega | decide) only [eL_law_25, eL_law_25n, eL_law_25t, eL_law_25s, eL_law_25c, eL_law_26, eL_law_27, eL_law_28, eL_law_29, eL_law_32, eL_law_32n, eL_law_32t, eL_law_32s, eL_law_32c, eL_law_33, eL_law_35, eL_law_36, eL_law_38, ↓reduceIte, Evk_some, Evh_some, Evn_some, Evr_v, Evr_n, mk_i, mk_r, mk_0, mk_n, mk_l, mc0, mc1, mc2, mc3, mc4, mi_obj, Bool.and_self, Bool.true_and, Nat.add_zero, Nat.zero_add, nI_add, pk_mul, Nat.add_sub_cancel, eq_self, if_true, if_false, n10, bI_t, bI_f, bI_0, Nat.reduceAdd, Nat.reduceMul, Nat.reduceSub, nI_eq, nI_leI, Nat.reduceEqDiff, Nat.reduceLT, Nat.reduceDiv, Nat.reduceMod, Nat.reduceLeDiff, wp_len, hs, r0, hv2]
      have go : ∀ {pc : Nat}, (∃ hf : mn_S, (fun hf : mn_S => hf.2.2.1 ≤ c + (d + 1) ∧ hf.2.2.2 ≤ w + 6 * (d + 1)) hf ∧ Ev 147 pc [some (.ref 0), some (.ref 3), some (.ref 149), some (.ref 176), some (.int (nI (4 * t))), c5, c6, c7] [] (wp Lx xs u N J P F A L, nx, c, w) (hf, .inl (some (.int 1)))) → (∀ r : mn_Res, Ev 147 39 [some (.ref 0), some (.ref 3), some (.ref 149), some (.ref 176), some (.int (nI (4 * t))), c5, c6, c7] [.int (nI v)] (wp Lx xs u N J P F A L, nx, c, w) r ↔ Ev 147 pc [some (.ref 0), some (.ref 3), some (.ref 149), some (.ref 176), some (.int (nI (4 * t))), c5, c6, c7] [] (wp Lx xs u N J P F A L, nx, c, w) r) → ∃ hf : mn_S, (hf.2.2.1 ≤ c + (d + 1) ∧ hf.2.2.2 ≤ w + 6 * (d + 1)) ∧ Ev 147 23 [some (.ref 0), some (.ref 3), some (.ref 149), some (.ref 176), some (.int (nI (4 * t))), c5, c6, c7] [] (wp Lx xs u N J P F A L, nx, c, w) (hf, .inl (some (.int 1))) := by
        rintro pc ⟨hf, b1, b2⟩ he
        exact ⟨hf, b1, (sw _).mpr ((he _).mpr b2)⟩
      rcases (show v = 0 ∨ v = 1 ∨ v = 2 ∨ v = 3 ∨ v = 4 ∨ v = 5 ∨ v = 6 ∨ v = 7 ∨ v = 8 ∨ v = 9 ∨ v = 10 ∨ v = 11 ∨ v = 12 ∨ v = 13 ∨ v = 14 ∨ v = 15 by omega) with rfl | rfl | rfl | rfl | rfl | rfl | rfl | rfl | rfl | rfl | rfl | rfl | rfl | rfl | rfl | rfl
      · exact go (lw_c_block hr hL ht4 cont) (fun r => eL_law_39_c0)
      · exact go (lw_c_add hr hL ht4 cont) (fun r => eL_law_39_c1)
      · exact go (lw_c_merge hr hL ht4 cont) (fun r => eL_law_39_c2)
      · exact go (lw_c_cell hr hL ht4 cont) (fun r => eL_law_39_c3)
      · exact go (lw_c_start hr hL ht4 cont) (fun r => eL_law_39_c4)
      · exact go (lw_c_fault hr hL ht4 cont) (fun r => eL_law_39_c5)
      · exact go (lw_c_reset hr hL ht4 cont) (fun r => eL_law_39_c6)
      · exact go (lw_c_step hr hL ht4 cont) (fun r => eL_law_39_c7)
      · exact go (lw_c_run hr hL ht4 cont) (fun r => eL_law_39_c8)
      · exact go (lw_c_task hr hL ht4 cont) (fun r => eL_law_39_c9)
      · exact go (lw_c_tasks hr hL ht4 cont) (fun r => eL_law_39_c10)
      · exact go (lw_c_read hr hL ht4 cont) (fun r => eL_law_39_c11)
      · exact go (lw_c_print hr hL ht4 cont) (fun r => eL_law_39_c12)
      · exact go (lw_c_count hr hL ht4 cont) (fun r => eL_law_39_c13)
      · exact go (cont u N J P F A L nx c w c5 c6 c7 hr (by omega) (by omega)) (fun r => eL_law_39_c14)
      · exact go (cont u N J P F A L nx c w c5 c6 c7 hr (by omega) (by omega)) (fun r => eL_law_39_c15)
theorem Rel.init : Rel Nz Jz Pz Fz Az Lz := by
  refine ⟨0, 0, none, fun _ => 0, fun _ _ => 0, fun _ _ => 0, fun _ => 0, fun _ => 0, ⟨by decide, by decide, rfl, rfl, rfl, rfl, rfl, rfl, fun j hj => (by cases hj), fun c hc => ⟨rfl, Nat.zero_le _, fun p hp => absurd hp (Nat.not_lt_zero _)⟩, fun c hc => ⟨rfl, Nat.zero_le _, fun p hp => absurd hp (Nat.not_lt_zero _)⟩, fun _ _ _ => rfl, fun _ _ _ => rfl, fun c hc => ⟨rfl, rfl, (show 0 < 4 by decide), rfl, rfl, (show 0 < 2 by decide)⟩⟩, Or.inl ⟨rfl, rfl, rfl, rfl, rfl⟩⟩
set_option maxHeartbeats 8000000 in
theorem law_run (hL : Lx ≤ 2048) : ∃ hf : mn_S, (hf.2.2.1 ≤ 601024 ∧ hf.2.2.2 ≤ 7293034) ∧ Ev 147 0 (mn_ent 8 [.ref 0]) [] (mn_p0 Lx xs, some 3, 0, 0) (hf, .inl (some (.int 1))) := by
  obtain ⟨hf, ⟨b1, b2⟩, b3⟩ := law_loop (xs := xs) hL 600 0 (by omega) (by omega) (fun _ => 0) Nz Jz Pz Fz Az Lz (some 177) 174 3688 none none none Rel.init
  refine ⟨hf, ⟨by omega, by omega⟩, ?_⟩
  show Ev 147 0 [some (.ref 0), none, none, none, none, none, none, none] [] _ _
  have e1 := nw_7 (p := mn_p0 Lx xs) (n := 3) (c := 0) (w := 0)
  have h1 : (mn_new (mn_p0 Lx xs, some 3, 0, 0) 7).isSome = true := rfl
  have e2 := kc_main (b := mn_p0 Lx xs)
  have e3 := nw_8 (p := cpic (mn_p0 Lx xs) Nz Jz Pz) (n := 149) (c := 146) (w := 1789)
  have h3 : (mn_new (cpic (mn_p0 Lx xs) Nz Jz Pz, some 149, 146, 1789) 8).isSome = true := rfl
  have e4 := kc_model (b := cpic (mn_p0 Lx xs) Nz Jz Pz)
  have e5 := na_1 (p := mpic (cpic (mn_p0 Lx xs) Nz Jz Pz) Fz Az Lz) (n := 176) (c := 173) (w := 3687) (m := 1) (by decide)
  have e6 : mn_up (mpic (cpic (mn_p0 Lx xs) Nz Jz Pz) Fz Az Lz) 176 (ou (fun _ => 0)) = wp Lx xs (fun _ => 0) Nz Jz Pz Fz Az Lz := by
    rw [mc_comm]
    funext k
    by_cases h : k = 176
    · subst h; rw [up_s]; exact o_at.symm
    · rw [up_o h]
      show cpic _ _ _ _ k = cpic _ _ _ _ k
      rw [cp_at, cp_at]
      by_cases h2 : 3 ≤ k ∧ k < 149
      · rw [if_pos h2, if_pos h2]
      · rw [if_neg h2, if_neg h2, mp_at, mp_at]
        by_cases h3 : 149 ≤ k ∧ k < 149 + 27
        · rw [if_pos h3, if_pos h3]
        · rw [if_neg h3, if_neg h3]
          exact (up_o h).symm
  rw [e6] at e5
  simp (disch := first | omega | decide | exact h1 | exact h3) only [eL_law_0, eL_law_3, eL_law_4, eL_law_7, eL_law_7n, eL_law_7t, eL_law_7s, eL_law_7c, eL_law_8, eL_law_11, eL_law_12, eL_law_15, eL_law_15n, eL_law_15t, eL_law_15s, eL_law_15c, eL_law_16, eL_law_17, eL_law_19, eL_law_19n, eL_law_19t, eL_law_19s, eL_law_19c, eL_law_20, eL_law_21, ↓reduceIte, Evk_some, Evh_some, Evn_some, Evr_n, mk_i, mk_r, mk_n, mc0, mc1, mc2, mc3, mc4, Nat.reduceAdd, e1, e2, e3, e4, e5]
  exact b3
theorem whole_start {p : Program} {e : Env} {s : State} {m : MethodId} {below : List Frame} {meth : Method} {c : Code} (l : Launch) {b Lx : Nat} {xs : Nat → Int32} (hL : Lx ≤ 2048) (C0 : lw_At l p s m meth c b Lx xs) :
    W p l e room_1 s m #[Value.ref b] below meth c s.heap [] 0 0 (lw_Z below #[Value.ref b] s) (entryFrame m ([Value.ref b] : List Value).toArray 8) := by
  obtain ⟨hf, ⟨h1, h2⟩, n, hn⟩ := law_run (xs := xs) hL
  exact mn_law l C0 hn h1 h2
end SF
