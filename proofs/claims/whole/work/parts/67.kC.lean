/-! the class: what a merge gives -/
section KC
variable {b : Nat → Option va_E} {N : cN} {J : cJ} {P : cP} {nx : Option Nat} {r : mn_Res}
/-- a merge's instructions lead on, and end -/
def fwd (N : cN) (j n : Nat) : Prop := ∀ p, p < n → (N 3 j p ≠ nI 16 → p + 1 < n) ∧ (N 3 j p = nI 12 → ∃ a, N 4 j p = nI a ∧ p < a ∧ a < n) ∧ (N 3 j p = nI 1 → ∃ a, a < 3 ∧ N 4 j p = nI a)
set_option maxHeartbeats 16000000 in
theorem kv_outcome {j n : Nat} {x y z v : Int64} : ∀ (fuel pc : Nat) (ls : List Int64) (dn : Nat) (N : cN) (J : cJ) (P : cP), mrn (N 3 j) (N 4 j) x y z fuel pc ls = some v → fat N P 12 j n pc → fwd N j n → dn ≤ pc → N 20 12 0 = nI ls.length → stR (J 0 12) ls → J 1 12 0 = x → J 1 12 1 = y → J 1 12 2 = z →
    ∃ N' J' P', frM N N' J J' P P' ∧ Ev 21 25 [some (.ref (fr 12)), some (.ref (12 + 3 * j)), some (.long x), none, some (.long y), none, some (.long z), none, some (.int (nI dn))] [] (cpic b N J P, nx, 0, 0) ((cpic b N' J' P', nx, 0, 0), .inl (some (.long v))) := by
  intro fuel
  induction fuel with
  | zero => intro pc ls dn N J P h; cases h
  | succ fuel ih =>
    intro pc ls dn N J P h hf hw hd h20 hst hx hy hz
    have hf' := hf
    obtain ⟨hf13, hj, hc, hN, hn, hpl, hp⟩ := hf'
    have hcap := cap_le j
    obtain ⟨w1, w2, w3⟩ := hw pc hp
    unfold mrn at h
    split at h
    · rename_i hg
      obtain ⟨hpc, hln⟩ := hg
      have hdn : ¬ n ≤ dn := by omega
      have hop := kl_operation (b := b) (N := N) (J := J) (P := P) (nx := nx) hf13 hj hc hN hn hpl (by omega)
      rw [if_pos hp] at hop
      have st2 : ∀ {l : List Int64} {u : Int64}, stR (J 0 12) l → stR (up3 J 0 12 l.length u 0 12) (u :: l) := by
        intro l u hq
        refine ⟨up3_s, ?_⟩
        rw [up3_rL]
        exact stR_up l _ (Nat.le_refl _) hq
      have j1 : ∀ {i : Nat} {u : Int64} {p : Nat}, up3 J 0 12 i u 1 12 p = J 1 12 p := by intro i u p; rw [up3_k (by decide)]
      -- one go, then the rest
      have go : ∀ {N1 : cN} {J1 : cJ} {pc1 : Nat} {ls1 : List Int64}, N 3 j pc ≠ nI 16 → Cl 19 [.ref (fr 12)] (cpic b N J P) nx = some ((cpic b N1 J1 P, nx, 0, 0), .inl none) → frM N N1 J J1 P P → mrn (N 3 j) (N 4 j) x y z fuel pc1 ls1 = some v → pc < pc1 → pc1 < n → N1 19 12 0 = nI pc1 → N1 20 12 0 = nI ls1.length → stR (J1 0 12) ls1 → (∀ p, J1 1 12 p = J 1 12 p) →
          ∃ N' J' P', frM N N' J J' P P' ∧ Ev 21 25 [some (.ref (fr 12)), some (.ref (12 + 3 * j)), some (.long x), none, some (.long y), none, some (.long z), none, some (.int (nI dn))] [] (cpic b N J P, nx, 0, 0) ((cpic b N' J' P', nx, 0, 0), .inl (some (.long v))) := by
        intro N1 J1 pc1 ls1 h16 hgo hfr hm hlt hpn e19 e20 est ej
        have k2 : N1 2 j = N 2 j := hfr.1 2 j (by omega)
        have k3 : N1 3 j = N 3 j := hfr.1 3 j (by omega)
        have k4 : N1 4 j = N 4 j := hfr.1 4 j (by omega)
        obtain ⟨N', J', P', i1, i2⟩ := ih pc1 ls1 (dn + 1) N1 J1 P (by rw [k3, k4]; exact hm) ⟨hf13, hj, hc, by rw [k2]; exact hN, hn, e19, hpn⟩ (by unfold fwd; rw [k3, k4]; exact hw) (by omega) e20 est (by rw [ej]; exact hx) (by rw [ej]; exact hy) (by rw [ej]; exact hz)
        refine ⟨N', J', P', hfr.trans i1, ?_⟩
        refine eX2_outcome_25.mpr ?_
        simp (disch := first | omega | (simp only [cat_i, cat_r, ri_r, ri_0, tkv_r, sgv_r, cdv_r]; done)) only [eX2_outcome_27, eX2_outcome_27n, eX2_outcome_27t, eX2_outcome_27s, eX2_outcome_27c, eX2_outcome_28, eX2_outcome_31, eX2_outcome_34, eX2_outcome_35, eX2_outcome_38, eX2_outcome_40, eX2_outcome_43, eX2_outcome_44, eX2_outcome_47, eX2_outcome_50, ↓reduceIte, Evk_some, Evh_some, Evn_some, Evr_v, Evr_n, mk_i, mk_r, mk_0, mk_n, mk_l, mc0, mc1, mc2, mc3, mc4, mi_obj, Bool.and_self, Bool.true_and, Nat.add_zero, Nat.zero_add, nI_add, pk_mul, pk_sub, Nat.add_sub_cancel, eq_self, if_true, if_false, n10, bI_t, bI_f, bI_0, Nat.reduceAdd, Nat.reduceMul, Nat.reduceSub, nI_eq, nI_ltI, nI_leI, Nat.reduceEqDiff, Nat.reduceLT, Nat.reduceDiv, Nat.reduceMod, Nat.reduceLeDiff, ci_Code, ci_Frame, ci_Task, ci_Segment, ci_Main, ci_Program, ci_Checker, ci_World, tkv_s, sgv_s, cdv_s, tkv_n, sgv_n, cdv_n, tkv_k, sgv_k, cdv_k, cg_Code_length, hN, hdn, hop, h16, hgo]
        exact i2
      by_cases h16 : N 3 j pc = nI 16
      · rw [if_pos h16] at h
        cases ls with
        | nil => cases h
        | cons v0 l =>
          simp only [List.head?_cons, Option.some.injEq] at h
          subst h
          simp only [List.length_cons] at hln h20
          have hv : J 0 12 l.length = v0 := hst.1
          refine ⟨up3 N 20 12 0 (nI l.length), J, P, frM.n (Or.inr rfl), ?_⟩
          refine eX2_outcome_25.mpr ?_
          simp (disch := first | omega | (simp only [cat_i, cat_r, ri_r, ri_0, tkv_r, sgv_r, cdv_r]; done)) only [eX2_outcome_27, eX2_outcome_27n, eX2_outcome_27t, eX2_outcome_27s, eX2_outcome_27c, eX2_outcome_28, eX2_outcome_31, eX2_outcome_34, eX2_outcome_35, eX2_outcome_38, eX2_outcome_40, eX2_outcome_43, eX2_outcome_44, eX2_outcome_47, eX2_outcome_50, eX2_outcome_53, eX2_outcome_54, eX2_outcome_57, ↓reduceIte, Evk_some, Evh_some, Evn_some, Evr_v, Evr_n, mk_i, mk_r, mk_0, mk_n, mk_l, mc0, mc1, mc2, mc3, mc4, mi_obj, Bool.and_self, Bool.true_and, Nat.add_zero, Nat.zero_add, nI_add, pk_mul, pk_sub, Nat.add_sub_cancel, eq_self, if_true, if_false, n10, bI_t, bI_f, bI_0, Nat.reduceAdd, Nat.reduceMul, Nat.reduceSub, nI_eq, nI_ltI, nI_leI, Nat.reduceEqDiff, Nat.reduceLT, Nat.reduceDiv, Nat.reduceMod, Nat.reduceLeDiff, ci_Code, ci_Frame, ci_Task, ci_Segment, ci_Main, ci_Program, ci_Checker, ci_World, tkv_s, sgv_s, cdv_s, tkv_n, sgv_n, cdv_n, tkv_k, sgv_k, cdv_k, cg_Code_length, hN, hdn, hop, h16, kl_pop hf13 h20 (show l.length < 7 by omega), hv]
      · rw [if_neg h16] at h
        have hp1 := w1 h16
        by_cases h0 : N 3 j pc = nI 0
        · rw [if_pos h0] at h
          exact go h16 (kl_go_push hf h0 rfl h20 (by omega)) (((frM.n (Or.inl rfl)).trans (frM.n (Or.inr rfl))).trans (frM.j (Or.inl rfl))) h (by omega) hp1 ((congrFun (congrFun (up3_k (by decide)) _) _).trans up3_s) up3_s (st2 hst) (fun p => j1)
        · rw [if_neg h0] at h
          by_cases h1 : N 3 j pc = nI 1
          · rw [if_pos h1] at h
            obtain ⟨a, ha, ha4⟩ := w3 h1
            have hval : (if N 4 j pc = nI 0 then x else if N 4 j pc = nI 1 then y else z) = J 1 12 a := by
              rw [ha4]
              rcases (show a = 0 ∨ a = 1 ∨ a = 2 by omega) with rfl | rfl | rfl
              · rw [if_pos rfl]; exact hx.symm
              · rw [if_neg (by decide), if_pos rfl]; exact hy.symm
              · rw [if_neg (by decide), if_neg (by decide)]; exact hz.symm
            rw [hval] at h
            exact go h16 (kl_go_load hf h1 ha4 (by omega) h20 (by omega)) (((frM.n (Or.inl rfl)).trans (frM.n (Or.inr rfl))).trans (frM.j (Or.inl rfl))) h (by omega) hp1 ((congrFun (congrFun (up3_k (by decide)) _) _).trans up3_s) up3_s (st2 hst) (fun p => j1)
          · rw [if_neg h1] at h
            by_cases h5 : nI 5 ≤ N 3 j pc ∧ N 3 j pc ≤ nI 10
            · rw [if_pos h5] at h
              obtain ⟨o, o1, o2, ho⟩ := nI_btw (by omega) (by omega) h5.1 h5.2
              cases ls with
              | nil => cases h
              | cons v1 ls =>
                cases ls with
                | nil => cases h
                | cons v2 l =>
                  simp only [List.length_cons] at hln h20
                  have e1 : J 0 12 (l.length + 1) = v1 := hst.1
                  have e2 : J 0 12 l.length = v2 := hst.2.1
                  have hcl : (N 3 j pc).toNatClampNeg = o := by rw [ho]; exact nI_clamp (by omega)
                  dsimp only at h
                  rw [hcl] at h
                  have hgo := kl_go_bin (b := b) (J := J) (nx := nx) hf ho o1 o2 h20 (by omega)
                  rw [e1, e2] at hgo
                  exact go h16 hgo (((((frM.n (Or.inl rfl)).trans (frM.n (Or.inr rfl))).trans (frM.n (Or.inr rfl))).trans (frM.n (Or.inr rfl))).trans (frM.j (Or.inl rfl))) h (by omega) hp1 (by rw [up3_k (by decide), up3_k (by decide), up3_k (by decide)]; exact up3_s) up3_s (st2 hst.2.2) (fun p => j1)
            · rw [if_neg h5] at h
              by_cases h17 : N 3 j pc = nI 17
              · rw [if_pos h17] at h
                cases ls with
                | nil => cases h
                | cons v1 l =>
                  simp only [List.length_cons] at hln h20
                  have e1 : J 0 12 l.length = v1 := hst.1
                  have hgo := kl_go_dup (b := b) (J := J) (nx := nx) hf h17 h20 (by omega)
                  rw [e1] at hgo
                  exact go h16 hgo (((frM.n (Or.inl rfl)).trans (frM.n (Or.inr rfl))).trans (frM.j (Or.inl rfl))) h (by omega) hp1 ((congrFun (congrFun (up3_k (by decide)) _) _).trans up3_s) up3_s (st2 (l := v1 :: l) hst) (fun p => j1)
              · rw [if_neg h17] at h
                by_cases h18 : N 3 j pc = nI 18
                · rw [if_pos h18] at h
                  cases ls with
                  | nil => cases h
                  | cons v1 l =>
                    simp only [List.length_cons] at hln h20
                    exact go h16 (kl_go_pop hf h18 h20 (by omega)) ((frM.n (Or.inl rfl)).trans (frM.n (Or.inr rfl))) h (by omega) hp1 ((congrFun (congrFun (up3_k (by decide)) _) _).trans up3_s) up3_s hst.2 (fun p => rfl)
                · rw [if_neg h18] at h
                  by_cases h12 : N 3 j pc = nI 12
                  · rw [if_pos h12] at h
                    obtain ⟨a, a1, a2, a3⟩ := w2 h12
                    cases ls with
                    | nil => cases h
                    | cons v1 l =>
                      simp only [List.length_cons] at hln h20
                      have e1 : J 0 12 l.length = v1 := hst.1
                      have hcl : (N 4 j pc).toNatClampNeg = a := by rw [a1]; exact nI_clamp (by omega)
                      dsimp only at h
                      split at h
                      · rw [hcl] at h
                        by_cases hv : v1 = 0
                        · rw [if_pos hv] at h
                          exact go h16 (kl_go_zero1 hf h12 a1 h20 (by omega) (e1.trans hv)) (((frM.n (Or.inl rfl)).trans (frM.n (Or.inr rfl))).trans (frM.n (Or.inl rfl))) h a2 a3 up3_s (by rw [up3_k (by decide)]; exact up3_s) hst.2 (fun p => rfl)
                        · rw [if_neg hv] at h
                          exact go h16 (kl_go_zero0 hf h12 h20 (by omega) (by rw [e1]; exact hv)) ((frM.n (Or.inl rfl)).trans (frM.n (Or.inr rfl))) h (by omega) hp1 ((congrFun (congrFun (up3_k (by decide)) _) _).trans up3_s) up3_s hst.2 (fun p => rfl)
                      · cases h
                  · rw [if_neg h12] at h
                    cases h
    · cases h
theorem kl_outcome {j n : Nat} {x y z v : Int64} {fuel : Nat} (hj : j < 8) (hN : N 2 j 0 = nI n) (hn : n ≤ cap j) (h0 : 0 < n) (hw : fwd N j n) (h : mrn (N 3 j) (N 4 j) x y z fuel 0 [] = some v) : ∃ N' J' P', frM N N' J J' P P' ∧ Cl 21 [.ref (fr 12), .ref (12 + 3 * j), .long x, .long y, .long z] (cpic b N J P) nx = some ((cpic b N' J' P', nx, 0, 0), .inl (some (.long v))) := by
  obtain ⟨N', J', P', i1, i2⟩ := kv_outcome (b := b) (nx := nx) (n := n) fuel 0 [] 0 (up3 (up3 N 19 12 0 (nI 0)) 20 12 0 (nI 0)) (up3 (up3 (up3 (up3 (up3 (up3 J 1 12 1 0) 1 12 2 0) 1 12 3 0) 1 12 0 x) 1 12 1 y) 1 12 2 z) (upP P 5 12 (some j)) h ⟨by decide, hj, upP_s, hN, hn, rfl, h0⟩ hw (Nat.le_refl _) rfl trivial (by rw [up3_p (by decide), up3_p (by decide)]; exact up3_s) (by rw [up3_p (by decide)]; exact up3_s) up3_s
  refine ⟨N', J', P', ?_, Cl_of (x := mnI_X2_outcome) rfl ?_⟩
  · refine frM.trans ?_ i1
    refine frM.trans (N1 := N) (J1 := J) (P1 := upP P 5 12 (some j)) frM.p ?_
    refine frM.trans (N1 := up3 (up3 N 19 12 0 (nI 0)) 20 12 0 (nI 0)) (J1 := J) ((frM.n (Or.inl rfl)).trans (frM.n (Or.inr rfl))) ?_
    exact (((((frM.j (Or.inr rfl)).trans (frM.j (Or.inr rfl))).trans (frM.j (Or.inr rfl))).trans (frM.j (Or.inr rfl))).trans (frM.j (Or.inr rfl))).trans (frM.j (Or.inr rfl))
  · show Ev 21 0 [some (.ref (fr 12)), some (.ref (12 + 3 * j)), some (.long (x)), none, some (.long (y)), none, some (.long (z)), none, none] [] _ _
    simp (disch := first | omega | (simp only [cat_i, cat_r, ri_r, ri_0, tkv_r, sgv_r, cdv_r]; done)) only [eX2_outcome_0, eX2_outcome_1, eX2_outcome_1n, eX2_outcome_1t, eX2_outcome_1s, eX2_outcome_1c, eX2_outcome_2, eX2_outcome_3, eX2_outcome_6, eX2_outcome_7, eX2_outcome_10, eX2_outcome_11, eX2_outcome_13, eX2_outcome_14, eX2_outcome_15, eX2_outcome_18, eX2_outcome_19, eX2_outcome_21, eX2_outcome_22, eX2_outcome_23, ↓reduceIte, Evk_some, Evh_some, Evn_some, Evr_v, Evr_n, mk_i, mk_r, mk_0, mk_n, mk_l, mc0, mc1, mc2, mc3, mc4, mi_obj, Bool.and_self, Bool.true_and, Nat.add_zero, Nat.zero_add, nI_add, pk_mul, pk_sub, Nat.add_sub_cancel, eq_self, if_true, if_false, n10, bI_t, bI_f, bI_0, Nat.reduceAdd, Nat.reduceMul, Nat.reduceSub, nI_eq, nI_ltI, nI_leI, Nat.reduceEqDiff, Nat.reduceLT, Nat.reduceDiv, Nat.reduceMod, Nat.reduceLeDiff, ci_Code, ci_Frame, ci_Task, ci_Segment, ci_Main, ci_Program, ci_Checker, ci_World, tkv_s, sgv_s, cdv_s, tkv_n, sgv_n, cdv_n, tkv_k, sgv_k, cdv_k, kl_fbegin (show 12 < 13 by omega), cg_Frame_locals, cs_locals]
    exact i2
end KC
