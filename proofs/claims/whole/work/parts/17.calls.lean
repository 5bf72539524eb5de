section MNC
variable {p : Program} {l : Launch} {e : Env} {R : Room} {s : State} {m : MethodId} {args : Array Value} {below : List Frame} {meth : Method} {c : Code} {Q : State → Prop} {D : va_G} {ρ : Nat → Nat} {z0 : Nat} {H : Heap} {locs : List Loc}
theorem mn_thr_spec {idx is ic k : Nat} (h : mn_thr idx is ic = some k) : (∃ tx, mn_txT.lookup is = some tx) ∧ ((k = 0 ∧ idx = 32 ∧ ic = 36) ∨ (k = 1 ∧ idx = 51 ∧ ic = 55) ∨ (k = 2 ∧ idx = 143 ∧ ic = 147)) := by
  unfold mn_thr at h
  split at h
  · rename_i hi
    refine ⟨Option.isSome_iff_exists.mp hi, ?_⟩
    split at h
    · rename_i hc; cases h; exact Or.inl ⟨rfl, hc⟩
    · split at h
      · rename_i hc; cases h; exact Or.inr (Or.inl ⟨rfl, hc⟩)
      · split at h
        · rename_i hc; cases h; exact Or.inr (Or.inr ⟨rfl, hc⟩)
        · cases h
  · cases h
theorem mn_exw {k : Nat} (hk : k < 3) : Cond.initialized (mn_exn k) ∈ mn_uw ∧ Cond.castable (mn_exn k) (mn_exn k) ∈ mn_uw ∧ Bundle.fit (mn_exn k) = true := by
  have key : ∀ w ∈ mnV_x, w ∈ mn_uw := mn_uw_id mnVW_x
  match k, hk with
  | 0, _ => exact ⟨key _ (List.mem_of_getElem? (i := 9) rfl), key _ (List.mem_of_getElem? (i := 3) rfl), by decide +kernel⟩
  | 1, _ => exact ⟨key _ (List.mem_of_getElem? (i := 10) rfl), key _ (List.mem_of_getElem? (i := 4) rfl), by decide +kernel⟩
  | 2, _ => exact ⟨key _ (List.mem_of_getElem? (i := 11) rfl), key _ (List.mem_of_getElem? (i := 5) rfl), by decide +kernel⟩
theorem mn_cats_map (st : List Value) : ((st.map (mn_v ρ)).map fun v => v.category).sum = mn_cats st := by
  unfold mn_cats
  rw [List.map_map]
  congr 1
  exact List.map_congr_left (fun v _ => mn_cat ρ v)
theorem mn_end_thr {M : Nat} {x : mn_I} (hM : mn_all[M]? = some x) (C : mn_C p l s m args meth c (mi_o x) (mi_i x) (mi_c x) (mi_L x)) (G : mn_G D ρ z0 s) (htab : c.exceptionTable.toList = tableOf (mn_hh M)) (hRf : mi_d x ≤ R.frames) (hRl : 41 * mi_d x ≤ R.locals) {hf : mn_S} {k : Nat} (hRc : hf.2.2.1 ≤ R.cells) (hRs : hf.2.2.2 ≤ R.slots) : mn_End p l e R s m args below meth c (vx_MQ below (fun _ _ _ _ => False) (mn_XC D ρ z0 hf k) args s hf.2.2.1 hf.2.2.2 (fun q => z0 ≤ q)) D ρ z0 M x (hf, .inr k) := by
  intro pc i st h H locs la hi ht hH hS hla
  obtain ⟨hx, hb, hml, hown, hts, hin2, hlk, htr⟩ := C
  have hd := mn_dec hM hi
  unfold mn_term at ht
  split at ht
  · split at ht <;> cases ht
  · split at ht
    · split at ht <;> cases ht
    · cases ht
  · split at ht
    · split at ht <;> cases ht
    · cases ht
  · split at ht
    · split at ht <;> cases ht
    · cases ht
  · rename_i idx
    split at ht
    · rename_i is ic h3 h4 h6 h9
      split at ht
      · rename_i kk hk
        split at ht
        · rename_i hc
          obtain ⟨ho, hhh, hd6, hcat⟩ := hc
          cases ht
          obtain ⟨⟨tx, htx⟩, hkk⟩ := mn_thr_spec hk
          obtain ⟨hK, hZ1, hZ2, hU, hN, hNc, hTx⟩ := G
          obtain ⟨sa, hsa⟩ := hTx (is, tx) (mn_lk htx)
          rw [ho] at hown
          have hk3 : k < 3 := by omega
          obtain ⟨w1, w2, w3⟩ := mn_exw hk3
          have key : ∀ w ∈ mnV_x, w ∈ mn_uw := mn_uw_id mnVW_x
          by_cases hk2 : k = 2
          · subst hk2
            have hii : idx = 143 ∧ ic = 147 := by omega
            obtain ⟨rfl, rfl⟩ := hii
            refine wt_throw (names := ["java/lang/Exception"]) (sup := "java/lang/RuntimeException") (text := tx) (is := is) (ic := 147) (sa := sa) (jj := 13) (bytes := prog_19_method_4_code) hx hb htr hown (by decide +kernel) (by decide +kernel) (by decide +kernel) (by decide +kernel) w3 (by decide +kernel) (by decide +kernel) (hts _ (key _ (List.mem_of_getElem? (i := 8) rfl))) (hts _ w1) hsa (fun w hw => hts _ (mn_atS_2 w hw)) (List.forall_mem_cons.mpr ⟨rfl, List.forall_mem_cons.mpr ⟨rfl, mn_otS_2⟩⟩) hU hN hS (hla.trans hml.symm) hd (mn_dec hM h3) (mn_dec hM h4) (mn_dec hM h6) (mn_dec hM h9) ?_ ?_ ?_ hRc hRs hlk ?_ hS.2.2 (Nat.le_refl _) (Nat.le_refl _)
            · intro z hz
              rw [htab, hhh] at hz
              cases hz
            · show 1 + 4 < R.frames
              omega
            · rw [mn_cats_map]
              show mn_cats st + (13 * (1 + 2) + 43) ≤ R.locals
              omega
            · intro t h1 h2 h3'
              refine ⟨rfl, ⟨fun j ej hj => ?_, Nat.le_trans hH.2.1 h2, fun n hn => by cases hn⟩, Nat.le_trans hS.1 h2, fun q q1 q2 => ?_⟩
              · exact ((hH.1 j ej hj).kept (h3' _ (hH.1 j ej hj).lt)).moved h1
              · exact (h3' q (Nat.lt_of_lt_of_le q1 hS.1)).trans (hS.2.1 q q1 q2)
          have hall : (Cond.classLink RX7 idx (mn_exn k)).before args s = true ∧ (∀ w ∈ vx_atS RX7 ic (mn_exn k) mn_nm, w.before args s = true) ∧ (∀ w ∈ Cond.classLink RX7 idx (mn_exn k) :: Cond.initialized (mn_exn k) :: vx_atS RX7 ic (mn_exn k) mn_nm, vx_ot w = true) := by
            rcases hkk with ⟨rfl, rfl, rfl⟩ | ⟨rfl, rfl, rfl⟩ | ⟨rfl, rfl, rfl⟩
            · exact ⟨hts _ (key _ (List.mem_of_getElem? (i := 6) rfl)), fun w hw => hts _ (mn_atS_0 w hw), List.forall_mem_cons.mpr ⟨rfl, List.forall_mem_cons.mpr ⟨rfl, mn_otS_0⟩⟩⟩
            · exact ⟨hts _ (key _ (List.mem_of_getElem? (i := 7) rfl)), fun w hw => hts _ (mn_atS_1 w hw), List.forall_mem_cons.mpr ⟨rfl, List.forall_mem_cons.mpr ⟨rfl, mn_otS_1⟩⟩⟩
            · exact absurd rfl hk2
          refine vx_throwS (names := mn_nm) (text := tx) (is := is) (ic := ic) (sa := sa) hx hb htr hown w3 (by decide +kernel) hall.1 (hts _ w1) hsa hall.2.1 hall.2.2 hU hN hS (hla.trans hml.symm) hd (mn_dec hM h3) (mn_dec hM h4) (mn_dec hM h6) (mn_dec hM h9) ?_ ?_ ?_ hRc hRs hlk ?_ hS.2.2 (Nat.le_refl _) (Nat.le_refl _)
          · intro z hz
            rw [htab, hhh] at hz
            cases hz
          · show 2 + 3 < R.frames
            omega
          · rw [mn_cats_map]
            show mn_cats st + (13 * (2 + 1) + 43) ≤ R.locals
            omega
          · intro t h1 h2 h3'
            refine ⟨rfl, ⟨fun j ej hj => ?_, Nat.le_trans hH.2.1 h2, fun n hn => by cases hn⟩, Nat.le_trans hS.1 h2, fun q q1 q2 => ?_⟩
            · exact ((hH.1 j ej hj).kept (h3' _ (hH.1 j ej hj).lt)).moved h1
            · exact (h3' q (Nat.lt_of_lt_of_le q1 hS.1)).trans (hS.2.1 q q1 q2)
        · cases ht
      · cases ht
    · cases ht
  · cases ht
/-- the judgement of n rounds of the small machine -/
def mn_sound (l : Launch) (D : va_G) (ρ : Nat → Nat) (z0 n : Nat) : Prop := ∀ (M : Nat) (x : mn_I), mn_all[M]? = some x → ∀ (pc : Nat) (ls : List (Option Value)) (st : List Value) (h : mn_S) (r : mn_Res), mn_run n M pc ls st h = some r → ls.length = mi_L x →
  ∀ (p : Program) (e : Env) (R : Room) (s : State) (m : MethodId) (args : Array Value) (below : List Frame) (meth : Method) (c : Code) (Q : State → Prop), mn_C p l s m args meth c (mi_o x) (mi_i x) (mi_c x) (mi_L x) → mn_G D ρ z0 s → c.exceptionTable.toList = tableOf (mn_hh M) → mi_d x ≤ R.frames → 41 * mi_d x ≤ R.locals → r.1.2.2.1 ≤ R.cells → r.1.2.2.2 ≤ R.slots →
    mn_End p l e R s m args below meth c Q D ρ z0 M x r → mn_J p l e R s m args below meth c Q D ρ z0 pc ls st h
theorem mn_body_C {M : Nat} {x : mn_I} {rm : Room} (hM : mn_all[M]? = some x) (htr : l.stackTraces = false) {s₁ : State} (B : BodyLoose p l (mi_y x) (headSpec (mn_cw M x :: mn_uw) rm) (mi_c x) (mi_L x) (mi_r x) e s m args below meth c s₁) (hml : c.maxLocals = mi_L x) : mn_C p l s m args meth c (mi_o x) (mi_i x) (mi_c x) (mi_L x) := by
  have hts := atoms_spec (ws := mn_cw M x :: mn_uw) B.pre
  refine ⟨B.exec, B.bytes, hml, by rw [(mn_facts M x hM).2.1]; exact findClass_of_methodNamed B.named, fun w hw => hts w (List.mem_cons_of_mem _ hw), fun hi => ?_, B.notSynchronized, htr⟩
  rw [(name_of_methodNamed B.named B.method).1]
  unfold mi_i at hi
  exact eq_of_beq hi
theorem mn_met {n M : Nat} {x : mn_I} (IH : mn_sound l D ρ z0 n) (htr : l.stackTraces = false) (hM : mn_all[M]? = some x) (hnl : mn_nl M = true) {As : List Value} {pic : Nat → Option va_E} {nx : Option Nat} {hf : mn_S} {v : Option Value} (hr : mn_run n M 0 (mn_ent (mi_L x) As) [] (pic, nx, 0, 0) = some (hf, .inl v)) (hlen : (mn_sl1 As).length ≤ mi_L x) :
    Met l (mi_y x) (mn_cw M x :: mn_uw) (mn_Rm x hf) (mn_Pc D ρ z0 As pic nx) (mn_Qc D ρ z0 hf v) hf.2.2.1 hf.2.2.2 (fun q => z0 ≤ q) := by
  obtain ⟨F1, F2, F3⟩ := mn_facts M x hM
  have F3 := (F3.resolve_left (fun q => by simp [mn_nl, q] at hnl)).resolve_left (fun q => by simp [mn_nl, q] at hnl)
  obtain ⟨f1, f2, ⟨f3, f4⟩, f5⟩ := F3
  by_cases hh : mn_hh M = []
  · refine Met.ofW (cc := mi_c x) (maxL := mi_L x) (ret := mi_r x) f3 (by unfold mn_cw; rw [hh]) ?_
    intro p e s m args below meth c s₁ B hml hP
    obtain ⟨rfl, G, hH⟩ := hP
    have C := mn_body_C hM htr B hml
    have htab : c.exceptionTable.toList = tableOf (mn_hh M) := by
      have hcw : (Cond.code (mi_y x) (mi_c x) (mi_L x) (mi_r x)).before (As.map (mn_v ρ)).toArray s = true := atoms_spec (ws := mn_cw M x :: mn_uw) B.pre _ (by unfold mn_cw; rw [hh]; exact List.mem_cons_self)
      obtain ⟨meth9, c9, h1, h2, -, -, -, -, h7, -⟩ := Cond.code_spec B.named hcw
      cases Option.some.inj (h1.symm.trans B.method)
      cases Option.some.inj (h2.symm.trans (Stand.of_body B).code)
      rw [Array.isEmpty_iff.mp h7, hh]
      rfl
    rw [lg_entry_eq]
    exact IH M x hM 0 _ [] _ _ hr (mn_ent_len hlen) p e _ s m _ below meth c _ C G htab (Nat.le_refl _) (Nat.le_refl _) (Nat.le_refl _) (Nat.le_refl _) (mn_end_ret hM C B.returns) s.heap [] _ hH va_S.rf (mn_ent_ok hlen)
  · have hcw0 : mn_cw M x = .codeWith (mi_y x) (mi_c x) (mi_L x) (mi_r x) (mn_hh M) := by
      unfold mn_cw
      cases hq : mn_hh M with
      | nil => exact absurd hq hh
      | cons a t => rfl
    refine va_MetW (cc := mi_c x) (maxL := mi_L x) (ret := mi_r x) (hh := mn_hh M) f3 (by rw [hcw0]) ?_
    intro p e s m args below meth c s₁ B hml hP
    obtain ⟨rfl, G, hH⟩ := hP
    have C := mn_body_C hM htr B hml
    have htab : c.exceptionTable.toList = tableOf (mn_hh M) := vx_table (x := mi_y x) B (atoms_spec (ws := mn_cw M x :: mn_uw) B.pre _ (by rw [hcw0]; exact List.mem_cons_self))
    rw [lg_entry_eq]
    exact IH M x hM 0 _ [] _ _ hr (mn_ent_len hlen) p e _ s m _ below meth c _ C G htab (Nat.le_refl _) (Nat.le_refl _) (Nat.le_refl _) (Nat.le_refl _) (mn_end_ret hM C B.returns) s.heap [] _ hH va_S.rf (mn_ent_ok hlen)
theorem mn_metX {n M : Nat} {x : mn_I} (IH : mn_sound l D ρ z0 n) (htr : l.stackTraces = false) (hM : mn_all[M]? = some x) (hnl : mn_nl M = true) (hh : mn_hh M = []) {As : List Value} {pic : Nat → Option va_E} {nx : Option Nat} {hf : mn_S} {k : Nat} (hr : mn_run n M 0 (mn_ent (mi_L x) As) [] (pic, nx, 0, 0) = some (hf, .inr k)) (hlen : (mn_sl1 As).length ≤ mi_L x) :
    vx_Met l (mi_y x) (mn_cw M x :: mn_uw) (mn_Rm x hf) (mn_Pc D ρ z0 As pic nx) (fun _ _ _ _ => False) (mn_XC D ρ z0 hf k) hf.2.2.1 hf.2.2.2 (fun q => z0 ≤ q) := by
  obtain ⟨F1, F2, F3⟩ := mn_facts M x hM
  have F3 := (F3.resolve_left (fun q => by simp [mn_nl, q] at hnl)).resolve_left (fun q => by simp [mn_nl, q] at hnl)
  obtain ⟨f1, f2, ⟨f3, f4⟩, f5⟩ := F3
  refine vx_ofW (cc := mi_c x) (maxL := mi_L x) (ret := mi_r x) f3 (by unfold mn_cw; rw [hh]) ?_
  intro p e s m args below meth c s₁ B hml hno hP
  obtain ⟨rfl, G, hH⟩ := hP
  have C := mn_body_C hM htr B hml
  have htab : c.exceptionTable.toList = tableOf (mn_hh M) := by
    rw [hh]
    exact List.eq_nil_iff_forall_not_mem.mpr (fun z hz => hno z hz)
  rw [lg_entry_eq]
  exact IH M x hM 0 _ [] _ _ hr (mn_ent_len hlen) p e _ s m _ below meth c _ C G htab (Nat.le_refl _) (Nat.le_refl _) (Nat.le_refl _) (Nat.le_refl _) (mn_end_thr hM C G htab (Nat.le_refl _) (Nat.le_refl _) (Nat.le_refl _) (Nat.le_refl _)) s.heap [] _ hH va_S.rf (mn_ent_ok hlen)
/-- behind a call that returned -/
theorem mn_after {h hf : mn_S} {v : Option Value} {pc : Nat} {la : Array Slot} {ls : List (Option Value)} {st0 : List Value} {rest : List Value} {a : Array Value} (hr : va_Run p l e R s m args below meth c H locs h.2.2.1 h.2.2.2 hf.2.2.1 hf.2.2.2 (F0 m pc la st0) (rest.map (mn_v ρ)) (mn_Qc D ρ z0 hf v a) (fun q => z0 ≤ q)) (hS : va_S (fun q => z0 ≤ q) s.heap H locs) (hL : mn_L ρ la ls)
    (k : mn_J p l e R s m args below meth c Q D ρ z0 (pc + 3) ls (v.toList ++ rest) (hf.1, hf.2.1, h.2.2.1 + hf.2.2.1, h.2.2.2 + hf.2.2.2)) : W p l e R s m args below meth c H locs h.2.2.1 h.2.2.2 Q (F0 m pc la st0) := by
  intro T hT X
  obtain ⟨v', st₀, t, T', L, h0, X', hL', e1, e2, ⟨hv, hH', hF⟩, st⟩ := hr T hT X
  cases hv
  obtain ⟨q1, q2, q3⟩ := vx_keep h0 e1 hS (fun _ _ z => z) (fun _ z => z) hL' hF
  have hal : t.vm.Alike s.vm := by rw [← e2]; exact X'.warmed.alike.symm
  have hH2 : mn_H s D ρ z0 (hf.1, hf.2.1, h.2.2.1 + hf.2.2.1, h.2.2.2 + hf.2.2.2) T'.heap := by rw [e1]; exact hH'.moved hal
  obtain ⟨t2, a1, b1⟩ := k T'.heap (locs ++ L) la hH2 q3 hL T' rfl X'
  refine ⟨t2, st t2 ?_, b1⟩
  have e3 : (v.map (mn_v ρ)).toList ++ rest.map (mn_v ρ) = (v.toList ++ rest).map (mn_v ρ) := by cases v <;> simp
  rw [e3]
  exact a1
end MNC
