/-! THE CLAIM OUT OF ONE WALK OF THE LAW'S BODY. Your part is whole_start (and what it stands on); all else here is the same for every law, but numbers. -/
def R_law : String := "VersionForksLaw"
def lw_P (b : Addr) (xs : List Int32) (args : Array Value) (s : State) : Prop := args = #[.ref b] ∧ s.IntsAt b xs ∧ xs.length ≤ 2048 ∧ (Jvm.Cond.and given_1 narrow_1).before args s = true
def lw_Q (_ : Array Value) (s : State) (o : Outcome) (t : State) : Prop := o = .returned (some (.int 1)) ∧ Framed s o t [] 601024 7293034
def lw_Z (below : List Frame) (a : Array Value) (s : State) : State → Prop := fun t => ∃ o, t.status = .running ∧ Ended t below o ∧ lw_Q a s o t
/-- the law's own end, with 1 on the stack, nothing written that was there before, its room as the claim has it -/
theorem lw_ret {p : Program} {l : Launch} {e : Env} {s : State} {m : MethodId} {below : List Frame} {meth : Method} {c : Code} {b : Nat} (hx : p.tables.exec = Jvm.exec) (hb : c.code = code) (hr : meth.sig.returnType = ret) (hlocks : meth.locks = false) {pc : Nat} {H : Heap} {ls : Array Slot} (hdg : decode code pc = .ok (.ireturn, 1)) : W p l e room_1 s m #[Value.ref b] below meth c H [] 601024 7293034 (lw_Z below #[Value.ref b] s) (F0 m pc ls [.int 1]) := by
  intro T hT X
  obtain ⟨fs, hret, hrun, hended, hW, hframe⟩ := X.leave (v := some (.int 1)) (hlocks := hlocks) (fun h => by rw [hr] at h; cases h)
  have hmeth' : T.vm.method? m = some meth := X.method'
  refine ⟨T.setFrames fs, ?_, .returned (some (.int 1)), hrun, hended, rfl, ⟨_, rfl⟩, hW, hframe⟩
  jvm_step X.here [X.here.top, hx, hb, hdg, hmeth', hr, ret, narrow_b1]
  (try refine ⟨rfl, ?_⟩); (try refine ⟨rfl, ?_⟩)
  first | (intro acts; rw [hret _ acts rfl rfl rfl]) | rw [hret _ _ rfl rfl rfl]
  exact Steps.refl _
/-- what holds at the law's entry: the machine, the code, the tables' words (any of lw_tbl by 'hts w (by decide +kernel)'), the script of L ints xs at the cell b, what the Statement gives of the start (any of its parts by flat_of_before) -/
def lw_At (l : Launch) (p : Program) (s : State) (m : MethodId) (meth : Method) (c : Code) (b L : Nat) (xs : Nat → Int32) : Prop :=
  p.tables.exec = Jvm.exec ∧ c.code = code ∧ meth.sig.returnType = ret ∧ c.maxLocals = 8 ∧ s.vm.findClass R_law = some m.cls ∧ (∀ w ∈ lw_tbl, w.before #[Value.ref b] s = true) ∧ va_X b L xs s s.heap ∧ b < s.heap.size ∧ meth.locks = false ∧ (Jvm.Cond.and given_1 narrow_1).before #[Value.ref b] s = true ∧ l.stackTraces = false ∧ c.exceptionTable.toList = []
/-- the old arrays, and nothing else, where the law begins -/
def mn_tk : List Int32 := [0, 0, 1, 0, 1, 2, 2, 2, 2, 2, 2, 0, 1, 1, 1, 1, 1, 1, 1]
def mn_pu : List Int32 := [1, 1, 0, 1, 0, 1, 1, 1, 1, 1, 1, 0, 0, 1, 1, 0, 0, 2, 0]
def mn_p0 (L : Nat) (xs : Nat → Int32) : Nat → Option va_E := fun k => match k with
  | 0 => some (.inl (0, L, .inl xs))
  | 1 => some (.inl (0, 19, .inl (fun j => mn_tk.getD j 0)))
  | 2 => some (.inl (0, 19, .inl (fun j => mn_pu.getD j 0)))
  | _ => none
set_option maxRecDepth 20000 in
theorem mn_laysW : [Cond.laysStatic RX7 "TAKES" "[I", Cond.laysStatic RX7 "PUTS" "[I", Cond.laysStatic Bundle.tN "UNASSIGNED_STACK" Bundle.steD, Cond.laysStatic Bundle.tN "SUPPRESSED_SENTINEL" Bundle.listD, Cond.initialized Bundle.tN] = [349, 355, 433, 435, 55].filterMap (fun i => lw_tbl[i]?) := by decide +kernel
theorem mn_lays {w : Cond} (h : w ∈ [Cond.laysStatic RX7 "TAKES" "[I", Cond.laysStatic RX7 "PUTS" "[I", Cond.laysStatic Bundle.tN "UNASSIGNED_STACK" Bundle.steD, Cond.laysStatic Bundle.tN "SUPPRESSED_SENTINEL" Bundle.listD, Cond.initialized Bundle.tN]) : w ∈ lw_tbl := by
  rw [mn_laysW] at h
  obtain ⟨i, -, hi⟩ := List.mem_filterMap.mp h
  exact List.mem_of_getElem? hi
theorem mn_tx_in : ∀ q ∈ mn_txT, Cond.stringRef RX7 q.1 q.2 ∈ lw_tbl := by
  intro q hq
  have h : Cond.stringRef RX7 q.1 q.2 ∈ mn_txT.map (fun q => Cond.stringRef RX7 q.1 q.2) := List.mem_map_of_mem hq
  rw [mn_txW] at h
  obtain ⟨i, -, hi⟩ := List.mem_filterMap.mp h
  exact List.mem_of_getElem? hi
theorem mn_flatT : (List.range 19).all (fun j => decide (Cond.eq (.elem (.static RX7 "TAKES" "[I") (.int (Int32.ofNat j))) (.int (mn_tk.getD j 0)) ∈ flatC (Jvm.Cond.and given_1 narrow_1))) = true := by decide +kernel
theorem mn_flatP : (List.range 19).all (fun j => decide (Cond.eq (.elem (.static RX7 "PUTS" "[I") (.int (Int32.ofNat j))) (.int (mn_pu.getD j 0)) ∈ flatC (Jvm.Cond.and given_1 narrow_1))) = true := by decide +kernel
theorem mn_flatX : [Cond.arrayOf (.static RX7 "TAKES" "[I") .int, Cond.eq (.length (.static RX7 "TAKES" "[I")) (.int 19), Cond.arrayOf (.static RX7 "PUTS" "[I") .int, Cond.eq (.length (.static RX7 "PUTS" "[I")) (.int 19), Cond.isRef (.static Bundle.tN "UNASSIGNED_STACK" Bundle.steD), Cond.isRef (.static Bundle.tN "SUPPRESSED_SENTINEL" Bundle.listD), Cond.not (.castable (mn_exn 0) (mn_exn 1)), Cond.not (.castable (mn_exn 1) (mn_exn 0)), Cond.not (.castable (mn_exn 1) (mn_exn 2))].all (fun w => decide (w ∈ flatC (Jvm.Cond.and given_1 narrow_1))) = true := by decide +kernel
theorem mn_flatS : mn_txT.all (fun q => decide (Cond.exactly (.string RX7 q.1) "java/lang/String" ∈ flatC (Jvm.Cond.and given_1 narrow_1))) = true := by decide +kernel
theorem mn_getI {l : List Int32} {j : Nat} (h : j < l.length) : (fun j => Value.int (l.getD j 0)) j = Value.int (l.getD j 0) := rfl
/-- the world where the law begins -/
theorem mn_begin {l : Launch} {p : Program} {s : State} {m : MethodId} {meth : Method} {c : Code} {b L : Nat} {xs : Nat → Int32} (C0 : lw_At l p s m meth c b L xs) : ∃ (D : va_G) (ρ : Nat → Nat), mn_R ρ s.heap.size ∧ mn_G D ρ s.heap.size s ∧ mn_H s D ρ s.heap.size (mn_p0 L xs, some 3, 0, 0) s.heap ∧ ρ 0 = b := by
  obtain ⟨hx, hb, hr, hml, hown, hts, hX, hbl, hlk, hgv, htr, htab⟩ := C0
  have hfl := flat_of_before _ hgv
  have hA : ∀ a : Nat, a < s.heap.size → ¬ (fun q => s.heap.size ≤ q) a := fun a h q => Nat.not_le.mpr h q
  have htu : ∀ w ∈ mn_uw, w.before #[Value.ref b] s = true := fun w h => hts w (List.mem_filter.mp h).1
  have hfX : ∀ w, w ∈ [Cond.arrayOf (.static RX7 "TAKES" "[I") .int, Cond.eq (.length (.static RX7 "TAKES" "[I")) (.int 19), Cond.arrayOf (.static RX7 "PUTS" "[I") .int, Cond.eq (.length (.static RX7 "PUTS" "[I")) (.int 19), Cond.isRef (.static Bundle.tN "UNASSIGNED_STACK" Bundle.steD), Cond.isRef (.static Bundle.tN "SUPPRESSED_SENTINEL" Bundle.listD), Cond.not (.castable (mn_exn 0) (mn_exn 1)), Cond.not (.castable (mn_exn 1) (mn_exn 0)), Cond.not (.castable (mn_exn 1) (mn_exn 2))] → w.before #[Value.ref b] s = true := fun w h => hfl w (of_decide_eq_true (List.all_eq_true.mp mn_flatX w h))
  have hini7 : (Cond.initialized RX7).before #[Value.ref b] s = true := htu _ (mn_ini 7 (by decide))
  have hel : ∀ j : Nat, j < 19 → (Term.elem (.static RX7 "TAKES" "[I") (.int (Int32.ofNat j))).eval #[Value.ref b] s none [] s = some (.int (mn_tk.getD j 0)) := fun j hj => va_eqt (hfl _ (of_decide_eq_true (List.all_eq_true.mp mn_flatT j (List.mem_range.mpr hj))))
  have hep : ∀ j : Nat, j < 19 → (Term.elem (.static RX7 "PUTS" "[I") (.int (Int32.ofNat j))).eval #[Value.ref b] s none [] s = some (.int (mn_pu.getD j 0)) := fun j hj => va_eqt (hfl _ (of_decide_eq_true (List.all_eq_true.mp mn_flatP j (List.mem_range.mpr hj))))
  obtain ⟨t1, e1, hT1⟩ := va_Tof (f := fun j => .int (mn_tk.getD j 0)) (N := 19) (A := fun q => s.heap.size ≤ q) (by decide) (hfX _ (List.mem_of_getElem? (i := 0) rfl)) (va_eqt (hfX _ (List.mem_of_getElem? (i := 1) rfl))) hel hA
  obtain ⟨t2, e2, hT2⟩ := va_Tof (f := fun j => .int (mn_pu.getD j 0)) (N := 19) (A := fun q => s.heap.size ≤ q) (by decide) (hfX _ (List.mem_of_getElem? (i := 2) rfl)) (va_eqt (hfX _ (List.mem_of_getElem? (i := 3) rfl))) hep hA
  have h0 : ∀ ci : Nat, ∃ q : ClassId × (Nat → Nat), ci < 9 → u_Kn s (mn_own ci) (mn_T ci) (mn_N ci) q.1 q.2 := by
    intro ci
    by_cases hci : ci < 9
    · obtain ⟨-, hc2, -, -, hc5⟩ := mn_cls ci hci
      obtain ⟨c0, iS0, hK0⟩ := u_known (C := mn_own ci) (T := mn_T ci) (N := mn_N ci) (n := mn_N ci) htu hc2 (htu _ hc5)
      exact ⟨(c0, iS0), fun _ => hK0⟩
    · exact ⟨(0, fun _ => 0), fun h => absurd h hci⟩
  obtain ⟨ad, had⟩ := Classical.axiomOfChoice h0
  obtain ⟨ρ, hρ⟩ : ∃ ρ : Nat → Nat, ρ = fun k => if k = 0 then b else if k = 1 then t1 else if k = 2 then t2 else s.heap.size + (k - 3) := ⟨_, rfl⟩
  have r0 : ρ 0 = b := by rw [hρ]; rfl
  have r1 : ρ 1 = t1 := by rw [hρ]; rfl
  have r2 : ρ 2 = t2 := by rw [hρ]; rfl
  have r3 : ∀ k, 3 ≤ k → ρ k = s.heap.size + (k - 3) := by
    intro k hk
    rw [hρ]
    simp only
    rw [if_neg (by omega), if_neg (by omega), if_neg (by omega)]
  have l1 : t1 < s.heap.size := by obtain ⟨cell, h1, -⟩ := hT1; exact (Array.getElem?_eq_some_iff.mp h1).1
  have l2 : t2 < s.heap.size := by obtain ⟨cell, h1, -⟩ := hT2; exact (Array.getElem?_eq_some_iff.mp h1).1
  refine ⟨(fun ci => (ad ci).1, fun ci => (ad ci).2), ρ, ⟨fun i j hi hij => ?_, r3⟩, ⟨⟨fun ci q hq => ?_, fun k q hk => by simp at hk⟩, ?_, ?_, ?_, ?_, ⟨va_Nc.of (hfX _ (List.mem_of_getElem? (i := 6) rfl)), va_Nc.of (hfX _ (List.mem_of_getElem? (i := 7) rfl)), va_Nc.of (hfX _ (List.mem_of_getElem? (i := 8) rfl))⟩, fun q hq => ?_⟩, ⟨fun k ek hk => ?_, Nat.le_refl _, fun n hn => ?_⟩, r0⟩
  · rw [r3 i hi] at hij
    match j, hij with
    | 0, hij => rw [r0] at hij; omega
    | 1, hij => rw [r1] at hij; omega
    | 2, hij => rw [r2] at hij; omega
    | j + 3, hij => rw [r3 (j + 3) (by omega)] at hij; omega
  · have hci : ci < 9 := by have := (List.getElem?_eq_some_iff.mp hq).1; simpa using this
    have h1 := (mn_cls ci hci).1
    cases Option.some.inj (h1.symm.trans hq)
    exact had ci hci
  · rw [r1]; exact va_Zref (hts _ (mn_lays (List.mem_of_getElem? (i := 0) rfl))) hini7 e1 hA
  · rw [r2]; exact va_Zref (hts _ (mn_lays (List.mem_of_getElem? (i := 1) rfl))) hini7 e2 hA
  · exact vx_Zqof (hts _ (mn_lays (List.mem_of_getElem? (i := 2) rfl))) (hts _ (mn_lays (List.mem_of_getElem? (i := 4) rfl))) (hfX _ (List.mem_of_getElem? (i := 4) rfl)) hA
  · exact vx_Zqof (hts _ (mn_lays (List.mem_of_getElem? (i := 3) rfl))) (hts _ (mn_lays (List.mem_of_getElem? (i := 4) rfl))) (hfX _ (List.mem_of_getElem? (i := 5) rfl)) hA
  · have hexa := hfl _ (of_decide_eq_true (List.all_eq_true.mp mn_flatS q hq))
    obtain ⟨a, c', cA, kA, q1, -⟩ := Cond.exactly_spec (args := #[Value.ref b]) (first := s) (o := none) (s := s) (idx := []) (t := .string RX7 q.1) (cls := "java/lang/String") hexa
    exact ⟨a, vk_R.of (A := #[Value.ref b]) (hts _ (mn_tx_in q hq)) q1⟩
  · match k, hk with
    | 0, hk =>
      cases hk
      rw [r0]
      obtain ⟨scr, h1, h2, h3, h4, h5⟩ := hX
      exact ⟨by decide, scr, h1, h2, h3, ⟨by rw [h4]; exact Nat.le_refl _, by rw [h4]⟩, h5, fun z => absurd z (by decide)⟩
    | 1, hk =>
      cases hk
      rw [r1]
      obtain ⟨cell, h1, h2, h3, h4, h5, h6, -⟩ := hT1
      exact ⟨by decide, cell, h1, h2, h3, ⟨h4, h5⟩, h6, fun z => absurd z (by decide)⟩
    | 2, hk =>
      cases hk
      rw [r2]
      obtain ⟨cell, h1, h2, h3, h4, h5, h6, -⟩ := hT2
      exact ⟨by decide, cell, h1, h2, h3, ⟨h4, h5⟩, h6, fun z => absurd z (by decide)⟩
    | k + 3, hk => cases hk
  · cases hn
    exact ⟨by decide, rfl⟩
/-- THE LAW, out of a run of the small machine -/
theorem mn_law {p : Program} {e : Env} {s : State} {m : MethodId} {below : List Frame} {meth : Method} {c : Code} (l : Launch) {b L : Nat} {xs : Nat → Int32} (C0 : lw_At l p s m meth c b L xs) {n : Nat} {hf : mn_S} (hrun : mn_run n 147 0 (mn_ent 8 [.ref 0]) [] (mn_p0 L xs, some 3, 0, 0) = some (hf, .inl (some (.int 1)))) (hc1 : hf.2.2.1 ≤ 601024) (hs1 : hf.2.2.2 ≤ 7293034) :
    W p l e room_1 s m #[Value.ref b] below meth c s.heap [] 0 0 (lw_Z below #[Value.ref b] s) (entryFrame m ([Value.ref b] : List Value).toArray 8) := by
  obtain ⟨D, ρ, hρ, G, hH, r0⟩ := mn_begin C0
  obtain ⟨hx, hb, hr, hml, hown, hts, hX, hbl, hlk, hgv, htr, htab⟩ := C0
  have C : mn_C p l s m #[Value.ref b] meth c (mi_o mnI_L_law) (mi_i mnI_L_law) (mi_c mnI_L_law) (mi_L mnI_L_law) := ⟨hx, hb, hml, hown, fun w h => hts w (List.mem_filter.mp h).1, fun h => absurd h (by decide +kernel), hlk, htr⟩
  have hE : mn_End p l e room_1 s m #[Value.ref b] below meth c (lw_Z below #[Value.ref b] s) D ρ s.heap.size 147 mnI_L_law (hf, .inl (some (.int 1))) := by
    intro pc i st h H locs la hi ht hH' hS hla
    have hd := mn_dec (M := 147) (x := mnI_L_law) rfl hi
    unfold mn_term at ht
    split at ht
    · split at ht <;> cases ht
    · split at ht
      · split at ht
        · cases ht
          refine va_forget (fun q hq => hS.2.2 q hq) ?_
          refine W.widen (k := 601024) (n := 7293034) hc1 hs1 ?_
          exact lw_ret hx hb hr hlk hd
        · cases ht
      · cases ht
    · split at ht
      · split at ht <;> cases ht
      · cases ht
    · split at ht
      · rename_i hrt
        exact absurd hrt (by intro h9; cases h9)
      · cases ht
    · exfalso
      repeat' (split at ht)
      all_goals cases ht
    · cases ht
  have J := mn_sound_all (l := l) (D := D) hρ n 147 mnI_L_law rfl 0 _ [] _ _ hrun (by decide) p e room_1 s m #[Value.ref b] below meth c _ C G htab (by decide) (by decide) hc1 hs1 hE
  rw [lg_entry_eq]
  have hen := mn_ent_ok (ρ := ρ) (nL := 8) (As := [.ref 0]) (by decide)
  have e0 : ([Value.ref 0] : List Value).map (mn_v ρ) = [Value.ref b] := by simp [mn_v, r0]
  rw [e0] at hen
  exact J s.heap [] _ hH va_S.rf hen
