section MNK
variable {p : Program} {l : Launch} {e : Env} {R : Room} {s : State} {m : MethodId} {args : Array Value} {below : List Frame} {meth : Method} {c : Code} {Q : State → Prop} {D : va_G} {ρ : Nat → Nat} {z0 : Nat} {H : Heap} {locs : List Loc} {Pc : Array Value → State → Prop} {Qc : Array Value → State → Outcome → State → Prop} {XC : String → State → State → Prop} {free : Addr → Prop} {o nL idx M2 pc : Nat} {ini : Bool} {cc : ByteArray} {x2 : mn_I} {hf : mn_S} {la : Array Slot} {As rest : List Value} {cells slots : Nat}
theorem mn_uw_pay {M : Nat} {x : mn_I} (hts : ∀ w ∈ mn_uw, w.before args s = true) (h1 : mn_cw M x ∈ mn_uw) : ∀ w ∈ mn_cw M x :: mn_uw, ∀ (a' : Array Value) (U : State), s.WarmedH U.vm → w.before a' U = true := by
  intro w hw a' U hW
  have hm : w ∈ mn_uw := (List.mem_cons.mp hw).elim (fun q => q ▸ h1) id
  exact mn_pay (List.mem_filter.mp hm).2 (hts w hm) a' U hW
theorem mn_f3 (hM2 : mn_all[M2]? = some x2) (hnl : mn_nl M2 = true) : mn_cw M2 x2 ∈ mn_uw ∧ Cond.initialized (mi_y x2).cls ∈ mn_uw ∧ (plainName (mi_y x2).cls = true ∧ (mi_y x2).cls ≠ "java/lang/invoke/MethodHandle" ∧ (mi_y x2).cls ≠ "java/lang/invoke/VarHandle" ∧ (parseMethodDescriptor (mi_y x2).desc).map (fun d => d.parameters.length) = some (mi_n x2)) ∧ (mn_stat M2 = true → Cond.static (mi_y x2) ∈ mn_uw) ∧ (mn_stat M2 = false → Cond.instanceMethod (mi_y x2) ∈ mn_uw) ∧ (mn_stat M2 = false → (mi_y x2).name ≠ "<init>" → Cond.selects (mi_y x2).cls (mi_y x2) (mi_y x2) ∈ mn_uw) := by
  obtain ⟨-, -, F3⟩ := mn_facts M2 x2 hM2
  exact (F3.resolve_left (fun q => by simp [mn_nl, q] at hnl)).resolve_left (fun q => by simp [mn_nl, q] at hnl)
theorem mn_cw_nil (hh : mn_hh M2 = []) : mn_cw M2 x2 = .code (mi_y x2) (mi_c x2) (mi_L x2) (mi_r x2) := by unfold mn_cw; rw [hh]
theorem mn_cw_cons (hh : ¬ mn_hh M2 = []) : mn_cw M2 x2 = .codeWith (mi_y x2) (mi_c x2) (mi_L x2) (mi_r x2) (mn_hh M2) := by
  unfold mn_cw
  cases hq : mn_hh M2 with
  | nil => exact absurd hq hh
  | cons a t => rfl
theorem mn_par (h : (parseMethodDescriptor (mi_y x2).desc).map (fun d => d.parameters.length) = some (mi_n x2)) : ∀ sig, parseMethodDescriptor (mi_y x2).desc = some sig → mi_n x2 = sig.parameters.length := by
  intro sig hs
  rw [hs] at h
  exact (Option.some.inj h).symm
theorem mn_roomOk {x : mn_I} (hd : mi_d x2 + 1 ≤ mi_d x) (hL : mi_L x2 ≤ 22) (hRf : mi_d x ≤ R.frames) (hRl : 41 * mi_d x ≤ R.locals) : (mn_Rm x2 hf).frames + 1 ≤ R.frames ∧ 8 + (mi_L x2 + 11) + (mn_Rm x2 hf).locals ≤ R.locals := by
  refine ⟨Nat.le_trans hd hRf, ?_⟩
  show 8 + (mi_L x2 + 11) + 41 * mi_d x2 ≤ R.locals
  omega
theorem mn_cb (hts : ∀ w ∈ mn_uw, w.before args s = true) (hM2 : mn_all[M2]? = some x2) (hnl : mn_nl M2 = true) (hh : mn_hh M2 = []) (hR : (mn_Rm x2 hf).frames + 1 ≤ R.frames ∧ 8 + (mi_L x2 + 11) + (mn_Rm x2 hf).locals ≤ R.locals) {own : String} (hl : (Cond.methodLink own idx (mi_y x2)).before args s = true) :
    CallB R s args own idx (mi_y x2) (mi_c x2) (mi_L x2) (mi_r x2) (mn_cw M2 x2 :: mn_uw) (mn_Rm x2 hf) hf.2.2.1 hf.2.2.2 (mi_n x2) := by
  obtain ⟨f1, f2, ⟨f3, f4, f5, f6⟩, f7⟩ := mn_f3 hM2 hnl
  have e := mn_cw_nil (M2 := M2) (x2 := x2) hh
  exact ⟨rfl, rfl, hR.1, hR.2, mn_uw_pay hts f1, by rw [e]; exact List.mem_cons_self, by rw [← e]; exact hts _ f1, hts _ f2, ⟨f4, f5⟩, mn_par f6, hl⟩
theorem mn_cn (hts : ∀ w ∈ mn_uw, w.before args s = true) (hM2 : mn_all[M2]? = some x2) (hnl : mn_nl M2 = true) (hh : mn_hh M2 = []) (hR : (mn_Rm x2 hf).frames + 1 ≤ R.frames ∧ 8 + (mi_L x2 + 11) + (mn_Rm x2 hf).locals ≤ R.locals) {own host : String} (hl : (Cond.methodLinkNest own idx (mi_y x2) host).before args s = true) :
    va_CN R s args own idx (mi_y x2) host (mi_c x2) (mi_L x2) (mi_r x2) (mn_cw M2 x2 :: mn_uw) (mn_Rm x2 hf) hf.2.2.1 hf.2.2.2 (mi_n x2) := by
  obtain ⟨f1, f2, ⟨f3, f4, f5, f6⟩, f7⟩ := mn_f3 hM2 hnl
  have e := mn_cw_nil (M2 := M2) (x2 := x2) hh
  exact ⟨⟨rfl, rfl, hR.1, hR.2, mn_uw_pay hts f1, by rw [e]; exact List.mem_cons_self⟩, by rw [← e]; exact hts _ f1, hts _ f2, ⟨f4, f5⟩, mn_par f6, hl⟩
theorem mn_csw (hts : ∀ w ∈ mn_uw, w.before args s = true) (hM2 : mn_all[M2]? = some x2) (hnl : mn_nl M2 = true) (hh : ¬ mn_hh M2 = []) (hst : mn_stat M2 = true) (hR : (mn_Rm x2 hf).frames + 1 ≤ R.frames ∧ 8 + (mi_L x2 + 11) + (mn_Rm x2 hf).locals ≤ R.locals) {own : String} (hl : (Cond.methodLink own idx (mi_y x2)).before args s = true) :
    vx_CSW R s args own idx (mi_y x2) (mi_c x2) (mi_L x2) (mi_r x2) (mn_hh M2) (mn_cw M2 x2 :: mn_uw) (mn_Rm x2 hf) hf.2.2.1 hf.2.2.2 (mi_n x2) := by
  obtain ⟨f1, f2, ⟨f3, f4, f5, f6⟩, f7, -⟩ := mn_f3 hM2 hnl
  have e := mn_cw_cons (M2 := M2) (x2 := x2) hh
  exact ⟨⟨rfl, rfl, hR.1, hR.2, mn_uw_pay hts f1, by rw [e]; exact List.mem_cons_self⟩, by rw [← e]; exact hts _ f1, hts _ f2, ⟨f4, f5⟩, mn_par f6, hl, hts _ (f7 hst)⟩
theorem mn_y_of (hM2 : mn_all[M2]? = some x2) : mn_y M2 = mi_y x2 := by unfold mn_y; rw [hM2]; rfl
theorem mn_link {o idx q M2 : Nat} (hl : mn_ml o idx = some (q, M2)) : mn_mlw o (idx, q, M2) ∈ mn_uw := (mn_ml_in o _ (mn_lk hl)).1
theorem mn_link0 (hM2 : mn_all[M2]? = some x2) {q : Nat} (hl : mn_ml o idx = some (q, M2)) (hq : q = 0 ∨ q = 1 ∨ q = 2) : Cond.methodLink (mn_own o) idx (mi_y x2) ∈ mn_uw := by
  have h := mn_link hl
  rw [← mn_y_of hM2]
  rcases hq with rfl | rfl | rfl <;> exact h
theorem mn_link1 (hM2 : mn_all[M2]? = some x2) {q : Nat} (hl : mn_ml o idx = some (q, M2)) (hq : q = 3 ∨ q = 4) : Cond.methodLinkNest (mn_own o) idx (mi_y x2) RX7 ∈ mn_uw := by
  have h := mn_link hl
  rw [← mn_y_of hM2]
  rcases hq with rfl | rfl <;> exact h
theorem mn_pre {h : mn_S} (G : mn_G D ρ z0 s) (hH : mn_H s D ρ z0 h H) (hS : va_S (fun q => z0 ≤ q) s.heap H locs) : ∀ U : State, U.heap = H → s.WarmedH U.vm → mn_Pc D ρ z0 As h.1 h.2.1 (As.map (mn_v ρ)).toArray U := by
  intro U hU hW
  refine ⟨rfl, G.call hS hU hW, ?_⟩
  rw [hU]
  exact hH.moved hW.alike
/-- the five ways of a call -/
theorem mn_kS (C : mn_C p l s m args meth c o ini cc nL) (hla : la.size = nL) (hM2 : mn_all[M2]? = some x2) (hnl : mn_nl M2 = true) (hst : mn_stat M2 = true) {q : Nat} (hl : mn_ml o idx = some (q, M2)) (hq : q = 1 ∨ (q = 3 ∧ mn_hh M2 = [])) (hR : (mn_Rm x2 hf).frames + 1 ≤ R.frames ∧ 8 + (mi_L x2 + 11) + (mn_Rm x2 hf).locals ≤ R.locals)
    (hMet : Met l (mi_y x2) (mn_cw M2 x2 :: mn_uw) (mn_Rm x2 hf) Pc Qc hf.2.2.1 hf.2.2.2 free) (hb : FrameBlind Pc) (hp : ∀ U : State, U.heap = H → s.WarmedH U.vm → Pc (As.map (mn_v ρ)).toArray U) {st : List Value} (hst0 : st = As.reverse ++ rest) (hn : As.length = mi_n x2) (hc : mn_cats rest ≤ 8) (hd : decode cc pc = .ok (.invokestatic idx, 3)) (hf1 : cells + hf.2.2.1 ≤ R.cells) (hf2 : slots + hf.2.2.2 ≤ R.slots) :
    va_Run p l e R s m args below meth c H locs cells slots hf.2.2.1 hf.2.2.2 (F0 m pc la (st.map (mn_v ρ))) (rest.map (mn_v ρ)) (Qc (As.map (mn_v ρ)).toArray) free := by
  obtain ⟨hx, hbb, hml, hown, hts, -⟩ := C
  obtain ⟨f1, f2, f3, f7, f8⟩ := mn_f3 hM2 hnl
  have hstk : (F0 m pc la (st.map (mn_v ρ))).stack = (As.map (mn_v ρ)).reverse ++ rest.map (mn_v ρ) := by rw [hst0]; simp
  have hW8 : 2 * (F0 m pc la (st.map (mn_v ρ))).monitorRoom + ((rest.map (mn_v ρ)).map fun v => v.category).sum ≤ 8 := lv_room (by rw [mn_cats_map]; exact hc)
  rcases hq with rfl | ⟨rfl, hh⟩
  · by_cases hh : mn_hh M2 = []
    · exact va_runS (S := ⟨hx, hbb, hml, hown, hts⟩) hMet ⟨mn_cb hts hM2 hnl hh hR (hts _ (mn_link0 hM2 hl (Or.inr (Or.inl rfl)))), hts _ (f7 hst)⟩ ⟨hb, hp⟩ rfl (by rw [List.length_map]; exact hn) hla hstk hW8 hd ⟨hf1, hf2⟩
    · exact vx_runSW (S := ⟨hx, hbb, hml, hown, hts⟩) hMet (mn_csw hts hM2 hnl hh hst hR (hts _ (mn_link0 hM2 hl (Or.inr (Or.inl rfl))))) ⟨hb, hp⟩ rfl (by rw [List.length_map]; exact hn) hla hstk hW8 hd ⟨hf1, hf2⟩
  · exact va_runSN (S := ⟨hx, hbb, hml, hown, hts⟩) hMet ⟨mn_cn hts hM2 hnl hh hR (hts _ (mn_link1 hM2 hl (Or.inl rfl))), hts _ (f7 hst), trivial⟩ ⟨hb, hp⟩ rfl (by rw [List.length_map]; exact hn) hla hstk hW8 hd ⟨hf1, hf2⟩
theorem mn_kI {b : Nat} (C : mn_C p l s m args meth c o ini cc nL) (hla : la.size = nL) (hM2 : mn_all[M2]? = some x2) (hnl : mn_nl M2 = true) (hst : mn_stat M2 = false) (hni : (mi_y x2).name = "<init>") (hrt : mi_r x2 = none) (hh : mn_hh M2 = []) {q : Nat} (hl : mn_ml o idx = some (q, M2)) (hq : q = 2 ∨ q = 4) (hR : (mn_Rm x2 hf).frames + 1 ≤ R.frames ∧ 8 + (mi_L x2 + 11) + (mn_Rm x2 hf).locals ≤ R.locals)
    (hMet : Met l (mi_y x2) (mn_cw M2 x2 :: mn_uw) (mn_Rm x2 hf) Pc Qc hf.2.2.1 hf.2.2.2 free) (hb : FrameBlind Pc) (hp : ∀ U : State, U.heap = H → s.WarmedH U.vm → Pc ((Value.ref b :: As).map (mn_v ρ)).toArray U) {st : List Value} (hst0 : st = As.reverse ++ .ref b :: rest) (hn : As.length = mi_n x2) (hc : mn_cats rest ≤ 8) (hd : decode cc pc = .ok (.invokespecial idx, 3)) (hf1 : cells + hf.2.2.1 ≤ R.cells) (hf2 : slots + hf.2.2.2 ≤ R.slots) :
    va_Run p l e R s m args below meth c H locs cells slots hf.2.2.1 hf.2.2.2 (F0 m pc la (st.map (mn_v ρ))) (rest.map (mn_v ρ)) (Qc ((Value.ref b :: As).map (mn_v ρ)).toArray) free := by
  obtain ⟨hx, hbb, hml, hown, hts, -⟩ := C
  obtain ⟨f1, f2, f3, f7, f8, f9⟩ := mn_f3 hM2 hnl
  have hstk : (F0 m pc la (st.map (mn_v ρ))).stack = (As.map (mn_v ρ)).reverse ++ .ref (ρ b) :: rest.map (mn_v ρ) := by rw [hst0]; simp [mn_v]
  have hW8 : 2 * (F0 m pc la (st.map (mn_v ρ))).monitorRoom + ((rest.map (mn_v ρ)).map fun v => v.category).sum ≤ 8 := lv_room (by rw [mn_cats_map]; exact hc)
  rcases hq with rfl | rfl
  · have cb := mn_cb (R := R) (hf := hf) hts hM2 hnl hh hR (hts _ (mn_link0 hM2 hl (Or.inr (Or.inr rfl))))
    rw [hrt] at cb
    exact va_runI (S := ⟨hx, hbb, hml, hown, hts⟩) hMet ⟨cb, hni, hts _ (f8 hst)⟩ ⟨hb, hp⟩ rfl (by rw [List.length_map]; exact hn) hla hstk hW8 hd ⟨hf1, hf2⟩
  · have cb := mn_cn (R := R) (hf := hf) hts hM2 hnl hh hR (hts _ (mn_link1 hM2 hl (Or.inr rfl)))
    rw [hrt] at cb
    exact va_runIN (S := ⟨hx, hbb, hml, hown, hts⟩) hMet ⟨cb, hni, hts _ (f8 hst)⟩ ⟨hb, hp⟩ rfl (by rw [List.length_map]; exact hn) hla hstk hW8 hd ⟨hf1, hf2⟩
theorem mn_recv {h : mn_S} {b ci : Nat} (hK : va_K D vwCl [] s) (hH : mn_H s D ρ z0 h H) (hci : ci < 9) (hi : mn_isc h b ci = true) : ∃ cellB : Cell, H[ρ b]? = some cellB ∧ cellB.vm.isStatics = false ∧ s.vm.findClass (mn_own ci) = some cellB.cls := by
  unfold mn_isc at hi
  split at hi
  · rename_i c' fs hq
    simp only [decide_eq_true_eq] at hi
    subst hi
    obtain ⟨r, hr, cell, g1, g2, g3, -⟩ := hH.1 b _ hq
    obtain ⟨hc1, -⟩ := mn_cls c' hci
    exact ⟨cell, g1, by rw [g3]; rfl, by rw [g2]; exact (hK.1 c' _ hc1).2.1⟩
  · cases hi
theorem mn_kV {h : mn_S} {b : Nat} (C : mn_C p l s m args meth c o ini cc nL) (hK : va_K D vwCl [] s) (hH : mn_H s D ρ z0 h H) (hla : la.size = nL) (hM2 : mn_all[M2]? = some x2) (hnl : mn_nl M2 = true) (hst : mn_stat M2 = false) (hni : (mi_y x2).name ≠ "<init>") (hh : mn_hh M2 = []) (hci : mi_o x2 < 9) (hi : mn_isc h b (mi_o x2) = true) (hl : mn_ml o idx = some (0, M2)) (hR : (mn_Rm x2 hf).frames + 1 ≤ R.frames ∧ 8 + (mi_L x2 + 11) + (mn_Rm x2 hf).locals ≤ R.locals)
    (hb : FrameBlind Pc) (hp : ∀ U : State, U.heap = H → s.WarmedH U.vm → Pc ((Value.ref b :: As).map (mn_v ρ)).toArray U) {st : List Value} (hst0 : st = As.reverse ++ .ref b :: rest) (hn : As.length = mi_n x2) (hc : mn_cats rest ≤ 8) (hd : decode cc pc = .ok (.invokevirtual idx, 3)) (hf1 : cells + hf.2.2.1 ≤ R.cells) (hf2 : slots + hf.2.2.2 ≤ R.slots) :
    (Met l (mi_y x2) (mn_cw M2 x2 :: mn_uw) (mn_Rm x2 hf) Pc Qc hf.2.2.1 hf.2.2.2 free → va_Run p l e R s m args below meth c H locs cells slots hf.2.2.1 hf.2.2.2 (F0 m pc la (st.map (mn_v ρ))) (rest.map (mn_v ρ)) (Qc ((Value.ref b :: As).map (mn_v ρ)).toArray) free) ∧
    (vx_Met l (mi_y x2) (mn_cw M2 x2 :: mn_uw) (mn_Rm x2 hf) Pc Qc XC hf.2.2.1 hf.2.2.2 free → vx_Run p l e R s m args below meth c H locs cells slots hf.2.2.1 hf.2.2.2 (F0 m pc la (st.map (mn_v ρ))) (rest.map (mn_v ρ)) (Qc ((Value.ref b :: As).map (mn_v ρ)).toArray) XC free) := by
  obtain ⟨hx, hbb, hml, hown, hts, -⟩ := C
  obtain ⟨f1, f2, f3, f7, f8, f9⟩ := mn_f3 hM2 hnl
  have hstk : (F0 m pc la (st.map (mn_v ρ))).stack = (As.map (mn_v ρ)).reverse ++ .ref (ρ b) :: rest.map (mn_v ρ) := by rw [hst0]; simp [mn_v]
  have hW8 : 2 * (F0 m pc la (st.map (mn_v ρ))).monitorRoom + ((rest.map (mn_v ρ)).map fun v => v.category).sum ≤ 8 := lv_room (by rw [mn_cats_map]; exact hc)
  have cb := mn_cb (R := R) (hf := hf) hts hM2 hnl hh hR (hts _ (mn_link0 hM2 hl (Or.inl rfl)))
  have hrv := mn_recv hK hH hci hi
  rw [(mn_facts M2 x2 hM2).2.1] at hrv
  exact ⟨fun hMet => va_runV (S := ⟨hx, hbb, hml, hown, hts⟩) hMet ⟨cb, hts _ (f8 hst), hts _ (f9 hst hni)⟩ ⟨hb, hrv, hp⟩ rfl (by rw [List.length_map]; exact hn) hla hstk hW8 hd ⟨hf1, hf2⟩,
    fun hMet => vx_runV (S := ⟨hx, hbb, hml, hown, hts⟩) hMet ⟨cb, hts _ (f8 hst), hts _ (f9 hst hni)⟩ ⟨hb, hrv, hp⟩ rfl (by rw [List.length_map]; exact hn) hla hstk hW8 hd ⟨hf1, hf2⟩⟩
end MNK
