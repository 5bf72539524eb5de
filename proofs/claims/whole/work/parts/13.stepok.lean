section MNS
variable {p : Program} {l : Launch} {e : Env} {R : Room} {s : State} {m : MethodId} {args : Array Value} {below : List Frame} {meth : Method} {c : Code} {Q : State → Prop} {D : va_G} {ρ : Nat → Nat} {z0 o nL pc pc' : Nat} {ini : Bool} {cc : ByteArray} {h h' : mn_S} {ls ls' : List (Option Value)} {st st' : List Value}
theorem mn_J.if {q : Prop} [Decidable q] {a b : Nat} (k : mn_J p l e R s m args below meth c Q D ρ z0 (if q then a else b) ls st h) : (q → mn_J p l e R s m args below meth c Q D ρ z0 a ls st h) ∧ (¬ q → mn_J p l e R s m args below meth c Q D ρ z0 b ls st h) := ⟨fun z => by rw [if_pos z] at k; exact k, fun z => by rw [if_neg z] at k; exact k⟩
theorem mn_r_v {v : Value} {x : Option Nat} (h : mn_r v = some x) (ρ : Nat → Nat) : mn_v ρ v = va_rf (x.map ρ) := by rw [mn_r_some h, mn_va_rf]
theorem mn_r_is {v : Value} (h : (mn_r v).isSome = true) : (∃ a, v = .ref a) ∨ v = .null := by
  cases v <;> simp [mn_r] at h ⊢
theorem mn_map_inj {ρ : Nat → Nat} {z0 : Nat} (hρ : mn_R ρ z0) {x y : Option Nat} (h3 : ¬ mn_r3 x = false) : x.map ρ = y.map ρ ↔ x = y := by
  constructor
  · intro h
    cases x <;> cases y <;> simp at h ⊢
    exact hρ.1 _ _ (by simpa [mn_r3] using h3) h
  · rintro rfl
    rfl
set_option maxHeartbeats 4000000 in
theorem mn_step_ok (C : mn_C p l s m args meth c o ini cc nL) (G : mn_G D ρ z0 s) (hρ : mn_R ρ z0) {i : ClassFile.Instr × Nat} (hd : decode cc pc = .ok i) (hs : mn_step o ini i pc ls st h = some (pc', ls', st', h')) (hcl : h'.2.2.1 ≤ R.cells) (hsl : h'.2.2.2 ≤ R.slots)
    (k : mn_J p l e R s m args below meth c Q D ρ z0 pc' ls' st' h') : mn_J p l e R s m args below meth c Q D ρ z0 pc ls st h := by
  obtain ⟨hx, hb, hml, hown, hts, hin2, hlk, htr⟩ := id C
  obtain ⟨hK, hZ1, hZ2, -⟩ := G
  intro H locs la hH hS hL
  unfold mn_step at hs
  split at hs
  · cases hs; exact lv_iconst hx hb hd rfl (k H locs la hH hS hL)
  · cases hs; exact lv_bipush hx hb hd rfl (k H locs la hH hS hL)
  · cases hs; exact lv_sipush hx hb hd rfl (k H locs la hH hS hL)
  · cases hs; exact lv_lconst hx hb hd rfl (k H locs la hH hS hL)
  · cases hs; exact lv_null hx hb hd (k H locs la hH hS hL)
  · -- iload
    split at hs
    · rename_i x hq
      cases hs; exact lv_iload hx hb hd (hL.2.2 _ _ hq) (k H locs la hH hS hL)
    · cases hs
  · split at hs
    · rename_i x hq
      cases hs; exact lv_iload_n hx hb hd rfl (hL.2.2 _ _ hq) (k H locs la hH hS hL)
    · cases hs
  · split at hs
    · rename_i x hq
      cases hs; exact lv_lload hx hb hd (hL.2.2 _ _ hq) (k H locs la hH hS hL)
    · cases hs
  · split at hs
    · rename_i x hq
      cases hs; exact lv_lload_n hx hb hd rfl (hL.2.2 _ _ hq) (k H locs la hH hS hL)
    · cases hs
  · -- aload
    split at hs
    · rename_i v hq
      split at hs
      · rename_i hv
        cases hs
        rcases mn_r_is hv with ⟨a, rfl⟩ | rfl
        · exact lv_aload hx hb hd (hL.2.2 _ _ hq) (k H locs la hH hS hL)
        · exact lv_aloadN hx hb hd (hL.2.2 _ _ hq) (k H locs la hH hS hL)
      · cases hs
    · cases hs
  · split at hs
    · rename_i v hq
      split at hs
      · rename_i hv
        cases hs
        rcases mn_r_is hv with ⟨a, rfl⟩ | rfl
        · exact lv_aload_n hx hb hd rfl (hL.2.2 _ _ hq) (k H locs la hH hS hL)
        · exact lv_aload_nN hx hb hd rfl (hL.2.2 _ _ hq) (k H locs la hH hS hL)
      · cases hs
    · cases hs
  · -- istore
    split at hs
    · split at hs
      · rename_i hk
        cases hs
        exact lv_istore hx hb hd hL.has hk rfl (fun ls1 h1 => k H locs ls1 hH hS (mn_L.s1 (ρ := ρ) h1))
      · cases hs
    · cases hs
  · split at hs
    · split at hs
      · rename_i hk
        cases hs
        exact lv_istore_n hx hb hd rfl hL.has hk rfl (fun ls1 h1 => k H locs ls1 hH hS (mn_L.s1 (ρ := ρ) h1))
      · cases hs
    · cases hs
  · split at hs
    · split at hs
      · rename_i hk
        cases hs
        exact lv_lstore hx hb hd hL.has hk rfl (fun ls1 h1 => k H locs ls1 hH hS (mn_L.s2 (ρ := ρ) hk h1))
      · cases hs
    · cases hs
  · split at hs
    · split at hs
      · rename_i hk
        cases hs
        exact lv_lstore_n hx hb hd rfl hL.has hk rfl (fun ls1 h1 => k H locs ls1 hH hS (mn_L.s2 (ρ := ρ) hk h1))
      · cases hs
    · cases hs
  · -- astore
    split at hs
    · split at hs
      · rename_i hk
        obtain ⟨hv, hk⟩ := hk
        cases hs
        rcases mn_r_is hv with ⟨a, rfl⟩ | rfl
        · exact lv_astore hx hb hd hL.has hk rfl (fun ls1 h1 => k H locs ls1 hH hS (mn_L.s1 (ρ := ρ) h1))
        · exact lv_astoreN hx hb hd hL.has hk rfl (fun ls1 h1 => k H locs ls1 hH hS (mn_L.s1 (ρ := ρ) h1))
      · cases hs
    · cases hs
  · split at hs
    · split at hs
      · rename_i hk
        obtain ⟨hv, hk⟩ := hk
        cases hs
        rcases mn_r_is hv with ⟨a, rfl⟩ | rfl
        · exact lv_astore_n hx hb hd rfl hL.has hk rfl (fun ls1 h1 => k H locs ls1 hH hS (mn_L.s1 (ρ := ρ) h1))
        · exact lv_astore_nN hx hb hd rfl hL.has hk rfl (fun ls1 h1 => k H locs ls1 hH hS (mn_L.s1 (ρ := ρ) h1))
      · cases hs
    · cases hs
  · -- iinc
    split at hs
    · rename_i x hq
      cases hs
      obtain ⟨kk, hkk⟩ := List.getElem?_of_mem (mn_ps_mem.mpr ⟨.int x, hq, rfl⟩ : (_, Value.int x) ∈ mn_ps ρ ls)
      exact lv_iinc hx hb hd hL.has hkk rfl ((List.getElem?_eq_some_iff.mp hq).1) rfl (fun ls1 h1 => k H locs ls1 hH hS (mn_L.s1 (ρ := ρ) (v := .int _) h1))
    · cases hs
  · split at hs
    · cases hs; exact lv_iadd hx hb hd (k H locs la hH hS hL)
    · cases hs
  · split at hs
    · cases hs; exact lv_isub hx hb hd (k H locs la hH hS hL)
    · cases hs
  · split at hs
    · cases hs; exact lv_imul hx hb hd (k H locs la hH hS hL)
    · cases hs
  · split at hs
    · cases hs; exact lv_iand hx hb hd (k H locs la hH hS hL)
    · cases hs
  · split at hs
    · cases hs; exact lv_ior hx hb hd (k H locs la hH hS hL)
    · cases hs
  · split at hs
    · split at hs
      · cases hs
      · rename_i hy
        cases hs; exact lv_idiv hx hb hd hy (k H locs la hH hS hL)
    · cases hs
  · split at hs
    · split at hs
      · cases hs
      · rename_i hy
        cases hs; exact lv_irem hx hb hd hy (k H locs la hH hS hL)
    · cases hs
  · split at hs
    · cases hs; exact lv_ishl hx hb hd (k H locs la hH hS hL)
    · cases hs
  · split at hs
    · cases hs; exact lv_ishr hx hb hd (k H locs la hH hS hL)
    · cases hs
  · split at hs
    · cases hs; exact lv_iushr hx hb hd rfl (k H locs la hH hS hL)
    · cases hs
  · split at hs
    · cases hs; exact lv_ladd hx hb hd (k H locs la hH hS hL)
    · cases hs
  · split at hs
    · cases hs; exact lv_lsub hx hb hd (k H locs la hH hS hL)
    · cases hs
  · split at hs
    · cases hs; exact lv_lmul hx hb hd (k H locs la hH hS hL)
    · cases hs
  · split at hs
    · cases hs; exact lv_land hx hb hd (k H locs la hH hS hL)
    · cases hs
  · split at hs
    · cases hs; exact lv_lor hx hb hd (k H locs la hH hS hL)
    · cases hs
  · split at hs
    · cases hs; exact lv_lxor hx hb hd (k H locs la hH hS hL)
    · cases hs
  · split at hs
    · cases hs; exact W.lcmp hx hb hd (k H locs la hH hS hL)
    · cases hs
  · split at hs
    · cases hs; exact lv_i2l hx hb hd rfl (k H locs la hH hS hL)
    · cases hs
  · split at hs
    · cases hs; exact lv_l2i hx hb hd rfl (k H locs la hH hS hL)
    · cases hs
  · -- dup
    split at hs
    · split at hs
      · rename_i hv
        cases hs; exact lv_dup hx hb hd (by rw [mn_cat]; exact hv) (k H locs la hH hS hL)
      · cases hs
    · cases hs
  · split at hs
    · split at hs
      · rename_i hv
        cases hs; exact lv_pop hx hb hd (by rw [mn_cat]; exact hv) (k H locs la hH hS hL)
      · cases hs
    · cases hs
  · split at hs
    · split at hs
      · rename_i hv
        cases hs; exact lv_dup2_11 hx hb hd (by rw [mn_cat]; exact hv.1) (by rw [mn_cat]; exact hv.2) (k H locs la hH hS hL)
      · cases hs
    · cases hs
  · split at hs
    · cases hs; exact lv_pop2_2 hx hb hd rfl (k H locs la hH hS hL)
    · cases hs
  · -- goto
    split at hs
    · rename_i h0
      cases hs; exact lv_goto hx hb hd (mn_to_eq h0) (k H locs la hH hS hL)
    · cases hs
  · -- ifCond
    split at hs
    · rename_i h0
      split at hs
      · cases hs; exact lv_if_eq hx hb hd (mn_to_eq h0) (fun z => k.if.1 z H locs la hH hS hL) (fun z => k.if.2 z H locs la hH hS hL)
      · cases hs; exact lv_if_ne hx hb hd (mn_to_eq h0) (fun z => k.if.2 z H locs la hH hS hL) (fun z => k.if.1 z H locs la hH hS hL)
      · cases hs; exact lv_if_lt hx hb hd (mn_to_eq h0) (fun z => k.if.1 z H locs la hH hS hL) (fun z => k.if.2 z H locs la hH hS hL)
      · cases hs; exact lv_if_ge hx hb hd (mn_to_eq h0) (fun z => k.if.1 z H locs la hH hS hL) (fun z => k.if.2 z H locs la hH hS hL)
      · cases hs; exact lv_if_gt hx hb hd (mn_to_eq h0) (fun z => k.if.1 z H locs la hH hS hL) (fun z => k.if.2 z H locs la hH hS hL)
      · cases hs; exact lv_if_le hx hb hd (mn_to_eq h0) (fun z => k.if.1 z H locs la hH hS hL) (fun z => k.if.2 z H locs la hH hS hL)
      · cases hs
    · cases hs
  · split at hs
    · rename_i h0
      split at hs
      · cases hs; exact lv_icmp_eq hx hb hd (mn_to_eq h0) (fun z => k.if.1 z H locs la hH hS hL) (fun z => k.if.2 z H locs la hH hS hL)
      · cases hs; exact lv_icmp_ne hx hb hd (mn_to_eq h0) (fun z => k.if.2 z H locs la hH hS hL) (fun z => k.if.1 z H locs la hH hS hL)
      · cases hs; exact lv_icmp_lt hx hb hd (mn_to_eq h0) (fun z => k.if.1 z H locs la hH hS hL) (fun z => k.if.2 z H locs la hH hS hL)
      · cases hs; exact lv_icmp_ge hx hb hd (mn_to_eq h0) (fun z => k.if.1 z H locs la hH hS hL) (fun z => k.if.2 z H locs la hH hS hL)
      · cases hs; exact lv_icmp_gt hx hb hd (mn_to_eq h0) (fun z => k.if.1 z H locs la hH hS hL) (fun z => k.if.2 z H locs la hH hS hL)
      · cases hs; exact lv_icmp_le hx hb hd (mn_to_eq h0) (fun z => k.if.1 z H locs la hH hS hL) (fun z => k.if.2 z H locs la hH hS hL)
      · cases hs
    · cases hs
  · -- if_acmp
    split at hs
    · rename_i h0
      split at hs
      · split at hs
        · rename_i x y hv hw
          split at hs
          · cases hs
          rename_i h3
          cases hs
          have q := lv_acmp_eq (p := p) (l := l) (e := e) (R := R) (s := s) (m := m) (args := args) (below := below) (meth := meth) (c := c) (H := H) (locs := locs) (cells := h.2.2.1) (slots := h.2.2.2) (Q := Q) (ls := la) (rest := st'.map (mn_v ρ)) (rx := x.map ρ) (ry := y.map ρ) hx hb hd (mn_to_eq h0) (fun z => k.if.1 ((mn_map_inj hρ h3).mp z) H locs la hH hS hL) (fun z => k.if.2 (fun w => z ((mn_map_inj hρ h3).mpr w)) H locs la hH hS hL)
          rw [← mn_r_v hv, ← mn_r_v hw] at q
          exact q
        · cases hs
      · split at hs
        · rename_i x y hv hw
          split at hs
          · cases hs
          rename_i h3
          cases hs
          have q := lv_acmp_ne (p := p) (l := l) (e := e) (R := R) (s := s) (m := m) (args := args) (below := below) (meth := meth) (c := c) (H := H) (locs := locs) (cells := h.2.2.1) (slots := h.2.2.2) (Q := Q) (ls := la) (rest := st'.map (mn_v ρ)) (rx := x.map ρ) (ry := y.map ρ) hx hb hd (mn_to_eq h0) (fun z => k.if.2 (fun w => z ((mn_map_inj hρ h3).mpr w)) H locs la hH hS hL) (fun z => k.if.1 ((mn_map_inj hρ h3).mp z) H locs la hH hS hL)
          rw [← mn_r_v hv, ← mn_r_v hw] at q
          exact q
        · cases hs
      · cases hs
    · cases hs
  · -- ifnull
    split at hs
    · rename_i h0
      split at hs
      · split at hs
        · rename_i x hv
          cases hs
          have hv2 := mn_r_some hv
          subst hv2
          cases x with
          | none => exact lv_ifnullN hx hb hd (mn_to_eq h0) (k.if.1 rfl H locs la hH hS hL)
          | some a => exact lv_ifnull hx hb hd (k.if.2 (by simp) H locs la hH hS hL)
        · cases hs
      · cases hs
    · cases hs
  · split at hs
    · rename_i h0
      split at hs
      · split at hs
        · rename_i x hv
          cases hs
          have hv2 := mn_r_some hv
          subst hv2
          cases x with
          | none => exact lv_ifnonnullN hx hb hd (k.if.1 rfl H locs la hH hS hL)
          | some a => exact lv_ifnonnull hx hb hd (mn_to_eq h0) (k.if.2 (by simp) H locs la hH hS hL)
        · cases hs
      · cases hs
    · cases hs
  · -- tableswitch
    split at hs
    · split at hs
      · rename_i hr
        split at hs
        · rename_i h0
          cases hs; exact lv_tableOut hx hb hd hr (mn_to_eq h0) (k H locs la hH hS hL)
        · cases hs
      · rename_i hr
        split at hs
        · rename_i off ho
          split at hs
          · rename_i h0
            cases hs; exact lv_tableIn hx hb hd (fun q => hr (Or.inl q)) (fun q => hr (Or.inr q)) ho (mn_to_eq h0) (k H locs la hH hS hL)
          · cases hs
        · cases hs
    · cases hs
  · split at hs
    · split at hs
      · rename_i hr
        cases hs; exact lv_lookup hx hb hd hr.1 rfl (mn_to_eq hr.2) (k H locs la hH hS hL)
      · cases hs
    · cases hs
  · -- getfield
    split at hs
    · rename_i ci kf a st1 hl
      split at hs
      · rename_i v hv
        cases hs; exact mn_i_getf C hK hH hl hv hd (k H locs la hH hS hL)
      · cases hs
    · cases hs
  · split at hs
    · rename_i ci kf v a st1 hl
      split at hs
      · rename_i hf
        split at hs
        · rename_i h1 hv
          cases hs
          have hh : h'.2 = h.2 := by obtain ⟨_, _, _, _, _, rfl⟩ := mn_pf_spec hv; rfl
          exact mn_i_putf C hK hρ hH hS hl hv hf hd (fun H1 locs1 q1 q2 => by have := k H1 locs1 la q1 q2 hL; rw [hh] at this; exact this)
        · cases hs
      · cases hs
    · cases hs
  · -- getstatic
    split at hs
    · rename_i kq nb hl
      cases hs
      obtain ⟨hw, hk12⟩ := mn_sl_in o (_, kq, nb) (mn_lk hl)
      have hZ : va_Z RX7 (mn_sln kq) "[I" (.ref (ρ kq)) (fun q => z0 ≤ q) s s.heap := by
        simp only [Bool.or_eq_true, decide_eq_true_eq] at hk12
        rcases hk12 with rfl | rfl
        · exact hZ1
        · exact hZ2
      unfold mn_slw at hw
      cases nb with
      | true => exact va_getsN hx hb hZ hS hown (hts _ hw) (fun _ h9 => h9) hd (k H locs la hH hS hL)
      | false => exact va_gets hx hb hZ hS hown (hts _ hw) (fun _ h9 => h9) hd (k H locs la hH hS hL)
    · cases hs
  · -- iaload
    split at hs
    · split at hs
      · rename_i v hv
        cases hs; exact mn_i_al C hH hv (Or.inl ⟨rfl, rfl⟩) hd (k H locs la hH hS hL)
      · cases hs
    · cases hs
  · split at hs
    · split at hs
      · rename_i v hv
        cases hs; exact mn_i_al C hH hv (Or.inr (Or.inl ⟨rfl, rfl⟩)) hd (k H locs la hH hS hL)
      · cases hs
    · cases hs
  · split at hs
    · split at hs
      · rename_i v hv
        cases hs; exact mn_i_al C hH hv (Or.inr (Or.inr ⟨rfl, rfl⟩)) hd (k H locs la hH hS hL)
      · cases hs
    · cases hs
  · split at hs
    · split at hs
      · rename_i v hv
        cases hs; exact mn_i_aq C hH hv hd (k H locs la hH hS hL)
      · cases hs
    · cases hs
  · split at hs
    · split at hs
      · rename_i v hv
        cases hs; exact mn_i_len C hH hv hd (k H locs la hH hS hL)
      · cases hs
    · cases hs
  · -- iastore
    split at hs
    · split at hs
      · rename_i h1 hv
        cases hs
        have hh : h'.2 = h.2 := by
          unfold mn_asi at hv
          split at hv
          · split at hv
            · cases hv; rfl
            · cases hv
          · cases hv
        exact mn_i_asi C hρ hH hS hv hd (fun H1 locs1 q1 q2 => by have := k H1 locs1 la q1 q2 hL; rw [hh] at this; exact this)
      · cases hs
    · cases hs
  · split at hs
    · split at hs
      · rename_i h1 hv
        cases hs
        have hh : h'.2 = h.2 := by
          unfold mn_asl at hv
          split at hv
          · split at hv
            · cases hv; rfl
            · cases hv
          · cases hv
        exact mn_i_asl C hρ hH hS hv hd (fun H1 locs1 q1 q2 => by have := k H1 locs1 la q1 q2 hL; rw [hh] at this; exact this)
      · cases hs
    · cases hs
  · split at hs
    · split at hs
      · rename_i h1 hv
        cases hs
        have hh : h'.2 = h.2 := by
          unfold mn_asz at hv
          split at hv
          · split at hv
            · cases hv; rfl
            · cases hv
          · cases hv
        exact mn_i_asz C hρ hH hS hv hd (fun H1 locs1 q1 q2 => by have := k H1 locs1 la q1 q2 hL; rw [hh] at this; exact this)
      · cases hs
    · cases hs
  · split at hs
    · split at hs
      · rename_i h1 hv
        cases hs
        have hh : h'.2 = h.2 := by
          unfold mn_asq at hv
          split at hv
          · split at hv
            · cases hv; rfl
            · cases hv
          · cases hv
        exact mn_i_asq C hK hρ hH hS hv hd (fun H1 locs1 q1 q2 => by have := k H1 locs1 la q1 q2 hL; rw [hh] at this; exact this)
      · cases hs
    · cases hs
  · -- newarray
    rename_i ty
    split at hs
    · split at hs
      · rename_i kq h1 hv
        cases hs
        have ht : (ty = .int ∧ (match ty with | .int => 0 | .long => 1 | .boolean => 2 | _ => 9) = 0) ∨ (ty = .long ∧ (match ty with | .int => 0 | .long => 1 | .boolean => 2 | _ => 9) = 1) ∨ (ty = .boolean ∧ (match ty with | .int => 0 | .long => 1 | .boolean => 2 | _ => 9) = 2) := by
          cases ty <;> first | (simp; done) | (exfalso; simp [mn_na] at hv)
        exact mn_i_na C hρ hH hS ht hv hcl hsl hd (fun H1 q1 q2 => k H1 locs la q1 q2 hL)
      · cases hs
    · cases hs
  · split at hs
    · rename_i ci n st1 hl
      split at hs
      · rename_i kq h1 hv
        cases hs
        have ht : (ci = 1 ∧ (match ci with | 1 => 3 | 5 => 4 | 4 => 5 | _ => 9) = 3) ∨ (ci = 5 ∧ (match ci with | 1 => 3 | 5 => 4 | 4 => 5 | _ => 9) = 4) ∨ (ci = 4 ∧ (match ci with | 1 => 3 | 5 => 4 | 4 => 5 | _ => 9) = 5) := by
          split at hv
          · exact Or.inl ⟨rfl, rfl⟩
          · exact Or.inr (Or.inl ⟨rfl, rfl⟩)
          · exact Or.inr (Or.inr ⟨rfl, rfl⟩)
          · exfalso; simp [mn_na] at hv
        exact mn_i_nq C hρ hH hS hl ht hv hcl hsl hd (fun H1 q1 q2 => k H1 locs la q1 q2 hL)
      · cases hs
    · cases hs
  · split at hs
    · rename_i ci hl
      split at hs
      · rename_i kq h1 hv
        cases hs
        exact mn_i_new C hK hρ hH hS hl hv hcl hsl hd (fun H1 q1 q2 => k H1 locs la q1 q2 hL)
      · cases hs
    · cases hs
  · -- ldc
    split at hs
    · rename_i v hl
      cases hs; exact lv_ldc hx hb hown (hts _ (mn_kc_in o _ (mn_lk hl))) hd (k H locs la hH hS hL)
    · cases hs
  · split at hs
    · rename_i v hl
      cases hs; exact lv_ldcw hx hb hown (hts _ (mn_kc_in o _ (mn_lk hl))) hd (k H locs la hH hS hL)
    · cases hs
  · split at hs
    · rename_i v hl
      cases hs; exact lv_ldc2 hx hb hown (hts _ (mn_kl_in o _ (mn_lk hl))) hd (k H locs la hH hS hL)
    · cases hs
  · cases hs
end MNS
