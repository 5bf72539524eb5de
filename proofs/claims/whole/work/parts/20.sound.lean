section MNZ
variable {l : Launch} {D : va_G} {ρ : Nat → Nat} {z0 : Nat}
/-- a call, by the way in which its run is given -/
theorem mn_call_ok {n : Nat} (IH : mn_sound l D ρ z0 n) {p : Program} {e : Env} {R : Room} {s : State} {m : MethodId} {args : Array Value} {below : List Frame} {meth : Method} {c : Code} {Q : State → Prop} {M M2 : Nat} {x x2 : mn_I} (hM : mn_all[M]? = some x) (C : mn_C p l s m args meth c (mi_o x) (mi_i x) (mi_c x) (mi_L x)) (G : mn_G D ρ z0 s) (htab : c.exceptionTable.toList = tableOf (mn_hh M)) (hRf : mi_d x ≤ R.frames) (hRl : 41 * mi_d x ≤ R.locals)
    {vt : Bool} {As rest st : List Value} {pc : Nat} {ls : List (Option Value)} {h : mn_S} {r : mn_Res} (hM2 : mn_all[M2]? = some x2) (hr : mn_call (mn_run n) vt M x M2 As rest pc ls h = some r) (hlen : ls.length = mi_L x) (hRc : r.1.2.2.1 ≤ R.cells) (hRs : r.1.2.2.2 ≤ R.slots) (hE : mn_End p l e R s m args below meth c Q D ρ z0 M x r)
    (K : ∀ (H : Heap) (locs : List Loc) (la : Array Slot) (hf : mn_S) (v : Option Value), mn_H s D ρ z0 h H → va_S (fun q => z0 ≤ q) s.heap H locs → mn_L ρ la ls → mn_nl M2 = true → mn_cats rest ≤ 8 → (mn_Rm x2 hf).frames + 1 ≤ R.frames ∧ 8 + (mi_L x2 + 11) + (mn_Rm x2 hf).locals ≤ R.locals → h.2.2.1 + hf.2.2.1 ≤ R.cells → h.2.2.2 + hf.2.2.2 ≤ R.slots →
      Met l (mi_y x2) (mn_cw M2 x2 :: mn_uw) (mn_Rm x2 hf) (mn_Pc D ρ z0 As h.1 h.2.1) (mn_Qc D ρ z0 hf v) hf.2.2.1 hf.2.2.2 (fun q => z0 ≤ q) → ∃ a, va_Run p l e R s m args below meth c H locs h.2.2.1 h.2.2.2 hf.2.2.1 hf.2.2.2 (F0 m pc la (st.map (mn_v ρ))) (rest.map (mn_v ρ)) (mn_Qc D ρ z0 hf v a) (fun q => z0 ≤ q))
    (KX : vt = true → mn_hh M2 = [] ∧ ∀ (H : Heap) (locs : List Loc) (la : Array Slot) (hf : mn_S) (k : Nat), mn_H s D ρ z0 h H → va_S (fun q => z0 ≤ q) s.heap H locs → mn_L ρ la ls → mn_nl M2 = true → mn_cats rest ≤ 8 → (mn_Rm x2 hf).frames + 1 ≤ R.frames ∧ 8 + (mi_L x2 + 11) + (mn_Rm x2 hf).locals ≤ R.locals → h.2.2.1 + hf.2.2.1 ≤ R.cells → h.2.2.2 + hf.2.2.2 ≤ R.slots →
      vx_Met l (mi_y x2) (mn_cw M2 x2 :: mn_uw) (mn_Rm x2 hf) (mn_Pc D ρ z0 As h.1 h.2.1) (fun _ _ _ _ => False) (mn_XC D ρ z0 hf k) hf.2.2.1 hf.2.2.2 (fun q => z0 ≤ q) → vx_Run p l e R s m args below meth c H locs h.2.2.1 h.2.2.2 hf.2.2.1 hf.2.2.2 (F0 m pc la (st.map (mn_v ρ))) (rest.map (mn_v ρ)) (fun _ _ _ => False) (mn_XC D ρ z0 hf k) (fun q => z0 ≤ q)) :
    mn_J p l e R s m args below meth c Q D ρ z0 pc ls st h := by
  intro H locs la hH hS hL
  have htr : l.stackTraces = false := C.2.2.2.2.2.2.2
  unfold mn_call at hr
  rw [hM2] at hr
  dsimp only at hr
  split at hr
  · rename_i hcond
    obtain ⟨c1, c2, c3, c4, c5⟩ := hcond
    have hroom : ∀ hf : mn_S, (mn_Rm x2 hf).frames + 1 ≤ R.frames ∧ 8 + (mi_L x2 + 11) + (mn_Rm x2 hf).locals ≤ R.locals := fun hf => mn_roomOk c1 c2 hRf hRl
    split at hr
    · rename_i hf v hrun
      have hle := mn_run_le n _ _ _ _ _ _ hr
      have g1 : h.2.2.1 + hf.2.2.1 ≤ R.cells := Nat.le_trans hle.1 hRc
      have g2 : h.2.2.2 + hf.2.2.2 ≤ R.slots := Nat.le_trans hle.2 hRs
      obtain ⟨a, hvr⟩ := K H locs la hf v hH hS hL c5 c4 (hroom hf) g1 g2 (mn_met IH htr hM2 c5 hrun c3)
      exact mn_after hvr hS hL (IH M x hM _ _ _ _ _ hr hlen p e R s m args below meth c Q C G htab hRf hRl hRc hRs hE)
    · rename_i hf k hrun
      split at hr
      · rename_i hvt
        split at hr
        · rename_i pc' ls' hct
          have hle := mn_run_le n _ _ _ _ _ _ hr
          have g1 : h.2.2.1 + hf.2.2.1 ≤ R.cells := Nat.le_trans hle.1 hRc
          have g2 : h.2.2.2 + hf.2.2.2 ≤ R.slots := Nat.le_trans hle.2 hRs
          obtain ⟨hh, KX⟩ := KX hvt
          have hxr := KX H locs la hf k hH hS hL c5 c4 (hroom hf) g1 g2 (mn_metX IH htr hM2 c5 hh hrun c3)
          have hk3 : k < 3 := mn_exk (x := x2) _ _ _ _ _ _ hrun
          intro T hT X
          rcases hxr T hT X with ⟨v, st₀, t, T', L, h0, X', hL', e1, e2, hF, st1⟩ | ⟨q, st₀, t, T', L, E, ce, h0, X', hL', e1, e2, ⟨hE1, hH', hF⟩, hce, hcv, hcl, st1⟩
          · exact hF.elim
          · subst hE1
            obtain ⟨q1, q2, q3⟩ := vx_keep h0 e1 hS (fun _ _ z => z) (fun _ z => z) hL' hF
            have hal : t.vm.Alike s.vm := by rw [← e2]; exact X'.warmed.alike.symm
            have hH2 : mn_H s D ρ z0 (hf.1, none, h.2.2.1 + hf.2.2.1, h.2.2.2 + hf.2.2.2) T'.heap := by
              rw [e1]
              have h9 := hH'.moved hal
              exact ⟨h9.1, h9.2.1, fun n hn => by cases hn⟩
            have J := IH M x hM _ _ _ _ _ hr ((mn_catch_len hct).trans hlen) p e R s m args below meth c Q C G htab hRf hRl hRc hRs hE
            have hw := mn_catch_ok (R := R) (e := e) (below := below) (Q := Q) (H := T'.heap) (locs := locs ++ L) (cells := h.2.2.1 + hf.2.2.1) (slots := h.2.2.2 + hf.2.2.2) (rest := rest.map (mn_v ρ)) hM C G htab hk3 hct hL (by rw [e1]; exact hce) hcv hcl (fun la' hl' => J T'.heap (locs ++ L) la' hH2 q3 hl')
            obtain ⟨t2, a1, b1⟩ := hw T' rfl X'
            exact ⟨t2, st1.trans a1, b1⟩
        · cases hr
      · cases hr
    · cases hr
  · cases hr
theorem mn_take_rev {n : Nat} {st rest : List Value} {b : Nat} (h : st.drop n = .ref b :: rest) : st = (st.take n).reverse.reverse ++ .ref b :: rest := by
  rw [List.reverse_reverse, ← h, List.take_append_drop]
set_option maxHeartbeats 4000000 in
theorem mn_sound_all (hρ : mn_R ρ z0) : ∀ n, mn_sound l D ρ z0 n := by
  intro n
  induction n with
  | zero => intro M x hM pc ls st h r hr; cases hr
  | succ n IH =>
    intro M x hM pc ls st h r hr hlen p e R s m args below meth c Q C G htab hRf hRl hRc hRs hE
    change mn_one (mn_run n) M pc ls st h = some r at hr
    unfold mn_one at hr
    rw [hM] at hr
    dsimp only at hr
    split at hr
    · cases hr
    · rename_i i hi
      have hd := mn_dec hM hi
      split at hr
      · rename_i pc' ls' st' h' hs
        have hle := mn_run_le n _ _ _ _ _ _ hr
        exact mn_step_ok C G hρ hd hs (Nat.le_trans hle.1 hRc) (Nat.le_trans hle.2 hRs) (IH M x hM _ _ _ _ _ hr ((mn_step_len hs).trans hlen) p e R s m args below meth c Q C G htab hRf hRl hRc hRs hE)
      · split at hr
        · rename_i r' ht
          cases hr
          intro H locs la hH hS hL
          exact hE pc i st h H locs la hi ht hH hS (hL.1.trans hlen)
        · split at hr
          · -- invokevirtual
            rename_i idx hs0 ht0
            split at hr
            · rename_i M2 hl
              split at hr
              · cases hr
              · rename_i x2 hM2
                split at hr
                · rename_i b rest hdrop
                  split at hr
                  · rename_i hcond
                    obtain ⟨d1, d2, d3, d4, d5, d6⟩ := hcond
                    refine mn_call_ok IH hM C G htab hRf hRl hM2 hr hlen hRc hRs hE ?_ (fun _ => ⟨d6, ?_⟩)
                    · intro H locs la hf v hH hS hL c5 c4 hroom g1 g2 hMet
                      exact ⟨_, (mn_kV (XC := fun _ _ _ => False) (As := (st.take (mi_n x2)).reverse) C G.1 hH (hL.1.trans hlen) hM2 c5 d4 d5 d6 d3 d2 hl hroom mn_Pc.blind (mn_pre G hH hS) (mn_take_rev hdrop) (by rw [List.length_reverse]; exact d1) c4 hd g1 g2).1 hMet⟩
                    · intro H locs la hf k hH hS hL c5 c4 hroom g1 g2 hMet
                      exact (mn_kV (As := (st.take (mi_n x2)).reverse) C G.1 hH (hL.1.trans hlen) hM2 c5 d4 d5 d6 d3 d2 hl hroom mn_Pc.blind (mn_pre G hH hS) (mn_take_rev hdrop) (by rw [List.length_reverse]; exact d1) c4 hd g1 g2).2 hMet
                  · cases hr
                · cases hr
            · cases hr
          · -- invokestatic
            rename_i idx hs0 ht0
            split at hr
            · rename_i M2 hl
              split at hr
              · rename_i b a rest
                split at hr
                · rename_i hcond
                  intro H locs la hH hS hL
                  obtain ⟨hx, hb, hml, hown, hts, -⟩ := id C
                  have hle := mn_run_le n _ _ _ _ _ _ hr
                  have hlk : Cond.methodLink (mn_own (mi_o x)) idx (mn_y M2) ∈ mn_uw := mn_link hl
                  rw [hcond.1] at hlk
                  have J := IH M x hM _ _ _ _ _ hr hlen p e R s m args below meth c Q C G htab hRf hRl hRc hRs hE H locs la hH hS hL
                  exact va_mmin (x := a) (y := b) hx hb (hml.trans (hL.1.trans hlen).symm) hown (hts _ hlk) (hts _ mnS_min.1) (hts _ mnS_min.2) (hts _ mnC_min) (by omega) (by rw [mn_cats_map]; omega) (Nat.le_trans hle.1 hRc) (Nat.le_trans hle.2 hRs) hd J
                · cases hr
              · cases hr
            · rename_i q M2 hne hl
              split at hr
              · rename_i hq
                split at hr
                · cases hr
                · rename_i x2 hM2
                  split at hr
                  · rename_i hcond
                    obtain ⟨d1, d2⟩ := hcond
                    refine mn_call_ok IH hM C G htab hRf hRl hM2 hr hlen hRc hRs hE ?_ (fun h9 => by cases h9)
                    intro H locs la hf v hH hS hL c5 c4 hroom g1 g2 hMet
                    exact ⟨_, mn_kS (As := (st.take (mi_n x2)).reverse) C (hL.1.trans hlen) hM2 c5 d2 hl hq hroom hMet mn_Pc.blind (mn_pre G hH hS) (by rw [List.reverse_reverse, List.take_append_drop]) (by rw [List.length_reverse]; exact d1) c4 hd g1 g2⟩
                  · cases hr
              · cases hr
            · cases hr
          · -- invokespecial
            rename_i idx hs0 ht0
            split at hr
            · rename_i M2 hl
              split at hr
              · rename_i a rest
                split at hr
                · rename_i hcond
                  intro H locs la hH hS hL
                  obtain ⟨hx, hb, hml, hown, hts, -⟩ := id C
                  have J := IH M x hM _ _ _ _ _ hr hlen p e R s m args below meth c Q C G htab hRf hRl hRc hRs hE H locs la hH hS hL
                  have key : ∀ w ∈ mnV_a, w ∈ mn_uw := mn_uw_id mnVW_a
                  refine W.objInit hx hb hown (hts _ (mn_link hl)) (hts _ (key _ (List.mem_of_getElem? (i := 6) rfl))) (hts _ mnC_obj) rfl ((hL.1.trans hlen).trans hml.symm) rfl hd (by omega) ?_ J
                  have := mn_cats_map (ρ := ρ) rest
                  show 2 * 0 + ((rest.map (mn_v ρ)).map fun v => v.category).sum + 12 ≤ R.locals
                  rw [this]
                  omega
                · cases hr
              · cases hr
            · rename_i q M2 hne hl
              split at hr
              · rename_i hq
                split at hr
                · cases hr
                · rename_i x2 hM2
                  split at hr
                  · rename_i b rest hdrop
                    split at hr
                    · rename_i hcond
                      obtain ⟨d1, d2, d3, d4, d5⟩ := hcond
                      refine mn_call_ok IH hM C G htab hRf hRl hM2 hr hlen hRc hRs hE ?_ (fun h9 => by cases h9)
                      intro H locs la hf v hH hS hL c5 c4 hroom g1 g2 hMet
                      exact ⟨_, mn_kI (As := (st.take (mi_n x2)).reverse) C (hL.1.trans hlen) hM2 c5 d2 d3 d5 d4 hl hq hroom hMet mn_Pc.blind (mn_pre G hH hS) (mn_take_rev hdrop) (by rw [List.length_reverse]; exact d1) c4 hd g1 g2⟩
                    · cases hr
                  · cases hr
              · cases hr
            · cases hr
          · cases hr
end MNZ
