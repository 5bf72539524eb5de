/-! a rule an instruction -/
section ER
variable {M pc o k idx ci : Nat} {ini : Bool} {ls : List (Option Value)} {st : List Value} {h : mn_S} {r : mn_Res} {n off : Int} {x y : Int32} {u v : Int64} {w w2 : Value} {a b : Nat} {q : Fin 4} {f : Fin 2}
theorem ev_iconst {c : Int32} (hI : mn_ins M pc = some (o, ini, .iconst n, 1)) (hv : Int32.ofInt n = c) : Ev M pc ls st h r ↔ Ev M (pc + 1) ls (.int c :: st) h r := by subst hv; exact Ev_S hI rfl
theorem ev_bipush {c : Int32} (hI : mn_ins M pc = some (o, ini, .bipush n, 2)) (hv : (Int8.ofInt n).toInt32 = c) : Ev M pc ls st h r ↔ Ev M (pc + 2) ls (.int c :: st) h r := by subst hv; exact Ev_S hI rfl
theorem ev_sipush {c : Int32} (hI : mn_ins M pc = some (o, ini, .sipush n, 3)) (hv : (Int16.ofInt n).toInt32 = c) : Ev M pc ls st h r ↔ Ev M (pc + 3) ls (.int c :: st) h r := by subst hv; exact Ev_S hI rfl
theorem ev_lconst {c : Int64} (hI : mn_ins M pc = some (o, ini, .lconst f, 1)) (hv : Int64.ofNat (f : Nat) = c) : Ev M pc ls st h r ↔ Ev M (pc + 1) ls (.long c :: st) h r := by subst hv; exact Ev_S hI rfl
theorem ev_null (hI : mn_ins M pc = some (o, ini, .aconst_null, 1)) : Ev M pc ls st h r ↔ Ev M (pc + 1) ls (.null :: st) h r := Ev_S hI rfl
theorem ev_iload (hI : mn_ins M pc = some (o, ini, .iload k, 2)) (hk : ls[k]? = some (some (.int x))) : Ev M pc ls st h r ↔ Ev M (pc + 2) ls (.int x :: st) h r := Ev_S hI (by simp only [mn_step, hk])
theorem ev_iload_n (hI : mn_ins M pc = some (o, ini, .iload_n q, 1)) (hk : ls[(q : Nat)]? = some (some (.int x))) : Ev M pc ls st h r ↔ Ev M (pc + 1) ls (.int x :: st) h r := Ev_S hI (by simp only [mn_step, hk])
theorem ev_lload (hI : mn_ins M pc = some (o, ini, .lload k, 2)) (hk : ls[k]? = some (some (.long u))) : Ev M pc ls st h r ↔ Ev M (pc + 2) ls (.long u :: st) h r := Ev_S hI (by simp only [mn_step, hk])
theorem ev_lload_n (hI : mn_ins M pc = some (o, ini, .lload_n q, 1)) (hk : ls[(q : Nat)]? = some (some (.long u))) : Ev M pc ls st h r ↔ Ev M (pc + 1) ls (.long u :: st) h r := Ev_S hI (by simp only [mn_step, hk])
theorem ev_aload (hI : mn_ins M pc = some (o, ini, .aload k, 2)) (hk : ls[k]? = some (some w)) (hw : (mn_r w).isSome = true) : Ev M pc ls st h r ↔ Ev M (pc + 2) ls (w :: st) h r := Ev_S hI (by simp only [mn_step, hk, hw, if_true])
theorem ev_aload_n (hI : mn_ins M pc = some (o, ini, .aload_n q, 1)) (hk : ls[(q : Nat)]? = some (some w)) (hw : (mn_r w).isSome = true) : Ev M pc ls st h r ↔ Ev M (pc + 1) ls (w :: st) h r := Ev_S hI (by simp only [mn_step, hk, hw, if_true])
theorem ev_istore (hI : mn_ins M pc = some (o, ini, .istore k, 2)) (hk : k < ls.length) : Ev M pc ls (.int x :: st) h r ↔ Ev M (pc + 2) (mn_s1 ls k (.int x)) st h r := Ev_S hI (by simp only [mn_step, hk, if_true])
theorem ev_istore_n (hI : mn_ins M pc = some (o, ini, .istore_n q, 1)) (hk : (q : Nat) < ls.length) : Ev M pc ls (.int x :: st) h r ↔ Ev M (pc + 1) (mn_s1 ls q (.int x)) st h r := Ev_S hI (by simp only [mn_step, hk, if_true])
theorem ev_lstore (hI : mn_ins M pc = some (o, ini, .lstore k, 2)) (hk : k + 1 < ls.length) : Ev M pc ls (.long u :: st) h r ↔ Ev M (pc + 2) (mn_s2 ls k (.long u)) st h r := Ev_S hI (by simp only [mn_step, hk, if_true])
theorem ev_lstore_n (hI : mn_ins M pc = some (o, ini, .lstore_n q, 1)) (hk : (q : Nat) + 1 < ls.length) : Ev M pc ls (.long u :: st) h r ↔ Ev M (pc + 1) (mn_s2 ls q (.long u)) st h r := Ev_S hI (by simp only [mn_step, hk, if_true])
theorem ev_astore (hI : mn_ins M pc = some (o, ini, .astore k, 2)) (hk : k < ls.length) (hw : (mn_r w).isSome = true) : Ev M pc ls (w :: st) h r ↔ Ev M (pc + 2) (mn_s1 ls k w) st h r := Ev_S hI (by simp only [mn_step, hk, hw, and_self, if_true])
theorem ev_astore_n (hI : mn_ins M pc = some (o, ini, .astore_n q, 1)) (hk : (q : Nat) < ls.length) (hw : (mn_r w).isSome = true) : Ev M pc ls (w :: st) h r ↔ Ev M (pc + 1) (mn_s1 ls q w) st h r := Ev_S hI (by simp only [mn_step, hk, hw, and_self, if_true])
theorem ev_iinc {c : Int32} (hI : mn_ins M pc = some (o, ini, .iinc k n, 3)) (hk : ls[k]? = some (some (.int x))) (hv : Int32.ofInt n = c) : Ev M pc ls st h r ↔ Ev M (pc + 3) (mn_s1 ls k (.int (x + c))) st h r := by subst hv; exact Ev_S hI (by simp only [mn_step, hk])
theorem ev_iadd (hI : mn_ins M pc = some (o, ini, .iadd, 1)) : Ev M pc ls (.int y :: .int x :: st) h r ↔ Ev M (pc + 1) ls (.int (x + y) :: st) h r := Ev_S hI rfl
theorem ev_isub (hI : mn_ins M pc = some (o, ini, .isub, 1)) : Ev M pc ls (.int y :: .int x :: st) h r ↔ Ev M (pc + 1) ls (.int (x - y) :: st) h r := Ev_S hI rfl
theorem ev_imul (hI : mn_ins M pc = some (o, ini, .imul, 1)) : Ev M pc ls (.int y :: .int x :: st) h r ↔ Ev M (pc + 1) ls (.int (x * y) :: st) h r := Ev_S hI rfl
theorem ev_iand (hI : mn_ins M pc = some (o, ini, .iand, 1)) : Ev M pc ls (.int y :: .int x :: st) h r ↔ Ev M (pc + 1) ls (.int (x &&& y) :: st) h r := Ev_S hI rfl
theorem ev_ior (hI : mn_ins M pc = some (o, ini, .ior, 1)) : Ev M pc ls (.int y :: .int x :: st) h r ↔ Ev M (pc + 1) ls (.int (x ||| y) :: st) h r := Ev_S hI rfl
theorem ev_idiv (hI : mn_ins M pc = some (o, ini, .idiv, 1)) (hy : ¬ y = 0) : Ev M pc ls (.int y :: .int x :: st) h r ↔ Ev M (pc + 1) ls (.int (x / y) :: st) h r := Ev_S hI (by simp only [mn_step, hy, if_false])
theorem ev_irem (hI : mn_ins M pc = some (o, ini, .irem, 1)) (hy : ¬ y = 0) : Ev M pc ls (.int y :: .int x :: st) h r ↔ Ev M (pc + 1) ls (.int (x - x / y * y) :: st) h r := Ev_S hI (by simp only [mn_step, hy, if_false])
theorem ev_ishl (hI : mn_ins M pc = some (o, ini, .ishl, 1)) : Ev M pc ls (.int y :: .int x :: st) h r ↔ Ev M (pc + 1) ls (.int (x <<< (y &&& 31)) :: st) h r := Ev_S hI rfl
theorem ev_ishr (hI : mn_ins M pc = some (o, ini, .ishr, 1)) : Ev M pc ls (.int y :: .int x :: st) h r ↔ Ev M (pc + 1) ls (.int (x >>> (y &&& 31)) :: st) h r := Ev_S hI rfl
theorem ev_iushr (hI : mn_ins M pc = some (o, ini, .iushr, 1)) : Ev M pc ls (.int y :: .int x :: st) h r ↔ Ev M (pc + 1) ls (.int (x.toUInt32 >>> (y.toUInt32 &&& Int32.toUInt32 31)).toInt32 :: st) h r := Ev_S hI rfl
theorem ev_ladd (hI : mn_ins M pc = some (o, ini, .ladd, 1)) : Ev M pc ls (.long v :: .long u :: st) h r ↔ Ev M (pc + 1) ls (.long (u + v) :: st) h r := Ev_S hI rfl
theorem ev_lsub (hI : mn_ins M pc = some (o, ini, .lsub, 1)) : Ev M pc ls (.long v :: .long u :: st) h r ↔ Ev M (pc + 1) ls (.long (u - v) :: st) h r := Ev_S hI rfl
theorem ev_lmul (hI : mn_ins M pc = some (o, ini, .lmul, 1)) : Ev M pc ls (.long v :: .long u :: st) h r ↔ Ev M (pc + 1) ls (.long (u * v) :: st) h r := Ev_S hI rfl
theorem ev_land (hI : mn_ins M pc = some (o, ini, .land, 1)) : Ev M pc ls (.long v :: .long u :: st) h r ↔ Ev M (pc + 1) ls (.long (u &&& v) :: st) h r := Ev_S hI rfl
theorem ev_lor (hI : mn_ins M pc = some (o, ini, .lor, 1)) : Ev M pc ls (.long v :: .long u :: st) h r ↔ Ev M (pc + 1) ls (.long (u ||| v) :: st) h r := Ev_S hI rfl
theorem ev_lxor (hI : mn_ins M pc = some (o, ini, .lxor, 1)) : Ev M pc ls (.long v :: .long u :: st) h r ↔ Ev M (pc + 1) ls (.long (u ^^^ v) :: st) h r := Ev_S hI rfl
theorem ev_lcmp (hI : mn_ins M pc = some (o, ini, .lcmp, 1)) : Ev M pc ls (.long v :: .long u :: st) h r ↔ Ev M (pc + 1) ls (.int (lg_cmp u v) :: st) h r := Ev_S hI rfl
theorem ev_i2l (hI : mn_ins M pc = some (o, ini, .i2l, 1)) : Ev M pc ls (.int x :: st) h r ↔ Ev M (pc + 1) ls (.long x.toInt64 :: st) h r := Ev_S hI rfl
theorem ev_l2i (hI : mn_ins M pc = some (o, ini, .l2i, 1)) : Ev M pc ls (.long u :: st) h r ↔ Ev M (pc + 1) ls (.int u.toInt32 :: st) h r := Ev_S hI rfl
theorem ev_dup (hI : mn_ins M pc = some (o, ini, .dup, 1)) (hw : w.category = 1) : Ev M pc ls (w :: st) h r ↔ Ev M (pc + 1) ls (w :: w :: st) h r := Ev_S hI (by simp only [mn_step, hw, if_true])
theorem ev_pop (hI : mn_ins M pc = some (o, ini, .pop, 1)) (hw : w.category = 1) : Ev M pc ls (w :: st) h r ↔ Ev M (pc + 1) ls st h r := Ev_S hI (by simp only [mn_step, hw, if_true])
theorem ev_dup2 (hI : mn_ins M pc = some (o, ini, .dup2, 1)) (hw : w.category = 1) (hw2 : w2.category = 1) : Ev M pc ls (w :: w2 :: st) h r ↔ Ev M (pc + 1) ls (w :: w2 :: w :: w2 :: st) h r := Ev_S hI (by simp only [mn_step, hw, hw2, and_self, if_true])
theorem ev_pop2 (hI : mn_ins M pc = some (o, ini, .pop2, 1)) : Ev M pc ls (.long u :: st) h r ↔ Ev M (pc + 1) ls st h r := Ev_S hI rfl
theorem ev_goto {t : Nat} (hI : mn_ins M pc = some (o, ini, .goto off, 3)) (ht : 0 ≤ (pc : Int) + off ∧ mn_to pc off = t) : Ev M pc ls st h r ↔ Ev M t ls st h r := by rw [← ht.2]; exact Ev_S hI (by simp only [mn_step, ht.1, if_true])
theorem ev_ifeq {t : Nat} (hI : mn_ins M pc = some (o, ini, .ifCond .eq off, 3)) (ht : 0 ≤ (pc : Int) + off ∧ mn_to pc off = t) : Ev M pc ls (.int x :: st) h r ↔ if x = 0 then Ev M t ls st h r else Ev M (pc + 3) ls st h r := by rw [← ht.2]; exact (Ev_S hI (by simp only [mn_step, ht.1, if_true])).trans Ev_if
theorem ev_ifne {t : Nat} (hI : mn_ins M pc = some (o, ini, .ifCond .ne off, 3)) (ht : 0 ≤ (pc : Int) + off ∧ mn_to pc off = t) : Ev M pc ls (.int x :: st) h r ↔ if x = 0 then Ev M (pc + 3) ls st h r else Ev M t ls st h r := by rw [← ht.2]; exact (Ev_S hI (by simp only [mn_step, ht.1, if_true])).trans Ev_if
theorem ev_iflt {t : Nat} (hI : mn_ins M pc = some (o, ini, .ifCond .lt off, 3)) (ht : 0 ≤ (pc : Int) + off ∧ mn_to pc off = t) : Ev M pc ls (.int x :: st) h r ↔ if x < 0 then Ev M t ls st h r else Ev M (pc + 3) ls st h r := by rw [← ht.2]; exact (Ev_S hI (by simp only [mn_step, ht.1, if_true])).trans Ev_if
theorem ev_ifge {t : Nat} (hI : mn_ins M pc = some (o, ini, .ifCond .ge off, 3)) (ht : 0 ≤ (pc : Int) + off ∧ mn_to pc off = t) : Ev M pc ls (.int x :: st) h r ↔ if 0 ≤ x then Ev M t ls st h r else Ev M (pc + 3) ls st h r := by rw [← ht.2]; exact (Ev_S hI (by simp only [mn_step, ht.1, if_true])).trans Ev_if
theorem ev_ifgt {t : Nat} (hI : mn_ins M pc = some (o, ini, .ifCond .gt off, 3)) (ht : 0 ≤ (pc : Int) + off ∧ mn_to pc off = t) : Ev M pc ls (.int x :: st) h r ↔ if 0 < x then Ev M t ls st h r else Ev M (pc + 3) ls st h r := by rw [← ht.2]; exact (Ev_S hI (by simp only [mn_step, ht.1, if_true])).trans Ev_if
theorem ev_ifle {t : Nat} (hI : mn_ins M pc = some (o, ini, .ifCond .le off, 3)) (ht : 0 ≤ (pc : Int) + off ∧ mn_to pc off = t) : Ev M pc ls (.int x :: st) h r ↔ if x ≤ 0 then Ev M t ls st h r else Ev M (pc + 3) ls st h r := by rw [← ht.2]; exact (Ev_S hI (by simp only [mn_step, ht.1, if_true])).trans Ev_if
theorem ev_cmpeq {t : Nat} (hI : mn_ins M pc = some (o, ini, .if_icmp .eq off, 3)) (ht : 0 ≤ (pc : Int) + off ∧ mn_to pc off = t) : Ev M pc ls (.int y :: .int x :: st) h r ↔ if x = y then Ev M t ls st h r else Ev M (pc + 3) ls st h r := by rw [← ht.2]; exact (Ev_S hI (by simp only [mn_step, ht.1, if_true])).trans Ev_if
theorem ev_cmpne {t : Nat} (hI : mn_ins M pc = some (o, ini, .if_icmp .ne off, 3)) (ht : 0 ≤ (pc : Int) + off ∧ mn_to pc off = t) : Ev M pc ls (.int y :: .int x :: st) h r ↔ if x = y then Ev M (pc + 3) ls st h r else Ev M t ls st h r := by rw [← ht.2]; exact (Ev_S hI (by simp only [mn_step, ht.1, if_true])).trans Ev_if
theorem ev_cmplt {t : Nat} (hI : mn_ins M pc = some (o, ini, .if_icmp .lt off, 3)) (ht : 0 ≤ (pc : Int) + off ∧ mn_to pc off = t) : Ev M pc ls (.int y :: .int x :: st) h r ↔ if x < y then Ev M t ls st h r else Ev M (pc + 3) ls st h r := by rw [← ht.2]; exact (Ev_S hI (by simp only [mn_step, ht.1, if_true])).trans Ev_if
theorem ev_cmpge {t : Nat} (hI : mn_ins M pc = some (o, ini, .if_icmp .ge off, 3)) (ht : 0 ≤ (pc : Int) + off ∧ mn_to pc off = t) : Ev M pc ls (.int y :: .int x :: st) h r ↔ if y ≤ x then Ev M t ls st h r else Ev M (pc + 3) ls st h r := by rw [← ht.2]; exact (Ev_S hI (by simp only [mn_step, ht.1, if_true])).trans Ev_if
theorem ev_cmpgt {t : Nat} (hI : mn_ins M pc = some (o, ini, .if_icmp .gt off, 3)) (ht : 0 ≤ (pc : Int) + off ∧ mn_to pc off = t) : Ev M pc ls (.int y :: .int x :: st) h r ↔ if y < x then Ev M t ls st h r else Ev M (pc + 3) ls st h r := by rw [← ht.2]; exact (Ev_S hI (by simp only [mn_step, ht.1, if_true])).trans Ev_if
theorem ev_cmple {t : Nat} (hI : mn_ins M pc = some (o, ini, .if_icmp .le off, 3)) (ht : 0 ≤ (pc : Int) + off ∧ mn_to pc off = t) : Ev M pc ls (.int y :: .int x :: st) h r ↔ if x ≤ y then Ev M t ls st h r else Ev M (pc + 3) ls st h r := by rw [← ht.2]; exact (Ev_S hI (by simp only [mn_step, ht.1, if_true])).trans Ev_if
theorem ev_acmpeq {t : Nat} {x y : Option Nat} (hI : mn_ins M pc = some (o, ini, .if_acmp .eq off, 3)) (ht : 0 ≤ (pc : Int) + off ∧ mn_to pc off = t) (hx : mn_r w = some x) (hy : mn_r w2 = some y) (h3 : mn_r3 x = true) : Ev M pc ls (w2 :: w :: st) h r ↔ if x = y then Ev M t ls st h r else Ev M (pc + 3) ls st h r := by rw [← ht.2]; exact (Ev_S hI (by simp only [mn_step, ht.1, hx, hy, h3, if_true]; rfl)).trans Ev_if
theorem ev_acmpne {t : Nat} {x y : Option Nat} (hI : mn_ins M pc = some (o, ini, .if_acmp .ne off, 3)) (ht : 0 ≤ (pc : Int) + off ∧ mn_to pc off = t) (hx : mn_r w = some x) (hy : mn_r w2 = some y) (h3 : mn_r3 x = true) : Ev M pc ls (w2 :: w :: st) h r ↔ if x = y then Ev M (pc + 3) ls st h r else Ev M t ls st h r := by rw [← ht.2]; exact (Ev_S hI (by simp only [mn_step, ht.1, hx, hy, h3, if_true]; rfl)).trans Ev_if
theorem ev_ifnull {t : Nat} {x : Option Nat} (hI : mn_ins M pc = some (o, ini, .ifnull off, 3)) (ht : 0 ≤ (pc : Int) + off ∧ mn_to pc off = t) (hx : mn_r w = some x) : Ev M pc ls (w :: st) h r ↔ if x = none then Ev M t ls st h r else Ev M (pc + 3) ls st h r := by rw [← ht.2]; exact (Ev_S hI (by simp only [mn_step, ht.1, hx, if_true])).trans Ev_if
theorem ev_ifnonnull {t : Nat} {x : Option Nat} (hI : mn_ins M pc = some (o, ini, .ifnonnull off, 3)) (ht : 0 ≤ (pc : Int) + off ∧ mn_to pc off = t) (hx : mn_r w = some x) : Ev M pc ls (w :: st) h r ↔ if x = none then Ev M (pc + 3) ls st h r else Ev M t ls st h r := by rw [← ht.2]; exact (Ev_S hI (by simp only [mn_step, ht.1, hx, if_true])).trans Ev_if
theorem ev_tsIn {dflt lo hi : Int} {offs : Array Int} {len t : Nat} (hI : mn_ins M pc = some (o, ini, .tableswitch dflt lo hi offs, len)) (hx : ¬ (x.toInt < lo ∨ hi < x.toInt)) (ho : offs[(x.toInt - lo).toNat]? = some off) (ht : 0 ≤ (pc : Int) + off ∧ mn_to pc off = t) : Ev M pc ls (.int x :: st) h r ↔ Ev M t ls st h r := by rw [← ht.2]; exact Ev_S hI (by simp only [mn_step, hx, ho, ht.1, if_true, if_false])
theorem ev_tsOut {dflt lo hi : Int} {offs : Array Int} {len t : Nat} (hI : mn_ins M pc = some (o, ini, .tableswitch dflt lo hi offs, len)) (hx : x.toInt < lo ∨ hi < x.toInt) (ht : 0 ≤ (pc : Int) + dflt ∧ mn_to pc dflt = t) : Ev M pc ls (.int x :: st) h r ↔ Ev M t ls st h r := by rw [← ht.2]; exact Ev_S hI (by simp only [mn_step, hx, ht.1, if_true])
theorem ev_getf (hI : mn_ins M pc = some (o, ini, .getfield idx, 3)) (hl : mn_fl o idx = some (ci, k)) : Ev M pc ls (.ref a :: st) h r ↔ Evk M (pc + 3) ls (mn_gf h a ci k) st h r := by
  cases hg : mn_gf h a ci k with
  | some w => exact Ev_S hI (by simp only [mn_step, hl, hg])
  | none => exact ⟨fun z => (Ev_stuck hI (by simp only [mn_step, hl, hg]) (fun x => rfl) (fun idx => ⟨by simp, by simp, by simp⟩) z).elim, fun z => z.elim⟩
theorem ev_putf (hI : mn_ins M pc = some (o, ini, .putfield idx, 3)) (hl : mn_fl o idx = some (ci, k)) (hf : (mn_T ci k).2.2.2 = false ∨ (ini = true ∧ ci = o)) : Ev M pc ls (w :: .ref a :: st) h r ↔ Evh M (pc + 3) ls st (mn_pf h a ci k w) r := by
  cases hg : mn_pf h a ci k w with
  | some h' => exact Ev_S hI (by simp only [mn_step, hl, hg, hf, if_true])
  | none => exact ⟨fun z => (Ev_stuck hI (by simp only [mn_step, hl, hg, hf, if_true]) (fun x => rfl) (fun idx => ⟨by simp, by simp, by simp⟩) z).elim, fun z => z.elim⟩
theorem ev_gets {nb : Bool} (hI : mn_ins M pc = some (o, ini, .getstatic idx, 3)) (hl : mn_sl o idx = some (k, nb)) : Ev M pc ls st h r ↔ Ev M (pc + 3) ls (.ref k :: st) h r := Ev_S hI (by simp only [mn_step, hl])
theorem ev_iald (hI : mn_ins M pc = some (o, ini, .iaload, 1)) : Ev M pc ls (.int x :: .ref a :: st) h r ↔ Evk M (pc + 1) ls (mn_al h a 0 x) st h r := by
  cases hg : mn_al h a 0 x with
  | some w => exact Ev_S hI (by simp only [mn_step, hg])
  | none => exact ⟨fun z => (Ev_stuck hI (by simp only [mn_step, hg]) (fun x => rfl) (fun idx => ⟨by simp, by simp, by simp⟩) z).elim, fun z => z.elim⟩
theorem ev_lald (hI : mn_ins M pc = some (o, ini, .laload, 1)) : Ev M pc ls (.int x :: .ref a :: st) h r ↔ Evk M (pc + 1) ls (mn_al h a 1 x) st h r := by
  cases hg : mn_al h a 1 x with
  | some w => exact Ev_S hI (by simp only [mn_step, hg])
  | none => exact ⟨fun z => (Ev_stuck hI (by simp only [mn_step, hg]) (fun x => rfl) (fun idx => ⟨by simp, by simp, by simp⟩) z).elim, fun z => z.elim⟩
theorem ev_bald (hI : mn_ins M pc = some (o, ini, .baload, 1)) : Ev M pc ls (.int x :: .ref a :: st) h r ↔ Evk M (pc + 1) ls (mn_al h a 2 x) st h r := by
  cases hg : mn_al h a 2 x with
  | some w => exact Ev_S hI (by simp only [mn_step, hg])
  | none => exact ⟨fun z => (Ev_stuck hI (by simp only [mn_step, hg]) (fun x => rfl) (fun idx => ⟨by simp, by simp, by simp⟩) z).elim, fun z => z.elim⟩
theorem ev_aald (hI : mn_ins M pc = some (o, ini, .aaload, 1)) : Ev M pc ls (.int x :: .ref a :: st) h r ↔ Evk M (pc + 1) ls (mn_aq h a x) st h r := by
  cases hg : mn_aq h a x with
  | some w => exact Ev_S hI (by simp only [mn_step, hg])
  | none => exact ⟨fun z => (Ev_stuck hI (by simp only [mn_step, hg]) (fun x => rfl) (fun idx => ⟨by simp, by simp, by simp⟩) z).elim, fun z => z.elim⟩
theorem ev_alen (hI : mn_ins M pc = some (o, ini, .arraylength, 1)) : Ev M pc ls (.ref a :: st) h r ↔ Evk M (pc + 1) ls (mn_len h a) st h r := by
  cases hg : mn_len h a with
  | some w => exact Ev_S hI (by simp only [mn_step, hg])
  | none => exact ⟨fun z => (Ev_stuck hI (by simp only [mn_step, hg]) (fun x => rfl) (fun idx => ⟨by simp, by simp, by simp⟩) z).elim, fun z => z.elim⟩
theorem ev_iast (hI : mn_ins M pc = some (o, ini, .iastore, 1)) : Ev M pc ls (.int y :: .int x :: .ref a :: st) h r ↔ Evh M (pc + 1) ls st (mn_asi h a x y) r := by
  cases hg : mn_asi h a x y with
  | some w => exact Ev_S hI (by simp only [mn_step, hg])
  | none => exact ⟨fun z => (Ev_stuck hI (by simp only [mn_step, hg]) (fun x => rfl) (fun idx => ⟨by simp, by simp, by simp⟩) z).elim, fun z => z.elim⟩
theorem ev_last (hI : mn_ins M pc = some (o, ini, .lastore, 1)) : Ev M pc ls (.long u :: .int x :: .ref a :: st) h r ↔ Evh M (pc + 1) ls st (mn_asl h a x u) r := by
  cases hg : mn_asl h a x u with
  | some w => exact Ev_S hI (by simp only [mn_step, hg])
  | none => exact ⟨fun z => (Ev_stuck hI (by simp only [mn_step, hg]) (fun x => rfl) (fun idx => ⟨by simp, by simp, by simp⟩) z).elim, fun z => z.elim⟩
theorem ev_bast (hI : mn_ins M pc = some (o, ini, .bastore, 1)) : Ev M pc ls (.int y :: .int x :: .ref a :: st) h r ↔ Evh M (pc + 1) ls st (mn_asz h a x y) r := by
  cases hg : mn_asz h a x y with
  | some w => exact Ev_S hI (by simp only [mn_step, hg])
  | none => exact ⟨fun z => (Ev_stuck hI (by simp only [mn_step, hg]) (fun x => rfl) (fun idx => ⟨by simp, by simp, by simp⟩) z).elim, fun z => z.elim⟩
theorem ev_aast (hI : mn_ins M pc = some (o, ini, .aastore, 1)) : Ev M pc ls (.ref b :: .int x :: .ref a :: st) h r ↔ Evh M (pc + 1) ls st (mn_asq h a x b) r := by
  cases hg : mn_asq h a x b with
  | some w => exact Ev_S hI (by simp only [mn_step, hg])
  | none => exact ⟨fun z => (Ev_stuck hI (by simp only [mn_step, hg]) (fun x => rfl) (fun idx => ⟨by simp, by simp, by simp⟩) z).elim, fun z => z.elim⟩
theorem ev_newi (hI : mn_ins M pc = some (o, ini, .newarray .int, 2)) : Ev M pc ls (.int x :: st) h r ↔ Evn M (pc + 2) ls st (mn_na h 0 x) r := by
  cases hg : mn_na h 0 x with
  | some w => exact Ev_S hI (by simp only [mn_step, hg])
  | none => exact ⟨fun z => (Ev_stuck hI (by simp only [mn_step, hg]) (fun x => rfl) (fun idx => ⟨by simp, by simp, by simp⟩) z).elim, fun z => z.elim⟩
theorem ev_newl (hI : mn_ins M pc = some (o, ini, .newarray .long, 2)) : Ev M pc ls (.int x :: st) h r ↔ Evn M (pc + 2) ls st (mn_na h 1 x) r := by
  cases hg : mn_na h 1 x with
  | some w => exact Ev_S hI (by simp only [mn_step, hg])
  | none => exact ⟨fun z => (Ev_stuck hI (by simp only [mn_step, hg]) (fun x => rfl) (fun idx => ⟨by simp, by simp, by simp⟩) z).elim, fun z => z.elim⟩
theorem ev_newz (hI : mn_ins M pc = some (o, ini, .newarray .boolean, 2)) : Ev M pc ls (.int x :: st) h r ↔ Evn M (pc + 2) ls st (mn_na h 2 x) r := by
  cases hg : mn_na h 2 x with
  | some w => exact Ev_S hI (by simp only [mn_step, hg])
  | none => exact ⟨fun z => (Ev_stuck hI (by simp only [mn_step, hg]) (fun x => rfl) (fun idx => ⟨by simp, by simp, by simp⟩) z).elim, fun z => z.elim⟩
theorem ev_newq1 (hI : mn_ins M pc = some (o, ini, .anewarray idx, 3)) (hl : mn_cl o idx = some 1) : Ev M pc ls (.int x :: st) h r ↔ Evn M (pc + 3) ls st (mn_na h 3 x) r := by
  cases hg : mn_na h 3 x with
  | some w => exact Ev_S hI (by simp only [mn_step, hl, hg])
  | none => exact ⟨fun z => (Ev_stuck hI (by simp only [mn_step, hl, hg]) (fun x => rfl) (fun idx => ⟨by simp, by simp, by simp⟩) z).elim, fun z => z.elim⟩
theorem ev_newq5 (hI : mn_ins M pc = some (o, ini, .anewarray idx, 3)) (hl : mn_cl o idx = some 5) : Ev M pc ls (.int x :: st) h r ↔ Evn M (pc + 3) ls st (mn_na h 4 x) r := by
  cases hg : mn_na h 4 x with
  | some w => exact Ev_S hI (by simp only [mn_step, hl, hg])
  | none => exact ⟨fun z => (Ev_stuck hI (by simp only [mn_step, hl, hg]) (fun x => rfl) (fun idx => ⟨by simp, by simp, by simp⟩) z).elim, fun z => z.elim⟩
theorem ev_newq4 (hI : mn_ins M pc = some (o, ini, .anewarray idx, 3)) (hl : mn_cl o idx = some 4) : Ev M pc ls (.int x :: st) h r ↔ Evn M (pc + 3) ls st (mn_na h 5 x) r := by
  cases hg : mn_na h 5 x with
  | some w => exact Ev_S hI (by simp only [mn_step, hl, hg])
  | none => exact ⟨fun z => (Ev_stuck hI (by simp only [mn_step, hl, hg]) (fun x => rfl) (fun idx => ⟨by simp, by simp, by simp⟩) z).elim, fun z => z.elim⟩
theorem ev_new (hI : mn_ins M pc = some (o, ini, .new idx, 3)) (hl : mn_cl o idx = some ci) (hs : (mn_new h ci).isSome = true) : Ev M pc ls st h r ↔ Evn M (pc + 3) ls st (mn_new h ci) r := by
  cases hg : mn_new h ci with
  | some w => exact Ev_S hI (by simp only [mn_step, hl, hg])
  | none => rw [hg] at hs; cases hs
theorem ev_ldc (hI : mn_ins M pc = some (o, ini, .ldc idx, 2)) (hl : mn_kc o idx = some x) : Ev M pc ls st h r ↔ Ev M (pc + 2) ls (.int x :: st) h r := Ev_S hI (by simp only [mn_step, hl])
theorem ev_ldcw (hI : mn_ins M pc = some (o, ini, .ldc_w idx, 3)) (hl : mn_kc o idx = some x) : Ev M pc ls st h r ↔ Ev M (pc + 3) ls (.int x :: st) h r := Ev_S hI (by simp only [mn_step, hl])
theorem ev_ldc2 (hI : mn_ins M pc = some (o, ini, .ldc2_w idx, 3)) (hl : mn_kl o idx = some u) : Ev M pc ls st h r ↔ Ev M (pc + 3) ls (.long u :: st) h r := Ev_S hI (by simp only [mn_step, hl])
theorem ev_vret {X : mn_I} (hI : mn_ins M pc = some (o, ini, .return_, 1)) (hX : mn_all[M]? = some X) (hr : mi_r X = none) : Ev M pc ls [] h r ↔ r = (h, .inl none) := Ev_E hI rfl hX (by simp only [mn_term, hr, and_self, if_true])
theorem ev_iret {X : mn_I} (hI : mn_ins M pc = some (o, ini, .ireturn, 1)) (hX : mn_all[M]? = some X) (hr : mi_r X = some .int) : Ev M pc ls [.int x] h r ↔ r = (h, .inl (some (.int x))) := Ev_E hI rfl hX (by simp only [mn_term, hr, true_or, if_true])
theorem ev_zret {X : mn_I} (hI : mn_ins M pc = some (o, ini, .ireturn, 1)) (hX : mn_all[M]? = some X) (hr : mi_r X = some .boolean) (hx : x = 0 ∨ x = 1) : Ev M pc ls [.int x] h r ↔ r = (h, .inl (some (.int x))) := Ev_E hI rfl hX (by simp only [mn_term]; rw [if_pos (Or.inr ⟨hr, hx⟩)])
theorem ev_lret {X : mn_I} (hI : mn_ins M pc = some (o, ini, .lreturn, 1)) (hX : mn_all[M]? = some X) (hr : mi_r X = some .long) : Ev M pc ls [.long u] h r ↔ r = (h, .inl (some (.long u))) := Ev_E hI rfl hX (by simp only [mn_term, hr, if_true])
theorem ev_aret {X : mn_I} {C : String} (hI : mn_ins M pc = some (o, ini, .areturn, 1)) (hX : mn_all[M]? = some X) (hr : mi_r X = some (.object C)) (hw : (mn_r w).isSome = true) : Ev M pc ls [w] h r ↔ r = (h, .inl (some w)) := Ev_E hI rfl hX (by simp only [mn_term, hr, hw, if_true])
end ER
theorem mk_int (x : Int32) : mn_k (some (.int x)) = some (.int x) := rfl
theorem mk_ref (a : Nat) : mn_k (some (.ref a)) = some (.ref a) := rfl
theorem mk_null : mn_k (some .null) = some .null := rfl
theorem mk_long (u : Int64) : mn_k (some (.long u)) = none := rfl
theorem mk_none : mn_k none = none := rfl
theorem mk_rf (o : Option Nat) : mn_k (some (va_rf o)) = some (va_rf o) := by cases o <;> rfl
theorem mr_ref (a : Nat) : mn_r (.ref a) = some (some a) := rfl
theorem mr_null : mn_r .null = some none := rfl
theorem mr_rf (o : Option Nat) : mn_r (va_rf o) = some o := by cases o <;> rfl
theorem cat_int (x : Int32) : (Value.int x).category = 1 := rfl
theorem cat_long (x : Int64) : (Value.long x).category = 2 := rfl
theorem cat_ref (a : Nat) : (Value.ref a).category = 1 := rfl
theorem cat_null : Value.null.category = 1 := rfl
theorem cat_rf (o : Option Nat) : (va_rf o).category = 1 := by cases o <;> rfl
theorem cats_nil : mn_cats [] = 0 := rfl
theorem cats_cons (v : Value) (t : List Value) : mn_cats (v :: t) = v.category + mn_cats t := by simp [mn_cats]
