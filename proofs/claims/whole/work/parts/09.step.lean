/-! WHAT THE SMALL MACHINE DOES, THE MACHINE DOES: one instruction -/
def mn_L (ρ : Nat → Nat) (la : Array Slot) (ls : List (Option Value)) : Prop := la.size = ls.length ∧ lv_wf la ∧ ∀ (i : Nat) (v : Value), ls[i]? = some (some v) → la[i]? = some (.val (mn_v ρ v))
def mn_at (U : State) (D : va_G) (ρ : Nat → Nat) (H : Heap) (a : Nat) (e : va_E) : Prop := match e with
  | .inl (t, n, x) => t < 6 ∧ ∃ cell : Cell, H[a]? = some cell ∧ U.isArrayOf cell (mn_ty t) ∧ cell.vm ≠ .unknown ∧ (n ≤ cell.slots.size ∧ cell.slots.size.toInt32 = Int32.ofNat n) ∧ (∀ j : Nat, j < n → cell.slots[j]? = some (mn_v ρ (mn_e x j))) ∧ (3 ≤ t → ∃ (kA : Class) (comp : ClassId), U.vm.classes[cell.cls]? = some kA ∧ kA.kind = .array comp (mn_ty t) ∧ U.vm.findClass (mn_own (mn_tc t)) = some comp)
  | .inr (ci, fs) => ∃ r : vw_C, vwCl[ci]? = some r ∧ t_OB a (D.1 ci) r.2.2 (D.2 ci) H (vp_V (fs.map (mn_v ρ)))
theorem mn_at.kept {U : State} {D : va_G} {ρ : Nat → Nat} {H H1 : Heap} {a : Nat} {e : va_E} (h : mn_at U D ρ H a e) (hq : H1[a]? = H[a]?) : mn_at U D ρ H1 a e := by
  cases e with
  | inl x =>
    obtain ⟨t, n, x⟩ := x
    obtain ⟨h0, cell, h1, h2⟩ := h
    exact ⟨h0, cell, hq.trans h1, h2⟩
  | inr o =>
    obtain ⟨r, h1, h2⟩ := h
    exact ⟨r, h1, h2.kept hq⟩
theorem mn_at.lt {U : State} {D : va_G} {ρ : Nat → Nat} {H : Heap} {a : Nat} {e : va_E} (h : mn_at U D ρ H a e) : a < H.size := by
  cases e with
  | inl x =>
    obtain ⟨t, n, x⟩ := x
    obtain ⟨h0, cell, h1, h2⟩ := h
    exact (Array.getElem?_eq_some_iff.mp h1).1
  | inr o =>
    obtain ⟨r, h1, cell, h2, -⟩ := h
    exact (Array.getElem?_eq_some_iff.mp h2).1
theorem mn_at.moved {u U : State} {D : va_G} {ρ : Nat → Nat} {H : Heap} {a : Nat} {e : va_E} (hvm : u.vm.Alike U.vm) (h : mn_at u D ρ H a e) : mn_at U D ρ H a e := by
  cases e with
  | inl x =>
    obtain ⟨t, n, x⟩ := x
    obtain ⟨h0, cell, h1, h2, h3, h4, h5, h6⟩ := h
    refine ⟨h0, cell, h1, State.isArrayOf_alike hvm h2, h3, h4, h5, fun ht => ?_⟩
    obtain ⟨kA, comp, q1, q2, q3⟩ := h6 ht
    obtain ⟨k', hk', he⟩ := hvm.2.2 _ _ q1
    exact ⟨k', comp, hk', by rw [he]; exact q2, by rw [hvm.findClass]; exact q3⟩
  | inr o => exact h
/-- the addresses of codes: apart; from 3 on in a row from z0 -/
def mn_R (ρ : Nat → Nat) (z0 : Nat) : Prop := (∀ i j, 3 ≤ i → ρ i = ρ j → i = j) ∧ ∀ k, 3 ≤ k → ρ k = z0 + (k - 3)
/-- the heap holds the picture -/
def mn_H (U : State) (D : va_G) (ρ : Nat → Nat) (z0 : Nat) (h : mn_S) (H : Heap) : Prop := (∀ (k : Nat) (e : va_E), h.1 k = some e → mn_at U D ρ H (ρ k) e) ∧ z0 ≤ H.size ∧ ∀ n, h.2.1 = some n → 3 ≤ n ∧ H.size = z0 + (n - 3)
theorem mn_H.moved {u U : State} {D : va_G} {ρ : Nat → Nat} {z0 : Nat} {h : mn_S} {H : Heap} (hvm : u.vm.Alike U.vm) (q : mn_H u D ρ z0 h H) : mn_H U D ρ z0 h H := ⟨fun k e he => (q.1 k e he).moved hvm, q.2⟩
theorem mn_H.put {U : State} {D : va_G} {ρ : Nat → Nat} {z0 : Nat} {h : mn_S} {H H' : Heap} {a : Nat} {e : va_E} (hρ : mn_R ρ z0) (ha3 : 3 ≤ a) (q : mn_H U D ρ z0 h H) (hs : H'.size = H.size) (ho : ∀ x, x ≠ ρ a → H'[x]? = H[x]?) (he : mn_at U D ρ H' (ρ a) e) : mn_H U D ρ z0 (mn_up h.1 a e, h.2) H' := by
  refine ⟨fun k e' hk => ?_, by rw [hs]; exact q.2.1, fun n hn => by rw [hs]; exact q.2.2 n hn⟩
  by_cases hka : k = a
  · subst hka
    simp [mn_up] at hk
    subst hk
    exact he
  · simp [mn_up, hka] at hk
    exact (q.1 k e' hk).kept (ho _ (fun z => hka (hρ.1 _ _ ha3 z.symm).symm))
theorem mn_H.push {U : State} {D : va_G} {ρ : Nat → Nat} {z0 n c c' k k' : Nat} {pic : Nat → Option va_E} {H H' : Heap} {e : va_E} (hρ : mn_R ρ z0) (q : mn_H U D ρ z0 (pic, some n, c, k) H) (hs : H'.size = H.size + 1) (ho : ∀ x, x < H.size → H'[x]? = H[x]?) (he : mn_at U D ρ H' H.size e) : mn_H U D ρ z0 (mn_up pic n e, some (n + 1), c', k') H' ∧ ρ n = H.size := by
  obtain ⟨h3, hz⟩ := q.2.2 n rfl
  have hρn : ρ n = H.size := by rw [hρ.2 n h3, hz]
  refine ⟨⟨fun j e' hj => ?_, by rw [hs]; have := q.2.1; omega, fun n' hn => ?_⟩, hρn⟩
  · by_cases hjn : j = n
    · subst hjn
      simp [mn_up] at hj
      subst hj
      rw [hρn]
      exact he
    · simp [mn_up, hjn] at hj
      exact (q.1 j e' hj).kept (ho _ (q.1 j e' hj).lt)
  · cases hn
    exact ⟨by omega, by rw [hs, hz]; omega⟩
/-- what is known of a running method -/
def mn_C (p : Program) (l : Launch) (s : State) (m : MethodId) (args : Array Value) (meth : Method) (c : Code) (o : Nat) (ini : Bool) (cc : ByteArray) (nL : Nat) : Prop :=
  p.tables.exec = Jvm.exec ∧ c.code = cc ∧ c.maxLocals = nL ∧ s.vm.findClass (mn_own o) = some m.cls ∧ (∀ w ∈ mn_uw, w.before args s = true) ∧ (ini = true → meth.name = "<init>") ∧ meth.locks = false ∧ l.stackTraces = false
/-- what is known of the world where a method begins -/
def mn_G (D : va_G) (ρ : Nat → Nat) (z0 : Nat) (s : State) : Prop :=
  va_K D vwCl [] s ∧ va_Z RX7 "TAKES" "[I" (.ref (ρ 1)) (fun q => z0 ≤ q) s s.heap ∧ va_Z RX7 "PUTS" "[I" (.ref (ρ 2)) (fun q => z0 ≤ q) s s.heap ∧ vx_Zq Bundle.tN "UNASSIGNED_STACK" Bundle.steD (fun q => z0 ≤ q) s s.heap ∧ vx_Zq Bundle.tN "SUPPRESSED_SENTINEL" Bundle.listD (fun q => z0 ≤ q) s s.heap ∧
  (va_Nc "java/lang/IllegalStateException" "java/lang/IllegalArgumentException" s ∧ va_Nc "java/lang/IllegalArgumentException" "java/lang/IllegalStateException" s ∧ va_Nc "java/lang/IllegalArgumentException" "java/util/NoSuchElementException" s) ∧ ∀ q ∈ mn_txT, ∃ sa, vk_R RX7 q.1 q.2 sa s
theorem mn_va_rf (ρ : Nat → Nat) (o : Option Nat) : mn_v ρ (va_rf o) = va_rf (o.map ρ) := by cases o <;> rfl
theorem mn_r_some {v : Value} {o : Option Nat} (h : mn_r v = some o) : v = va_rf o := by
  cases v <;> simp [mn_r] at h <;> subst h <;> rfl
theorem mn_cat (ρ : Nat → Nat) (v : Value) : (mn_v ρ v).category = v.category := by cases v <;> rfl
def mn_r3 (x : Option Nat) : Bool := match x with
  | none => true
  | some a => decide (3 ≤ a)
/-- one instruction that neither calls nor ends -/
def mn_step (o : Nat) (ini : Bool) (i : ClassFile.Instr × Nat) (pc : Nat) (ls : List (Option Value)) (st : List Value) (h : mn_S) : Option (Nat × List (Option Value) × List Value × mn_S) := match i with
  | (.iconst n, 1) => some (pc + 1, ls, .int (Int32.ofInt n) :: st, h)
  | (.bipush n, 2) => some (pc + 2, ls, .int (Int8.ofInt n).toInt32 :: st, h)
  | (.sipush n, 3) => some (pc + 3, ls, .int (Int16.ofInt n).toInt32 :: st, h)
  | (.lconst n, 1) => some (pc + 1, ls, .long (Int64.ofNat (n : Nat)) :: st, h)
  | (.aconst_null, 1) => some (pc + 1, ls, .null :: st, h)
  | (.iload k, 2) => match ls[k]? with | some (some (.int x)) => some (pc + 2, ls, .int x :: st, h) | _ => none
  | (.iload_n k, 1) => match ls[(k : Nat)]? with | some (some (.int x)) => some (pc + 1, ls, .int x :: st, h) | _ => none
  | (.lload k, 2) => match ls[k]? with | some (some (.long x)) => some (pc + 2, ls, .long x :: st, h) | _ => none
  | (.lload_n k, 1) => match ls[(k : Nat)]? with | some (some (.long x)) => some (pc + 1, ls, .long x :: st, h) | _ => none
  | (.aload k, 2) => match ls[k]? with | some (some v) => if (mn_r v).isSome = true then some (pc + 2, ls, v :: st, h) else none | _ => none
  | (.aload_n k, 1) => match ls[(k : Nat)]? with | some (some v) => if (mn_r v).isSome = true then some (pc + 1, ls, v :: st, h) else none | _ => none
  | (.istore k, 2) => match st with | .int x :: st => if k < ls.length then some (pc + 2, mn_s1 ls k (.int x), st, h) else none | _ => none
  | (.istore_n k, 1) => match st with | .int x :: st => if (k : Nat) < ls.length then some (pc + 1, mn_s1 ls k (.int x), st, h) else none | _ => none
  | (.lstore k, 2) => match st with | .long x :: st => if k + 1 < ls.length then some (pc + 2, mn_s2 ls k (.long x), st, h) else none | _ => none
  | (.lstore_n k, 1) => match st with | .long x :: st => if (k : Nat) + 1 < ls.length then some (pc + 1, mn_s2 ls k (.long x), st, h) else none | _ => none
  | (.astore k, 2) => match st with | v :: st => if (mn_r v).isSome = true ∧ k < ls.length then some (pc + 2, mn_s1 ls k v, st, h) else none | _ => none
  | (.astore_n k, 1) => match st with | v :: st => if (mn_r v).isSome = true ∧ (k : Nat) < ls.length then some (pc + 1, mn_s1 ls k v, st, h) else none | _ => none
  | (.iinc k n, 3) => match ls[k]? with | some (some (.int x)) => some (pc + 3, mn_s1 ls k (.int (x + Int32.ofInt n)), st, h) | _ => none
  | (.iadd, 1) => match st with | .int y :: .int x :: st => some (pc + 1, ls, .int (x + y) :: st, h) | _ => none
  | (.isub, 1) => match st with | .int y :: .int x :: st => some (pc + 1, ls, .int (x - y) :: st, h) | _ => none
  | (.imul, 1) => match st with | .int y :: .int x :: st => some (pc + 1, ls, .int (x * y) :: st, h) | _ => none
  | (.iand, 1) => match st with | .int y :: .int x :: st => some (pc + 1, ls, .int (x &&& y) :: st, h) | _ => none
  | (.ior, 1) => match st with | .int y :: .int x :: st => some (pc + 1, ls, .int (x ||| y) :: st, h) | _ => none
  | (.idiv, 1) => match st with | .int y :: .int x :: st => if y = 0 then none else some (pc + 1, ls, .int (x / y) :: st, h) | _ => none
  | (.irem, 1) => match st with | .int y :: .int x :: st => if y = 0 then none else some (pc + 1, ls, .int (x - x / y * y) :: st, h) | _ => none
  | (.ishl, 1) => match st with | .int y :: .int x :: st => some (pc + 1, ls, .int (x <<< (y &&& 31)) :: st, h) | _ => none
  | (.ishr, 1) => match st with | .int y :: .int x :: st => some (pc + 1, ls, .int (x >>> (y &&& 31)) :: st, h) | _ => none
  | (.iushr, 1) => match st with | .int y :: .int x :: st => some (pc + 1, ls, .int (x.toUInt32 >>> (y.toUInt32 &&& Int32.toUInt32 31)).toInt32 :: st, h) | _ => none
  | (.ladd, 1) => match st with | .long y :: .long x :: st => some (pc + 1, ls, .long (x + y) :: st, h) | _ => none
  | (.lsub, 1) => match st with | .long y :: .long x :: st => some (pc + 1, ls, .long (x - y) :: st, h) | _ => none
  | (.lmul, 1) => match st with | .long y :: .long x :: st => some (pc + 1, ls, .long (x * y) :: st, h) | _ => none
  | (.land, 1) => match st with | .long y :: .long x :: st => some (pc + 1, ls, .long (x &&& y) :: st, h) | _ => none
  | (.lor, 1) => match st with | .long y :: .long x :: st => some (pc + 1, ls, .long (x ||| y) :: st, h) | _ => none
  | (.lxor, 1) => match st with | .long y :: .long x :: st => some (pc + 1, ls, .long (x ^^^ y) :: st, h) | _ => none
  | (.lcmp, 1) => match st with | .long y :: .long x :: st => some (pc + 1, ls, .int (lg_cmp x y) :: st, h) | _ => none
  | (.i2l, 1) => match st with | .int x :: st => some (pc + 1, ls, .long x.toInt64 :: st, h) | _ => none
  | (.l2i, 1) => match st with | .long x :: st => some (pc + 1, ls, .int x.toInt32 :: st, h) | _ => none
  | (.dup, 1) => match st with | v :: st => if v.category = 1 then some (pc + 1, ls, v :: v :: st, h) else none | _ => none
  | (.pop, 1) => match st with | v :: st => if v.category = 1 then some (pc + 1, ls, st, h) else none | _ => none
  | (.dup2, 1) => match st with | v :: w :: st => if v.category = 1 ∧ w.category = 1 then some (pc + 1, ls, v :: w :: v :: w :: st, h) else none | _ => none
  | (.pop2, 1) => match st with | .long _ :: st => some (pc + 1, ls, st, h) | _ => none
  | (.goto off, 3) => if 0 ≤ (pc : Int) + off then some (mn_to pc off, ls, st, h) else none
  | (.ifCond cnd off, 3) => if 0 ≤ (pc : Int) + off then match cnd, st with
    | .eq, .int x :: st => some (if x = 0 then mn_to pc off else pc + 3, ls, st, h)
    | .ne, .int x :: st => some (if x = 0 then pc + 3 else mn_to pc off, ls, st, h)
    | .lt, .int x :: st => some (if x < 0 then mn_to pc off else pc + 3, ls, st, h)
    | .ge, .int x :: st => some (if 0 ≤ x then mn_to pc off else pc + 3, ls, st, h)
    | .gt, .int x :: st => some (if 0 < x then mn_to pc off else pc + 3, ls, st, h)
    | .le, .int x :: st => some (if x ≤ 0 then mn_to pc off else pc + 3, ls, st, h)
    | _, _ => none
    else none
  | (.if_icmp cnd off, 3) => if 0 ≤ (pc : Int) + off then match cnd, st with
    | .eq, .int y :: .int x :: st => some (if x = y then mn_to pc off else pc + 3, ls, st, h)
    | .ne, .int y :: .int x :: st => some (if x = y then pc + 3 else mn_to pc off, ls, st, h)
    | .lt, .int y :: .int x :: st => some (if x < y then mn_to pc off else pc + 3, ls, st, h)
    | .ge, .int y :: .int x :: st => some (if y ≤ x then mn_to pc off else pc + 3, ls, st, h)
    | .gt, .int y :: .int x :: st => some (if y < x then mn_to pc off else pc + 3, ls, st, h)
    | .le, .int y :: .int x :: st => some (if x ≤ y then mn_to pc off else pc + 3, ls, st, h)
    | _, _ => none
    else none
  | (.if_acmp cnd off, 3) => if 0 ≤ (pc : Int) + off then match cnd, st with
    | .eq, w :: v :: st => match mn_r v, mn_r w with
      | some x, some y => if mn_r3 x = false then none else some (if x = y then mn_to pc off else pc + 3, ls, st, h)
      | _, _ => none
    | .ne, w :: v :: st => match mn_r v, mn_r w with
      | some x, some y => if mn_r3 x = false then none else some (if x = y then pc + 3 else mn_to pc off, ls, st, h)
      | _, _ => none
    | _, _ => none
    else none
  | (.ifnull off, 3) => if 0 ≤ (pc : Int) + off then match st with
    | v :: st => match mn_r v with
      | some x => some (if x = none then mn_to pc off else pc + 3, ls, st, h)
      | none => none
    | _ => none
    else none
  | (.ifnonnull off, 3) => if 0 ≤ (pc : Int) + off then match st with
    | v :: st => match mn_r v with
      | some x => some (if x = none then pc + 3 else mn_to pc off, ls, st, h)
      | none => none
    | _ => none
    else none
  | (.tableswitch dflt lo hi offs, _) => match st with
    | .int x :: st => if x.toInt < lo ∨ hi < x.toInt then (if 0 ≤ (pc : Int) + dflt then some (mn_to pc dflt, ls, st, h) else none) else match offs[(x.toInt - lo).toNat]? with
      | some off => if 0 ≤ (pc : Int) + off then some (mn_to pc off, ls, st, h) else none
      | none => none
    | _ => none
  | (.lookupswitch dflt ps, _) => match st with
    | .int x :: st => if (ps.toList.zip (ps.toList.drop 1)).all (fun (a, next) => a.1 < next.1) = true ∧ 0 ≤ (pc : Int) + Op.lookupswitch.offset ps.toList dflt x.toInt then some (mn_to pc (Op.lookupswitch.offset ps.toList dflt x.toInt), ls, st, h) else none
    | _ => none
  | (.getfield idx, 3) => match mn_fl o idx, st with
    | some (ci, k), .ref a :: st => match mn_gf h a ci k with
      | some v => some (pc + 3, ls, v :: st, h)
      | none => none
    | _, _ => none
  | (.putfield idx, 3) => match mn_fl o idx, st with
    | some (ci, k), v :: .ref a :: st => if (mn_T ci k).2.2.2 = false ∨ (ini = true ∧ ci = o) then match mn_pf h a ci k v with
      | some h' => some (pc + 3, ls, st, h')
      | none => none
      else none
    | _, _ => none
  | (.getstatic idx, 3) => match mn_sl o idx with
    | some (k, _) => some (pc + 3, ls, .ref k :: st, h)
    | none => none
  | (.iaload, 1) => match st with | .int i :: .ref a :: st => (match mn_al h a 0 i with | some v => some (pc + 1, ls, v :: st, h) | none => none) | _ => none
  | (.laload, 1) => match st with | .int i :: .ref a :: st => (match mn_al h a 1 i with | some v => some (pc + 1, ls, v :: st, h) | none => none) | _ => none
  | (.baload, 1) => match st with | .int i :: .ref a :: st => (match mn_al h a 2 i with | some v => some (pc + 1, ls, v :: st, h) | none => none) | _ => none
  | (.aaload, 1) => match st with | .int i :: .ref a :: st => (match mn_aq h a i with | some v => some (pc + 1, ls, v :: st, h) | none => none) | _ => none
  | (.arraylength, 1) => match st with | .ref a :: st => (match mn_len h a with | some v => some (pc + 1, ls, v :: st, h) | none => none) | _ => none
  | (.iastore, 1) => match st with | .int x :: .int i :: .ref a :: st => (match mn_asi h a i x with | some h' => some (pc + 1, ls, st, h') | none => none) | _ => none
  | (.lastore, 1) => match st with | .long x :: .int i :: .ref a :: st => (match mn_asl h a i x with | some h' => some (pc + 1, ls, st, h') | none => none) | _ => none
  | (.bastore, 1) => match st with | .int x :: .int i :: .ref a :: st => (match mn_asz h a i x with | some h' => some (pc + 1, ls, st, h') | none => none) | _ => none
  | (.aastore, 1) => match st with | .ref b :: .int i :: .ref a :: st => (match mn_asq h a i b with | some h' => some (pc + 1, ls, st, h') | none => none) | _ => none
  | (.newarray ty, 2) => match st with
    | .int n :: st => match mn_na h (match ty with | .int => 0 | .long => 1 | .boolean => 2 | _ => 9) n with
      | some (k, h') => some (pc + 2, ls, .ref k :: st, h')
      | none => none
    | _ => none
  | (.anewarray idx, 3) => match mn_cl o idx, st with
    | some ci, .int n :: st => match mn_na h (match ci with | 1 => 3 | 5 => 4 | 4 => 5 | _ => 9) n with
      | some (k, h') => some (pc + 3, ls, .ref k :: st, h')
      | none => none
    | _, _ => none
  | (.new idx, 3) => match mn_cl o idx with
    | some ci => match mn_new h ci with
      | some (k, h') => some (pc + 3, ls, .ref k :: st, h')
      | none => none
    | none => none
  | (.ldc idx, 2) => match mn_kc o idx with | some v => some (pc + 2, ls, .int v :: st, h) | none => none
  | (.ldc_w idx, 3) => match mn_kc o idx with | some v => some (pc + 3, ls, .int v :: st, h) | none => none
  | (.ldc2_w idx, 3) => match mn_kl o idx with | some v => some (pc + 3, ls, .long v :: st, h) | none => none
  | _ => none
