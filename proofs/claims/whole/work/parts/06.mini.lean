/-! THE SMALL MACHINE. A picture of the cells by codes (Nat), a frame of known locals, a stack; one function that does an instruction. What it does, the machine does (part 05). -/
/-- codes 0, 1, 2: the script, TAKES, PUTS; from 3 on: what the law makes -/
abbrev mn_S : Type := (Nat → Option va_E) × Option Nat × Nat × Nat
def mn_v (ρ : Nat → Nat) (v : Value) : Value := match v with
  | .ref a => .ref (ρ a)
  | w => w
def mn_e (x : (Nat → Int32) ⊕ (Nat → Int64) ⊕ (Nat → UInt32) ⊕ (Nat → UInt64) ⊕ (Nat → Option Nat)) (j : Nat) : Value := match x with
  | .inl f => .int (f j)
  | .inr (.inl f) => .long (f j)
  | .inr (.inr (.inl f)) => .float (f j)
  | .inr (.inr (.inr (.inl f))) => .double (f j)
  | .inr (.inr (.inr (.inr f))) => va_rf (f j)
/-- array types by number -/
def mn_ty : Nat → FieldType
  | 0 => .int
  | 1 => .long
  | 2 => .boolean
  | 3 => .object RX1
  | 4 => .object RX5
  | _ => .object RX4
/-- the class of what an array of references holds -/
def mn_tc : Nat → Nat
  | 3 => 1
  | 4 => 5
  | _ => 4
def mn_up {α : Type} (f : Nat → Option α) (a : Nat) (x : α) : Nat → Option α := fun k => if k = a then some x else f k
def mn_k (a : Option Value) : Option Value := match a with
  | some (.long _) => none
  | some (.double _) => none
  | w => w
def mn_s1 : List (Option Value) → Nat → Value → List (Option Value)
  | [], _, _ => []
  | _ :: t, 0, v => some v :: t
  | a :: t, 1, v => mn_k a :: mn_s1 t 0 v
  | a :: t, i + 2, v => a :: mn_s1 t (i + 1) v
def mn_s2 : List (Option Value) → Nat → Value → List (Option Value)
  | [], _, _ => []
  | [_], 0, _ => []
  | _ :: _ :: t, 0, v => some v :: none :: t
  | a :: t, 1, v => mn_k a :: mn_s2 t 0 v
  | a :: t, i + 2, v => a :: mn_s2 t (i + 1) v
def mn_r (v : Value) : Option (Option Nat) := match v with
  | .ref a => some (some a)
  | .null => some none
  | _ => none
def mn_fty (ci k : Nat) : FieldType := match ci with
  | 0 => tyX0 k
  | 1 => tyX1 k
  | 2 => tyX2 k
  | 3 => tyX3 k
  | 4 => tyX4 k
  | 5 => tyX5 k
  | 6 => tyX6 k
  | 7 => tyX7 k
  | _ => tyX8 k
/-- does a value fit a type as it stands -/
def mn_ok (ty : FieldType) (v : Value) : Bool := match ty, v with
  | .int, .int _ => true
  | .long, .long _ => true
  | .boolean, .int x => decide (x = 0) || decide (x = 1)
  | .object _, .ref _ => true
  | .object _, .null => true
  | .array _, .ref _ => true
  | .array _, .null => true
  | _, _ => false
def mn_in (i : Int32) (n : Nat) : Bool := !decide (i < 0) && decide (i.toNatClampNeg < n)
theorem mn_in_iff {i : Int32} {n : Nat} : mn_in i n = true ↔ vp_in i n := by
  simp [mn_in, vp_in]
def mn_gf (h : mn_S) (a ci k : Nat) : Option Value := match h.1 a with
  | some (.inr (c, fs)) => if c = ci then fs[k]? else none
  | _ => none
def mn_pf (h : mn_S) (a ci k : Nat) (v : Value) : Option mn_S := match h.1 a with
  | some (.inr (c, fs)) => if c = ci ∧ k < fs.length ∧ 3 ≤ a ∧ mn_ok (mn_fty ci k) v = true then some (mn_up h.1 a (.inr (c, fs.set k v)), h.2) else none
  | _ => none
def mn_al (h : mn_S) (a t : Nat) (i : Int32) : Option Value := match h.1 a with
  | some (.inl (t', n, x)) => if t' = t ∧ mn_in i n = true then some (mn_e x i.toNatClampNeg) else none
  | _ => none
/-- an array of references: any of the types from 3 on -/
def mn_aq (h : mn_S) (a : Nat) (i : Int32) : Option Value := match h.1 a with
  | some (.inl (t, n, .inr (.inr (.inr (.inr f))))) => if 3 ≤ t ∧ t < 6 ∧ mn_in i n = true then some (va_rf (f i.toNatClampNeg)) else none
  | _ => none
def mn_len (h : mn_S) (a : Nat) : Option Value := match h.1 a with
  | some (.inl (t, n, _)) => if t < 6 then some (.int (Int32.ofNat n)) else none
  | _ => none
def mn_asi (h : mn_S) (a : Nat) (i x : Int32) : Option mn_S := match h.1 a with
  | some (.inl (0, n, .inl f)) => if mn_in i n = true ∧ 3 ≤ a then some (mn_up h.1 a (.inl (0, n, .inl (upd f i.toNatClampNeg x))), h.2) else none
  | _ => none
def mn_asz (h : mn_S) (a : Nat) (i x : Int32) : Option mn_S := match h.1 a with
  | some (.inl (2, n, .inl f)) => if mn_in i n = true ∧ 3 ≤ a ∧ (x = 0 ∨ x = 1) then some (mn_up h.1 a (.inl (2, n, .inl (upd f i.toNatClampNeg x))), h.2) else none
  | _ => none
def mn_asl (h : mn_S) (a : Nat) (i : Int32) (x : Int64) : Option mn_S := match h.1 a with
  | some (.inl (1, n, .inr (.inl f))) => if mn_in i n = true ∧ 3 ≤ a then some (mn_up h.1 a (.inl (1, n, .inr (.inl (vp_updL f i.toNatClampNeg x)))), h.2) else none
  | _ => none
def mn_isc (h : mn_S) (b ci : Nat) : Bool := match h.1 b with
  | some (.inr (c, _)) => decide (c = ci)
  | _ => false
def mn_asq (h : mn_S) (a : Nat) (i : Int32) (b : Nat) : Option mn_S := match h.1 a with
  | some (.inl (t, n, .inr (.inr (.inr (.inr f))))) => if 3 ≤ t ∧ t < 6 ∧ mn_in i n = true ∧ 3 ≤ a ∧ mn_isc h b (mn_tc t) = true then some (mn_up h.1 a (.inl (t, n, .inr (.inr (.inr (.inr (va_up f i.toNatClampNeg (some b))))))), h.2) else none
  | _ => none
/-- making things: the next code -/
def mn_add (h : mn_S) (e : va_E) (n : Nat) : Option (Nat × mn_S) := match h.2.1 with
  | some k => some (k, mn_up h.1 k e, some (k + 1), h.2.2.1 + 1, h.2.2.2 + n)
  | none => none
def mn_def (ty : FieldType) : Value := defaultValue ty
def mn_N : Nat → Nat
  | 0 => 4
  | 1 => 4
  | 2 => 5
  | 3 => 8
  | 4 => 5
  | 5 => 12
  | 6 => 9
  | 7 => 2
  | _ => 34
def mn_new (h : mn_S) (ci : Nat) : Option (Nat × mn_S) := mn_add h (.inr (ci, (List.range (mn_N ci)).map (fun k => mn_def (mn_fty ci k)))) (mn_N ci)
def mn_na (h : mn_S) (t : Nat) (n : Int32) : Option (Nat × mn_S) :=
  if n < 0 ∨ 100000 < n.toNatClampNeg ∨ 6 ≤ t then none else match t with
  | 0 => mn_add h (.inl (0, n.toNatClampNeg, .inl (fun _ => 0))) n.toNatClampNeg
  | 1 => mn_add h (.inl (1, n.toNatClampNeg, .inr (.inl (fun _ => 0)))) n.toNatClampNeg
  | 2 => mn_add h (.inl (2, n.toNatClampNeg, .inl (fun _ => 0))) n.toNatClampNeg
  | t => mn_add h (.inl (t, n.toNatClampNeg, .inr (.inr (.inr (.inr (fun _ => none)))))) n.toNatClampNeg
/-- where a jump leads -/
def mn_to (pc : Nat) (off : Int) : Nat := ((pc : Int) + off).toNat
def mn_ts (pc : Nat) (dflt lo hi : Int) (offs : Array Int) (x : Int32) : Nat := if x.toInt < lo ∨ hi < x.toInt then mn_to pc dflt else mn_to pc (offs.getD (x.toInt - lo).toNat 0)
/-- words that stay true while the machine warms -/
def mn_gw (w : Cond) : Bool := match w with
  | .methodLinkNest .. => true
  | .fieldLinkNest .. => true
  | .castable .. => true
  | .declares _ => true
  | .arrayOver (.object _) => true
  | w => goodWord w
theorem mn_pay {w : Cond} (hg : mn_gw w = true) {args : Array Value} {s : State} (h : w.before args s = true) (a' : Array Value) (U : State) (hW : s.WarmedH U.vm) : w.before a' U = true := by
  by_cases hgw : goodWord w = true
  · exact word_at hW (good_of_word hgw) h
  · cases w with
    | methodLinkNest a i x q => exact va_Nw.use rfl (va_Nw.warmM hW (va_Nw.of rfl h))
    | fieldLinkNest a i b n d q => exact va_Nw.use rfl (va_Nw.warmF hW (va_Nw.of rfl h))
    | castable C T => exact va_Nw.use rfl (va_Nw.warmC hW (va_Nw.of rfl h))
    | declares x => exact va_Nw.use rfl (va_Nw.warmD hW (va_Nw.of rfl h))
    | arrayOver ty =>
      cases ty with
      | object C => exact va_AO.use (va_AO.moved hW.alike (va_AO.of h))
      | _ => exact absurd hg hgw
    | _ => exact absurd hg hgw
def mn_uw : List Cond := lw_tbl.filter mn_gw
