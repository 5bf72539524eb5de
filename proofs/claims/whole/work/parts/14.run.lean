/-! methods: calls, ends, throws -/
abbrev mn_Res : Type := mn_S × (Option Value ⊕ Nat)
abbrev mn_F : Type := Nat → Nat → List (Option Value) → List Value → mn_S → Option mn_Res
def mi_o (x : mn_I) : Nat := x.1
def mi_y (x : mn_I) : MethodName := x.2.1
def mi_c (x : mn_I) : ByteArray := x.2.2.1
def mi_L (x : mn_I) : Nat := x.2.2.2.1
def mi_r (x : mn_I) : Option FieldType := x.2.2.2.2.1
def mi_d (x : mn_I) : Nat := x.2.2.2.2.2.1
def mi_n (x : mn_I) : Nat := x.2.2.2.2.2.2.1
def mi_t (x : mn_I) : List (Nat × ClassFile.Instr × Nat) := x.2.2.2.2.2.2.2
def mi_i (x : mn_I) : Bool := (mi_y x).name == "<init>"
def mn_ct : Nat → Nat
  | 13 => 0
  | 19 => 1
  | 41 => 2
  | _ => 9
def mn_hT (M : Nat) : List (Nat × Nat × Nat × Nat) := (mn_hh M).map (fun q => (q.1, q.2.1, q.2.2.1, mn_ct q.2.2.2))
def mn_thr (idx is ic : Nat) : Option Nat := if (mn_txT.lookup is).isSome = true then (if idx = 32 ∧ ic = 36 then some 0 else if idx = 51 ∧ ic = 55 then some 1 else if idx = 143 ∧ ic = 147 then some 2 else none) else none
/-- locals where a method begins -/
def mn_sl1 (As : List Value) : List (Option Value) := match As with
  | [] => []
  | .long a :: t => some (.long a) :: none :: mn_sl1 t
  | .double a :: t => some (.double a) :: none :: mn_sl1 t
  | v :: t => some v :: mn_sl1 t
def mn_ent (nL : Nat) (As : List Value) : List (Option Value) := mn_sl1 As ++ List.replicate (nL - (mn_sl1 As).length) none
def mn_cats (st : List Value) : Nat := (st.map (fun v => v.category)).sum
/-- exceptions by number -/
def mn_exn : Nat → String
  | 0 => "java/lang/IllegalStateException"
  | 1 => "java/lang/IllegalArgumentException"
  | _ => "java/util/NoSuchElementException"
/-- the first row of a method's table that takes exception k at pc: the handler, its first instruction's local, where it goes on -/
def mn_hfind (T : List (Nat × Nat × Nat × Nat)) (pc k : Nat) : Option Nat := match T with
  | [] => none
  | (a, b, hp, q) :: t => if a ≤ pc ∧ pc < b then (if q = k then some hp else if (k = 0 ∧ q = 1) ∨ (k = 1 ∧ q = 0) ∨ (k = 1 ∧ q = 2) then mn_hfind t pc k else none) else mn_hfind t pc k
def mn_catch (x : mn_I) (T : List (Nat × Nat × Nat × Nat)) (pc k : Nat) (ls : List (Option Value)) : Option (Nat × List (Option Value)) := if mi_o x = 9 then match mn_hfind T pc k with
  | none => none
  | some hp => match (mi_t x).lookup hp with
    | some (.astore_n q, 1) => if (q : Nat) < ls.length then some (hp + 1, (mn_s1 ls q .null).set q none) else none
    | some (.astore q, 2) => if q < ls.length then some (hp + 2, (mn_s1 ls q .null).set q none) else none
    | _ => none
  else none
/-- a call of M2 with the arguments As (the receiver among them), rest below -/
def mn_call (f : mn_F) (vt : Bool) (M : Nat) (x : mn_I) (M2 : Nat) (As rest : List Value) (pc : Nat) (ls : List (Option Value)) (h : mn_S) : Option mn_Res := match mn_all[M2]? with
  | none => none
  | some x2 => if mi_d x2 + 1 ≤ mi_d x ∧ mi_L x2 ≤ 22 ∧ (mn_sl1 As).length ≤ mi_L x2 ∧ mn_cats rest ≤ 8 ∧ mn_nl M2 = true then match f M2 0 (mn_ent (mi_L x2) As) [] (h.1, h.2.1, 0, 0) with
    | some (h2, .inl v) => f M (pc + 3) ls (v.toList ++ rest) (h2.1, h2.2.1, h.2.2.1 + h2.2.2.1, h.2.2.2 + h2.2.2.2)
    | some (h2, .inr k) => if vt = true then match mn_catch x (mn_hT M) pc k ls with
      | some (pc', ls') => f M pc' ls' [] (h2.1, none, h.2.2.1 + h2.2.2.1, h.2.2.2 + h2.2.2.2)
      | none => none
      else none
    | none => none
    else none
/-- what ends a method -/
def mn_term (M : Nat) (x : mn_I) (i : ClassFile.Instr × Nat) (pc : Nat) (st : List Value) (h : mn_S) : Option mn_Res := match i with
  | (.return_, 1) => if mi_r x = none ∧ st = [] then some (h, .inl none) else none
  | (.ireturn, 1) => match st with
    | [.int v] => if mi_r x = some .int ∨ (mi_r x = some .boolean ∧ (v = 0 ∨ v = 1)) then some (h, .inl (some (.int v))) else none
    | _ => none
  | (.lreturn, 1) => match st with
    | [.long v] => if mi_r x = some .long then some (h, .inl (some (.long v))) else none
    | _ => none
  | (.areturn, 1) => match st, mi_r x with
    | [v], some (.object _) => if (mn_r v).isSome = true then some (h, .inl (some v)) else none
    | _, _ => none
  | (.new idx, 3) => match (mi_t x).lookup (pc + 3), (mi_t x).lookup (pc + 4), (mi_t x).lookup (pc + 6), (mi_t x).lookup (pc + 9) with
    | some (.dup, 1), some (.ldc is, 2), some (.invokespecial ic, 3), some (.athrow, 1) => match mn_thr idx is ic with
      | some k => if mi_o x = 7 ∧ mn_hh M = [] ∧ 6 ≤ mi_d x ∧ mn_cats st ≤ 8 then some ((h.1, none, h.2.2.1 + 1, h.2.2.2 + 6), .inr k) else none
      | none => none
    | _, _, _, _ => none
  | _ => none
def mn_one (f : mn_F) : mn_F := fun M pc ls st h => match mn_all[M]? with
  | none => none
  | some x => match (mi_t x).lookup pc with
    | none => none
    | some i => match mn_step (mi_o x) (mi_i x) i pc ls st h with
      | some (pc', ls', st', h') => f M pc' ls' st' h'
      | none => match mn_term M x i pc st h with
        | some r => some r
        | none => match i with
        | (.invokevirtual idx, 3) => match mn_ml (mi_o x) idx with
          | some (0, M2) => match mn_all[M2]? with
            | none => none
            | some x2 => match st.drop (mi_n x2) with
              | .ref b :: rest => if (st.take (mi_n x2)).length = mi_n x2 ∧ mn_isc h b (mi_o x2) = true ∧ mi_o x2 < 9 ∧ mn_stat M2 = false ∧ (mi_y x2).name ≠ "<init>" ∧ mn_hh M2 = [] then mn_call f true M x M2 (.ref b :: (st.take (mi_n x2)).reverse) rest pc ls h else none
              | _ => none
          | _ => none
        | (.invokestatic idx, 3) => match mn_ml (mi_o x) idx with
          | some (6, M2) => match st with
            | .int b :: .int a :: rest => if mn_y M2 = Lib.Math.min.name ∧ 1 ≤ mi_d x ∧ mn_cats rest ≤ 8 then f M (pc + 3) ls (.int (if b < a then b else a) :: rest) h else none
            | _ => none
          | some (q, M2) => if q = 1 ∨ (q = 3 ∧ mn_hh M2 = []) then match mn_all[M2]? with
            | none => none
            | some x2 => if (st.take (mi_n x2)).length = mi_n x2 ∧ mn_stat M2 = true then mn_call f false M x M2 (st.take (mi_n x2)).reverse (st.drop (mi_n x2)) pc ls h else none
            else none
          | _ => none
        | (.invokespecial idx, 3) => match mn_ml (mi_o x) idx with
          | some (5, _) => match st with
            | .ref _ :: rest => if 1 ≤ mi_d x ∧ mn_cats rest ≤ 8 then f M (pc + 3) ls rest h else none
            | _ => none
          | some (q, M2) => if q = 2 ∨ q = 4 then match mn_all[M2]? with
            | none => none
            | some x2 => match st.drop (mi_n x2) with
              | .ref b :: rest => if (st.take (mi_n x2)).length = mi_n x2 ∧ mn_stat M2 = false ∧ (mi_y x2).name = "<init>" ∧ mn_hh M2 = [] ∧ mi_r x2 = none then mn_call f false M x M2 (.ref b :: (st.take (mi_n x2)).reverse) rest pc ls h else none
              | _ => none
            else none
          | _ => none
        | _ => none
def mn_run : Nat → mn_F
  | 0 => fun _ _ _ _ _ => none
  | n + 1 => mn_one (mn_run n)
