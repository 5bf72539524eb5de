/-! small things that every walk uses -/
section BASE
def bI (b : Bool) : Int32 := if b then nI 1 else nI 0
theorem bI_t : bI true = nI 1 := rfl
theorem bI_f : bI false = nI 0 := rfl
theorem bI_0 {b : Bool} : bI b = nI 0 ↔ b = false := by cases b <;> decide
theorem bI_z (b : Bool) : bI b = 0 ∨ bI b = 1 := by cases b <;> decide
theorem n1_z : nI 1 = 0 ∨ nI 1 = 1 := by decide
theorem n0_z : nI 0 = 0 ∨ nI 0 = 1 := by decide
theorem n10 : (nI 1 = nI 0) ↔ False := by decide
def oI (o : Option Nat) : Int32 := match o with
  | none => -1
  | some n => nI n
theorem oI_n : oI none = -1 := rfl
theorem oI_s {n : Nat} : oI (some n) = nI n := rfl
theorem nI_m1 {n : Nat} (h : n < 2 ^ 31) : (nI n = -1) ↔ False := by
  constructor
  · intro hq
    have h1 := nI_toInt h
    rw [hq] at h1
    have h2 : (-1 : Int32).toInt = -1 := by decide
    omega
  · exact False.elim
theorem m1_nI {n : Nat} (h : n < 2 ^ 31) : (-1 = nI n) ↔ False := ⟨fun q => (nI_m1 h).mp q.symm, False.elim⟩
theorem oI_inj {o o' : Option Nat} (h : ∀ n, o = some n → n < 2 ^ 31) (h' : ∀ n, o' = some n → n < 2 ^ 31) : oI o = oI o' ↔ o = o' := by
  cases o with
  | none => cases o' with
    | none => simp
    | some n' => simpa [oI] using (m1_nI (h' _ rfl)).mp
  | some n => cases o' with
    | none => simpa [oI] using (nI_m1 (h _ rfl)).mp
    | some n' => simp [oI, nI_eq (h _ rfl) (h' _ rfl)]
theorem lc_lt {x y : Int64} : lg_cmp x y < nI 0 ↔ x < y := lg_cmp_lt x y
theorem lc_gt {x y : Int64} : nI 0 < lg_cmp x y ↔ y < x := lg_cmp_gt x y
theorem lc_le {x y : Int64} : lg_cmp x y ≤ nI 0 ↔ x ≤ y := lg_cmp_le x y
theorem lc_ge {x y : Int64} : nI 0 ≤ lg_cmp x y ↔ y ≤ x := lg_cmp_ge x y
theorem lc_eq {x y : Int64} : lg_cmp x y = nI 0 ↔ x = y := lg_cmp_eq x y
theorem mk_i {x : Int32} : mn_k (some (.int x)) = some (.int x) := rfl
theorem mk_r {a : Nat} : mn_k (some (.ref a)) = some (.ref a) := rfl
theorem mk_0 : mn_k (some .null) = some .null := rfl
theorem mk_n : mn_k none = none := rfl
theorem mk_l {u : Int64} : mn_k (some (.long u)) = none := rfl
theorem mk_o {o : Option Nat} : mn_k (some (va_rf o)) = some (va_rf o) := by cases o <;> rfl
theorem cat_i {x : Int32} : (Value.int x).category = 1 := rfl
theorem cat_r {a : Nat} : (Value.ref a).category = 1 := rfl
theorem ri_r {a : Nat} : (mn_r (.ref a)).isSome = true := rfl
theorem ri_0 : (mn_r .null).isSome = true := rfl
theorem cat_le (v : Value) : v.category ≤ 2 := by cases v <;> exact Nat.le_of_ble_eq_true rfl
theorem mc0 : decide (mn_cats [] ≤ 8) = true := by decide
theorem mc1 {v : Value} : decide (mn_cats [v] ≤ 8) = true := by
  have := cat_le v
  simp [mn_cats]; omega
theorem mc2 {v w : Value} : decide (mn_cats [v, w] ≤ 8) = true := by
  have := cat_le v
  have := cat_le w
  simp [mn_cats]; omega
theorem mc3 {v w x : Value} : decide (mn_cats [v, w, x] ≤ 8) = true := by
  have := cat_le v
  have := cat_le w
  have := cat_le x
  simp [mn_cats]; omega
theorem mc4 {v w x y : Value} : decide (mn_cats [v, w, x, y] ≤ 8) = true := by
  have := cat_le v
  have := cat_le w
  have := cat_le x
  have := cat_le y
  simp [mn_cats]; omega
/-- a bit of a mask -/
def bt (x : Int32) (c : Nat) : Bool := !decide ((x >>> (nI c &&& 31)) &&& nI 1 = nI 0)
theorem bt_0 {x : Int32} {c : Nat} : ((x >>> (nI c &&& 31)) &&& nI 1 = nI 0) ↔ bt x c = false := by simp [bt]
theorem sh31 : ∀ c : Nat, c < 32 → (nI c &&& 31) = nI c ∧ ((nI c).toBitVec.smod 32).toNat = c := by decide +kernel
theorem bt_nI {w c : Nat} (hw : w < 2 ^ 31) (hc : c < 32) : bt (nI w) c = w.testBit c := by
  obtain ⟨h1, h2⟩ := sh31 c hc
  unfold bt
  rw [h1, pk_shrN hw _ c h2, pk_andN (by have := Nat.div_le_self w (2 ^ c); omega) 1 (by decide)]
  have h3 : w / 2 ^ c % 2 < 2 := Nat.mod_lt _ (by decide)
  rw [Nat.testBit_eq_decide_div_mod_eq]
  rw [show (2 : Nat) ^ 1 = 2 from rfl]
  rcases Nat.mod_two_eq_zero_or_one (w / 2 ^ c) with h | h <;> rw [h] <;> decide
theorem or_nI {w c : Nat} (hw : w < 2 ^ 31) (hc : c < 31) : nI w ||| (nI 1 <<< (nI c &&& 31)) = nI (w ||| 2 ^ c) := by
  obtain ⟨h1, h2⟩ := sh31 c (by omega)
  have h3 : 2 ^ c < 2 ^ 31 := Nat.pow_lt_pow_right (by decide) hc
  rw [h1, pk_shlN (n := 1) _ c h2 (by omega), Nat.one_mul]
  apply Int32.toBitVec_inj.mp
  apply BitVec.eq_of_toNat_eq
  have ho : w ||| 2 ^ c < 2 ^ 31 := Nat.or_lt_two_pow hw h3
  rw [Int32.toBitVec_or, BitVec.toNat_or, pk_tn (by omega), pk_tn (by omega), pk_tn (by omega)]
/-- the bounds of a walk down a row of links -/
def chn (B : Nat → Option Nat) : Option Nat → List Nat → Prop
  | o, [] => o = none
  | o, s :: l => o = some s ∧ chn B (B s) l
theorem toL_le {x y : Int32} : x.toInt64 ≤ y.toInt64 ↔ x ≤ y := by
  rw [Int64.le_iff_toInt_le, Int32.le_iff_toInt_le, Int32.toInt_toInt64, Int32.toInt_toInt64]
end BASE
