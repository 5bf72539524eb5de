section E_41a_rows
variable {ls : List (Option Value)} {st : List Value} {h : mn_S} {r : mn_Res} {a0 a1 a2 a3 a4 a5 a6 a7 a8 a9 a10 a11 a12 a13 : Option Value} {x y : Int32} {u v : Int64} {w w2 w3 w4 w5 w6 w7 w8 : Value} {x0 x1 x2 x3 x4 x5 x6 x7 x8 : Int32} {u0 u1 u2 u3 u4 u5 u6 u7 u8 : Int64} {a b : Nat} {o1 o2 : Option Nat}
theorem iX8_thrown_0 : mn_ins 85 0 = some (8, false, .aload_n 0, 1) := by decide +kernel
theorem eX8_thrown_0 : Ev 85 0 (some (.ref a) :: ls) (st) h r ↔ Ev 85 1 (some (.ref a) :: ls) (.ref a :: st) h r := ev_aload_n iX8_thrown_0 rfl rfl
theorem iX8_thrown_1 : mn_ins 85 1 = some (8, false, .getfield 94, 3) := by decide +kernel
theorem eX8_thrown_1 : Ev 85 1 (ls) (.ref a :: st) h r ↔ Evk 85 4 ls (mn_gf h a 8 0) st h r := ev_getf iX8_thrown_1 (by decide +kernel)
theorem iX8_thrown_4 : mn_ins 85 4 = some (8, false, .ireturn, 1) := by decide +kernel
theorem eX8_thrown_4 : Ev 85 4 (ls) [.int x] h r ↔ r = (h, .inl (some (.int x))) := ev_iret iX8_thrown_4 (X := mnI_X8_thrown) rfl rfl
theorem iX8_in_0 : mn_ins 86 0 = some (8, false, .lload_n 0, 1) := by decide +kernel
theorem eX8_in_0 : Ev 86 0 (some (.long u) :: ls) (st) h r ↔ Ev 86 1 (some (.long u) :: ls) (.long u :: st) h r := ev_lload_n iX8_in_0 rfl
theorem iX8_in_1 : mn_ins 86 1 = some (8, false, .iload_n 2, 1) := by decide +kernel
theorem eX8_in_1 : Ev 86 1 (a0 :: a1 :: some (.int x) :: ls) (st) h r ↔ Ev 86 2 (a0 :: a1 :: some (.int x) :: ls) (.int x :: st) h r := ev_iload_n iX8_in_1 rfl
theorem iX8_in_2 : mn_ins 86 2 = some (8, false, .i2l, 1) := by decide +kernel
theorem eX8_in_2 : Ev 86 2 (ls) (.int x :: st) h r ↔ Ev 86 3 (ls) (.long x.toInt64 :: st) h r := ev_i2l iX8_in_2
theorem iX8_in_3 : mn_ins 86 3 = some (8, false, .lcmp, 1) := by decide +kernel
theorem eX8_in_3 : Ev 86 3 (ls) (.long v :: .long u :: st) h r ↔ Ev 86 4 (ls) (.int (lg_cmp u v) :: st) h r := ev_lcmp iX8_in_3
theorem iX8_in_4 : mn_ins 86 4 = some (8, false, .ifCond .lt 14, 3) := by decide +kernel
theorem eX8_in_4 : Ev 86 4 (ls) (.int x :: st) h r ↔ if x < nI 0 then Ev 86 18 (ls) (st) h r else Ev 86 7 (ls) (st) h r := ev_iflt iX8_in_4 (by decide)
theorem iX8_in_7 : mn_ins 86 7 = some (8, false, .lload_n 0, 1) := by decide +kernel
theorem eX8_in_7 : Ev 86 7 (some (.long u) :: ls) (st) h r ↔ Ev 86 8 (some (.long u) :: ls) (.long u :: st) h r := ev_lload_n iX8_in_7 rfl
theorem iX8_in_8 : mn_ins 86 8 = some (8, false, .iload_n 3, 1) := by decide +kernel
theorem eX8_in_8 : Ev 86 8 (a0 :: a1 :: a2 :: some (.int x) :: ls) (st) h r ↔ Ev 86 9 (a0 :: a1 :: a2 :: some (.int x) :: ls) (.int x :: st) h r := ev_iload_n iX8_in_8 rfl
theorem iX8_in_9 : mn_ins 86 9 = some (8, false, .i2l, 1) := by decide +kernel
theorem eX8_in_9 : Ev 86 9 (ls) (.int x :: st) h r ↔ Ev 86 10 (ls) (.long x.toInt64 :: st) h r := ev_i2l iX8_in_9
theorem iX8_in_10 : mn_ins 86 10 = some (8, false, .lcmp, 1) := by decide +kernel
theorem eX8_in_10 : Ev 86 10 (ls) (.long v :: .long u :: st) h r ↔ Ev 86 11 (ls) (.int (lg_cmp u v) :: st) h r := ev_lcmp iX8_in_10
theorem iX8_in_11 : mn_ins 86 11 = some (8, false, .ifCond .gt 7, 3) := by decide +kernel
theorem eX8_in_11 : Ev 86 11 (ls) (.int x :: st) h r ↔ if nI 0 < x then Ev 86 18 (ls) (st) h r else Ev 86 14 (ls) (st) h r := ev_ifgt iX8_in_11 (by decide)
theorem iX8_in_14 : mn_ins 86 14 = some (8, false, .iconst 1, 1) := by decide +kernel
theorem eX8_in_14 : Ev 86 14 (ls) (st) h r ↔ Ev 86 15 (ls) (.int (nI 1) :: st) h r := ev_iconst iX8_in_14 (by decide)
theorem iX8_in_15 : mn_ins 86 15 = some (8, false, .goto 4, 3) := by decide +kernel
theorem eX8_in_15 : Ev 86 15 (ls) (st) h r ↔ Ev 86 19 (ls) (st) h r := ev_goto iX8_in_15 (by decide)
theorem iX8_in_18 : mn_ins 86 18 = some (8, false, .iconst 0, 1) := by decide +kernel
theorem eX8_in_18 : Ev 86 18 (ls) (st) h r ↔ Ev 86 19 (ls) (.int (nI 0) :: st) h r := ev_iconst iX8_in_18 (by decide)
theorem iX8_in_19 : mn_ins 86 19 = some (8, false, .ireturn, 1) := by decide +kernel
theorem eX8_in_19 (hx : x = 0 ∨ x = 1) : Ev 86 19 (ls) [.int x] h r ↔ r = (h, .inl (some (.int x))) := ev_zret iX8_in_19 (X := mnI_X8_in) rfl rfl hx
theorem iX8_beginPart_0 : mn_ins 87 0 = some (8, false, .aload_n 0, 1) := by decide +kernel
theorem eX8_beginPart_0 : Ev 87 0 (some (.ref a) :: ls) (st) h r ↔ Ev 87 1 (some (.ref a) :: ls) (.ref a :: st) h r := ev_aload_n iX8_beginPart_0 rfl rfl
theorem iX8_beginPart_1 : mn_ins 87 1 = some (8, false, .iload_n 1, 1) := by decide +kernel
theorem eX8_beginPart_1 : Ev 87 1 (a0 :: some (.int x) :: ls) (st) h r ↔ Ev 87 2 (a0 :: some (.int x) :: ls) (.int x :: st) h r := ev_iload_n iX8_beginPart_1 rfl
theorem iX8_beginPart_2 : mn_ins 87 2 = some (8, false, .ifCond .eq 14, 3) := by decide +kernel
theorem eX8_beginPart_2 : Ev 87 2 (ls) (.int x :: st) h r ↔ if x = nI 0 then Ev 87 16 (ls) (st) h r else Ev 87 5 (ls) (st) h r := ev_ifeq iX8_beginPart_2 (by decide)
theorem iX8_beginPart_5 : mn_ins 87 5 = some (8, false, .aload_n 0, 1) := by decide +kernel
theorem eX8_beginPart_5 : Ev 87 5 (some (.ref a) :: ls) (st) h r ↔ Ev 87 6 (some (.ref a) :: ls) (.ref a :: st) h r := ev_aload_n iX8_beginPart_5 rfl rfl
theorem iX8_beginPart_6 : mn_ins 87 6 = some (8, false, .getfield 97, 3) := by decide +kernel
theorem eX8_beginPart_6 : Ev 87 6 (ls) (.ref a :: st) h r ↔ Evk 87 9 ls (mn_gf h a 8 9) st h r := ev_getf iX8_beginPart_6 (by decide +kernel)
theorem iX8_beginPart_9 : mn_ins 87 9 = some (8, false, .ifCond .ne 7, 3) := by decide +kernel
theorem eX8_beginPart_9 : Ev 87 9 (ls) (.int x :: st) h r ↔ if x = nI 0 then Ev 87 12 (ls) (st) h r else Ev 87 16 (ls) (st) h r := ev_ifne iX8_beginPart_9 (by decide)
theorem iX8_beginPart_12 : mn_ins 87 12 = some (8, false, .iconst 0, 1) := by decide +kernel
theorem eX8_beginPart_12 : Ev 87 12 (ls) (st) h r ↔ Ev 87 13 (ls) (.int (nI 0) :: st) h r := ev_iconst iX8_beginPart_12 (by decide)
theorem iX8_beginPart_13 : mn_ins 87 13 = some (8, false, .goto 4, 3) := by decide +kernel
theorem eX8_beginPart_13 : Ev 87 13 (ls) (st) h r ↔ Ev 87 17 (ls) (st) h r := ev_goto iX8_beginPart_13 (by decide)
theorem iX8_beginPart_16 : mn_ins 87 16 = some (8, false, .iconst 1, 1) := by decide +kernel
theorem eX8_beginPart_16 : Ev 87 16 (ls) (st) h r ↔ Ev 87 17 (ls) (.int (nI 1) :: st) h r := ev_iconst iX8_beginPart_16 (by decide)
theorem iX8_beginPart_17 : mn_ins 87 17 = some (8, false, .putfield 94, 3) := by decide +kernel
theorem eX8_beginPart_17 : Ev 87 17 (ls) (w :: .ref a :: st) h r ↔ Evh 87 20 ls st (mn_pf h a 8 0 w) r := ev_putf iX8_beginPart_17 (by decide +kernel) (by decide +kernel)
theorem iX8_beginPart_20 : mn_ins 87 20 = some (8, false, .aload_n 0, 1) := by decide +kernel
theorem eX8_beginPart_20 : Ev 87 20 (some (.ref a) :: ls) (st) h r ↔ Ev 87 21 (some (.ref a) :: ls) (.ref a :: st) h r := ev_aload_n iX8_beginPart_20 rfl rfl
theorem iX8_beginPart_21 : mn_ins 87 21 = some (8, false, .getfield 94, 3) := by decide +kernel
theorem eX8_beginPart_21 : Ev 87 21 (ls) (.ref a :: st) h r ↔ Evk 87 24 ls (mn_gf h a 8 0) st h r := ev_getf iX8_beginPart_21 (by decide +kernel)
theorem iX8_beginPart_24 : mn_ins 87 24 = some (8, false, .ifCond .le 5, 3) := by decide +kernel
theorem eX8_beginPart_24 : Ev 87 24 (ls) (.int x :: st) h r ↔ if x ≤ nI 0 then Ev 87 29 (ls) (st) h r else Ev 87 27 (ls) (st) h r := ev_ifle iX8_beginPart_24 (by decide)
theorem iX8_beginPart_27 : mn_ins 87 27 = some (8, false, .iconst 0, 1) := by decide +kernel
theorem eX8_beginPart_27 : Ev 87 27 (ls) (st) h r ↔ Ev 87 28 (ls) (.int (nI 0) :: st) h r := ev_iconst iX8_beginPart_27 (by decide)
theorem iX8_beginPart_28 : mn_ins 87 28 = some (8, false, .ireturn, 1) := by decide +kernel
theorem eX8_beginPart_28 : Ev 87 28 (ls) [.int x] h r ↔ r = (h, .inl (some (.int x))) := ev_iret iX8_beginPart_28 (X := mnI_X8_beginPart) rfl rfl
theorem iX8_beginPart_29 : mn_ins 87 29 = some (8, false, .aload_n 0, 1) := by decide +kernel
theorem eX8_beginPart_29 : Ev 87 29 (some (.ref a) :: ls) (st) h r ↔ Ev 87 30 (some (.ref a) :: ls) (.ref a :: st) h r := ev_aload_n iX8_beginPart_29 rfl rfl
theorem iX8_beginPart_30 : mn_ins 87 30 = some (8, false, .iload_n 2, 1) := by decide +kernel
theorem eX8_beginPart_30 : Ev 87 30 (a0 :: a1 :: some (.int x) :: ls) (st) h r ↔ Ev 87 31 (a0 :: a1 :: some (.int x) :: ls) (.int x :: st) h r := ev_iload_n iX8_beginPart_30 rfl
theorem iX8_beginPart_31 : mn_ins 87 31 = some (8, false, .putfield 9, 3) := by decide +kernel
theorem eX8_beginPart_31 : Ev 87 31 (ls) (w :: .ref a :: st) h r ↔ Evh 87 34 ls st (mn_pf h a 8 3 w) r := ev_putf iX8_beginPart_31 (by decide +kernel) (by decide +kernel)
theorem iX8_beginPart_34 : mn_ins 87 34 = some (8, false, .aload_n 0, 1) := by decide +kernel
theorem eX8_beginPart_34 : Ev 87 34 (some (.ref a) :: ls) (st) h r ↔ Ev 87 35 (some (.ref a) :: ls) (.ref a :: st) h r := ev_aload_n iX8_beginPart_34 rfl rfl
theorem iX8_beginPart_35 : mn_ins 87 35 = some (8, false, .getfield 13, 3) := by decide +kernel
theorem eX8_beginPart_35 : Ev 87 35 (ls) (.ref a :: st) h r ↔ Evk 87 38 ls (mn_gf h a 8 4) st h r := ev_getf iX8_beginPart_35 (by decide +kernel)
theorem iX8_beginPart_38 : mn_ins 87 38 = some (8, false, .iload_n 2, 1) := by decide +kernel
theorem eX8_beginPart_38 : Ev 87 38 (a0 :: a1 :: some (.int x) :: ls) (st) h r ↔ Ev 87 39 (a0 :: a1 :: some (.int x) :: ls) (.int x :: st) h r := ev_iload_n iX8_beginPart_38 rfl
theorem iX8_beginPart_39 : mn_ins 87 39 = some (8, false, .iconst 0, 1) := by decide +kernel
theorem eX8_beginPart_39 : Ev 87 39 (ls) (st) h r ↔ Ev 87 40 (ls) (.int (nI 0) :: st) h r := ev_iconst iX8_beginPart_39 (by decide)
theorem iX8_beginPart_40 : mn_ins 87 40 = some (8, false, .iastore, 1) := by decide +kernel
theorem eX8_beginPart_40 : Ev 87 40 (ls) (.int y :: .int x :: .ref a :: st) h r ↔ Evh 87 41 ls st (mn_asi h a x y) r := ev_iast iX8_beginPart_40
theorem iX8_beginPart_41 : mn_ins 87 41 = some (8, false, .iload_n 2, 1) := by decide +kernel
theorem eX8_beginPart_41 : Ev 87 41 (a0 :: a1 :: some (.int x) :: ls) (st) h r ↔ Ev 87 42 (a0 :: a1 :: some (.int x) :: ls) (.int x :: st) h r := ev_iload_n iX8_beginPart_41 rfl
theorem iX8_beginPart_42 : mn_ins 87 42 = some (8, false, .ireturn, 1) := by decide +kernel
theorem eX8_beginPart_42 : Ev 87 42 (ls) [.int x] h r ↔ r = (h, .inl (some (.int x))) := ev_iret iX8_beginPart_42 (X := mnI_X8_beginPart) rfl rfl
theorem iX8_block_0 : mn_ins 88 0 = some (8, false, .aload_n 0, 1) := by decide +kernel
theorem eX8_block_0 : Ev 88 0 (some (.ref a) :: ls) (st) h r ↔ Ev 88 1 (some (.ref a) :: ls) (.ref a :: st) h r := ev_aload_n iX8_block_0 rfl rfl
theorem iX8_block_1 : mn_ins 88 1 = some (8, false, .aload_n 0, 1) := by decide +kernel
theorem eX8_block_1 : Ev 88 1 (some (.ref a) :: ls) (st) h r ↔ Ev 88 2 (some (.ref a) :: ls) (.ref a :: st) h r := ev_aload_n iX8_block_1 rfl rfl
theorem iX8_block_2 : mn_ins 88 2 = some (8, false, .getfield 101, 3) := by decide +kernel
theorem eX8_block_2 : Ev 88 2 (ls) (.ref a :: st) h r ↔ Evk 88 5 ls (mn_gf h a 8 1) st h r := ev_getf iX8_block_2 (by decide +kernel)
theorem iX8_block_5 : mn_ins 88 5 = some (8, false, .bipush 6, 2) := by decide +kernel
theorem eX8_block_5 : Ev 88 5 (ls) (st) h r ↔ Ev 88 7 (ls) (.int (nI 6) :: st) h r := ev_bipush iX8_block_5 (by decide)
theorem iX8_block_7 : mn_ins 88 7 = some (8, false, .if_icmp .ge 7, 3) := by decide +kernel
theorem eX8_block_7 : Ev 88 7 (ls) (.int y :: .int x :: st) h r ↔ if y ≤ x then Ev 88 14 (ls) (st) h r else Ev 88 10 (ls) (st) h r := ev_cmpge iX8_block_7 (by decide)
theorem iX8_block_10 : mn_ins 88 10 = some (8, false, .iconst 1, 1) := by decide +kernel
theorem eX8_block_10 : Ev 88 10 (ls) (st) h r ↔ Ev 88 11 (ls) (.int (nI 1) :: st) h r := ev_iconst iX8_block_10 (by decide)
theorem iX8_block_11 : mn_ins 88 11 = some (8, false, .goto 4, 3) := by decide +kernel
theorem eX8_block_11 : Ev 88 11 (ls) (st) h r ↔ Ev 88 15 (ls) (st) h r := ev_goto iX8_block_11 (by decide)
theorem iX8_block_14 : mn_ins 88 14 = some (8, false, .iconst 0, 1) := by decide +kernel
theorem eX8_block_14 : Ev 88 14 (ls) (st) h r ↔ Ev 88 15 (ls) (.int (nI 0) :: st) h r := ev_iconst iX8_block_14 (by decide)
theorem iX8_block_15 : mn_ins 88 15 = some (8, false, .aload_n 0, 1) := by decide +kernel
theorem eX8_block_15 : Ev 88 15 (some (.ref a) :: ls) (st) h r ↔ Ev 88 16 (some (.ref a) :: ls) (.ref a :: st) h r := ev_aload_n iX8_block_15 rfl rfl
theorem iX8_block_16 : mn_ins 88 16 = some (8, false, .getfield 101, 3) := by decide +kernel
theorem eX8_block_16 : Ev 88 16 (ls) (.ref a :: st) h r ↔ Evk 88 19 ls (mn_gf h a 8 1) st h r := ev_getf iX8_block_16 (by decide +kernel)
theorem iX8_block_19 : mn_ins 88 19 = some (8, false, .bipush 6, 2) := by decide +kernel
theorem eX8_block_19 : Ev 88 19 (ls) (st) h r ↔ Ev 88 21 (ls) (.int (nI 6) :: st) h r := ev_bipush iX8_block_19 (by decide)
theorem iX8_block_21 : mn_ins 88 21 = some (8, false, .if_icmp .ge 10, 3) := by decide +kernel
theorem eX8_block_21 : Ev 88 21 (ls) (.int y :: .int x :: st) h r ↔ if y ≤ x then Ev 88 31 (ls) (st) h r else Ev 88 24 (ls) (st) h r := ev_cmpge iX8_block_21 (by decide)
theorem iX8_block_24 : mn_ins 88 24 = some (8, false, .aload_n 0, 1) := by decide +kernel
theorem eX8_block_24 : Ev 88 24 (some (.ref a) :: ls) (st) h r ↔ Ev 88 25 (some (.ref a) :: ls) (.ref a :: st) h r := ev_aload_n iX8_block_24 rfl rfl
theorem iX8_block_25 : mn_ins 88 25 = some (8, false, .getfield 101, 3) := by decide +kernel
theorem eX8_block_25 : Ev 88 25 (ls) (.ref a :: st) h r ↔ Evk 88 28 ls (mn_gf h a 8 1) st h r := ev_getf iX8_block_25 (by decide +kernel)
theorem iX8_block_28 : mn_ins 88 28 = some (8, false, .goto 4, 3) := by decide +kernel
theorem eX8_block_28 : Ev 88 28 (ls) (st) h r ↔ Ev 88 32 (ls) (st) h r := ev_goto iX8_block_28 (by decide)
theorem iX8_block_31 : mn_ins 88 31 = some (8, false, .iconst 0, 1) := by decide +kernel
theorem eX8_block_31 : Ev 88 31 (ls) (st) h r ↔ Ev 88 32 (ls) (.int (nI 0) :: st) h r := ev_iconst iX8_block_31 (by decide)
theorem iX8_block_32 : mn_ins 88 32 = some (8, false, .invokevirtual 104, 3) := by decide +kernel
theorem eX8_block_32 : Ev 88 32 (ls) (.int x1 :: .int x0 :: .ref b :: st) h r ↔ Evr true (decide (mn_cats st ≤ 8) && mn_isc h b 8) 88 32 ls st h.2.2.1 h.2.2.2 (Cl 87 (.ref b :: [.int x0, .int x1]) h.1 h.2.1) r := Ev_V (As := [.int x0, .int x1]) iX8_block_32 (by decide +kernel) (x := mnI_X8_block) (x2 := mnI_X8_beginPart) rfl rfl rfl (by decide +kernel) (Nat.le_of_ble_eq_true rfl) rfl
theorem iX8_block_35 : mn_ins 88 35 = some (8, false, .istore_n 1, 1) := by decide +kernel
theorem eX8_block_35 : Ev 88 35 (a0 :: a1 :: ls) (.int x :: st) h r ↔ Ev 88 36 (mn_k a0 :: some (.int x) :: ls) (st) h r := ev_istore_n iX8_block_35 (by show 1 < _; simp only [List.length_cons]; omega)
theorem iX8_block_36 : mn_ins 88 36 = some (8, false, .aload_n 0, 1) := by decide +kernel
theorem eX8_block_36 : Ev 88 36 (some (.ref a) :: ls) (st) h r ↔ Ev 88 37 (some (.ref a) :: ls) (.ref a :: st) h r := ev_aload_n iX8_block_36 rfl rfl
theorem iX8_block_37 : mn_ins 88 37 = some (8, false, .dup, 1) := by decide +kernel
theorem eX8_block_37 : Ev 88 37 (ls) (.ref a :: st) h r ↔ Ev 88 38 (ls) (.ref a :: .ref a :: st) h r := ev_dup iX8_block_37 rfl
theorem iX8_block_38 : mn_ins 88 38 = some (8, false, .getfield 101, 3) := by decide +kernel
theorem eX8_block_38 : Ev 88 38 (ls) (.ref a :: st) h r ↔ Evk 88 41 ls (mn_gf h a 8 1) st h r := ev_getf iX8_block_38 (by decide +kernel)
theorem iX8_block_41 : mn_ins 88 41 = some (8, false, .aload_n 0, 1) := by decide +kernel
theorem eX8_block_41 : Ev 88 41 (some (.ref a) :: ls) (st) h r ↔ Ev 88 42 (some (.ref a) :: ls) (.ref a :: st) h r := ev_aload_n iX8_block_41 rfl rfl
theorem iX8_block_42 : mn_ins 88 42 = some (8, false, .getfield 94, 3) := by decide +kernel
theorem eX8_block_42 : Ev 88 42 (ls) (.ref a :: st) h r ↔ Evk 88 45 ls (mn_gf h a 8 0) st h r := ev_getf iX8_block_42 (by decide +kernel)
theorem iX8_block_45 : mn_ins 88 45 = some (8, false, .ifCond .ne 7, 3) := by decide +kernel
theorem eX8_block_45 : Ev 88 45 (ls) (.int x :: st) h r ↔ if x = nI 0 then Ev 88 48 (ls) (st) h r else Ev 88 52 (ls) (st) h r := ev_ifne iX8_block_45 (by decide)
theorem iX8_block_48 : mn_ins 88 48 = some (8, false, .iconst 1, 1) := by decide +kernel
theorem eX8_block_48 : Ev 88 48 (ls) (st) h r ↔ Ev 88 49 (ls) (.int (nI 1) :: st) h r := ev_iconst iX8_block_48 (by decide)
theorem iX8_block_49 : mn_ins 88 49 = some (8, false, .goto 4, 3) := by decide +kernel
theorem eX8_block_49 : Ev 88 49 (ls) (st) h r ↔ Ev 88 53 (ls) (st) h r := ev_goto iX8_block_49 (by decide)
theorem iX8_block_52 : mn_ins 88 52 = some (8, false, .iconst 0, 1) := by decide +kernel
theorem eX8_block_52 : Ev 88 52 (ls) (st) h r ↔ Ev 88 53 (ls) (.int (nI 0) :: st) h r := ev_iconst iX8_block_52 (by decide)
theorem iX8_block_53 : mn_ins 88 53 = some (8, false, .iadd, 1) := by decide +kernel
theorem eX8_block_53 : Ev 88 53 (ls) (.int y :: .int x :: st) h r ↔ Ev 88 54 (ls) (.int (x + y) :: st) h r := ev_iadd iX8_block_53
theorem iX8_block_54 : mn_ins 88 54 = some (8, false, .putfield 101, 3) := by decide +kernel
theorem eX8_block_54 : Ev 88 54 (ls) (w :: .ref a :: st) h r ↔ Evh 88 57 ls st (mn_pf h a 8 1 w) r := ev_putf iX8_block_54 (by decide +kernel) (by decide +kernel)
theorem iX8_block_57 : mn_ins 88 57 = some (8, false, .iload_n 1, 1) := by decide +kernel
theorem eX8_block_57 : Ev 88 57 (a0 :: some (.int x) :: ls) (st) h r ↔ Ev 88 58 (a0 :: some (.int x) :: ls) (.int x :: st) h r := ev_iload_n iX8_block_57 rfl
theorem iX8_block_58 : mn_ins 88 58 = some (8, false, .ireturn, 1) := by decide +kernel
theorem eX8_block_58 : Ev 88 58 (ls) [.int x] h r ↔ r = (h, .inl (some (.int x))) := ev_iret iX8_block_58 (X := mnI_X8_block) rfl rfl
theorem iX8_merge_0 : mn_ins 89 0 = some (8, false, .aload_n 0, 1) := by decide +kernel
theorem eX8_merge_0 : Ev 89 0 (some (.ref a) :: ls) (st) h r ↔ Ev 89 1 (some (.ref a) :: ls) (.ref a :: st) h r := ev_aload_n iX8_merge_0 rfl rfl
theorem iX8_merge_1 : mn_ins 89 1 = some (8, false, .aload_n 0, 1) := by decide +kernel
theorem eX8_merge_1 : Ev 89 1 (some (.ref a) :: ls) (st) h r ↔ Ev 89 2 (some (.ref a) :: ls) (.ref a :: st) h r := ev_aload_n iX8_merge_1 rfl rfl
theorem iX8_merge_2 : mn_ins 89 2 = some (8, false, .getfield 108, 3) := by decide +kernel
theorem eX8_merge_2 : Ev 89 2 (ls) (.ref a :: st) h r ↔ Evk 89 5 ls (mn_gf h a 8 2) st h r := ev_getf iX8_merge_2 (by decide +kernel)
theorem iX8_merge_5 : mn_ins 89 5 = some (8, false, .iconst 2, 1) := by decide +kernel
theorem eX8_merge_5 : Ev 89 5 (ls) (st) h r ↔ Ev 89 6 (ls) (.int (nI 2) :: st) h r := ev_iconst iX8_merge_5 (by decide)
theorem iX8_merge_6 : mn_ins 89 6 = some (8, false, .if_icmp .ge 7, 3) := by decide +kernel
theorem eX8_merge_6 : Ev 89 6 (ls) (.int y :: .int x :: st) h r ↔ if y ≤ x then Ev 89 13 (ls) (st) h r else Ev 89 9 (ls) (st) h r := ev_cmpge iX8_merge_6 (by decide)
theorem iX8_merge_9 : mn_ins 89 9 = some (8, false, .iconst 1, 1) := by decide +kernel
theorem eX8_merge_9 : Ev 89 9 (ls) (st) h r ↔ Ev 89 10 (ls) (.int (nI 1) :: st) h r := ev_iconst iX8_merge_9 (by decide)
theorem iX8_merge_10 : mn_ins 89 10 = some (8, false, .goto 4, 3) := by decide +kernel
theorem eX8_merge_10 : Ev 89 10 (ls) (st) h r ↔ Ev 89 14 (ls) (st) h r := ev_goto iX8_merge_10 (by decide)
theorem iX8_merge_13 : mn_ins 89 13 = some (8, false, .iconst 0, 1) := by decide +kernel
theorem eX8_merge_13 : Ev 89 13 (ls) (st) h r ↔ Ev 89 14 (ls) (.int (nI 0) :: st) h r := ev_iconst iX8_merge_13 (by decide)
theorem iX8_merge_14 : mn_ins 89 14 = some (8, false, .bipush 6, 2) := by decide +kernel
theorem eX8_merge_14 : Ev 89 14 (ls) (st) h r ↔ Ev 89 16 (ls) (.int (nI 6) :: st) h r := ev_bipush iX8_merge_14 (by decide)
theorem iX8_merge_16 : mn_ins 89 16 = some (8, false, .aload_n 0, 1) := by decide +kernel
theorem eX8_merge_16 : Ev 89 16 (some (.ref a) :: ls) (st) h r ↔ Ev 89 17 (some (.ref a) :: ls) (.ref a :: st) h r := ev_aload_n iX8_merge_16 rfl rfl
theorem iX8_merge_17 : mn_ins 89 17 = some (8, false, .getfield 108, 3) := by decide +kernel
theorem eX8_merge_17 : Ev 89 17 (ls) (.ref a :: st) h r ↔ Evk 89 20 ls (mn_gf h a 8 2) st h r := ev_getf iX8_merge_17 (by decide +kernel)
theorem iX8_merge_20 : mn_ins 89 20 = some (8, false, .iconst 2, 1) := by decide +kernel
theorem eX8_merge_20 : Ev 89 20 (ls) (st) h r ↔ Ev 89 21 (ls) (.int (nI 2) :: st) h r := ev_iconst iX8_merge_20 (by decide)
theorem iX8_merge_21 : mn_ins 89 21 = some (8, false, .if_icmp .ge 10, 3) := by decide +kernel
theorem eX8_merge_21 : Ev 89 21 (ls) (.int y :: .int x :: st) h r ↔ if y ≤ x then Ev 89 31 (ls) (st) h r else Ev 89 24 (ls) (st) h r := ev_cmpge iX8_merge_21 (by decide)
theorem iX8_merge_24 : mn_ins 89 24 = some (8, false, .aload_n 0, 1) := by decide +kernel
theorem eX8_merge_24 : Ev 89 24 (some (.ref a) :: ls) (st) h r ↔ Ev 89 25 (some (.ref a) :: ls) (.ref a :: st) h r := ev_aload_n iX8_merge_24 rfl rfl
theorem iX8_merge_25 : mn_ins 89 25 = some (8, false, .getfield 108, 3) := by decide +kernel
theorem eX8_merge_25 : Ev 89 25 (ls) (.ref a :: st) h r ↔ Evk 89 28 ls (mn_gf h a 8 2) st h r := ev_getf iX8_merge_25 (by decide +kernel)
theorem iX8_merge_28 : mn_ins 89 28 = some (8, false, .goto 4, 3) := by decide +kernel
theorem eX8_merge_28 : Ev 89 28 (ls) (st) h r ↔ Ev 89 32 (ls) (st) h r := ev_goto iX8_merge_28 (by decide)
theorem iX8_merge_31 : mn_ins 89 31 = some (8, false, .iconst 0, 1) := by decide +kernel
theorem eX8_merge_31 : Ev 89 31 (ls) (st) h r ↔ Ev 89 32 (ls) (.int (nI 0) :: st) h r := ev_iconst iX8_merge_31 (by decide)
theorem iX8_merge_32 : mn_ins 89 32 = some (8, false, .iadd, 1) := by decide +kernel
theorem eX8_merge_32 : Ev 89 32 (ls) (.int y :: .int x :: st) h r ↔ Ev 89 33 (ls) (.int (x + y) :: st) h r := ev_iadd iX8_merge_32
theorem iX8_merge_33 : mn_ins 89 33 = some (8, false, .invokevirtual 104, 3) := by decide +kernel
theorem eX8_merge_33 : Ev 89 33 (ls) (.int x1 :: .int x0 :: .ref b :: st) h r ↔ Evr true (decide (mn_cats st ≤ 8) && mn_isc h b 8) 89 33 ls st h.2.2.1 h.2.2.2 (Cl 87 (.ref b :: [.int x0, .int x1]) h.1 h.2.1) r := Ev_V (As := [.int x0, .int x1]) iX8_merge_33 (by decide +kernel) (x := mnI_X8_merge) (x2 := mnI_X8_beginPart) rfl rfl rfl (by decide +kernel) (Nat.le_of_ble_eq_true rfl) rfl
theorem iX8_merge_36 : mn_ins 89 36 = some (8, false, .istore_n 1, 1) := by decide +kernel
theorem eX8_merge_36 : Ev 89 36 (a0 :: a1 :: ls) (.int x :: st) h r ↔ Ev 89 37 (mn_k a0 :: some (.int x) :: ls) (st) h r := ev_istore_n iX8_merge_36 (by show 1 < _; simp only [List.length_cons]; omega)
theorem iX8_merge_37 : mn_ins 89 37 = some (8, false, .aload_n 0, 1) := by decide +kernel
theorem eX8_merge_37 : Ev 89 37 (some (.ref a) :: ls) (st) h r ↔ Ev 89 38 (some (.ref a) :: ls) (.ref a :: st) h r := ev_aload_n iX8_merge_37 rfl rfl
theorem iX8_merge_38 : mn_ins 89 38 = some (8, false, .dup, 1) := by decide +kernel
theorem eX8_merge_38 : Ev 89 38 (ls) (.ref a :: st) h r ↔ Ev 89 39 (ls) (.ref a :: .ref a :: st) h r := ev_dup iX8_merge_38 rfl
theorem iX8_merge_39 : mn_ins 89 39 = some (8, false, .getfield 108, 3) := by decide +kernel
theorem eX8_merge_39 : Ev 89 39 (ls) (.ref a :: st) h r ↔ Evk 89 42 ls (mn_gf h a 8 2) st h r := ev_getf iX8_merge_39 (by decide +kernel)
theorem iX8_merge_42 : mn_ins 89 42 = some (8, false, .aload_n 0, 1) := by decide +kernel
theorem eX8_merge_42 : Ev 89 42 (some (.ref a) :: ls) (st) h r ↔ Ev 89 43 (some (.ref a) :: ls) (.ref a :: st) h r := ev_aload_n iX8_merge_42 rfl rfl
theorem iX8_merge_43 : mn_ins 89 43 = some (8, false, .getfield 94, 3) := by decide +kernel
theorem eX8_merge_43 : Ev 89 43 (ls) (.ref a :: st) h r ↔ Evk 89 46 ls (mn_gf h a 8 0) st h r := ev_getf iX8_merge_43 (by decide +kernel)
theorem iX8_merge_46 : mn_ins 89 46 = some (8, false, .ifCond .ne 7, 3) := by decide +kernel
theorem eX8_merge_46 : Ev 89 46 (ls) (.int x :: st) h r ↔ if x = nI 0 then Ev 89 49 (ls) (st) h r else Ev 89 53 (ls) (st) h r := ev_ifne iX8_merge_46 (by decide)
theorem iX8_merge_49 : mn_ins 89 49 = some (8, false, .iconst 1, 1) := by decide +kernel
theorem eX8_merge_49 : Ev 89 49 (ls) (st) h r ↔ Ev 89 50 (ls) (.int (nI 1) :: st) h r := ev_iconst iX8_merge_49 (by decide)
theorem iX8_merge_50 : mn_ins 89 50 = some (8, false, .goto 4, 3) := by decide +kernel
theorem eX8_merge_50 : Ev 89 50 (ls) (st) h r ↔ Ev 89 54 (ls) (st) h r := ev_goto iX8_merge_50 (by decide)
theorem iX8_merge_53 : mn_ins 89 53 = some (8, false, .iconst 0, 1) := by decide +kernel
theorem eX8_merge_53 : Ev 89 53 (ls) (st) h r ↔ Ev 89 54 (ls) (.int (nI 0) :: st) h r := ev_iconst iX8_merge_53 (by decide)
theorem iX8_merge_54 : mn_ins 89 54 = some (8, false, .iadd, 1) := by decide +kernel
theorem eX8_merge_54 : Ev 89 54 (ls) (.int y :: .int x :: st) h r ↔ Ev 89 55 (ls) (.int (x + y) :: st) h r := ev_iadd iX8_merge_54
theorem iX8_merge_55 : mn_ins 89 55 = some (8, false, .putfield 108, 3) := by decide +kernel
theorem eX8_merge_55 : Ev 89 55 (ls) (w :: .ref a :: st) h r ↔ Evh 89 58 ls st (mn_pf h a 8 2 w) r := ev_putf iX8_merge_55 (by decide +kernel) (by decide +kernel)
theorem iX8_merge_58 : mn_ins 89 58 = some (8, false, .aload_n 0, 1) := by decide +kernel
theorem eX8_merge_58 : Ev 89 58 (some (.ref a) :: ls) (st) h r ↔ Ev 89 59 (some (.ref a) :: ls) (.ref a :: st) h r := ev_aload_n iX8_merge_58 rfl rfl
theorem iX8_merge_59 : mn_ins 89 59 = some (8, false, .getfield 94, 3) := by decide +kernel
theorem eX8_merge_59 : Ev 89 59 (ls) (.ref a :: st) h r ↔ Evk 89 62 ls (mn_gf h a 8 0) st h r := ev_getf iX8_merge_59 (by decide +kernel)
theorem iX8_merge_62 : mn_ins 89 62 = some (8, false, .ifCond .ne 10, 3) := by decide +kernel
theorem eX8_merge_62 : Ev 89 62 (ls) (.int x :: st) h r ↔ if x = nI 0 then Ev 89 65 (ls) (st) h r else Ev 89 72 (ls) (st) h r := ev_ifne iX8_merge_62 (by decide)
theorem iX8_merge_65 : mn_ins 89 65 = some (8, false, .iload_n 1, 1) := by decide +kernel
theorem eX8_merge_65 : Ev 89 65 (a0 :: some (.int x) :: ls) (st) h r ↔ Ev 89 66 (a0 :: some (.int x) :: ls) (.int x :: st) h r := ev_iload_n iX8_merge_65 rfl
theorem iX8_merge_66 : mn_ins 89 66 = some (8, false, .bipush 6, 2) := by decide +kernel
theorem eX8_merge_66 : Ev 89 66 (ls) (st) h r ↔ Ev 89 68 (ls) (.int (nI 6) :: st) h r := ev_bipush iX8_merge_66 (by decide)
theorem iX8_merge_68 : mn_ins 89 68 = some (8, false, .isub, 1) := by decide +kernel
theorem eX8_merge_68 : Ev 89 68 (ls) (.int y :: .int x :: st) h r ↔ Ev 89 69 (ls) (.int (x - y) :: st) h r := ev_isub iX8_merge_68
theorem iX8_merge_69 : mn_ins 89 69 = some (8, false, .goto 4, 3) := by decide +kernel
theorem eX8_merge_69 : Ev 89 69 (ls) (st) h r ↔ Ev 89 73 (ls) (st) h r := ev_goto iX8_merge_69 (by decide)
theorem iX8_merge_72 : mn_ins 89 72 = some (8, false, .iconst 0, 1) := by decide +kernel
theorem eX8_merge_72 : Ev 89 72 (ls) (st) h r ↔ Ev 89 73 (ls) (.int (nI 0) :: st) h r := ev_iconst iX8_merge_72 (by decide)
theorem iX8_merge_73 : mn_ins 89 73 = some (8, false, .ireturn, 1) := by decide +kernel
theorem eX8_merge_73 : Ev 89 73 (ls) [.int x] h r ↔ r = (h, .inl (some (.int x))) := ev_iret iX8_merge_73 (X := mnI_X8_merge) rfl rfl
theorem iX8_add_0 : mn_ins 90 0 = some (8, false, .aload_n 0, 1) := by decide +kernel
theorem eX8_add_0 : Ev 90 0 (some (.ref a) :: ls) (st) h r ↔ Ev 90 1 (some (.ref a) :: ls) (.ref a :: st) h r := ev_aload_n iX8_add_0 rfl rfl
theorem iX8_add_1 : mn_ins 90 1 = some (8, false, .getfield 9, 3) := by decide +kernel
theorem eX8_add_1 : Ev 90 1 (ls) (.ref a :: st) h r ↔ Evk 90 4 ls (mn_gf h a 8 3) st h r := ev_getf iX8_add_1 (by decide +kernel)
theorem iX8_add_4 : mn_ins 90 4 = some (8, false, .iconst (-1), 1) := by decide +kernel
theorem eX8_add_4 : Ev 90 4 (ls) (st) h r ↔ Ev 90 5 (ls) (.int (-1) :: st) h r := ev_iconst iX8_add_4 (by decide)
theorem iX8_add_5 : mn_ins 90 5 = some (8, false, .if_icmp .eq 10, 3) := by decide +kernel
theorem eX8_add_5 : Ev 90 5 (ls) (.int y :: .int x :: st) h r ↔ if x = y then Ev 90 15 (ls) (st) h r else Ev 90 8 (ls) (st) h r := ev_cmpeq iX8_add_5 (by decide)
theorem iX8_add_8 : mn_ins 90 8 = some (8, false, .aload_n 0, 1) := by decide +kernel
theorem eX8_add_8 : Ev 90 8 (some (.ref a) :: ls) (st) h r ↔ Ev 90 9 (some (.ref a) :: ls) (.ref a :: st) h r := ev_aload_n iX8_add_8 rfl rfl
theorem iX8_add_9 : mn_ins 90 9 = some (8, false, .getfield 97, 3) := by decide +kernel
theorem eX8_add_9 : Ev 90 9 (ls) (.ref a :: st) h r ↔ Evk 90 12 ls (mn_gf h a 8 9) st h r := ev_getf iX8_add_9 (by decide +kernel)
theorem iX8_add_12 : mn_ins 90 12 = some (8, false, .ifCond .eq 7, 3) := by decide +kernel
theorem eX8_add_12 : Ev 90 12 (ls) (.int x :: st) h r ↔ if x = nI 0 then Ev 90 19 (ls) (st) h r else Ev 90 15 (ls) (st) h r := ev_ifeq iX8_add_12 (by decide)
theorem iX8_add_15 : mn_ins 90 15 = some (8, false, .iconst 1, 1) := by decide +kernel
theorem eX8_add_15 : Ev 90 15 (ls) (st) h r ↔ Ev 90 16 (ls) (.int (nI 1) :: st) h r := ev_iconst iX8_add_15 (by decide)
theorem iX8_add_16 : mn_ins 90 16 = some (8, false, .goto 4, 3) := by decide +kernel
theorem eX8_add_16 : Ev 90 16 (ls) (st) h r ↔ Ev 90 20 (ls) (st) h r := ev_goto iX8_add_16 (by decide)
theorem iX8_add_19 : mn_ins 90 19 = some (8, false, .iconst 0, 1) := by decide +kernel
theorem eX8_add_19 : Ev 90 19 (ls) (st) h r ↔ Ev 90 20 (ls) (.int (nI 0) :: st) h r := ev_iconst iX8_add_19 (by decide)
theorem iX8_add_20 : mn_ins 90 20 = some (8, false, .istore_n 3, 1) := by decide +kernel
theorem eX8_add_20 : Ev 90 20 (a0 :: a1 :: a2 :: a3 :: ls) (.int x :: st) h r ↔ Ev 90 21 (a0 :: a1 :: mn_k a2 :: some (.int x) :: ls) (st) h r := ev_istore_n iX8_add_20 (by show 3 < _; simp only [List.length_cons]; omega)
theorem iX8_add_21 : mn_ins 90 21 = some (8, false, .iload_n 3, 1) := by decide +kernel
theorem eX8_add_21 : Ev 90 21 (a0 :: a1 :: a2 :: some (.int x) :: ls) (st) h r ↔ Ev 90 22 (a0 :: a1 :: a2 :: some (.int x) :: ls) (.int x :: st) h r := ev_iload_n iX8_add_21 rfl
theorem iX8_add_22 : mn_ins 90 22 = some (8, false, .ifCond .ne 37, 3) := by decide +kernel
theorem eX8_add_22 : Ev 90 22 (ls) (.int x :: st) h r ↔ if x = nI 0 then Ev 90 25 (ls) (st) h r else Ev 90 59 (ls) (st) h r := ev_ifne iX8_add_22 (by decide)
theorem iX8_add_25 : mn_ins 90 25 = some (8, false, .aload_n 0, 1) := by decide +kernel
theorem eX8_add_25 : Ev 90 25 (some (.ref a) :: ls) (st) h r ↔ Ev 90 26 (some (.ref a) :: ls) (.ref a :: st) h r := ev_aload_n iX8_add_25 rfl rfl
theorem iX8_add_26 : mn_ins 90 26 = some (8, false, .getfield 13, 3) := by decide +kernel
theorem eX8_add_26 : Ev 90 26 (ls) (.ref a :: st) h r ↔ Evk 90 29 ls (mn_gf h a 8 4) st h r := ev_getf iX8_add_26 (by decide +kernel)
theorem iX8_add_29 : mn_ins 90 29 = some (8, false, .aload_n 0, 1) := by decide +kernel
theorem eX8_add_29 : Ev 90 29 (some (.ref a) :: ls) (st) h r ↔ Ev 90 30 (some (.ref a) :: ls) (.ref a :: st) h r := ev_aload_n iX8_add_29 rfl rfl
theorem iX8_add_30 : mn_ins 90 30 = some (8, false, .getfield 9, 3) := by decide +kernel
theorem eX8_add_30 : Ev 90 30 (ls) (.ref a :: st) h r ↔ Evk 90 33 ls (mn_gf h a 8 3) st h r := ev_getf iX8_add_30 (by decide +kernel)
theorem iX8_add_33 : mn_ins 90 33 = some (8, false, .iaload, 1) := by decide +kernel
theorem eX8_add_33 : Ev 90 33 (ls) (.int x :: .ref a :: st) h r ↔ Evk 90 34 ls (mn_al h a 0 x) st h r := ev_iald iX8_add_33
theorem iX8_add_34 : mn_ins 90 34 = some (8, false, .aload_n 0, 1) := by decide +kernel
theorem eX8_add_34 : Ev 90 34 (some (.ref a) :: ls) (st) h r ↔ Ev 90 35 (some (.ref a) :: ls) (.ref a :: st) h r := ev_aload_n iX8_add_34 rfl rfl
theorem iX8_add_35 : mn_ins 90 35 = some (8, false, .getfield 9, 3) := by decide +kernel
theorem eX8_add_35 : Ev 90 35 (ls) (.ref a :: st) h r ↔ Evk 90 38 ls (mn_gf h a 8 3) st h r := ev_getf iX8_add_35 (by decide +kernel)
theorem iX8_add_38 : mn_ins 90 38 = some (8, false, .bipush 6, 2) := by decide +kernel
theorem eX8_add_38 : Ev 90 38 (ls) (st) h r ↔ Ev 90 40 (ls) (.int (nI 6) :: st) h r := ev_bipush iX8_add_38 (by decide)
theorem iX8_add_40 : mn_ins 90 40 = some (8, false, .if_icmp .ge 8, 3) := by decide +kernel
theorem eX8_add_40 : Ev 90 40 (ls) (.int y :: .int x :: st) h r ↔ if y ≤ x then Ev 90 48 (ls) (st) h r else Ev 90 43 (ls) (st) h r := ev_cmpge iX8_add_40 (by decide)
theorem iX8_add_43 : mn_ins 90 43 = some (8, false, .bipush 24, 2) := by decide +kernel
theorem eX8_add_43 : Ev 90 43 (ls) (st) h r ↔ Ev 90 45 (ls) (.int (nI 24) :: st) h r := ev_bipush iX8_add_43 (by decide)
theorem iX8_add_45 : mn_ins 90 45 = some (8, false, .goto 5, 3) := by decide +kernel
theorem eX8_add_45 : Ev 90 45 (ls) (st) h r ↔ Ev 90 50 (ls) (st) h r := ev_goto iX8_add_45 (by decide)
theorem iX8_add_48 : mn_ins 90 48 = some (8, false, .bipush 12, 2) := by decide +kernel
theorem eX8_add_48 : Ev 90 48 (ls) (st) h r ↔ Ev 90 50 (ls) (.int (nI 12) :: st) h r := ev_bipush iX8_add_48 (by decide)
theorem iX8_add_50 : mn_ins 90 50 = some (8, false, .if_icmp .ne 7, 3) := by decide +kernel
theorem eX8_add_50 : Ev 90 50 (ls) (.int y :: .int x :: st) h r ↔ if x = y then Ev 90 53 (ls) (st) h r else Ev 90 57 (ls) (st) h r := ev_cmpne iX8_add_50 (by decide)
theorem iX8_add_53 : mn_ins 90 53 = some (8, false, .iconst 1, 1) := by decide +kernel
theorem eX8_add_53 : Ev 90 53 (ls) (st) h r ↔ Ev 90 54 (ls) (.int (nI 1) :: st) h r := ev_iconst iX8_add_53 (by decide)
theorem iX8_add_54 : mn_ins 90 54 = some (8, false, .goto 4, 3) := by decide +kernel
theorem eX8_add_54 : Ev 90 54 (ls) (st) h r ↔ Ev 90 58 (ls) (st) h r := ev_goto iX8_add_54 (by decide)
theorem iX8_add_57 : mn_ins 90 57 = some (8, false, .iconst 0, 1) := by decide +kernel
theorem eX8_add_57 : Ev 90 57 (ls) (st) h r ↔ Ev 90 58 (ls) (.int (nI 0) :: st) h r := ev_iconst iX8_add_57 (by decide)
theorem iX8_add_58 : mn_ins 90 58 = some (8, false, .istore_n 3, 1) := by decide +kernel
theorem eX8_add_58 : Ev 90 58 (a0 :: a1 :: a2 :: a3 :: ls) (.int x :: st) h r ↔ Ev 90 59 (a0 :: a1 :: mn_k a2 :: some (.int x) :: ls) (st) h r := ev_istore_n iX8_add_58 (by show 3 < _; simp only [List.length_cons]; omega)
theorem iX8_add_59 : mn_ins 90 59 = some (8, false, .aload_n 0, 1) := by decide +kernel
theorem eX8_add_59 : Ev 90 59 (some (.ref a) :: ls) (st) h r ↔ Ev 90 60 (some (.ref a) :: ls) (.ref a :: st) h r := ev_aload_n iX8_add_59 rfl rfl
theorem iX8_add_60 : mn_ins 90 60 = some (8, false, .iload_n 1, 1) := by decide +kernel
theorem eX8_add_60 : Ev 90 60 (a0 :: some (.int x) :: ls) (st) h r ↔ Ev 90 61 (a0 :: some (.int x) :: ls) (.int x :: st) h r := ev_iload_n iX8_add_60 rfl
theorem iX8_add_61 : mn_ins 90 61 = some (8, false, .i2l, 1) := by decide +kernel
theorem eX8_add_61 : Ev 90 61 (ls) (.int x :: st) h r ↔ Ev 90 62 (ls) (.long x.toInt64 :: st) h r := ev_i2l iX8_add_61
theorem iX8_add_62 : mn_ins 90 62 = some (8, false, .iconst 0, 1) := by decide +kernel
theorem eX8_add_62 : Ev 90 62 (ls) (st) h r ↔ Ev 90 63 (ls) (.int (nI 0) :: st) h r := ev_iconst iX8_add_62 (by decide)
theorem iX8_add_63 : mn_ins 90 63 = some (8, false, .bipush 18, 2) := by decide +kernel
theorem eX8_add_63 : Ev 90 63 (ls) (st) h r ↔ Ev 90 65 (ls) (.int (nI 18) :: st) h r := ev_bipush iX8_add_63 (by decide)
theorem iX8_add_65 : mn_ins 90 65 = some (8, false, .invokestatic 111, 3) := by decide +kernel
theorem eX8_add_65 : Ev 90 65 (ls) (.int x2 :: .int x1 :: .long u0 :: st) h r ↔ Evr false (decide (mn_cats st ≤ 8)) 90 65 ls st h.2.2.1 h.2.2.2 (Cl 86 [.long u0, .int x1, .int x2] h.1 h.2.1) r := Ev_T (As := [.long u0, .int x1, .int x2]) (q := 1) iX8_add_65 (by decide +kernel) (by decide) (x := mnI_X8_add) (x2 := mnI_X8_in) rfl rfl rfl (by decide +kernel) (Nat.le_of_ble_eq_true rfl) rfl
theorem iX8_add_68 : mn_ins 90 68 = some (8, false, .ifCond .ne 7, 3) := by decide +kernel
theorem eX8_add_68 : Ev 90 68 (ls) (.int x :: st) h r ↔ if x = nI 0 then Ev 90 71 (ls) (st) h r else Ev 90 75 (ls) (st) h r := ev_ifne iX8_add_68 (by decide)
theorem iX8_add_71 : mn_ins 90 71 = some (8, false, .iconst 1, 1) := by decide +kernel
theorem eX8_add_71 : Ev 90 71 (ls) (st) h r ↔ Ev 90 72 (ls) (.int (nI 1) :: st) h r := ev_iconst iX8_add_71 (by decide)
theorem iX8_add_72 : mn_ins 90 72 = some (8, false, .goto 12, 3) := by decide +kernel
theorem eX8_add_72 : Ev 90 72 (ls) (st) h r ↔ Ev 90 84 (ls) (st) h r := ev_goto iX8_add_72 (by decide)
theorem iX8_add_75 : mn_ins 90 75 = some (8, false, .iload_n 3, 1) := by decide +kernel
theorem eX8_add_75 : Ev 90 75 (a0 :: a1 :: a2 :: some (.int x) :: ls) (st) h r ↔ Ev 90 76 (a0 :: a1 :: a2 :: some (.int x) :: ls) (.int x :: st) h r := ev_iload_n iX8_add_75 rfl
theorem iX8_add_76 : mn_ins 90 76 = some (8, false, .ifCond .eq 7, 3) := by decide +kernel
theorem eX8_add_76 : Ev 90 76 (ls) (.int x :: st) h r ↔ if x = nI 0 then Ev 90 83 (ls) (st) h r else Ev 90 79 (ls) (st) h r := ev_ifeq iX8_add_76 (by decide)
theorem iX8_add_79 : mn_ins 90 79 = some (8, false, .iconst 2, 1) := by decide +kernel
theorem eX8_add_79 : Ev 90 79 (ls) (st) h r ↔ Ev 90 80 (ls) (.int (nI 2) :: st) h r := ev_iconst iX8_add_79 (by decide)
theorem iX8_add_80 : mn_ins 90 80 = some (8, false, .goto 4, 3) := by decide +kernel
theorem eX8_add_80 : Ev 90 80 (ls) (st) h r ↔ Ev 90 84 (ls) (st) h r := ev_goto iX8_add_80 (by decide)
theorem iX8_add_83 : mn_ins 90 83 = some (8, false, .iconst 0, 1) := by decide +kernel
theorem eX8_add_83 : Ev 90 83 (ls) (st) h r ↔ Ev 90 84 (ls) (.int (nI 0) :: st) h r := ev_iconst iX8_add_83 (by decide)
theorem iX8_add_84 : mn_ins 90 84 = some (8, false, .putfield 94, 3) := by decide +kernel
theorem eX8_add_84 : Ev 90 84 (ls) (w :: .ref a :: st) h r ↔ Evh 90 87 ls st (mn_pf h a 8 0 w) r := ev_putf iX8_add_84 (by decide +kernel) (by decide +kernel)
theorem iX8_add_87 : mn_ins 90 87 = some (8, false, .aload_n 0, 1) := by decide +kernel
theorem eX8_add_87 : Ev 90 87 (some (.ref a) :: ls) (st) h r ↔ Ev 90 88 (some (.ref a) :: ls) (.ref a :: st) h r := ev_aload_n iX8_add_87 rfl rfl
theorem iX8_add_88 : mn_ins 90 88 = some (8, false, .getfield 94, 3) := by decide +kernel
theorem eX8_add_88 : Ev 90 88 (ls) (.ref a :: st) h r ↔ Evk 90 91 ls (mn_gf h a 8 0) st h r := ev_getf iX8_add_88 (by decide +kernel)
theorem iX8_add_91 : mn_ins 90 91 = some (8, false, .ifCond .le 5, 3) := by decide +kernel
theorem eX8_add_91 : Ev 90 91 (ls) (.int x :: st) h r ↔ if x ≤ nI 0 then Ev 90 96 (ls) (st) h r else Ev 90 94 (ls) (st) h r := ev_ifle iX8_add_91 (by decide)
theorem iX8_add_94 : mn_ins 90 94 = some (8, false, .iconst 0, 1) := by decide +kernel
theorem eX8_add_94 : Ev 90 94 (ls) (st) h r ↔ Ev 90 95 (ls) (.int (nI 0) :: st) h r := ev_iconst iX8_add_94 (by decide)
theorem iX8_add_95 : mn_ins 90 95 = some (8, false, .ireturn, 1) := by decide +kernel
theorem eX8_add_95 : Ev 90 95 (ls) [.int x] h r ↔ r = (h, .inl (some (.int x))) := ev_iret iX8_add_95 (X := mnI_X8_add) rfl rfl
theorem iX8_add_96 : mn_ins 90 96 = some (8, false, .bipush 24, 2) := by decide +kernel
theorem eX8_add_96 : Ev 90 96 (ls) (st) h r ↔ Ev 90 98 (ls) (.int (nI 24) :: st) h r := ev_bipush iX8_add_96 (by decide)
theorem iX8_add_98 : mn_ins 90 98 = some (8, false, .aload_n 0, 1) := by decide +kernel
theorem eX8_add_98 : Ev 90 98 (some (.ref a) :: ls) (st) h r ↔ Ev 90 99 (some (.ref a) :: ls) (.ref a :: st) h r := ev_aload_n iX8_add_98 rfl rfl
theorem iX8_add_99 : mn_ins 90 99 = some (8, false, .getfield 9, 3) := by decide +kernel
theorem eX8_add_99 : Ev 90 99 (ls) (.ref a :: st) h r ↔ Evk 90 102 ls (mn_gf h a 8 3) st h r := ev_getf iX8_add_99 (by decide +kernel)
theorem iX8_add_102 : mn_ins 90 102 = some (8, false, .imul, 1) := by decide +kernel
theorem eX8_add_102 : Ev 90 102 (ls) (.int y :: .int x :: st) h r ↔ Ev 90 103 (ls) (.int (x * y) :: st) h r := ev_imul iX8_add_102
theorem iX8_add_103 : mn_ins 90 103 = some (8, false, .aload_n 0, 1) := by decide +kernel
theorem eX8_add_103 : Ev 90 103 (some (.ref a) :: ls) (st) h r ↔ Ev 90 104 (some (.ref a) :: ls) (.ref a :: st) h r := ev_aload_n iX8_add_103 rfl rfl
theorem iX8_add_104 : mn_ins 90 104 = some (8, false, .getfield 13, 3) := by decide +kernel
theorem eX8_add_104 : Ev 90 104 (ls) (.ref a :: st) h r ↔ Evk 90 107 ls (mn_gf h a 8 4) st h r := ev_getf iX8_add_104 (by decide +kernel)
theorem iX8_add_107 : mn_ins 90 107 = some (8, false, .aload_n 0, 1) := by decide +kernel
theorem eX8_add_107 : Ev 90 107 (some (.ref a) :: ls) (st) h r ↔ Ev 90 108 (some (.ref a) :: ls) (.ref a :: st) h r := ev_aload_n iX8_add_107 rfl rfl
theorem iX8_add_108 : mn_ins 90 108 = some (8, false, .getfield 9, 3) := by decide +kernel
theorem eX8_add_108 : Ev 90 108 (ls) (.ref a :: st) h r ↔ Evk 90 111 ls (mn_gf h a 8 3) st h r := ev_getf iX8_add_108 (by decide +kernel)
theorem iX8_add_111 : mn_ins 90 111 = some (8, false, .iaload, 1) := by decide +kernel
theorem eX8_add_111 : Ev 90 111 (ls) (.int x :: .ref a :: st) h r ↔ Evk 90 112 ls (mn_al h a 0 x) st h r := ev_iald iX8_add_111
theorem iX8_add_112 : mn_ins 90 112 = some (8, false, .iadd, 1) := by decide +kernel
theorem eX8_add_112 : Ev 90 112 (ls) (.int y :: .int x :: st) h r ↔ Ev 90 113 (ls) (.int (x + y) :: st) h r := ev_iadd iX8_add_112
theorem iX8_add_113 : mn_ins 90 113 = some (8, false, .istore 4, 2) := by decide +kernel
theorem eX8_add_113 : Ev 90 113 (a0 :: a1 :: a2 :: a3 :: a4 :: ls) (.int x :: st) h r ↔ Ev 90 115 (a0 :: a1 :: a2 :: mn_k a3 :: some (.int x) :: ls) (st) h r := ev_istore iX8_add_113 (by show 4 < _; simp only [List.length_cons]; omega)
theorem iX8_add_115 : mn_ins 90 115 = some (8, false, .aload_n 0, 1) := by decide +kernel
theorem eX8_add_115 : Ev 90 115 (some (.ref a) :: ls) (st) h r ↔ Ev 90 116 (some (.ref a) :: ls) (.ref a :: st) h r := ev_aload_n iX8_add_115 rfl rfl
theorem iX8_add_116 : mn_ins 90 116 = some (8, false, .getfield 17, 3) := by decide +kernel
theorem eX8_add_116 : Ev 90 116 (ls) (.ref a :: st) h r ↔ Evk 90 119 ls (mn_gf h a 8 5) st h r := ev_getf iX8_add_116 (by decide +kernel)
theorem iX8_add_119 : mn_ins 90 119 = some (8, false, .iload 4, 2) := by decide +kernel
theorem eX8_add_119 : Ev 90 119 (a0 :: a1 :: a2 :: a3 :: some (.int x) :: ls) (st) h r ↔ Ev 90 121 (a0 :: a1 :: a2 :: a3 :: some (.int x) :: ls) (.int x :: st) h r := ev_iload iX8_add_119 rfl
theorem iX8_add_121 : mn_ins 90 121 = some (8, false, .iload_n 1, 1) := by decide +kernel
theorem eX8_add_121 : Ev 90 121 (a0 :: some (.int x) :: ls) (st) h r ↔ Ev 90 122 (a0 :: some (.int x) :: ls) (.int x :: st) h r := ev_iload_n iX8_add_121 rfl
theorem iX8_add_122 : mn_ins 90 122 = some (8, false, .iastore, 1) := by decide +kernel
theorem eX8_add_122 : Ev 90 122 (ls) (.int y :: .int x :: .ref a :: st) h r ↔ Evh 90 123 ls st (mn_asi h a x y) r := ev_iast iX8_add_122
theorem iX8_add_123 : mn_ins 90 123 = some (8, false, .aload_n 0, 1) := by decide +kernel
theorem eX8_add_123 : Ev 90 123 (some (.ref a) :: ls) (st) h r ↔ Ev 90 124 (some (.ref a) :: ls) (.ref a :: st) h r := ev_aload_n iX8_add_123 rfl rfl
theorem iX8_add_124 : mn_ins 90 124 = some (8, false, .getfield 20, 3) := by decide +kernel
theorem eX8_add_124 : Ev 90 124 (ls) (.ref a :: st) h r ↔ Evk 90 127 ls (mn_gf h a 8 6) st h r := ev_getf iX8_add_124 (by decide +kernel)
theorem iX8_add_127 : mn_ins 90 127 = some (8, false, .iload 4, 2) := by decide +kernel
theorem eX8_add_127 : Ev 90 127 (a0 :: a1 :: a2 :: a3 :: some (.int x) :: ls) (st) h r ↔ Ev 90 129 (a0 :: a1 :: a2 :: a3 :: some (.int x) :: ls) (.int x :: st) h r := ev_iload iX8_add_127 rfl
theorem iX8_add_129 : mn_ins 90 129 = some (8, false, .iload_n 2, 1) := by decide +kernel
theorem eX8_add_129 : Ev 90 129 (a0 :: a1 :: some (.int x) :: ls) (st) h r ↔ Ev 90 130 (a0 :: a1 :: some (.int x) :: ls) (.int x :: st) h r := ev_iload_n iX8_add_129 rfl
theorem iX8_add_130 : mn_ins 90 130 = some (8, false, .iastore, 1) := by decide +kernel
theorem eX8_add_130 : Ev 90 130 (ls) (.int y :: .int x :: .ref a :: st) h r ↔ Evh 90 131 ls st (mn_asi h a x y) r := ev_iast iX8_add_130
theorem iX8_add_131 : mn_ins 90 131 = some (8, false, .aload_n 0, 1) := by decide +kernel
theorem eX8_add_131 : Ev 90 131 (some (.ref a) :: ls) (st) h r ↔ Ev 90 132 (some (.ref a) :: ls) (.ref a :: st) h r := ev_aload_n iX8_add_131 rfl rfl
theorem iX8_add_132 : mn_ins 90 132 = some (8, false, .getfield 13, 3) := by decide +kernel
theorem eX8_add_132 : Ev 90 132 (ls) (.ref a :: st) h r ↔ Evk 90 135 ls (mn_gf h a 8 4) st h r := ev_getf iX8_add_132 (by decide +kernel)
theorem iX8_add_135 : mn_ins 90 135 = some (8, false, .aload_n 0, 1) := by decide +kernel
theorem eX8_add_135 : Ev 90 135 (some (.ref a) :: ls) (st) h r ↔ Ev 90 136 (some (.ref a) :: ls) (.ref a :: st) h r := ev_aload_n iX8_add_135 rfl rfl
theorem iX8_add_136 : mn_ins 90 136 = some (8, false, .getfield 9, 3) := by decide +kernel
theorem eX8_add_136 : Ev 90 136 (ls) (.ref a :: st) h r ↔ Evk 90 139 ls (mn_gf h a 8 3) st h r := ev_getf iX8_add_136 (by decide +kernel)
theorem iX8_add_139 : mn_ins 90 139 = some (8, false, .dup2, 1) := by decide +kernel
theorem eX8_add_139 : Ev 90 139 (ls) (.int x :: .ref a :: st) h r ↔ Ev 90 140 (ls) (.int x :: .ref a :: .int x :: .ref a :: st) h r := ev_dup2 iX8_add_139 rfl rfl
theorem iX8_add_140 : mn_ins 90 140 = some (8, false, .iaload, 1) := by decide +kernel
theorem eX8_add_140 : Ev 90 140 (ls) (.int x :: .ref a :: st) h r ↔ Evk 90 141 ls (mn_al h a 0 x) st h r := ev_iald iX8_add_140
theorem iX8_add_141 : mn_ins 90 141 = some (8, false, .iconst 1, 1) := by decide +kernel
theorem eX8_add_141 : Ev 90 141 (ls) (st) h r ↔ Ev 90 142 (ls) (.int (nI 1) :: st) h r := ev_iconst iX8_add_141 (by decide)
theorem iX8_add_142 : mn_ins 90 142 = some (8, false, .iadd, 1) := by decide +kernel
theorem eX8_add_142 : Ev 90 142 (ls) (.int y :: .int x :: st) h r ↔ Ev 90 143 (ls) (.int (x + y) :: st) h r := ev_iadd iX8_add_142
theorem iX8_add_143 : mn_ins 90 143 = some (8, false, .iastore, 1) := by decide +kernel
theorem eX8_add_143 : Ev 90 143 (ls) (.int y :: .int x :: .ref a :: st) h r ↔ Evh 90 144 ls st (mn_asi h a x y) r := ev_iast iX8_add_143
theorem iX8_add_144 : mn_ins 90 144 = some (8, false, .aload_n 0, 1) := by decide +kernel
theorem eX8_add_144 : Ev 90 144 (some (.ref a) :: ls) (st) h r ↔ Ev 90 145 (some (.ref a) :: ls) (.ref a :: st) h r := ev_aload_n iX8_add_144 rfl rfl
theorem iX8_add_145 : mn_ins 90 145 = some (8, false, .getfield 13, 3) := by decide +kernel
theorem eX8_add_145 : Ev 90 145 (ls) (.ref a :: st) h r ↔ Evk 90 148 ls (mn_gf h a 8 4) st h r := ev_getf iX8_add_145 (by decide +kernel)
theorem iX8_add_148 : mn_ins 90 148 = some (8, false, .aload_n 0, 1) := by decide +kernel
theorem eX8_add_148 : Ev 90 148 (some (.ref a) :: ls) (st) h r ↔ Ev 90 149 (some (.ref a) :: ls) (.ref a :: st) h r := ev_aload_n iX8_add_148 rfl rfl
theorem iX8_add_149 : mn_ins 90 149 = some (8, false, .getfield 9, 3) := by decide +kernel
theorem eX8_add_149 : Ev 90 149 (ls) (.ref a :: st) h r ↔ Evk 90 152 ls (mn_gf h a 8 3) st h r := ev_getf iX8_add_149 (by decide +kernel)
theorem iX8_add_152 : mn_ins 90 152 = some (8, false, .iaload, 1) := by decide +kernel
theorem eX8_add_152 : Ev 90 152 (ls) (.int x :: .ref a :: st) h r ↔ Evk 90 153 ls (mn_al h a 0 x) st h r := ev_iald iX8_add_152
theorem iX8_add_153 : mn_ins 90 153 = some (8, false, .ireturn, 1) := by decide +kernel
theorem eX8_add_153 : Ev 90 153 (ls) [.int x] h r ↔ r = (h, .inl (some (.int x))) := ev_iret iX8_add_153 (X := mnI_X8_add) rfl rfl
theorem iX8_cell_0 : mn_ins 91 0 = some (8, false, .aload_n 0, 1) := by decide +kernel
theorem eX8_cell_0 : Ev 91 0 (some (.ref a) :: ls) (st) h r ↔ Ev 91 1 (some (.ref a) :: ls) (.ref a :: st) h r := ev_aload_n iX8_cell_0 rfl rfl
theorem iX8_cell_1 : mn_ins 91 1 = some (8, false, .iload_n 1, 1) := by decide +kernel
theorem eX8_cell_1 : Ev 91 1 (a0 :: some (.int x) :: ls) (st) h r ↔ Ev 91 2 (a0 :: some (.int x) :: ls) (.int x :: st) h r := ev_iload_n iX8_cell_1 rfl
theorem iX8_cell_2 : mn_ins 91 2 = some (8, false, .i2l, 1) := by decide +kernel
theorem eX8_cell_2 : Ev 91 2 (ls) (.int x :: st) h r ↔ Ev 91 3 (ls) (.long x.toInt64 :: st) h r := ev_i2l iX8_cell_2
theorem iX8_cell_3 : mn_ins 91 3 = some (8, false, .iconst 0, 1) := by decide +kernel
theorem eX8_cell_3 : Ev 91 3 (ls) (st) h r ↔ Ev 91 4 (ls) (.int (nI 0) :: st) h r := ev_iconst iX8_cell_3 (by decide)
theorem iX8_cell_4 : mn_ins 91 4 = some (8, false, .bipush 11, 2) := by decide +kernel
theorem eX8_cell_4 : Ev 91 4 (ls) (st) h r ↔ Ev 91 6 (ls) (.int (nI 11) :: st) h r := ev_bipush iX8_cell_4 (by decide)
theorem iX8_cell_6 : mn_ins 91 6 = some (8, false, .invokestatic 111, 3) := by decide +kernel
theorem eX8_cell_6 : Ev 91 6 (ls) (.int x2 :: .int x1 :: .long u0 :: st) h r ↔ Evr false (decide (mn_cats st ≤ 8)) 91 6 ls st h.2.2.1 h.2.2.2 (Cl 86 [.long u0, .int x1, .int x2] h.1 h.2.1) r := Ev_T (As := [.long u0, .int x1, .int x2]) (q := 1) iX8_cell_6 (by decide +kernel) (by decide) (x := mnI_X8_cell) (x2 := mnI_X8_in) rfl rfl rfl (by decide +kernel) (Nat.le_of_ble_eq_true rfl) rfl
theorem iX8_cell_9 : mn_ins 91 9 = some (8, false, .ifCond .eq 23, 3) := by decide +kernel
theorem eX8_cell_9 : Ev 91 9 (ls) (.int x :: st) h r ↔ if x = nI 0 then Ev 91 32 (ls) (st) h r else Ev 91 12 (ls) (st) h r := ev_ifeq iX8_cell_9 (by decide)
theorem iX8_cell_12 : mn_ins 91 12 = some (8, false, .iload_n 2, 1) := by decide +kernel
theorem eX8_cell_12 : Ev 91 12 (a0 :: a1 :: some (.int x) :: ls) (st) h r ↔ Ev 91 13 (a0 :: a1 :: some (.int x) :: ls) (.int x :: st) h r := ev_iload_n iX8_cell_12 rfl
theorem iX8_cell_13 : mn_ins 91 13 = some (8, false, .i2l, 1) := by decide +kernel
theorem eX8_cell_13 : Ev 91 13 (ls) (.int x :: st) h r ↔ Ev 91 14 (ls) (.long x.toInt64 :: st) h r := ev_i2l iX8_cell_13
theorem iX8_cell_14 : mn_ins 91 14 = some (8, false, .iconst 0, 1) := by decide +kernel
theorem eX8_cell_14 : Ev 91 14 (ls) (st) h r ↔ Ev 91 15 (ls) (.int (nI 0) :: st) h r := ev_iconst iX8_cell_14 (by decide)
theorem iX8_cell_15 : mn_ins 91 15 = some (8, false, .iconst 3, 1) := by decide +kernel
theorem eX8_cell_15 : Ev 91 15 (ls) (st) h r ↔ Ev 91 16 (ls) (.int (nI 3) :: st) h r := ev_iconst iX8_cell_15 (by decide)
theorem iX8_cell_16 : mn_ins 91 16 = some (8, false, .invokestatic 111, 3) := by decide +kernel
theorem eX8_cell_16 : Ev 91 16 (ls) (.int x2 :: .int x1 :: .long u0 :: st) h r ↔ Evr false (decide (mn_cats st ≤ 8)) 91 16 ls st h.2.2.1 h.2.2.2 (Cl 86 [.long u0, .int x1, .int x2] h.1 h.2.1) r := Ev_T (As := [.long u0, .int x1, .int x2]) (q := 1) iX8_cell_16 (by decide +kernel) (by decide) (x := mnI_X8_cell) (x2 := mnI_X8_in) rfl rfl rfl (by decide +kernel) (Nat.le_of_ble_eq_true rfl) rfl
theorem iX8_cell_19 : mn_ins 91 19 = some (8, false, .ifCond .eq 13, 3) := by decide +kernel
theorem eX8_cell_19 : Ev 91 19 (ls) (.int x :: st) h r ↔ if x = nI 0 then Ev 91 32 (ls) (st) h r else Ev 91 22 (ls) (st) h r := ev_ifeq iX8_cell_19 (by decide)
theorem iX8_cell_22 : mn_ins 91 22 = some (8, false, .iload_n 3, 1) := by decide +kernel
theorem eX8_cell_22 : Ev 91 22 (a0 :: a1 :: a2 :: some (.int x) :: ls) (st) h r ↔ Ev 91 23 (a0 :: a1 :: a2 :: some (.int x) :: ls) (.int x :: st) h r := ev_iload_n iX8_cell_22 rfl
theorem iX8_cell_23 : mn_ins 91 23 = some (8, false, .i2l, 1) := by decide +kernel
theorem eX8_cell_23 : Ev 91 23 (ls) (.int x :: st) h r ↔ Ev 91 24 (ls) (.long x.toInt64 :: st) h r := ev_i2l iX8_cell_23
theorem iX8_cell_24 : mn_ins 91 24 = some (8, false, .iconst 0, 1) := by decide +kernel
theorem eX8_cell_24 : Ev 91 24 (ls) (st) h r ↔ Ev 91 25 (ls) (.int (nI 0) :: st) h r := ev_iconst iX8_cell_24 (by decide)
theorem iX8_cell_25 : mn_ins 91 25 = some (8, false, .iconst 1, 1) := by decide +kernel
theorem eX8_cell_25 : Ev 91 25 (ls) (st) h r ↔ Ev 91 26 (ls) (.int (nI 1) :: st) h r := ev_iconst iX8_cell_25 (by decide)
theorem iX8_cell_26 : mn_ins 91 26 = some (8, false, .invokestatic 111, 3) := by decide +kernel
theorem eX8_cell_26 : Ev 91 26 (ls) (.int x2 :: .int x1 :: .long u0 :: st) h r ↔ Evr false (decide (mn_cats st ≤ 8)) 91 26 ls st h.2.2.1 h.2.2.2 (Cl 86 [.long u0, .int x1, .int x2] h.1 h.2.1) r := Ev_T (As := [.long u0, .int x1, .int x2]) (q := 1) iX8_cell_26 (by decide +kernel) (by decide) (x := mnI_X8_cell) (x2 := mnI_X8_in) rfl rfl rfl (by decide +kernel) (Nat.le_of_ble_eq_true rfl) rfl
theorem iX8_cell_29 : mn_ins 91 29 = some (8, false, .ifCond .ne 7, 3) := by decide +kernel
theorem eX8_cell_29 : Ev 91 29 (ls) (.int x :: st) h r ↔ if x = nI 0 then Ev 91 32 (ls) (st) h r else Ev 91 36 (ls) (st) h r := ev_ifne iX8_cell_29 (by decide)
theorem iX8_cell_32 : mn_ins 91 32 = some (8, false, .iconst 1, 1) := by decide +kernel
theorem eX8_cell_32 : Ev 91 32 (ls) (st) h r ↔ Ev 91 33 (ls) (.int (nI 1) :: st) h r := ev_iconst iX8_cell_32 (by decide)
theorem iX8_cell_33 : mn_ins 91 33 = some (8, false, .goto 15, 3) := by decide +kernel
theorem eX8_cell_33 : Ev 91 33 (ls) (st) h r ↔ Ev 91 48 (ls) (st) h r := ev_goto iX8_cell_33 (by decide)
theorem iX8_cell_36 : mn_ins 91 36 = some (8, false, .aload_n 0, 1) := by decide +kernel
theorem eX8_cell_36 : Ev 91 36 (some (.ref a) :: ls) (st) h r ↔ Ev 91 37 (some (.ref a) :: ls) (.ref a :: st) h r := ev_aload_n iX8_cell_36 rfl rfl
theorem iX8_cell_37 : mn_ins 91 37 = some (8, false, .getfield 97, 3) := by decide +kernel
theorem eX8_cell_37 : Ev 91 37 (ls) (.ref a :: st) h r ↔ Evk 91 40 ls (mn_gf h a 8 9) st h r := ev_getf iX8_cell_37 (by decide +kernel)
theorem iX8_cell_40 : mn_ins 91 40 = some (8, false, .ifCond .eq 7, 3) := by decide +kernel
theorem eX8_cell_40 : Ev 91 40 (ls) (.int x :: st) h r ↔ if x = nI 0 then Ev 91 47 (ls) (st) h r else Ev 91 43 (ls) (st) h r := ev_ifeq iX8_cell_40 (by decide)
theorem iX8_cell_43 : mn_ins 91 43 = some (8, false, .iconst 2, 1) := by decide +kernel
theorem eX8_cell_43 : Ev 91 43 (ls) (st) h r ↔ Ev 91 44 (ls) (.int (nI 2) :: st) h r := ev_iconst iX8_cell_43 (by decide)
theorem iX8_cell_44 : mn_ins 91 44 = some (8, false, .goto 4, 3) := by decide +kernel
theorem eX8_cell_44 : Ev 91 44 (ls) (st) h r ↔ Ev 91 48 (ls) (st) h r := ev_goto iX8_cell_44 (by decide)
theorem iX8_cell_47 : mn_ins 91 47 = some (8, false, .iconst 0, 1) := by decide +kernel
theorem eX8_cell_47 : Ev 91 47 (ls) (st) h r ↔ Ev 91 48 (ls) (.int (nI 0) :: st) h r := ev_iconst iX8_cell_47 (by decide)
theorem iX8_cell_48 : mn_ins 91 48 = some (8, false, .putfield 94, 3) := by decide +kernel
theorem eX8_cell_48 : Ev 91 48 (ls) (w :: .ref a :: st) h r ↔ Evh 91 51 ls st (mn_pf h a 8 0 w) r := ev_putf iX8_cell_48 (by decide +kernel) (by decide +kernel)
theorem iX8_cell_51 : mn_ins 91 51 = some (8, false, .aload_n 0, 1) := by decide +kernel
theorem eX8_cell_51 : Ev 91 51 (some (.ref a) :: ls) (st) h r ↔ Ev 91 52 (some (.ref a) :: ls) (.ref a :: st) h r := ev_aload_n iX8_cell_51 rfl rfl
theorem iX8_cell_52 : mn_ins 91 52 = some (8, false, .getfield 94, 3) := by decide +kernel
theorem eX8_cell_52 : Ev 91 52 (ls) (.ref a :: st) h r ↔ Evk 91 55 ls (mn_gf h a 8 0) st h r := ev_getf iX8_cell_52 (by decide +kernel)
theorem iX8_cell_55 : mn_ins 91 55 = some (8, false, .ifCond .le 4, 3) := by decide +kernel
theorem eX8_cell_55 : Ev 91 55 (ls) (.int x :: st) h r ↔ if x ≤ nI 0 then Ev 91 59 (ls) (st) h r else Ev 91 58 (ls) (st) h r := ev_ifle iX8_cell_55 (by decide)
theorem iX8_cell_58 : mn_ins 91 58 = some (8, false, .return_, 1) := by decide +kernel
theorem eX8_cell_58 : Ev 91 58 (ls) [] h r ↔ r = (h, .inl none) := ev_vret iX8_cell_58 (X := mnI_X8_cell) rfl rfl
theorem iX8_cell_59 : mn_ins 91 59 = some (8, false, .aload_n 0, 1) := by decide +kernel
theorem eX8_cell_59 : Ev 91 59 (some (.ref a) :: ls) (st) h r ↔ Ev 91 60 (some (.ref a) :: ls) (.ref a :: st) h r := ev_aload_n iX8_cell_59 rfl rfl
theorem iX8_cell_60 : mn_ins 91 60 = some (8, false, .getfield 23, 3) := by decide +kernel
theorem eX8_cell_60 : Ev 91 60 (ls) (.ref a :: st) h r ↔ Evk 91 63 ls (mn_gf h a 8 7) st h r := ev_getf iX8_cell_60 (by decide +kernel)
theorem iX8_cell_63 : mn_ins 91 63 = some (8, false, .iload_n 1, 1) := by decide +kernel
theorem eX8_cell_63 : Ev 91 63 (a0 :: some (.int x) :: ls) (st) h r ↔ Ev 91 64 (a0 :: some (.int x) :: ls) (.int x :: st) h r := ev_iload_n iX8_cell_63 rfl
theorem iX8_cell_64 : mn_ins 91 64 = some (8, false, .iload_n 2, 1) := by decide +kernel
theorem eX8_cell_64 : Ev 91 64 (a0 :: a1 :: some (.int x) :: ls) (st) h r ↔ Ev 91 65 (a0 :: a1 :: some (.int x) :: ls) (.int x :: st) h r := ev_iload_n iX8_cell_64 rfl
theorem iX8_cell_65 : mn_ins 91 65 = some (8, false, .iastore, 1) := by decide +kernel
theorem eX8_cell_65 : Ev 91 65 (ls) (.int y :: .int x :: .ref a :: st) h r ↔ Evh 91 66 ls st (mn_asi h a x y) r := ev_iast iX8_cell_65
theorem iX8_cell_66 : mn_ins 91 66 = some (8, false, .aload_n 0, 1) := by decide +kernel
theorem eX8_cell_66 : Ev 91 66 (some (.ref a) :: ls) (st) h r ↔ Ev 91 67 (some (.ref a) :: ls) (.ref a :: st) h r := ev_aload_n iX8_cell_66 rfl rfl
theorem iX8_cell_67 : mn_ins 91 67 = some (8, false, .getfield 26, 3) := by decide +kernel
theorem eX8_cell_67 : Ev 91 67 (ls) (.ref a :: st) h r ↔ Evk 91 70 ls (mn_gf h a 8 8) st h r := ev_getf iX8_cell_67 (by decide +kernel)
theorem iX8_cell_70 : mn_ins 91 70 = some (8, false, .iload_n 1, 1) := by decide +kernel
theorem eX8_cell_70 : Ev 91 70 (a0 :: some (.int x) :: ls) (st) h r ↔ Ev 91 71 (a0 :: some (.int x) :: ls) (.int x :: st) h r := ev_iload_n iX8_cell_70 rfl
theorem iX8_cell_71 : mn_ins 91 71 = some (8, false, .iload_n 3, 1) := by decide +kernel
theorem eX8_cell_71 : Ev 91 71 (a0 :: a1 :: a2 :: some (.int x) :: ls) (st) h r ↔ Ev 91 72 (a0 :: a1 :: a2 :: some (.int x) :: ls) (.int x :: st) h r := ev_iload_n iX8_cell_71 rfl
theorem iX8_cell_72 : mn_ins 91 72 = some (8, false, .iastore, 1) := by decide +kernel
theorem eX8_cell_72 : Ev 91 72 (ls) (.int y :: .int x :: .ref a :: st) h r ↔ Evh 91 73 ls st (mn_asi h a x y) r := ev_iast iX8_cell_72
theorem iX8_cell_73 : mn_ins 91 73 = some (8, false, .return_, 1) := by decide +kernel
theorem eX8_cell_73 : Ev 91 73 (ls) [] h r ↔ r = (h, .inl none) := ev_vret iX8_cell_73 (X := mnI_X8_cell) rfl rfl
theorem iX8_isArgument_0 : mn_ins 92 0 = some (8, false, .aload_n 0, 1) := by decide +kernel
theorem eX8_isArgument_0 : Ev 92 0 (some (.ref a) :: ls) (st) h r ↔ Ev 92 1 (some (.ref a) :: ls) (.ref a :: st) h r := ev_aload_n iX8_isArgument_0 rfl rfl
theorem iX8_isArgument_1 : mn_ins 92 1 = some (8, false, .getfield 17, 3) := by decide +kernel
theorem eX8_isArgument_1 : Ev 92 1 (ls) (.ref a :: st) h r ↔ Evk 92 4 ls (mn_gf h a 8 5) st h r := ev_getf iX8_isArgument_1 (by decide +kernel)
theorem iX8_isArgument_4 : mn_ins 92 4 = some (8, false, .bipush 24, 2) := by decide +kernel
theorem eX8_isArgument_4 : Ev 92 4 (ls) (st) h r ↔ Ev 92 6 (ls) (.int (nI 24) :: st) h r := ev_bipush iX8_isArgument_4 (by decide)
theorem iX8_isArgument_6 : mn_ins 92 6 = some (8, false, .iload_n 1, 1) := by decide +kernel
theorem eX8_isArgument_6 : Ev 92 6 (a0 :: some (.int x) :: ls) (st) h r ↔ Ev 92 7 (a0 :: some (.int x) :: ls) (.int x :: st) h r := ev_iload_n iX8_isArgument_6 rfl
theorem iX8_isArgument_7 : mn_ins 92 7 = some (8, false, .imul, 1) := by decide +kernel
theorem eX8_isArgument_7 : Ev 92 7 (ls) (.int y :: .int x :: st) h r ↔ Ev 92 8 (ls) (.int (x * y) :: st) h r := ev_imul iX8_isArgument_7
theorem iX8_isArgument_8 : mn_ins 92 8 = some (8, false, .iload_n 2, 1) := by decide +kernel
theorem eX8_isArgument_8 : Ev 92 8 (a0 :: a1 :: some (.int x) :: ls) (st) h r ↔ Ev 92 9 (a0 :: a1 :: some (.int x) :: ls) (.int x :: st) h r := ev_iload_n iX8_isArgument_8 rfl
theorem iX8_isArgument_9 : mn_ins 92 9 = some (8, false, .iadd, 1) := by decide +kernel
theorem eX8_isArgument_9 : Ev 92 9 (ls) (.int y :: .int x :: st) h r ↔ Ev 92 10 (ls) (.int (x + y) :: st) h r := ev_iadd iX8_isArgument_9
theorem iX8_isArgument_10 : mn_ins 92 10 = some (8, false, .iaload, 1) := by decide +kernel
theorem eX8_isArgument_10 : Ev 92 10 (ls) (.int x :: .ref a :: st) h r ↔ Evk 92 11 ls (mn_al h a 0 x) st h r := ev_iald iX8_isArgument_10
theorem iX8_isArgument_11 : mn_ins 92 11 = some (8, false, .istore_n 3, 1) := by decide +kernel
theorem eX8_isArgument_11 : Ev 92 11 (a0 :: a1 :: a2 :: a3 :: ls) (.int x :: st) h r ↔ Ev 92 12 (a0 :: a1 :: mn_k a2 :: some (.int x) :: ls) (st) h r := ev_istore_n iX8_isArgument_11 (by show 3 < _; simp only [List.length_cons]; omega)
theorem iX8_isArgument_12 : mn_ins 92 12 = some (8, false, .aload_n 0, 1) := by decide +kernel
theorem eX8_isArgument_12 : Ev 92 12 (some (.ref a) :: ls) (st) h r ↔ Ev 92 13 (some (.ref a) :: ls) (.ref a :: st) h r := ev_aload_n iX8_isArgument_12 rfl rfl
theorem iX8_isArgument_13 : mn_ins 92 13 = some (8, false, .getfield 20, 3) := by decide +kernel
theorem eX8_isArgument_13 : Ev 92 13 (ls) (.ref a :: st) h r ↔ Evk 92 16 ls (mn_gf h a 8 6) st h r := ev_getf iX8_isArgument_13 (by decide +kernel)
theorem iX8_isArgument_16 : mn_ins 92 16 = some (8, false, .bipush 24, 2) := by decide +kernel
theorem eX8_isArgument_16 : Ev 92 16 (ls) (st) h r ↔ Ev 92 18 (ls) (.int (nI 24) :: st) h r := ev_bipush iX8_isArgument_16 (by decide)
theorem iX8_isArgument_18 : mn_ins 92 18 = some (8, false, .iload_n 1, 1) := by decide +kernel
theorem eX8_isArgument_18 : Ev 92 18 (a0 :: some (.int x) :: ls) (st) h r ↔ Ev 92 19 (a0 :: some (.int x) :: ls) (.int x :: st) h r := ev_iload_n iX8_isArgument_18 rfl
theorem iX8_isArgument_19 : mn_ins 92 19 = some (8, false, .imul, 1) := by decide +kernel
theorem eX8_isArgument_19 : Ev 92 19 (ls) (.int y :: .int x :: st) h r ↔ Ev 92 20 (ls) (.int (x * y) :: st) h r := ev_imul iX8_isArgument_19
theorem iX8_isArgument_20 : mn_ins 92 20 = some (8, false, .iload_n 2, 1) := by decide +kernel
theorem eX8_isArgument_20 : Ev 92 20 (a0 :: a1 :: some (.int x) :: ls) (st) h r ↔ Ev 92 21 (a0 :: a1 :: some (.int x) :: ls) (.int x :: st) h r := ev_iload_n iX8_isArgument_20 rfl
theorem iX8_isArgument_21 : mn_ins 92 21 = some (8, false, .iadd, 1) := by decide +kernel
theorem eX8_isArgument_21 : Ev 92 21 (ls) (.int y :: .int x :: st) h r ↔ Ev 92 22 (ls) (.int (x + y) :: st) h r := ev_iadd iX8_isArgument_21
theorem iX8_isArgument_22 : mn_ins 92 22 = some (8, false, .iaload, 1) := by decide +kernel
theorem eX8_isArgument_22 : Ev 92 22 (ls) (.int x :: .ref a :: st) h r ↔ Evk 92 23 ls (mn_al h a 0 x) st h r := ev_iald iX8_isArgument_22
theorem iX8_isArgument_23 : mn_ins 92 23 = some (8, false, .istore 4, 2) := by decide +kernel
theorem eX8_isArgument_23 : Ev 92 23 (a0 :: a1 :: a2 :: a3 :: a4 :: ls) (.int x :: st) h r ↔ Ev 92 25 (a0 :: a1 :: a2 :: mn_k a3 :: some (.int x) :: ls) (st) h r := ev_istore iX8_isArgument_23 (by show 4 < _; simp only [List.length_cons]; omega)
theorem iX8_isArgument_25 : mn_ins 92 25 = some (8, false, .iload_n 1, 1) := by decide +kernel
theorem eX8_isArgument_25 : Ev 92 25 (a0 :: some (.int x) :: ls) (st) h r ↔ Ev 92 26 (a0 :: some (.int x) :: ls) (.int x :: st) h r := ev_iload_n iX8_isArgument_25 rfl
theorem iX8_isArgument_26 : mn_ins 92 26 = some (8, false, .bipush 6, 2) := by decide +kernel
theorem eX8_isArgument_26 : Ev 92 26 (ls) (st) h r ↔ Ev 92 28 (ls) (.int (nI 6) :: st) h r := ev_bipush iX8_isArgument_26 (by decide)
theorem iX8_isArgument_28 : mn_ins 92 28 = some (8, false, .if_icmp .lt 7, 3) := by decide +kernel
theorem eX8_isArgument_28 : Ev 92 28 (ls) (.int y :: .int x :: st) h r ↔ if x < y then Ev 92 35 (ls) (st) h r else Ev 92 31 (ls) (st) h r := ev_cmplt iX8_isArgument_28 (by decide)
theorem iX8_isArgument_31 : mn_ins 92 31 = some (8, false, .iconst 1, 1) := by decide +kernel
theorem eX8_isArgument_31 : Ev 92 31 (ls) (st) h r ↔ Ev 92 32 (ls) (.int (nI 1) :: st) h r := ev_iconst iX8_isArgument_31 (by decide)
theorem iX8_isArgument_32 : mn_ins 92 32 = some (8, false, .goto 4, 3) := by decide +kernel
theorem eX8_isArgument_32 : Ev 92 32 (ls) (st) h r ↔ Ev 92 36 (ls) (st) h r := ev_goto iX8_isArgument_32 (by decide)
theorem iX8_isArgument_35 : mn_ins 92 35 = some (8, false, .iconst 0, 1) := by decide +kernel
theorem eX8_isArgument_35 : Ev 92 35 (ls) (st) h r ↔ Ev 92 36 (ls) (.int (nI 0) :: st) h r := ev_iconst iX8_isArgument_35 (by decide)
theorem iX8_isArgument_36 : mn_ins 92 36 = some (8, false, .istore 5, 2) := by decide +kernel
theorem eX8_isArgument_36 : Ev 92 36 (a0 :: a1 :: a2 :: a3 :: a4 :: a5 :: ls) (.int x :: st) h r ↔ Ev 92 38 (a0 :: a1 :: a2 :: a3 :: mn_k a4 :: some (.int x) :: ls) (st) h r := ev_istore iX8_isArgument_36 (by show 5 < _; simp only [List.length_cons]; omega)
theorem iX8_isArgument_38 : mn_ins 92 38 = some (8, false, .iload 5, 2) := by decide +kernel
theorem eX8_isArgument_38 : Ev 92 38 (a0 :: a1 :: a2 :: a3 :: a4 :: some (.int x) :: ls) (st) h r ↔ Ev 92 40 (a0 :: a1 :: a2 :: a3 :: a4 :: some (.int x) :: ls) (.int x :: st) h r := ev_iload iX8_isArgument_38 rfl
theorem iX8_isArgument_40 : mn_ins 92 40 = some (8, false, .ifCond .eq 49, 3) := by decide +kernel
theorem eX8_isArgument_40 : Ev 92 40 (ls) (.int x :: st) h r ↔ if x = nI 0 then Ev 92 89 (ls) (st) h r else Ev 92 43 (ls) (st) h r := ev_ifeq iX8_isArgument_40 (by decide)
theorem iX8_isArgument_43 : mn_ins 92 43 = some (8, false, .iload_n 3, 1) := by decide +kernel
theorem eX8_isArgument_43 : Ev 92 43 (a0 :: a1 :: a2 :: some (.int x) :: ls) (st) h r ↔ Ev 92 44 (a0 :: a1 :: a2 :: some (.int x) :: ls) (.int x :: st) h r := ev_iload_n iX8_isArgument_43 rfl
theorem iX8_isArgument_44 : mn_ins 92 44 = some (8, false, .ifCond .eq 45, 3) := by decide +kernel
theorem eX8_isArgument_44 : Ev 92 44 (ls) (.int x :: st) h r ↔ if x = nI 0 then Ev 92 89 (ls) (st) h r else Ev 92 47 (ls) (st) h r := ev_ifeq iX8_isArgument_44 (by decide)
theorem iX8_isArgument_47 : mn_ins 92 47 = some (8, false, .iload_n 3, 1) := by decide +kernel
theorem eX8_isArgument_47 : Ev 92 47 (a0 :: a1 :: a2 :: some (.int x) :: ls) (st) h r ↔ Ev 92 48 (a0 :: a1 :: a2 :: some (.int x) :: ls) (.int x :: st) h r := ev_iload_n iX8_isArgument_47 rfl
theorem iX8_isArgument_48 : mn_ins 92 48 = some (8, false, .iconst 1, 1) := by decide +kernel
theorem eX8_isArgument_48 : Ev 92 48 (ls) (st) h r ↔ Ev 92 49 (ls) (.int (nI 1) :: st) h r := ev_iconst iX8_isArgument_48 (by decide)
theorem iX8_isArgument_49 : mn_ins 92 49 = some (8, false, .if_icmp .eq 40, 3) := by decide +kernel
theorem eX8_isArgument_49 : Ev 92 49 (ls) (.int y :: .int x :: st) h r ↔ if x = y then Ev 92 89 (ls) (st) h r else Ev 92 52 (ls) (st) h r := ev_cmpeq iX8_isArgument_49 (by decide)
theorem iX8_isArgument_52 : mn_ins 92 52 = some (8, false, .iload_n 3, 1) := by decide +kernel
theorem eX8_isArgument_52 : Ev 92 52 (a0 :: a1 :: a2 :: some (.int x) :: ls) (st) h r ↔ Ev 92 53 (a0 :: a1 :: a2 :: some (.int x) :: ls) (.int x :: st) h r := ev_iload_n iX8_isArgument_52 rfl
theorem iX8_isArgument_53 : mn_ins 92 53 = some (8, false, .iconst 5, 1) := by decide +kernel
theorem eX8_isArgument_53 : Ev 92 53 (ls) (st) h r ↔ Ev 92 54 (ls) (.int (nI 5) :: st) h r := ev_iconst iX8_isArgument_53 (by decide)
theorem iX8_isArgument_54 : mn_ins 92 54 = some (8, false, .if_icmp .lt 9, 3) := by decide +kernel
theorem eX8_isArgument_54 : Ev 92 54 (ls) (.int y :: .int x :: st) h r ↔ if x < y then Ev 92 63 (ls) (st) h r else Ev 92 57 (ls) (st) h r := ev_cmplt iX8_isArgument_54 (by decide)
theorem iX8_isArgument_57 : mn_ins 92 57 = some (8, false, .iload_n 3, 1) := by decide +kernel
theorem eX8_isArgument_57 : Ev 92 57 (a0 :: a1 :: a2 :: some (.int x) :: ls) (st) h r ↔ Ev 92 58 (a0 :: a1 :: a2 :: some (.int x) :: ls) (.int x :: st) h r := ev_iload_n iX8_isArgument_57 rfl
theorem iX8_isArgument_58 : mn_ins 92 58 = some (8, false, .bipush 10, 2) := by decide +kernel
theorem eX8_isArgument_58 : Ev 92 58 (ls) (st) h r ↔ Ev 92 60 (ls) (.int (nI 10) :: st) h r := ev_bipush iX8_isArgument_58 (by decide)
theorem iX8_isArgument_60 : mn_ins 92 60 = some (8, false, .if_icmp .le 29, 3) := by decide +kernel
theorem eX8_isArgument_60 : Ev 92 60 (ls) (.int y :: .int x :: st) h r ↔ if x ≤ y then Ev 92 89 (ls) (st) h r else Ev 92 63 (ls) (st) h r := ev_cmple iX8_isArgument_60 (by decide)
theorem iX8_isArgument_63 : mn_ins 92 63 = some (8, false, .iload_n 3, 1) := by decide +kernel
theorem eX8_isArgument_63 : Ev 92 63 (a0 :: a1 :: a2 :: some (.int x) :: ls) (st) h r ↔ Ev 92 64 (a0 :: a1 :: a2 :: some (.int x) :: ls) (.int x :: st) h r := ev_iload_n iX8_isArgument_63 rfl
theorem iX8_isArgument_64 : mn_ins 92 64 = some (8, false, .bipush 12, 2) := by decide +kernel
theorem eX8_isArgument_64 : Ev 92 64 (ls) (st) h r ↔ Ev 92 66 (ls) (.int (nI 12) :: st) h r := ev_bipush iX8_isArgument_64 (by decide)
theorem iX8_isArgument_66 : mn_ins 92 66 = some (8, false, .if_icmp .eq 23, 3) := by decide +kernel
theorem eX8_isArgument_66 : Ev 92 66 (ls) (.int y :: .int x :: st) h r ↔ if x = y then Ev 92 89 (ls) (st) h r else Ev 92 69 (ls) (st) h r := ev_cmpeq iX8_isArgument_66 (by decide)
theorem iX8_isArgument_69 : mn_ins 92 69 = some (8, false, .iload_n 3, 1) := by decide +kernel
theorem eX8_isArgument_69 : Ev 92 69 (a0 :: a1 :: a2 :: some (.int x) :: ls) (st) h r ↔ Ev 92 70 (a0 :: a1 :: a2 :: some (.int x) :: ls) (.int x :: st) h r := ev_iload_n iX8_isArgument_69 rfl
theorem iX8_isArgument_70 : mn_ins 92 70 = some (8, false, .bipush 17, 2) := by decide +kernel
theorem eX8_isArgument_70 : Ev 92 70 (ls) (st) h r ↔ Ev 92 72 (ls) (.int (nI 17) :: st) h r := ev_bipush iX8_isArgument_70 (by decide)
theorem iX8_isArgument_72 : mn_ins 92 72 = some (8, false, .if_icmp .eq 17, 3) := by decide +kernel
theorem eX8_isArgument_72 : Ev 92 72 (ls) (.int y :: .int x :: st) h r ↔ if x = y then Ev 92 89 (ls) (st) h r else Ev 92 75 (ls) (st) h r := ev_cmpeq iX8_isArgument_72 (by decide)
theorem iX8_isArgument_75 : mn_ins 92 75 = some (8, false, .iload_n 3, 1) := by decide +kernel
theorem eX8_isArgument_75 : Ev 92 75 (a0 :: a1 :: a2 :: some (.int x) :: ls) (st) h r ↔ Ev 92 76 (a0 :: a1 :: a2 :: some (.int x) :: ls) (.int x :: st) h r := ev_iload_n iX8_isArgument_75 rfl
theorem iX8_isArgument_76 : mn_ins 92 76 = some (8, false, .bipush 18, 2) := by decide +kernel
theorem eX8_isArgument_76 : Ev 92 76 (ls) (st) h r ↔ Ev 92 78 (ls) (.int (nI 18) :: st) h r := ev_bipush iX8_isArgument_76 (by decide)
theorem iX8_isArgument_78 : mn_ins 92 78 = some (8, false, .if_icmp .eq 11, 3) := by decide +kernel
theorem eX8_isArgument_78 : Ev 92 78 (ls) (.int y :: .int x :: st) h r ↔ if x = y then Ev 92 89 (ls) (st) h r else Ev 92 81 (ls) (st) h r := ev_cmpeq iX8_isArgument_78 (by decide)
theorem iX8_isArgument_81 : mn_ins 92 81 = some (8, false, .iload_n 3, 1) := by decide +kernel
theorem eX8_isArgument_81 : Ev 92 81 (a0 :: a1 :: a2 :: some (.int x) :: ls) (st) h r ↔ Ev 92 82 (a0 :: a1 :: a2 :: some (.int x) :: ls) (.int x :: st) h r := ev_iload_n iX8_isArgument_81 rfl
theorem iX8_isArgument_82 : mn_ins 92 82 = some (8, false, .bipush 16, 2) := by decide +kernel
theorem eX8_isArgument_82 : Ev 92 82 (ls) (st) h r ↔ Ev 92 84 (ls) (.int (nI 16) :: st) h r := ev_bipush iX8_isArgument_82 (by decide)
theorem iX8_isArgument_84 : mn_ins 92 84 = some (8, false, .if_icmp .eq 5, 3) := by decide +kernel
theorem eX8_isArgument_84 : Ev 92 84 (ls) (.int y :: .int x :: st) h r ↔ if x = y then Ev 92 89 (ls) (st) h r else Ev 92 87 (ls) (st) h r := ev_cmpeq iX8_isArgument_84 (by decide)
theorem iX8_isArgument_87 : mn_ins 92 87 = some (8, false, .iconst 0, 1) := by decide +kernel
theorem eX8_isArgument_87 : Ev 92 87 (ls) (st) h r ↔ Ev 92 88 (ls) (.int (nI 0) :: st) h r := ev_iconst iX8_isArgument_87 (by decide)
theorem iX8_isArgument_88 : mn_ins 92 88 = some (8, false, .ireturn, 1) := by decide +kernel
theorem eX8_isArgument_88 (hx : x = 0 ∨ x = 1) : Ev 92 88 (ls) [.int x] h r ↔ r = (h, .inl (some (.int x))) := ev_zret iX8_isArgument_88 (X := mnI_X8_isArgument) rfl rfl hx
theorem iX8_isArgument_89 : mn_ins 92 89 = some (8, false, .iload_n 3, 1) := by decide +kernel
theorem eX8_isArgument_89 : Ev 92 89 (a0 :: a1 :: a2 :: some (.int x) :: ls) (st) h r ↔ Ev 92 90 (a0 :: a1 :: a2 :: some (.int x) :: ls) (.int x :: st) h r := ev_iload_n iX8_isArgument_89 rfl
theorem iX8_isArgument_90 : mn_ins 92 90 = some (8, false, .iconst 1, 1) := by decide +kernel
theorem eX8_isArgument_90 : Ev 92 90 (ls) (st) h r ↔ Ev 92 91 (ls) (.int (nI 1) :: st) h r := ev_iconst iX8_isArgument_90 (by decide)
theorem iX8_isArgument_91 : mn_ins 92 91 = some (8, false, .if_icmp .eq 8, 3) := by decide +kernel
theorem eX8_isArgument_91 : Ev 92 91 (ls) (.int y :: .int x :: st) h r ↔ if x = y then Ev 92 99 (ls) (st) h r else Ev 92 94 (ls) (st) h r := ev_cmpeq iX8_isArgument_91 (by decide)
theorem iX8_isArgument_94 : mn_ins 92 94 = some (8, false, .iload_n 3, 1) := by decide +kernel
theorem eX8_isArgument_94 : Ev 92 94 (a0 :: a1 :: a2 :: some (.int x) :: ls) (st) h r ↔ Ev 92 95 (a0 :: a1 :: a2 :: some (.int x) :: ls) (.int x :: st) h r := ev_iload_n iX8_isArgument_94 rfl
theorem iX8_isArgument_95 : mn_ins 92 95 = some (8, false, .iconst 2, 1) := by decide +kernel
theorem eX8_isArgument_95 : Ev 92 95 (ls) (st) h r ↔ Ev 92 96 (ls) (.int (nI 2) :: st) h r := ev_iconst iX8_isArgument_95 (by decide)
theorem iX8_isArgument_96 : mn_ins 92 96 = some (8, false, .if_icmp .ne 21, 3) := by decide +kernel
theorem eX8_isArgument_96 : Ev 92 96 (ls) (.int y :: .int x :: st) h r ↔ if x = y then Ev 92 99 (ls) (st) h r else Ev 92 117 (ls) (st) h r := ev_cmpne iX8_isArgument_96 (by decide)
theorem iX8_isArgument_99 : mn_ins 92 99 = some (8, false, .iload 4, 2) := by decide +kernel
theorem eX8_isArgument_99 : Ev 92 99 (a0 :: a1 :: a2 :: a3 :: some (.int x) :: ls) (st) h r ↔ Ev 92 101 (a0 :: a1 :: a2 :: a3 :: some (.int x) :: ls) (.int x :: st) h r := ev_iload iX8_isArgument_99 rfl
theorem iX8_isArgument_101 : mn_ins 92 101 = some (8, false, .i2l, 1) := by decide +kernel
theorem eX8_isArgument_101 : Ev 92 101 (ls) (.int x :: st) h r ↔ Ev 92 102 (ls) (.long x.toInt64 :: st) h r := ev_i2l iX8_isArgument_101
theorem iX8_isArgument_102 : mn_ins 92 102 = some (8, false, .iconst 0, 1) := by decide +kernel
theorem eX8_isArgument_102 : Ev 92 102 (ls) (st) h r ↔ Ev 92 103 (ls) (.int (nI 0) :: st) h r := ev_iconst iX8_isArgument_102 (by decide)
theorem iX8_isArgument_103 : mn_ins 92 103 = some (8, false, .iload 5, 2) := by decide +kernel
theorem eX8_isArgument_103 : Ev 92 103 (a0 :: a1 :: a2 :: a3 :: a4 :: some (.int x) :: ls) (st) h r ↔ Ev 92 105 (a0 :: a1 :: a2 :: a3 :: a4 :: some (.int x) :: ls) (.int x :: st) h r := ev_iload iX8_isArgument_103 rfl
theorem iX8_isArgument_105 : mn_ins 92 105 = some (8, false, .ifCond .eq 7, 3) := by decide +kernel
theorem eX8_isArgument_105 : Ev 92 105 (ls) (.int x :: st) h r ↔ if x = nI 0 then Ev 92 112 (ls) (st) h r else Ev 92 108 (ls) (st) h r := ev_ifeq iX8_isArgument_105 (by decide)
theorem iX8_isArgument_108 : mn_ins 92 108 = some (8, false, .iconst 2, 1) := by decide +kernel
theorem eX8_isArgument_108 : Ev 92 108 (ls) (st) h r ↔ Ev 92 109 (ls) (.int (nI 2) :: st) h r := ev_iconst iX8_isArgument_108 (by decide)
theorem iX8_isArgument_109 : mn_ins 92 109 = some (8, false, .goto 4, 3) := by decide +kernel
theorem eX8_isArgument_109 : Ev 92 109 (ls) (st) h r ↔ Ev 92 113 (ls) (st) h r := ev_goto iX8_isArgument_109 (by decide)
theorem iX8_isArgument_112 : mn_ins 92 112 = some (8, false, .iconst 3, 1) := by decide +kernel
theorem eX8_isArgument_112 : Ev 92 112 (ls) (st) h r ↔ Ev 92 113 (ls) (.int (nI 3) :: st) h r := ev_iconst iX8_isArgument_112 (by decide)
theorem iX8_isArgument_113 : mn_ins 92 113 = some (8, false, .invokestatic 111, 3) := by decide +kernel
theorem eX8_isArgument_113 : Ev 92 113 (ls) (.int x2 :: .int x1 :: .long u0 :: st) h r ↔ Evr false (decide (mn_cats st ≤ 8)) 92 113 ls st h.2.2.1 h.2.2.2 (Cl 86 [.long u0, .int x1, .int x2] h.1 h.2.1) r := Ev_T (As := [.long u0, .int x1, .int x2]) (q := 1) iX8_isArgument_113 (by decide +kernel) (by decide) (x := mnI_X8_isArgument) (x2 := mnI_X8_in) rfl rfl rfl (by decide +kernel) (Nat.le_of_ble_eq_true rfl) rfl
theorem iX8_isArgument_116 : mn_ins 92 116 = some (8, false, .ireturn, 1) := by decide +kernel
theorem eX8_isArgument_116 (hx : x = 0 ∨ x = 1) : Ev 92 116 (ls) [.int x] h r ↔ r = (h, .inl (some (.int x))) := ev_zret iX8_isArgument_116 (X := mnI_X8_isArgument) rfl rfl hx
theorem iX8_isArgument_117 : mn_ins 92 117 = some (8, false, .iload_n 3, 1) := by decide +kernel
theorem eX8_isArgument_117 : Ev 92 117 (a0 :: a1 :: a2 :: some (.int x) :: ls) (st) h r ↔ Ev 92 118 (a0 :: a1 :: a2 :: some (.int x) :: ls) (.int x :: st) h r := ev_iload_n iX8_isArgument_117 rfl
theorem iX8_isArgument_118 : mn_ins 92 118 = some (8, false, .iconst 3, 1) := by decide +kernel
theorem eX8_isArgument_118 : Ev 92 118 (ls) (st) h r ↔ Ev 92 119 (ls) (.int (nI 3) :: st) h r := ev_iconst iX8_isArgument_118 (by decide)
theorem iX8_isArgument_119 : mn_ins 92 119 = some (8, false, .if_icmp .eq 8, 3) := by decide +kernel
theorem eX8_isArgument_119 : Ev 92 119 (ls) (.int y :: .int x :: st) h r ↔ if x = y then Ev 92 127 (ls) (st) h r else Ev 92 122 (ls) (st) h r := ev_cmpeq iX8_isArgument_119 (by decide)
theorem iX8_isArgument_122 : mn_ins 92 122 = some (8, false, .iload_n 3, 1) := by decide +kernel
theorem eX8_isArgument_122 : Ev 92 122 (a0 :: a1 :: a2 :: some (.int x) :: ls) (st) h r ↔ Ev 92 123 (a0 :: a1 :: a2 :: some (.int x) :: ls) (.int x :: st) h r := ev_iload_n iX8_isArgument_122 rfl
theorem iX8_isArgument_123 : mn_ins 92 123 = some (8, false, .iconst 4, 1) := by decide +kernel
theorem eX8_isArgument_123 : Ev 92 123 (ls) (st) h r ↔ Ev 92 124 (ls) (.int (nI 4) :: st) h r := ev_iconst iX8_isArgument_123 (by decide)
theorem iX8_isArgument_124 : mn_ins 92 124 = some (8, false, .if_icmp .ne 13, 3) := by decide +kernel
theorem eX8_isArgument_124 : Ev 92 124 (ls) (.int y :: .int x :: st) h r ↔ if x = y then Ev 92 127 (ls) (st) h r else Ev 92 137 (ls) (st) h r := ev_cmpne iX8_isArgument_124 (by decide)
theorem iX8_isArgument_127 : mn_ins 92 127 = some (8, false, .iload 4, 2) := by decide +kernel
theorem eX8_isArgument_127 : Ev 92 127 (a0 :: a1 :: a2 :: a3 :: some (.int x) :: ls) (st) h r ↔ Ev 92 129 (a0 :: a1 :: a2 :: a3 :: some (.int x) :: ls) (.int x :: st) h r := ev_iload iX8_isArgument_127 rfl
theorem iX8_isArgument_129 : mn_ins 92 129 = some (8, false, .i2l, 1) := by decide +kernel
theorem eX8_isArgument_129 : Ev 92 129 (ls) (.int x :: st) h r ↔ Ev 92 130 (ls) (.long x.toInt64 :: st) h r := ev_i2l iX8_isArgument_129
theorem iX8_isArgument_130 : mn_ins 92 130 = some (8, false, .iconst 0, 1) := by decide +kernel
theorem eX8_isArgument_130 : Ev 92 130 (ls) (st) h r ↔ Ev 92 131 (ls) (.int (nI 0) :: st) h r := ev_iconst iX8_isArgument_130 (by decide)
theorem iX8_isArgument_131 : mn_ins 92 131 = some (8, false, .bipush 11, 2) := by decide +kernel
theorem eX8_isArgument_131 : Ev 92 131 (ls) (st) h r ↔ Ev 92 133 (ls) (.int (nI 11) :: st) h r := ev_bipush iX8_isArgument_131 (by decide)
theorem iX8_isArgument_133 : mn_ins 92 133 = some (8, false, .invokestatic 111, 3) := by decide +kernel
theorem eX8_isArgument_133 : Ev 92 133 (ls) (.int x2 :: .int x1 :: .long u0 :: st) h r ↔ Evr false (decide (mn_cats st ≤ 8)) 92 133 ls st h.2.2.1 h.2.2.2 (Cl 86 [.long u0, .int x1, .int x2] h.1 h.2.1) r := Ev_T (As := [.long u0, .int x1, .int x2]) (q := 1) iX8_isArgument_133 (by decide +kernel) (by decide) (x := mnI_X8_isArgument) (x2 := mnI_X8_in) rfl rfl rfl (by decide +kernel) (Nat.le_of_ble_eq_true rfl) rfl
theorem iX8_isArgument_136 : mn_ins 92 136 = some (8, false, .ireturn, 1) := by decide +kernel
theorem eX8_isArgument_136 (hx : x = 0 ∨ x = 1) : Ev 92 136 (ls) [.int x] h r ↔ r = (h, .inl (some (.int x))) := ev_zret iX8_isArgument_136 (X := mnI_X8_isArgument) rfl rfl hx
theorem iX8_isArgument_137 : mn_ins 92 137 = some (8, false, .iload_n 3, 1) := by decide +kernel
theorem eX8_isArgument_137 : Ev 92 137 (a0 :: a1 :: a2 :: some (.int x) :: ls) (st) h r ↔ Ev 92 138 (a0 :: a1 :: a2 :: some (.int x) :: ls) (.int x :: st) h r := ev_iload_n iX8_isArgument_137 rfl
theorem iX8_isArgument_138 : mn_ins 92 138 = some (8, false, .bipush 11, 2) := by decide +kernel
theorem eX8_isArgument_138 : Ev 92 138 (ls) (st) h r ↔ Ev 92 140 (ls) (.int (nI 11) :: st) h r := ev_bipush iX8_isArgument_138 (by decide)
theorem iX8_isArgument_140 : mn_ins 92 140 = some (8, false, .if_icmp .eq 9, 3) := by decide +kernel
theorem eX8_isArgument_140 : Ev 92 140 (ls) (.int y :: .int x :: st) h r ↔ if x = y then Ev 92 149 (ls) (st) h r else Ev 92 143 (ls) (st) h r := ev_cmpeq iX8_isArgument_140 (by decide)
theorem iX8_isArgument_143 : mn_ins 92 143 = some (8, false, .iload_n 3, 1) := by decide +kernel
theorem eX8_isArgument_143 : Ev 92 143 (a0 :: a1 :: a2 :: some (.int x) :: ls) (st) h r ↔ Ev 92 144 (a0 :: a1 :: a2 :: some (.int x) :: ls) (.int x :: st) h r := ev_iload_n iX8_isArgument_143 rfl
theorem iX8_isArgument_144 : mn_ins 92 144 = some (8, false, .bipush 12, 2) := by decide +kernel
theorem eX8_isArgument_144 : Ev 92 144 (ls) (st) h r ↔ Ev 92 146 (ls) (.int (nI 12) :: st) h r := ev_bipush iX8_isArgument_144 (by decide)
theorem iX8_isArgument_146 : mn_ins 92 146 = some (8, false, .if_icmp .ne 30, 3) := by decide +kernel
theorem eX8_isArgument_146 : Ev 92 146 (ls) (.int y :: .int x :: st) h r ↔ if x = y then Ev 92 149 (ls) (st) h r else Ev 92 176 (ls) (st) h r := ev_cmpne iX8_isArgument_146 (by decide)
theorem iX8_isArgument_149 : mn_ins 92 149 = some (8, false, .iload 4, 2) := by decide +kernel
theorem eX8_isArgument_149 : Ev 92 149 (a0 :: a1 :: a2 :: a3 :: some (.int x) :: ls) (st) h r ↔ Ev 92 151 (a0 :: a1 :: a2 :: a3 :: some (.int x) :: ls) (.int x :: st) h r := ev_iload iX8_isArgument_149 rfl
theorem iX8_isArgument_151 : mn_ins 92 151 = some (8, false, .i2l, 1) := by decide +kernel
theorem eX8_isArgument_151 : Ev 92 151 (ls) (.int x :: st) h r ↔ Ev 92 152 (ls) (.long x.toInt64 :: st) h r := ev_i2l iX8_isArgument_151
theorem iX8_isArgument_152 : mn_ins 92 152 = some (8, false, .iload 5, 2) := by decide +kernel
theorem eX8_isArgument_152 : Ev 92 152 (a0 :: a1 :: a2 :: a3 :: a4 :: some (.int x) :: ls) (st) h r ↔ Ev 92 154 (a0 :: a1 :: a2 :: a3 :: a4 :: some (.int x) :: ls) (.int x :: st) h r := ev_iload iX8_isArgument_152 rfl
theorem iX8_isArgument_154 : mn_ins 92 154 = some (8, false, .ifCond .eq 9, 3) := by decide +kernel
theorem eX8_isArgument_154 : Ev 92 154 (ls) (.int x :: st) h r ↔ if x = nI 0 then Ev 92 163 (ls) (st) h r else Ev 92 157 (ls) (st) h r := ev_ifeq iX8_isArgument_154 (by decide)
theorem iX8_isArgument_157 : mn_ins 92 157 = some (8, false, .iload_n 2, 1) := by decide +kernel
theorem eX8_isArgument_157 : Ev 92 157 (a0 :: a1 :: some (.int x) :: ls) (st) h r ↔ Ev 92 158 (a0 :: a1 :: some (.int x) :: ls) (.int x :: st) h r := ev_iload_n iX8_isArgument_157 rfl
theorem iX8_isArgument_158 : mn_ins 92 158 = some (8, false, .iconst 1, 1) := by decide +kernel
theorem eX8_isArgument_158 : Ev 92 158 (ls) (st) h r ↔ Ev 92 159 (ls) (.int (nI 1) :: st) h r := ev_iconst iX8_isArgument_158 (by decide)
theorem iX8_isArgument_159 : mn_ins 92 159 = some (8, false, .iadd, 1) := by decide +kernel
theorem eX8_isArgument_159 : Ev 92 159 (ls) (.int y :: .int x :: st) h r ↔ Ev 92 160 (ls) (.int (x + y) :: st) h r := ev_iadd iX8_isArgument_159
theorem iX8_isArgument_160 : mn_ins 92 160 = some (8, false, .goto 4, 3) := by decide +kernel
theorem eX8_isArgument_160 : Ev 92 160 (ls) (st) h r ↔ Ev 92 164 (ls) (st) h r := ev_goto iX8_isArgument_160 (by decide)
theorem iX8_isArgument_163 : mn_ins 92 163 = some (8, false, .iconst 0, 1) := by decide +kernel
theorem eX8_isArgument_163 : Ev 92 163 (ls) (st) h r ↔ Ev 92 164 (ls) (.int (nI 0) :: st) h r := ev_iconst iX8_isArgument_163 (by decide)
theorem iX8_isArgument_164 : mn_ins 92 164 = some (8, false, .aload_n 0, 1) := by decide +kernel
theorem eX8_isArgument_164 : Ev 92 164 (some (.ref a) :: ls) (st) h r ↔ Ev 92 165 (some (.ref a) :: ls) (.ref a :: st) h r := ev_aload_n iX8_isArgument_164 rfl rfl
theorem iX8_isArgument_165 : mn_ins 92 165 = some (8, false, .getfield 13, 3) := by decide +kernel
theorem eX8_isArgument_165 : Ev 92 165 (ls) (.ref a :: st) h r ↔ Evk 92 168 ls (mn_gf h a 8 4) st h r := ev_getf iX8_isArgument_165 (by decide +kernel)
theorem iX8_isArgument_168 : mn_ins 92 168 = some (8, false, .iload_n 1, 1) := by decide +kernel
theorem eX8_isArgument_168 : Ev 92 168 (a0 :: some (.int x) :: ls) (st) h r ↔ Ev 92 169 (a0 :: some (.int x) :: ls) (.int x :: st) h r := ev_iload_n iX8_isArgument_168 rfl
theorem iX8_isArgument_169 : mn_ins 92 169 = some (8, false, .iaload, 1) := by decide +kernel
theorem eX8_isArgument_169 : Ev 92 169 (ls) (.int x :: .ref a :: st) h r ↔ Evk 92 170 ls (mn_al h a 0 x) st h r := ev_iald iX8_isArgument_169
theorem iX8_isArgument_170 : mn_ins 92 170 = some (8, false, .iconst 1, 1) := by decide +kernel
theorem eX8_isArgument_170 : Ev 92 170 (ls) (st) h r ↔ Ev 92 171 (ls) (.int (nI 1) :: st) h r := ev_iconst iX8_isArgument_170 (by decide)
theorem iX8_isArgument_171 : mn_ins 92 171 = some (8, false, .isub, 1) := by decide +kernel
theorem eX8_isArgument_171 : Ev 92 171 (ls) (.int y :: .int x :: st) h r ↔ Ev 92 172 (ls) (.int (x - y) :: st) h r := ev_isub iX8_isArgument_171
theorem iX8_isArgument_172 : mn_ins 92 172 = some (8, false, .invokestatic 111, 3) := by decide +kernel
theorem eX8_isArgument_172 : Ev 92 172 (ls) (.int x2 :: .int x1 :: .long u0 :: st) h r ↔ Evr false (decide (mn_cats st ≤ 8)) 92 172 ls st h.2.2.1 h.2.2.2 (Cl 86 [.long u0, .int x1, .int x2] h.1 h.2.1) r := Ev_T (As := [.long u0, .int x1, .int x2]) (q := 1) iX8_isArgument_172 (by decide +kernel) (by decide) (x := mnI_X8_isArgument) (x2 := mnI_X8_in) rfl rfl rfl (by decide +kernel) (Nat.le_of_ble_eq_true rfl) rfl
theorem iX8_isArgument_175 : mn_ins 92 175 = some (8, false, .ireturn, 1) := by decide +kernel
theorem eX8_isArgument_175 (hx : x = 0 ∨ x = 1) : Ev 92 175 (ls) [.int x] h r ↔ r = (h, .inl (some (.int x))) := ev_zret iX8_isArgument_175 (X := mnI_X8_isArgument) rfl rfl hx
theorem iX8_isArgument_176 : mn_ins 92 176 = some (8, false, .iload_n 3, 1) := by decide +kernel
theorem eX8_isArgument_176 : Ev 92 176 (a0 :: a1 :: a2 :: some (.int x) :: ls) (st) h r ↔ Ev 92 177 (a0 :: a1 :: a2 :: some (.int x) :: ls) (.int x :: st) h r := ev_iload_n iX8_isArgument_176 rfl
theorem iX8_isArgument_177 : mn_ins 92 177 = some (8, false, .bipush 13, 2) := by decide +kernel
theorem eX8_isArgument_177 : Ev 92 177 (ls) (st) h r ↔ Ev 92 179 (ls) (.int (nI 13) :: st) h r := ev_bipush iX8_isArgument_177 (by decide)
theorem iX8_isArgument_179 : mn_ins 92 179 = some (8, false, .if_icmp .ne 19, 3) := by decide +kernel
theorem eX8_isArgument_179 : Ev 92 179 (ls) (.int y :: .int x :: st) h r ↔ if x = y then Ev 92 182 (ls) (st) h r else Ev 92 198 (ls) (st) h r := ev_cmpne iX8_isArgument_179 (by decide)
theorem iX8_isArgument_182 : mn_ins 92 182 = some (8, false, .iload 4, 2) := by decide +kernel
theorem eX8_isArgument_182 : Ev 92 182 (a0 :: a1 :: a2 :: a3 :: some (.int x) :: ls) (st) h r ↔ Ev 92 184 (a0 :: a1 :: a2 :: a3 :: some (.int x) :: ls) (.int x :: st) h r := ev_iload iX8_isArgument_182 rfl
theorem iX8_isArgument_184 : mn_ins 92 184 = some (8, false, .i2l, 1) := by decide +kernel
theorem eX8_isArgument_184 : Ev 92 184 (ls) (.int x :: st) h r ↔ Ev 92 185 (ls) (.long x.toInt64 :: st) h r := ev_i2l iX8_isArgument_184
theorem iX8_isArgument_185 : mn_ins 92 185 = some (8, false, .iconst 0, 1) := by decide +kernel
theorem eX8_isArgument_185 : Ev 92 185 (ls) (st) h r ↔ Ev 92 186 (ls) (.int (nI 0) :: st) h r := ev_iconst iX8_isArgument_185 (by decide)
theorem iX8_isArgument_186 : mn_ins 92 186 = some (8, false, .aload_n 0, 1) := by decide +kernel
theorem eX8_isArgument_186 : Ev 92 186 (some (.ref a) :: ls) (st) h r ↔ Ev 92 187 (some (.ref a) :: ls) (.ref a :: st) h r := ev_aload_n iX8_isArgument_186 rfl rfl
theorem iX8_isArgument_187 : mn_ins 92 187 = some (8, false, .getfield 101, 3) := by decide +kernel
theorem eX8_isArgument_187 : Ev 92 187 (ls) (.ref a :: st) h r ↔ Evk 92 190 ls (mn_gf h a 8 1) st h r := ev_getf iX8_isArgument_187 (by decide +kernel)
theorem iX8_isArgument_190 : mn_ins 92 190 = some (8, false, .iconst 1, 1) := by decide +kernel
theorem eX8_isArgument_190 : Ev 92 190 (ls) (st) h r ↔ Ev 92 191 (ls) (.int (nI 1) :: st) h r := ev_iconst iX8_isArgument_190 (by decide)
theorem iX8_isArgument_191 : mn_ins 92 191 = some (8, false, .isub, 1) := by decide +kernel
theorem eX8_isArgument_191 : Ev 92 191 (ls) (.int y :: .int x :: st) h r ↔ Ev 92 192 (ls) (.int (x - y) :: st) h r := ev_isub iX8_isArgument_191
theorem iX8_isArgument_192 : mn_ins 92 192 = some (8, false, .invokestatic 111, 3) := by decide +kernel
theorem eX8_isArgument_192 : Ev 92 192 (ls) (.int x2 :: .int x1 :: .long u0 :: st) h r ↔ Evr false (decide (mn_cats st ≤ 8)) 92 192 ls st h.2.2.1 h.2.2.2 (Cl 86 [.long u0, .int x1, .int x2] h.1 h.2.1) r := Ev_T (As := [.long u0, .int x1, .int x2]) (q := 1) iX8_isArgument_192 (by decide +kernel) (by decide) (x := mnI_X8_isArgument) (x2 := mnI_X8_in) rfl rfl rfl (by decide +kernel) (Nat.le_of_ble_eq_true rfl) rfl
theorem iX8_isArgument_195 : mn_ins 92 195 = some (8, false, .ifCond .eq 7, 3) := by decide +kernel
theorem eX8_isArgument_195 : Ev 92 195 (ls) (.int x :: st) h r ↔ if x = nI 0 then Ev 92 202 (ls) (st) h r else Ev 92 198 (ls) (st) h r := ev_ifeq iX8_isArgument_195 (by decide)
theorem iX8_isArgument_198 : mn_ins 92 198 = some (8, false, .iconst 1, 1) := by decide +kernel
theorem eX8_isArgument_198 : Ev 92 198 (ls) (st) h r ↔ Ev 92 199 (ls) (.int (nI 1) :: st) h r := ev_iconst iX8_isArgument_198 (by decide)
theorem iX8_isArgument_199 : mn_ins 92 199 = some (8, false, .goto 4, 3) := by decide +kernel
theorem eX8_isArgument_199 : Ev 92 199 (ls) (st) h r ↔ Ev 92 203 (ls) (st) h r := ev_goto iX8_isArgument_199 (by decide)
theorem iX8_isArgument_202 : mn_ins 92 202 = some (8, false, .iconst 0, 1) := by decide +kernel
theorem eX8_isArgument_202 : Ev 92 202 (ls) (st) h r ↔ Ev 92 203 (ls) (.int (nI 0) :: st) h r := ev_iconst iX8_isArgument_202 (by decide)
theorem iX8_isArgument_203 : mn_ins 92 203 = some (8, false, .ireturn, 1) := by decide +kernel
theorem eX8_isArgument_203 (hx : x = 0 ∨ x = 1) : Ev 92 203 (ls) [.int x] h r ↔ r = (h, .inl (some (.int x))) := ev_zret iX8_isArgument_203 (X := mnI_X8_isArgument) rfl rfl hx
theorem iX8_takes_0 : mn_ins 93 0 = some (8, false, .iload_n 0, 1) := by decide +kernel
theorem eX8_takes_0 : Ev 93 0 (some (.int x) :: ls) (st) h r ↔ Ev 93 1 (some (.int x) :: ls) (.int x :: st) h r := ev_iload_n iX8_takes_0 rfl
theorem iX8_takes_1 : mn_ins 93 1 = some (8, false, .iconst 5, 1) := by decide +kernel
theorem eX8_takes_1 : Ev 93 1 (ls) (st) h r ↔ Ev 93 2 (ls) (.int (nI 5) :: st) h r := ev_iconst iX8_takes_1 (by decide)
theorem iX8_takes_2 : mn_ins 93 2 = some (8, false, .if_icmp .lt 11, 3) := by decide +kernel
theorem eX8_takes_2 : Ev 93 2 (ls) (.int y :: .int x :: st) h r ↔ if x < y then Ev 93 13 (ls) (st) h r else Ev 93 5 (ls) (st) h r := ev_cmplt iX8_takes_2 (by decide)
theorem iX8_takes_5 : mn_ins 93 5 = some (8, false, .iload_n 0, 1) := by decide +kernel
theorem eX8_takes_5 : Ev 93 5 (some (.int x) :: ls) (st) h r ↔ Ev 93 6 (some (.int x) :: ls) (.int x :: st) h r := ev_iload_n iX8_takes_5 rfl
theorem iX8_takes_6 : mn_ins 93 6 = some (8, false, .bipush 10, 2) := by decide +kernel
theorem eX8_takes_6 : Ev 93 6 (ls) (st) h r ↔ Ev 93 8 (ls) (.int (nI 10) :: st) h r := ev_bipush iX8_takes_6 (by decide)
theorem iX8_takes_8 : mn_ins 93 8 = some (8, false, .if_icmp .gt 5, 3) := by decide +kernel
theorem eX8_takes_8 : Ev 93 8 (ls) (.int y :: .int x :: st) h r ↔ if y < x then Ev 93 13 (ls) (st) h r else Ev 93 11 (ls) (st) h r := ev_cmpgt iX8_takes_8 (by decide)
theorem iX8_takes_11 : mn_ins 93 11 = some (8, false, .iconst 2, 1) := by decide +kernel
theorem eX8_takes_11 : Ev 93 11 (ls) (st) h r ↔ Ev 93 12 (ls) (.int (nI 2) :: st) h r := ev_iconst iX8_takes_11 (by decide)
theorem iX8_takes_12 : mn_ins 93 12 = some (8, false, .ireturn, 1) := by decide +kernel
theorem eX8_takes_12 : Ev 93 12 (ls) [.int x] h r ↔ r = (h, .inl (some (.int x))) := ev_iret iX8_takes_12 (X := mnI_X8_takes) rfl rfl
theorem iX8_takes_13 : mn_ins 93 13 = some (8, false, .iload_n 0, 1) := by decide +kernel
theorem eX8_takes_13 : Ev 93 13 (some (.int x) :: ls) (st) h r ↔ Ev 93 14 (some (.int x) :: ls) (.int x :: st) h r := ev_iload_n iX8_takes_13 rfl
theorem iX8_takes_14 : mn_ins 93 14 = some (8, false, .ifCond .eq 19, 3) := by decide +kernel
theorem eX8_takes_14 : Ev 93 14 (ls) (.int x :: st) h r ↔ if x = nI 0 then Ev 93 33 (ls) (st) h r else Ev 93 17 (ls) (st) h r := ev_ifeq iX8_takes_14 (by decide)
theorem iX8_takes_17 : mn_ins 93 17 = some (8, false, .iload_n 0, 1) := by decide +kernel
theorem eX8_takes_17 : Ev 93 17 (some (.int x) :: ls) (st) h r ↔ Ev 93 18 (some (.int x) :: ls) (.int x :: st) h r := ev_iload_n iX8_takes_17 rfl
theorem iX8_takes_18 : mn_ins 93 18 = some (8, false, .iconst 1, 1) := by decide +kernel
theorem eX8_takes_18 : Ev 93 18 (ls) (st) h r ↔ Ev 93 19 (ls) (.int (nI 1) :: st) h r := ev_iconst iX8_takes_18 (by decide)
theorem iX8_takes_19 : mn_ins 93 19 = some (8, false, .if_icmp .eq 14, 3) := by decide +kernel
theorem eX8_takes_19 : Ev 93 19 (ls) (.int y :: .int x :: st) h r ↔ if x = y then Ev 93 33 (ls) (st) h r else Ev 93 22 (ls) (st) h r := ev_cmpeq iX8_takes_19 (by decide)
theorem iX8_takes_22 : mn_ins 93 22 = some (8, false, .iload_n 0, 1) := by decide +kernel
theorem eX8_takes_22 : Ev 93 22 (some (.int x) :: ls) (st) h r ↔ Ev 93 23 (some (.int x) :: ls) (.int x :: st) h r := ev_iload_n iX8_takes_22 rfl
theorem iX8_takes_23 : mn_ins 93 23 = some (8, false, .iconst 3, 1) := by decide +kernel
theorem eX8_takes_23 : Ev 93 23 (ls) (st) h r ↔ Ev 93 24 (ls) (.int (nI 3) :: st) h r := ev_iconst iX8_takes_23 (by decide)
theorem iX8_takes_24 : mn_ins 93 24 = some (8, false, .if_icmp .eq 9, 3) := by decide +kernel
theorem eX8_takes_24 : Ev 93 24 (ls) (.int y :: .int x :: st) h r ↔ if x = y then Ev 93 33 (ls) (st) h r else Ev 93 27 (ls) (st) h r := ev_cmpeq iX8_takes_24 (by decide)
theorem iX8_takes_27 : mn_ins 93 27 = some (8, false, .iload_n 0, 1) := by decide +kernel
theorem eX8_takes_27 : Ev 93 27 (some (.int x) :: ls) (st) h r ↔ Ev 93 28 (some (.int x) :: ls) (.int x :: st) h r := ev_iload_n iX8_takes_27 rfl
theorem iX8_takes_28 : mn_ins 93 28 = some (8, false, .bipush 11, 2) := by decide +kernel
theorem eX8_takes_28 : Ev 93 28 (ls) (st) h r ↔ Ev 93 30 (ls) (.int (nI 11) :: st) h r := ev_bipush iX8_takes_28 (by decide)
theorem iX8_takes_30 : mn_ins 93 30 = some (8, false, .if_icmp .ne 7, 3) := by decide +kernel
theorem eX8_takes_30 : Ev 93 30 (ls) (.int y :: .int x :: st) h r ↔ if x = y then Ev 93 33 (ls) (st) h r else Ev 93 37 (ls) (st) h r := ev_cmpne iX8_takes_30 (by decide)
theorem iX8_takes_33 : mn_ins 93 33 = some (8, false, .iconst 0, 1) := by decide +kernel
theorem eX8_takes_33 : Ev 93 33 (ls) (st) h r ↔ Ev 93 34 (ls) (.int (nI 0) :: st) h r := ev_iconst iX8_takes_33 (by decide)
theorem iX8_takes_34 : mn_ins 93 34 = some (8, false, .goto 4, 3) := by decide +kernel
theorem eX8_takes_34 : Ev 93 34 (ls) (st) h r ↔ Ev 93 38 (ls) (st) h r := ev_goto iX8_takes_34 (by decide)
theorem iX8_takes_37 : mn_ins 93 37 = some (8, false, .iconst 1, 1) := by decide +kernel
theorem eX8_takes_37 : Ev 93 37 (ls) (st) h r ↔ Ev 93 38 (ls) (.int (nI 1) :: st) h r := ev_iconst iX8_takes_37 (by decide)
theorem iX8_takes_38 : mn_ins 93 38 = some (8, false, .ireturn, 1) := by decide +kernel
theorem eX8_takes_38 : Ev 93 38 (ls) [.int x] h r ↔ r = (h, .inl (some (.int x))) := ev_iret iX8_takes_38 (X := mnI_X8_takes) rfl rfl
theorem iX8_puts_0 : mn_ins 94 0 = some (8, false, .iload_n 0, 1) := by decide +kernel
theorem eX8_puts_0 : Ev 94 0 (some (.int x) :: ls) (st) h r ↔ Ev 94 1 (some (.int x) :: ls) (.int x :: st) h r := ev_iload_n iX8_puts_0 rfl
theorem iX8_puts_1 : mn_ins 94 1 = some (8, false, .bipush 17, 2) := by decide +kernel
theorem eX8_puts_1 : Ev 94 1 (ls) (st) h r ↔ Ev 94 3 (ls) (.int (nI 17) :: st) h r := ev_bipush iX8_puts_1 (by decide)
theorem iX8_puts_3 : mn_ins 94 3 = some (8, false, .if_icmp .ne 5, 3) := by decide +kernel
theorem eX8_puts_3 : Ev 94 3 (ls) (.int y :: .int x :: st) h r ↔ if x = y then Ev 94 6 (ls) (st) h r else Ev 94 8 (ls) (st) h r := ev_cmpne iX8_puts_3 (by decide)
theorem iX8_puts_6 : mn_ins 94 6 = some (8, false, .iconst 2, 1) := by decide +kernel
theorem eX8_puts_6 : Ev 94 6 (ls) (st) h r ↔ Ev 94 7 (ls) (.int (nI 2) :: st) h r := ev_iconst iX8_puts_6 (by decide)
theorem iX8_puts_7 : mn_ins 94 7 = some (8, false, .ireturn, 1) := by decide +kernel
theorem eX8_puts_7 : Ev 94 7 (ls) [.int x] h r ↔ r = (h, .inl (some (.int x))) := ev_iret iX8_puts_7 (X := mnI_X8_puts) rfl rfl
theorem iX8_puts_8 : mn_ins 94 8 = some (8, false, .iload_n 0, 1) := by decide +kernel
theorem eX8_puts_8 : Ev 94 8 (some (.int x) :: ls) (st) h r ↔ Ev 94 9 (some (.int x) :: ls) (.int x :: st) h r := ev_iload_n iX8_puts_8 rfl
theorem iX8_puts_9 : mn_ins 94 9 = some (8, false, .ifCond .eq 36, 3) := by decide +kernel
theorem eX8_puts_9 : Ev 94 9 (ls) (.int x :: st) h r ↔ if x = nI 0 then Ev 94 45 (ls) (st) h r else Ev 94 12 (ls) (st) h r := ev_ifeq iX8_puts_9 (by decide)
theorem iX8_puts_12 : mn_ins 94 12 = some (8, false, .iload_n 0, 1) := by decide +kernel
theorem eX8_puts_12 : Ev 94 12 (some (.int x) :: ls) (st) h r ↔ Ev 94 13 (some (.int x) :: ls) (.int x :: st) h r := ev_iload_n iX8_puts_12 rfl
theorem iX8_puts_13 : mn_ins 94 13 = some (8, false, .iconst 1, 1) := by decide +kernel
theorem eX8_puts_13 : Ev 94 13 (ls) (st) h r ↔ Ev 94 14 (ls) (.int (nI 1) :: st) h r := ev_iconst iX8_puts_13 (by decide)
theorem iX8_puts_14 : mn_ins 94 14 = some (8, false, .if_icmp .eq 31, 3) := by decide +kernel
theorem eX8_puts_14 : Ev 94 14 (ls) (.int y :: .int x :: st) h r ↔ if x = y then Ev 94 45 (ls) (st) h r else Ev 94 17 (ls) (st) h r := ev_cmpeq iX8_puts_14 (by decide)
theorem iX8_puts_17 : mn_ins 94 17 = some (8, false, .iload_n 0, 1) := by decide +kernel
theorem eX8_puts_17 : Ev 94 17 (some (.int x) :: ls) (st) h r ↔ Ev 94 18 (some (.int x) :: ls) (.int x :: st) h r := ev_iload_n iX8_puts_17 rfl
theorem iX8_puts_18 : mn_ins 94 18 = some (8, false, .iconst 3, 1) := by decide +kernel
theorem eX8_puts_18 : Ev 94 18 (ls) (st) h r ↔ Ev 94 19 (ls) (.int (nI 3) :: st) h r := ev_iconst iX8_puts_18 (by decide)
theorem iX8_puts_19 : mn_ins 94 19 = some (8, false, .if_icmp .eq 26, 3) := by decide +kernel
theorem eX8_puts_19 : Ev 94 19 (ls) (.int y :: .int x :: st) h r ↔ if x = y then Ev 94 45 (ls) (st) h r else Ev 94 22 (ls) (st) h r := ev_cmpeq iX8_puts_19 (by decide)
theorem iX8_puts_22 : mn_ins 94 22 = some (8, false, .iload_n 0, 1) := by decide +kernel
theorem eX8_puts_22 : Ev 94 22 (some (.int x) :: ls) (st) h r ↔ Ev 94 23 (some (.int x) :: ls) (.int x :: st) h r := ev_iload_n iX8_puts_22 rfl
theorem iX8_puts_23 : mn_ins 94 23 = some (8, false, .iconst 5, 1) := by decide +kernel
theorem eX8_puts_23 : Ev 94 23 (ls) (st) h r ↔ Ev 94 24 (ls) (.int (nI 5) :: st) h r := ev_iconst iX8_puts_23 (by decide)
theorem iX8_puts_24 : mn_ins 94 24 = some (8, false, .if_icmp .lt 9, 3) := by decide +kernel
theorem eX8_puts_24 : Ev 94 24 (ls) (.int y :: .int x :: st) h r ↔ if x < y then Ev 94 33 (ls) (st) h r else Ev 94 27 (ls) (st) h r := ev_cmplt iX8_puts_24 (by decide)
theorem iX8_puts_27 : mn_ins 94 27 = some (8, false, .iload_n 0, 1) := by decide +kernel
theorem eX8_puts_27 : Ev 94 27 (some (.int x) :: ls) (st) h r ↔ Ev 94 28 (some (.int x) :: ls) (.int x :: st) h r := ev_iload_n iX8_puts_27 rfl
theorem iX8_puts_28 : mn_ins 94 28 = some (8, false, .bipush 10, 2) := by decide +kernel
theorem eX8_puts_28 : Ev 94 28 (ls) (st) h r ↔ Ev 94 30 (ls) (.int (nI 10) :: st) h r := ev_bipush iX8_puts_28 (by decide)
theorem iX8_puts_30 : mn_ins 94 30 = some (8, false, .if_icmp .le 15, 3) := by decide +kernel
theorem eX8_puts_30 : Ev 94 30 (ls) (.int y :: .int x :: st) h r ↔ if x ≤ y then Ev 94 45 (ls) (st) h r else Ev 94 33 (ls) (st) h r := ev_cmple iX8_puts_30 (by decide)
theorem iX8_puts_33 : mn_ins 94 33 = some (8, false, .iload_n 0, 1) := by decide +kernel
theorem eX8_puts_33 : Ev 94 33 (some (.int x) :: ls) (st) h r ↔ Ev 94 34 (some (.int x) :: ls) (.int x :: st) h r := ev_iload_n iX8_puts_33 rfl
theorem iX8_puts_34 : mn_ins 94 34 = some (8, false, .bipush 13, 2) := by decide +kernel
theorem eX8_puts_34 : Ev 94 34 (ls) (st) h r ↔ Ev 94 36 (ls) (.int (nI 13) :: st) h r := ev_bipush iX8_puts_34 (by decide)
theorem iX8_puts_36 : mn_ins 94 36 = some (8, false, .if_icmp .eq 9, 3) := by decide +kernel
theorem eX8_puts_36 : Ev 94 36 (ls) (.int y :: .int x :: st) h r ↔ if x = y then Ev 94 45 (ls) (st) h r else Ev 94 39 (ls) (st) h r := ev_cmpeq iX8_puts_36 (by decide)
theorem iX8_puts_39 : mn_ins 94 39 = some (8, false, .iload_n 0, 1) := by decide +kernel
theorem eX8_puts_39 : Ev 94 39 (some (.int x) :: ls) (st) h r ↔ Ev 94 40 (some (.int x) :: ls) (.int x :: st) h r := ev_iload_n iX8_puts_39 rfl
theorem iX8_puts_40 : mn_ins 94 40 = some (8, false, .bipush 14, 2) := by decide +kernel
theorem eX8_puts_40 : Ev 94 40 (ls) (st) h r ↔ Ev 94 42 (ls) (.int (nI 14) :: st) h r := ev_bipush iX8_puts_40 (by decide)
theorem iX8_puts_42 : mn_ins 94 42 = some (8, false, .if_icmp .ne 7, 3) := by decide +kernel
theorem eX8_puts_42 : Ev 94 42 (ls) (.int y :: .int x :: st) h r ↔ if x = y then Ev 94 45 (ls) (st) h r else Ev 94 49 (ls) (st) h r := ev_cmpne iX8_puts_42 (by decide)
theorem iX8_puts_45 : mn_ins 94 45 = some (8, false, .iconst 1, 1) := by decide +kernel
theorem eX8_puts_45 : Ev 94 45 (ls) (st) h r ↔ Ev 94 46 (ls) (.int (nI 1) :: st) h r := ev_iconst iX8_puts_45 (by decide)
theorem iX8_puts_46 : mn_ins 94 46 = some (8, false, .goto 4, 3) := by decide +kernel
theorem eX8_puts_46 : Ev 94 46 (ls) (st) h r ↔ Ev 94 50 (ls) (st) h r := ev_goto iX8_puts_46 (by decide)
theorem iX8_puts_49 : mn_ins 94 49 = some (8, false, .iconst 0, 1) := by decide +kernel
theorem eX8_puts_49 : Ev 94 49 (ls) (st) h r ↔ Ev 94 50 (ls) (.int (nI 0) :: st) h r := ev_iconst iX8_puts_49 (by decide)
theorem iX8_puts_50 : mn_ins 94 50 = some (8, false, .ireturn, 1) := by decide +kernel
theorem eX8_puts_50 : Ev 94 50 (ls) [.int x] h r ↔ r = (h, .inl (some (.int x))) := ev_iret iX8_puts_50 (X := mnI_X8_puts) rfl rfl
theorem iX8_goAllWays_0 : mn_ins 95 0 = some (8, false, .iconst 0, 1) := by decide +kernel
theorem eX8_goAllWays_0 : Ev 95 0 (ls) (st) h r ↔ Ev 95 1 (ls) (.int (nI 0) :: st) h r := ev_iconst iX8_goAllWays_0 (by decide)
theorem iX8_goAllWays_1 : mn_ins 95 1 = some (8, false, .istore_n 2, 1) := by decide +kernel
theorem eX8_goAllWays_1 : Ev 95 1 (a0 :: a1 :: a2 :: ls) (.int x :: st) h r ↔ Ev 95 2 (a0 :: mn_k a1 :: some (.int x) :: ls) (st) h r := ev_istore_n iX8_goAllWays_1 (by show 2 < _; simp only [List.length_cons]; omega)
theorem iX8_goAllWays_2 : mn_ins 95 2 = some (8, false, .iload_n 2, 1) := by decide +kernel
theorem eX8_goAllWays_2 : Ev 95 2 (a0 :: a1 :: some (.int x) :: ls) (st) h r ↔ Ev 95 3 (a0 :: a1 :: some (.int x) :: ls) (.int x :: st) h r := ev_iload_n iX8_goAllWays_2 rfl
theorem iX8_goAllWays_3 : mn_ins 95 3 = some (8, false, .sipush 192, 3) := by decide +kernel
theorem eX8_goAllWays_3 : Ev 95 3 (ls) (st) h r ↔ Ev 95 6 (ls) (.int (nI 192) :: st) h r := ev_sipush iX8_goAllWays_3 (by decide)
theorem iX8_goAllWays_6 : mn_ins 95 6 = some (8, false, .if_icmp .ge 16, 3) := by decide +kernel
theorem eX8_goAllWays_6 : Ev 95 6 (ls) (.int y :: .int x :: st) h r ↔ if y ≤ x then Ev 95 22 (ls) (st) h r else Ev 95 9 (ls) (st) h r := ev_cmpge iX8_goAllWays_6 (by decide)
theorem iX8_goAllWays_9 : mn_ins 95 9 = some (8, false, .aload_n 0, 1) := by decide +kernel
theorem eX8_goAllWays_9 : Ev 95 9 (some (.ref a) :: ls) (st) h r ↔ Ev 95 10 (some (.ref a) :: ls) (.ref a :: st) h r := ev_aload_n iX8_goAllWays_9 rfl rfl
theorem iX8_goAllWays_10 : mn_ins 95 10 = some (8, false, .getfield 29, 3) := by decide +kernel
theorem eX8_goAllWays_10 : Ev 95 10 (ls) (.ref a :: st) h r ↔ Evk 95 13 ls (mn_gf h a 8 10) st h r := ev_getf iX8_goAllWays_10 (by decide +kernel)
theorem iX8_goAllWays_13 : mn_ins 95 13 = some (8, false, .iload_n 2, 1) := by decide +kernel
theorem eX8_goAllWays_13 : Ev 95 13 (a0 :: a1 :: some (.int x) :: ls) (st) h r ↔ Ev 95 14 (a0 :: a1 :: some (.int x) :: ls) (.int x :: st) h r := ev_iload_n iX8_goAllWays_13 rfl
theorem iX8_goAllWays_14 : mn_ins 95 14 = some (8, false, .iconst 0, 1) := by decide +kernel
theorem eX8_goAllWays_14 : Ev 95 14 (ls) (st) h r ↔ Ev 95 15 (ls) (.int (nI 0) :: st) h r := ev_iconst iX8_goAllWays_14 (by decide)
theorem iX8_goAllWays_15 : mn_ins 95 15 = some (8, false, .bastore, 1) := by decide +kernel
theorem eX8_goAllWays_15 : Ev 95 15 (ls) (.int y :: .int x :: .ref a :: st) h r ↔ Evh 95 16 ls st (mn_asz h a x y) r := ev_bast iX8_goAllWays_15
theorem iX8_goAllWays_16 : mn_ins 95 16 = some (8, false, .iinc 2 1, 3) := by decide +kernel
theorem eX8_goAllWays_16 : Ev 95 16 (a0 :: a1 :: some (.int x) :: ls) (st) h r ↔ Ev 95 19 (a0 :: mn_k a1 :: some (.int (x + (nI 1))) :: ls) (st) h r := ev_iinc iX8_goAllWays_16 rfl (by decide)
theorem iX8_goAllWays_19 : mn_ins 95 19 = some (8, false, .goto (-17), 3) := by decide +kernel
theorem eX8_goAllWays_19 : Ev 95 19 (ls) (st) h r ↔ Ev 95 2 (ls) (st) h r := ev_goto iX8_goAllWays_19 (by decide)
theorem iX8_goAllWays_22 : mn_ins 95 22 = some (8, false, .aload_n 0, 1) := by decide +kernel
theorem eX8_goAllWays_22 : Ev 95 22 (some (.ref a) :: ls) (st) h r ↔ Ev 95 23 (some (.ref a) :: ls) (.ref a :: st) h r := ev_aload_n iX8_goAllWays_22 rfl rfl
theorem iX8_goAllWays_23 : mn_ins 95 23 = some (8, false, .getfield 29, 3) := by decide +kernel
theorem eX8_goAllWays_23 : Ev 95 23 (ls) (.ref a :: st) h r ↔ Evk 95 26 ls (mn_gf h a 8 10) st h r := ev_getf iX8_goAllWays_23 (by decide +kernel)
theorem iX8_goAllWays_26 : mn_ins 95 26 = some (8, false, .iconst 0, 1) := by decide +kernel
theorem eX8_goAllWays_26 : Ev 95 26 (ls) (st) h r ↔ Ev 95 27 (ls) (.int (nI 0) :: st) h r := ev_iconst iX8_goAllWays_26 (by decide)
theorem iX8_goAllWays_27 : mn_ins 95 27 = some (8, false, .iconst 1, 1) := by decide +kernel
theorem eX8_goAllWays_27 : Ev 95 27 (ls) (st) h r ↔ Ev 95 28 (ls) (.int (nI 1) :: st) h r := ev_iconst iX8_goAllWays_27 (by decide)
theorem iX8_goAllWays_28 : mn_ins 95 28 = some (8, false, .bastore, 1) := by decide +kernel
theorem eX8_goAllWays_28 : Ev 95 28 (ls) (.int y :: .int x :: .ref a :: st) h r ↔ Evh 95 29 ls st (mn_asz h a x y) r := ev_bast iX8_goAllWays_28
theorem iX8_goAllWays_29 : mn_ins 95 29 = some (8, false, .iconst 1, 1) := by decide +kernel
theorem eX8_goAllWays_29 : Ev 95 29 (ls) (st) h r ↔ Ev 95 30 (ls) (.int (nI 1) :: st) h r := ev_iconst iX8_goAllWays_29 (by decide)
theorem iX8_goAllWays_30 : mn_ins 95 30 = some (8, false, .istore_n 2, 1) := by decide +kernel
theorem eX8_goAllWays_30 : Ev 95 30 (a0 :: a1 :: a2 :: ls) (.int x :: st) h r ↔ Ev 95 31 (a0 :: mn_k a1 :: some (.int x) :: ls) (st) h r := ev_istore_n iX8_goAllWays_30 (by show 2 < _; simp only [List.length_cons]; omega)
theorem iX8_goAllWays_31 : mn_ins 95 31 = some (8, false, .iload_n 2, 1) := by decide +kernel
theorem eX8_goAllWays_31 : Ev 95 31 (a0 :: a1 :: some (.int x) :: ls) (st) h r ↔ Ev 95 32 (a0 :: a1 :: some (.int x) :: ls) (.int x :: st) h r := ev_iload_n iX8_goAllWays_31 rfl
theorem iX8_goAllWays_32 : mn_ins 95 32 = some (8, false, .ifCond .eq 190, 3) := by decide +kernel
theorem eX8_goAllWays_32 : Ev 95 32 (ls) (.int x :: st) h r ↔ if x = nI 0 then Ev 95 222 (ls) (st) h r else Ev 95 35 (ls) (st) h r := ev_ifeq iX8_goAllWays_32 (by decide)
theorem iX8_goAllWays_35 : mn_ins 95 35 = some (8, false, .iconst 0, 1) := by decide +kernel
theorem eX8_goAllWays_35 : Ev 95 35 (ls) (st) h r ↔ Ev 95 36 (ls) (.int (nI 0) :: st) h r := ev_iconst iX8_goAllWays_35 (by decide)
theorem iX8_goAllWays_36 : mn_ins 95 36 = some (8, false, .istore_n 2, 1) := by decide +kernel
theorem eX8_goAllWays_36 : Ev 95 36 (a0 :: a1 :: a2 :: ls) (.int x :: st) h r ↔ Ev 95 37 (a0 :: mn_k a1 :: some (.int x) :: ls) (st) h r := ev_istore_n iX8_goAllWays_36 (by show 2 < _; simp only [List.length_cons]; omega)
theorem iX8_goAllWays_37 : mn_ins 95 37 = some (8, false, .iconst 0, 1) := by decide +kernel
theorem eX8_goAllWays_37 : Ev 95 37 (ls) (st) h r ↔ Ev 95 38 (ls) (.int (nI 0) :: st) h r := ev_iconst iX8_goAllWays_37 (by decide)
theorem iX8_goAllWays_38 : mn_ins 95 38 = some (8, false, .istore_n 3, 1) := by decide +kernel
theorem eX8_goAllWays_38 : Ev 95 38 (a0 :: a1 :: a2 :: a3 :: ls) (.int x :: st) h r ↔ Ev 95 39 (a0 :: a1 :: mn_k a2 :: some (.int x) :: ls) (st) h r := ev_istore_n iX8_goAllWays_38 (by show 3 < _; simp only [List.length_cons]; omega)
theorem iX8_goAllWays_39 : mn_ins 95 39 = some (8, false, .iload_n 3, 1) := by decide +kernel
theorem eX8_goAllWays_39 : Ev 95 39 (a0 :: a1 :: a2 :: some (.int x) :: ls) (st) h r ↔ Ev 95 40 (a0 :: a1 :: a2 :: some (.int x) :: ls) (.int x :: st) h r := ev_iload_n iX8_goAllWays_39 rfl
theorem iX8_goAllWays_40 : mn_ins 95 40 = some (8, false, .bipush 8, 2) := by decide +kernel
theorem eX8_goAllWays_40 : Ev 95 40 (ls) (st) h r ↔ Ev 95 42 (ls) (.int (nI 8) :: st) h r := ev_bipush iX8_goAllWays_40 (by decide)
theorem iX8_goAllWays_42 : mn_ins 95 42 = some (8, false, .aload_n 0, 1) := by decide +kernel
theorem eX8_goAllWays_42 : Ev 95 42 (some (.ref a) :: ls) (st) h r ↔ Ev 95 43 (some (.ref a) :: ls) (.ref a :: st) h r := ev_aload_n iX8_goAllWays_42 rfl rfl
theorem iX8_goAllWays_43 : mn_ins 95 43 = some (8, false, .getfield 13, 3) := by decide +kernel
theorem eX8_goAllWays_43 : Ev 95 43 (ls) (.ref a :: st) h r ↔ Evk 95 46 ls (mn_gf h a 8 4) st h r := ev_getf iX8_goAllWays_43 (by decide +kernel)
theorem iX8_goAllWays_46 : mn_ins 95 46 = some (8, false, .iload_n 1, 1) := by decide +kernel
theorem eX8_goAllWays_46 : Ev 95 46 (a0 :: some (.int x) :: ls) (st) h r ↔ Ev 95 47 (a0 :: some (.int x) :: ls) (.int x :: st) h r := ev_iload_n iX8_goAllWays_46 rfl
theorem iX8_goAllWays_47 : mn_ins 95 47 = some (8, false, .iaload, 1) := by decide +kernel
theorem eX8_goAllWays_47 : Ev 95 47 (ls) (.int x :: .ref a :: st) h r ↔ Evk 95 48 ls (mn_al h a 0 x) st h r := ev_iald iX8_goAllWays_47
theorem iX8_goAllWays_48 : mn_ins 95 48 = some (8, false, .imul, 1) := by decide +kernel
theorem eX8_goAllWays_48 : Ev 95 48 (ls) (.int y :: .int x :: st) h r ↔ Ev 95 49 (ls) (.int (x * y) :: st) h r := ev_imul iX8_goAllWays_48
theorem iX8_goAllWays_49 : mn_ins 95 49 = some (8, false, .if_icmp .ge 170, 3) := by decide +kernel
theorem eX8_goAllWays_49 : Ev 95 49 (ls) (.int y :: .int x :: st) h r ↔ if y ≤ x then Ev 95 219 (ls) (st) h r else Ev 95 52 (ls) (st) h r := ev_cmpge iX8_goAllWays_49 (by decide)
theorem iX8_goAllWays_52 : mn_ins 95 52 = some (8, false, .aload_n 0, 1) := by decide +kernel
theorem eX8_goAllWays_52 : Ev 95 52 (some (.ref a) :: ls) (st) h r ↔ Ev 95 53 (some (.ref a) :: ls) (.ref a :: st) h r := ev_aload_n iX8_goAllWays_52 rfl rfl
theorem iX8_goAllWays_53 : mn_ins 95 53 = some (8, false, .getfield 17, 3) := by decide +kernel
theorem eX8_goAllWays_53 : Ev 95 53 (ls) (.ref a :: st) h r ↔ Evk 95 56 ls (mn_gf h a 8 5) st h r := ev_getf iX8_goAllWays_53 (by decide +kernel)
theorem iX8_goAllWays_56 : mn_ins 95 56 = some (8, false, .bipush 24, 2) := by decide +kernel
theorem eX8_goAllWays_56 : Ev 95 56 (ls) (st) h r ↔ Ev 95 58 (ls) (.int (nI 24) :: st) h r := ev_bipush iX8_goAllWays_56 (by decide)
theorem iX8_goAllWays_58 : mn_ins 95 58 = some (8, false, .iload_n 1, 1) := by decide +kernel
theorem eX8_goAllWays_58 : Ev 95 58 (a0 :: some (.int x) :: ls) (st) h r ↔ Ev 95 59 (a0 :: some (.int x) :: ls) (.int x :: st) h r := ev_iload_n iX8_goAllWays_58 rfl
theorem iX8_goAllWays_59 : mn_ins 95 59 = some (8, false, .imul, 1) := by decide +kernel
theorem eX8_goAllWays_59 : Ev 95 59 (ls) (.int y :: .int x :: st) h r ↔ Ev 95 60 (ls) (.int (x * y) :: st) h r := ev_imul iX8_goAllWays_59
theorem iX8_goAllWays_60 : mn_ins 95 60 = some (8, false, .iload_n 3, 1) := by decide +kernel
theorem eX8_goAllWays_60 : Ev 95 60 (a0 :: a1 :: a2 :: some (.int x) :: ls) (st) h r ↔ Ev 95 61 (a0 :: a1 :: a2 :: some (.int x) :: ls) (.int x :: st) h r := ev_iload_n iX8_goAllWays_60 rfl
theorem iX8_goAllWays_61 : mn_ins 95 61 = some (8, false, .bipush 8, 2) := by decide +kernel
theorem eX8_goAllWays_61 : Ev 95 61 (ls) (st) h r ↔ Ev 95 63 (ls) (.int (nI 8) :: st) h r := ev_bipush iX8_goAllWays_61 (by decide)
theorem iX8_goAllWays_63 : mn_ins 95 63 = some (8, false, .idiv, 1) := by decide +kernel
theorem eX8_goAllWays_63 (hy : ¬ y = 0) : Ev 95 63 (ls) (.int y :: .int x :: st) h r ↔ Ev 95 64 (ls) (.int (x / y) :: st) h r := ev_idiv iX8_goAllWays_63 hy
theorem iX8_goAllWays_64 : mn_ins 95 64 = some (8, false, .iadd, 1) := by decide +kernel
theorem eX8_goAllWays_64 : Ev 95 64 (ls) (.int y :: .int x :: st) h r ↔ Ev 95 65 (ls) (.int (x + y) :: st) h r := ev_iadd iX8_goAllWays_64
theorem iX8_goAllWays_65 : mn_ins 95 65 = some (8, false, .iaload, 1) := by decide +kernel
theorem eX8_goAllWays_65 : Ev 95 65 (ls) (.int x :: .ref a :: st) h r ↔ Evk 95 66 ls (mn_al h a 0 x) st h r := ev_iald iX8_goAllWays_65
theorem iX8_goAllWays_66 : mn_ins 95 66 = some (8, false, .istore 4, 2) := by decide +kernel
theorem eX8_goAllWays_66 : Ev 95 66 (a0 :: a1 :: a2 :: a3 :: a4 :: ls) (.int x :: st) h r ↔ Ev 95 68 (a0 :: a1 :: a2 :: mn_k a3 :: some (.int x) :: ls) (st) h r := ev_istore iX8_goAllWays_66 (by show 4 < _; simp only [List.length_cons]; omega)
theorem iX8_goAllWays_68 : mn_ins 95 68 = some (8, false, .iload_n 3, 1) := by decide +kernel
theorem eX8_goAllWays_68 : Ev 95 68 (a0 :: a1 :: a2 :: some (.int x) :: ls) (st) h r ↔ Ev 95 69 (a0 :: a1 :: a2 :: some (.int x) :: ls) (.int x :: st) h r := ev_iload_n iX8_goAllWays_68 rfl
theorem iX8_goAllWays_69 : mn_ins 95 69 = some (8, false, .bipush 8, 2) := by decide +kernel
theorem eX8_goAllWays_69 : Ev 95 69 (ls) (st) h r ↔ Ev 95 71 (ls) (.int (nI 8) :: st) h r := ev_bipush iX8_goAllWays_69 (by decide)
theorem iX8_goAllWays_71 : mn_ins 95 71 = some (8, false, .irem, 1) := by decide +kernel
theorem eX8_goAllWays_71 (hy : ¬ y = 0) : Ev 95 71 (ls) (.int y :: .int x :: st) h r ↔ Ev 95 72 (ls) (.int (x - x / y * y) :: st) h r := ev_irem iX8_goAllWays_71 hy
theorem iX8_goAllWays_72 : mn_ins 95 72 = some (8, false, .istore 5, 2) := by decide +kernel
theorem eX8_goAllWays_72 : Ev 95 72 (a0 :: a1 :: a2 :: a3 :: a4 :: a5 :: ls) (.int x :: st) h r ↔ Ev 95 74 (a0 :: a1 :: a2 :: a3 :: mn_k a4 :: some (.int x) :: ls) (st) h r := ev_istore iX8_goAllWays_72 (by show 5 < _; simp only [List.length_cons]; omega)
theorem iX8_goAllWays_74 : mn_ins 95 74 = some (8, false, .aload_n 0, 1) := by decide +kernel
theorem eX8_goAllWays_74 : Ev 95 74 (some (.ref a) :: ls) (st) h r ↔ Ev 95 75 (some (.ref a) :: ls) (.ref a :: st) h r := ev_aload_n iX8_goAllWays_74 rfl rfl
theorem iX8_goAllWays_75 : mn_ins 95 75 = some (8, false, .getfield 29, 3) := by decide +kernel
theorem eX8_goAllWays_75 : Ev 95 75 (ls) (.ref a :: st) h r ↔ Evk 95 78 ls (mn_gf h a 8 10) st h r := ev_getf iX8_goAllWays_75 (by decide +kernel)
theorem iX8_goAllWays_78 : mn_ins 95 78 = some (8, false, .iload_n 3, 1) := by decide +kernel
theorem eX8_goAllWays_78 : Ev 95 78 (a0 :: a1 :: a2 :: some (.int x) :: ls) (st) h r ↔ Ev 95 79 (a0 :: a1 :: a2 :: some (.int x) :: ls) (.int x :: st) h r := ev_iload_n iX8_goAllWays_78 rfl
theorem iX8_goAllWays_79 : mn_ins 95 79 = some (8, false, .baload, 1) := by decide +kernel
theorem eX8_goAllWays_79 : Ev 95 79 (ls) (.int x :: .ref a :: st) h r ↔ Evk 95 80 ls (mn_al h a 2 x) st h r := ev_bald iX8_goAllWays_79
theorem iX8_goAllWays_80 : mn_ins 95 80 = some (8, false, .ifCond .eq 133, 3) := by decide +kernel
theorem eX8_goAllWays_80 : Ev 95 80 (ls) (.int x :: st) h r ↔ if x = nI 0 then Ev 95 213 (ls) (st) h r else Ev 95 83 (ls) (st) h r := ev_ifeq iX8_goAllWays_80 (by decide)
theorem iX8_goAllWays_83 : mn_ins 95 83 = some (8, false, .iload 5, 2) := by decide +kernel
theorem eX8_goAllWays_83 : Ev 95 83 (a0 :: a1 :: a2 :: a3 :: a4 :: some (.int x) :: ls) (st) h r ↔ Ev 95 85 (a0 :: a1 :: a2 :: a3 :: a4 :: some (.int x) :: ls) (.int x :: st) h r := ev_iload iX8_goAllWays_83 rfl
theorem iX8_goAllWays_85 : mn_ins 95 85 = some (8, false, .bipush 6, 2) := by decide +kernel
theorem eX8_goAllWays_85 : Ev 95 85 (ls) (st) h r ↔ Ev 95 87 (ls) (.int (nI 6) :: st) h r := ev_bipush iX8_goAllWays_85 (by decide)
theorem iX8_goAllWays_87 : mn_ins 95 87 = some (8, false, .if_icmp .gt 126, 3) := by decide +kernel
theorem eX8_goAllWays_87 : Ev 95 87 (ls) (.int y :: .int x :: st) h r ↔ if y < x then Ev 95 213 (ls) (st) h r else Ev 95 90 (ls) (st) h r := ev_cmpgt iX8_goAllWays_87 (by decide)
theorem iX8_goAllWays_90 : mn_ins 95 90 = some (8, false, .iload 5, 2) := by decide +kernel
theorem eX8_goAllWays_90 : Ev 95 90 (a0 :: a1 :: a2 :: a3 :: a4 :: some (.int x) :: ls) (st) h r ↔ Ev 95 92 (a0 :: a1 :: a2 :: a3 :: a4 :: some (.int x) :: ls) (.int x :: st) h r := ev_iload iX8_goAllWays_90 rfl
theorem iX8_goAllWays_92 : mn_ins 95 92 = some (8, false, .iload 4, 2) := by decide +kernel
theorem eX8_goAllWays_92 : Ev 95 92 (a0 :: a1 :: a2 :: a3 :: some (.int x) :: ls) (st) h r ↔ Ev 95 94 (a0 :: a1 :: a2 :: a3 :: some (.int x) :: ls) (.int x :: st) h r := ev_iload iX8_goAllWays_92 rfl
theorem iX8_goAllWays_94 : mn_ins 95 94 = some (8, false, .invokestatic 115, 3) := by decide +kernel
theorem eX8_goAllWays_94 : Ev 95 94 (ls) (.int x0 :: st) h r ↔ Evr false (decide (mn_cats st ≤ 8)) 95 94 ls st h.2.2.1 h.2.2.2 (Cl 93 [.int x0] h.1 h.2.1) r := Ev_T (As := [.int x0]) (q := 1) iX8_goAllWays_94 (by decide +kernel) (by decide) (x := mnI_X8_goAllWays) (x2 := mnI_X8_takes) rfl rfl rfl (by decide +kernel) (Nat.le_of_ble_eq_true rfl) rfl
theorem iX8_goAllWays_97 : mn_ins 95 97 = some (8, false, .if_icmp .lt 116, 3) := by decide +kernel
theorem eX8_goAllWays_97 : Ev 95 97 (ls) (.int y :: .int x :: st) h r ↔ if x < y then Ev 95 213 (ls) (st) h r else Ev 95 100 (ls) (st) h r := ev_cmplt iX8_goAllWays_97 (by decide)
theorem iX8_goAllWays_100 : mn_ins 95 100 = some (8, false, .iload 4, 2) := by decide +kernel
theorem eX8_goAllWays_100 : Ev 95 100 (a0 :: a1 :: a2 :: a3 :: some (.int x) :: ls) (st) h r ↔ Ev 95 102 (a0 :: a1 :: a2 :: a3 :: some (.int x) :: ls) (.int x :: st) h r := ev_iload iX8_goAllWays_100 rfl
theorem iX8_goAllWays_102 : mn_ins 95 102 = some (8, false, .bipush 16, 2) := by decide +kernel
theorem eX8_goAllWays_102 : Ev 95 102 (ls) (st) h r ↔ Ev 95 104 (ls) (.int (nI 16) :: st) h r := ev_bipush iX8_goAllWays_102 (by decide)
theorem iX8_goAllWays_104 : mn_ins 95 104 = some (8, false, .if_icmp .ne 6, 3) := by decide +kernel
theorem eX8_goAllWays_104 : Ev 95 104 (ls) (.int y :: .int x :: st) h r ↔ if x = y then Ev 95 107 (ls) (st) h r else Ev 95 110 (ls) (st) h r := ev_cmpne iX8_goAllWays_104 (by decide)
theorem iX8_goAllWays_107 : mn_ins 95 107 = some (8, false, .goto 106, 3) := by decide +kernel
theorem eX8_goAllWays_107 : Ev 95 107 (ls) (st) h r ↔ Ev 95 213 (ls) (st) h r := ev_goto iX8_goAllWays_107 (by decide)
theorem iX8_goAllWays_110 : mn_ins 95 110 = some (8, false, .iload 5, 2) := by decide +kernel
theorem eX8_goAllWays_110 : Ev 95 110 (a0 :: a1 :: a2 :: a3 :: a4 :: some (.int x) :: ls) (st) h r ↔ Ev 95 112 (a0 :: a1 :: a2 :: a3 :: a4 :: some (.int x) :: ls) (.int x :: st) h r := ev_iload iX8_goAllWays_110 rfl
theorem iX8_goAllWays_112 : mn_ins 95 112 = some (8, false, .iload 4, 2) := by decide +kernel
theorem eX8_goAllWays_112 : Ev 95 112 (a0 :: a1 :: a2 :: a3 :: some (.int x) :: ls) (st) h r ↔ Ev 95 114 (a0 :: a1 :: a2 :: a3 :: some (.int x) :: ls) (.int x :: st) h r := ev_iload iX8_goAllWays_112 rfl
theorem iX8_goAllWays_114 : mn_ins 95 114 = some (8, false, .invokestatic 115, 3) := by decide +kernel
theorem eX8_goAllWays_114 : Ev 95 114 (ls) (.int x0 :: st) h r ↔ Evr false (decide (mn_cats st ≤ 8)) 95 114 ls st h.2.2.1 h.2.2.2 (Cl 93 [.int x0] h.1 h.2.1) r := Ev_T (As := [.int x0]) (q := 1) iX8_goAllWays_114 (by decide +kernel) (by decide) (x := mnI_X8_goAllWays) (x2 := mnI_X8_takes) rfl rfl rfl (by decide +kernel) (Nat.le_of_ble_eq_true rfl) rfl
theorem iX8_goAllWays_117 : mn_ins 95 117 = some (8, false, .isub, 1) := by decide +kernel
theorem eX8_goAllWays_117 : Ev 95 117 (ls) (.int y :: .int x :: st) h r ↔ Ev 95 118 (ls) (.int (x - y) :: st) h r := ev_isub iX8_goAllWays_117
theorem iX8_goAllWays_118 : mn_ins 95 118 = some (8, false, .iload 4, 2) := by decide +kernel
theorem eX8_goAllWays_118 : Ev 95 118 (a0 :: a1 :: a2 :: a3 :: some (.int x) :: ls) (st) h r ↔ Ev 95 120 (a0 :: a1 :: a2 :: a3 :: some (.int x) :: ls) (.int x :: st) h r := ev_iload iX8_goAllWays_118 rfl
theorem iX8_goAllWays_120 : mn_ins 95 120 = some (8, false, .invokestatic 119, 3) := by decide +kernel
theorem eX8_goAllWays_120 : Ev 95 120 (ls) (.int x0 :: st) h r ↔ Evr false (decide (mn_cats st ≤ 8)) 95 120 ls st h.2.2.1 h.2.2.2 (Cl 94 [.int x0] h.1 h.2.1) r := Ev_T (As := [.int x0]) (q := 1) iX8_goAllWays_120 (by decide +kernel) (by decide) (x := mnI_X8_goAllWays) (x2 := mnI_X8_puts) rfl rfl rfl (by decide +kernel) (Nat.le_of_ble_eq_true rfl) rfl
theorem iX8_goAllWays_123 : mn_ins 95 123 = some (8, false, .iadd, 1) := by decide +kernel
theorem eX8_goAllWays_123 : Ev 95 123 (ls) (.int y :: .int x :: st) h r ↔ Ev 95 124 (ls) (.int (x + y) :: st) h r := ev_iadd iX8_goAllWays_123
theorem iX8_goAllWays_124 : mn_ins 95 124 = some (8, false, .istore 6, 2) := by decide +kernel
theorem eX8_goAllWays_124 : Ev 95 124 (a0 :: a1 :: a2 :: a3 :: a4 :: a5 :: a6 :: ls) (.int x :: st) h r ↔ Ev 95 126 (a0 :: a1 :: a2 :: a3 :: a4 :: mn_k a5 :: some (.int x) :: ls) (st) h r := ev_istore iX8_goAllWays_124 (by show 6 < _; simp only [List.length_cons]; omega)
theorem iX8_goAllWays_126 : mn_ins 95 126 = some (8, false, .iload 4, 2) := by decide +kernel
theorem eX8_goAllWays_126 : Ev 95 126 (a0 :: a1 :: a2 :: a3 :: some (.int x) :: ls) (st) h r ↔ Ev 95 128 (a0 :: a1 :: a2 :: a3 :: some (.int x) :: ls) (.int x :: st) h r := ev_iload iX8_goAllWays_126 rfl
theorem iX8_goAllWays_128 : mn_ins 95 128 = some (8, false, .bipush 11, 2) := by decide +kernel
theorem eX8_goAllWays_128 : Ev 95 128 (ls) (st) h r ↔ Ev 95 130 (ls) (.int (nI 11) :: st) h r := ev_bipush iX8_goAllWays_128 (by decide)
theorem iX8_goAllWays_130 : mn_ins 95 130 = some (8, false, .if_icmp .eq 32, 3) := by decide +kernel
theorem eX8_goAllWays_130 : Ev 95 130 (ls) (.int y :: .int x :: st) h r ↔ if x = y then Ev 95 162 (ls) (st) h r else Ev 95 133 (ls) (st) h r := ev_cmpeq iX8_goAllWays_130 (by decide)
theorem iX8_goAllWays_133 : mn_ins 95 133 = some (8, false, .aload_n 0, 1) := by decide +kernel
theorem eX8_goAllWays_133 : Ev 95 133 (some (.ref a) :: ls) (st) h r ↔ Ev 95 134 (some (.ref a) :: ls) (.ref a :: st) h r := ev_aload_n iX8_goAllWays_133 rfl rfl
theorem iX8_goAllWays_134 : mn_ins 95 134 = some (8, false, .bipush 8, 2) := by decide +kernel
theorem eX8_goAllWays_134 : Ev 95 134 (ls) (st) h r ↔ Ev 95 136 (ls) (.int (nI 8) :: st) h r := ev_bipush iX8_goAllWays_134 (by decide)
theorem iX8_goAllWays_136 : mn_ins 95 136 = some (8, false, .iload_n 3, 1) := by decide +kernel
theorem eX8_goAllWays_136 : Ev 95 136 (a0 :: a1 :: a2 :: some (.int x) :: ls) (st) h r ↔ Ev 95 137 (a0 :: a1 :: a2 :: some (.int x) :: ls) (.int x :: st) h r := ev_iload_n iX8_goAllWays_136 rfl
theorem iX8_goAllWays_137 : mn_ins 95 137 = some (8, false, .bipush 8, 2) := by decide +kernel
theorem eX8_goAllWays_137 : Ev 95 137 (ls) (st) h r ↔ Ev 95 139 (ls) (.int (nI 8) :: st) h r := ev_bipush iX8_goAllWays_137 (by decide)
theorem iX8_goAllWays_139 : mn_ins 95 139 = some (8, false, .idiv, 1) := by decide +kernel
theorem eX8_goAllWays_139 (hy : ¬ y = 0) : Ev 95 139 (ls) (.int y :: .int x :: st) h r ↔ Ev 95 140 (ls) (.int (x / y) :: st) h r := ev_idiv iX8_goAllWays_139 hy
theorem iX8_goAllWays_140 : mn_ins 95 140 = some (8, false, .iconst 1, 1) := by decide +kernel
theorem eX8_goAllWays_140 : Ev 95 140 (ls) (st) h r ↔ Ev 95 141 (ls) (.int (nI 1) :: st) h r := ev_iconst iX8_goAllWays_140 (by decide)
theorem iX8_goAllWays_141 : mn_ins 95 141 = some (8, false, .iadd, 1) := by decide +kernel
theorem eX8_goAllWays_141 : Ev 95 141 (ls) (.int y :: .int x :: st) h r ↔ Ev 95 142 (ls) (.int (x + y) :: st) h r := ev_iadd iX8_goAllWays_141
theorem iX8_goAllWays_142 : mn_ins 95 142 = some (8, false, .imul, 1) := by decide +kernel
theorem eX8_goAllWays_142 : Ev 95 142 (ls) (.int y :: .int x :: st) h r ↔ Ev 95 143 (ls) (.int (x * y) :: st) h r := ev_imul iX8_goAllWays_142
theorem iX8_goAllWays_143 : mn_ins 95 143 = some (8, false, .iload 6, 2) := by decide +kernel
theorem eX8_goAllWays_143 : Ev 95 143 (a0 :: a1 :: a2 :: a3 :: a4 :: a5 :: some (.int x) :: ls) (st) h r ↔ Ev 95 145 (a0 :: a1 :: a2 :: a3 :: a4 :: a5 :: some (.int x) :: ls) (.int x :: st) h r := ev_iload iX8_goAllWays_143 rfl
theorem iX8_goAllWays_145 : mn_ins 95 145 = some (8, false, .iadd, 1) := by decide +kernel
theorem eX8_goAllWays_145 : Ev 95 145 (ls) (.int y :: .int x :: st) h r ↔ Ev 95 146 (ls) (.int (x + y) :: st) h r := ev_iadd iX8_goAllWays_145
theorem iX8_goAllWays_146 : mn_ins 95 146 = some (8, false, .invokevirtual 122, 3) := by decide +kernel
theorem eX8_goAllWays_146 : Ev 95 146 (ls) (.int x0 :: .ref b :: st) h r ↔ Evr true (decide (mn_cats st ≤ 8) && mn_isc h b 8) 95 146 ls st h.2.2.1 h.2.2.2 (Cl 96 (.ref b :: [.int x0]) h.1 h.2.1) r := Ev_V (As := [.int x0]) iX8_goAllWays_146 (by decide +kernel) (x := mnI_X8_goAllWays) (x2 := mnI_X8_reach) rfl rfl rfl (by decide +kernel) (Nat.le_of_ble_eq_true rfl) rfl
theorem iX8_goAllWays_149 : mn_ins 95 149 = some (8, false, .ifCond .ne 7, 3) := by decide +kernel
theorem eX8_goAllWays_149 : Ev 95 149 (ls) (.int x :: st) h r ↔ if x = nI 0 then Ev 95 152 (ls) (st) h r else Ev 95 156 (ls) (st) h r := ev_ifne iX8_goAllWays_149 (by decide)
theorem iX8_goAllWays_152 : mn_ins 95 152 = some (8, false, .iload_n 2, 1) := by decide +kernel
theorem eX8_goAllWays_152 : Ev 95 152 (a0 :: a1 :: some (.int x) :: ls) (st) h r ↔ Ev 95 153 (a0 :: a1 :: some (.int x) :: ls) (.int x :: st) h r := ev_iload_n iX8_goAllWays_152 rfl
theorem iX8_goAllWays_153 : mn_ins 95 153 = some (8, false, .ifCond .eq 7, 3) := by decide +kernel
theorem eX8_goAllWays_153 : Ev 95 153 (ls) (.int x :: st) h r ↔ if x = nI 0 then Ev 95 160 (ls) (st) h r else Ev 95 156 (ls) (st) h r := ev_ifeq iX8_goAllWays_153 (by decide)
theorem iX8_goAllWays_156 : mn_ins 95 156 = some (8, false, .iconst 1, 1) := by decide +kernel
theorem eX8_goAllWays_156 : Ev 95 156 (ls) (st) h r ↔ Ev 95 157 (ls) (.int (nI 1) :: st) h r := ev_iconst iX8_goAllWays_156 (by decide)
theorem iX8_goAllWays_157 : mn_ins 95 157 = some (8, false, .goto 4, 3) := by decide +kernel
theorem eX8_goAllWays_157 : Ev 95 157 (ls) (st) h r ↔ Ev 95 161 (ls) (st) h r := ev_goto iX8_goAllWays_157 (by decide)
theorem iX8_goAllWays_160 : mn_ins 95 160 = some (8, false, .iconst 0, 1) := by decide +kernel
theorem eX8_goAllWays_160 : Ev 95 160 (ls) (st) h r ↔ Ev 95 161 (ls) (.int (nI 0) :: st) h r := ev_iconst iX8_goAllWays_160 (by decide)
theorem iX8_goAllWays_161 : mn_ins 95 161 = some (8, false, .istore_n 2, 1) := by decide +kernel
theorem eX8_goAllWays_161 : Ev 95 161 (a0 :: a1 :: a2 :: ls) (.int x :: st) h r ↔ Ev 95 162 (a0 :: mn_k a1 :: some (.int x) :: ls) (st) h r := ev_istore_n iX8_goAllWays_161 (by show 2 < _; simp only [List.length_cons]; omega)
theorem iX8_goAllWays_162 : mn_ins 95 162 = some (8, false, .iload 4, 2) := by decide +kernel
theorem eX8_goAllWays_162 : Ev 95 162 (a0 :: a1 :: a2 :: a3 :: some (.int x) :: ls) (st) h r ↔ Ev 95 164 (a0 :: a1 :: a2 :: a3 :: some (.int x) :: ls) (.int x :: st) h r := ev_iload iX8_goAllWays_162 rfl
theorem iX8_goAllWays_164 : mn_ins 95 164 = some (8, false, .bipush 11, 2) := by decide +kernel
theorem eX8_goAllWays_164 : Ev 95 164 (ls) (st) h r ↔ Ev 95 166 (ls) (.int (nI 11) :: st) h r := ev_bipush iX8_goAllWays_164 (by decide)
theorem iX8_goAllWays_166 : mn_ins 95 166 = some (8, false, .if_icmp .eq 10, 3) := by decide +kernel
theorem eX8_goAllWays_166 : Ev 95 166 (ls) (.int y :: .int x :: st) h r ↔ if x = y then Ev 95 176 (ls) (st) h r else Ev 95 169 (ls) (st) h r := ev_cmpeq iX8_goAllWays_166 (by decide)
theorem iX8_goAllWays_169 : mn_ins 95 169 = some (8, false, .iload 4, 2) := by decide +kernel
theorem eX8_goAllWays_169 : Ev 95 169 (a0 :: a1 :: a2 :: a3 :: some (.int x) :: ls) (st) h r ↔ Ev 95 171 (a0 :: a1 :: a2 :: a3 :: some (.int x) :: ls) (.int x :: st) h r := ev_iload iX8_goAllWays_169 rfl
theorem iX8_goAllWays_171 : mn_ins 95 171 = some (8, false, .bipush 12, 2) := by decide +kernel
theorem eX8_goAllWays_171 : Ev 95 171 (ls) (st) h r ↔ Ev 95 173 (ls) (.int (nI 12) :: st) h r := ev_bipush iX8_goAllWays_171 (by decide)
theorem iX8_goAllWays_173 : mn_ins 95 173 = some (8, false, .if_icmp .ne 40, 3) := by decide +kernel
theorem eX8_goAllWays_173 : Ev 95 173 (ls) (.int y :: .int x :: st) h r ↔ if x = y then Ev 95 176 (ls) (st) h r else Ev 95 213 (ls) (st) h r := ev_cmpne iX8_goAllWays_173 (by decide)
theorem iX8_goAllWays_176 : mn_ins 95 176 = some (8, false, .aload_n 0, 1) := by decide +kernel
theorem eX8_goAllWays_176 : Ev 95 176 (some (.ref a) :: ls) (st) h r ↔ Ev 95 177 (some (.ref a) :: ls) (.ref a :: st) h r := ev_aload_n iX8_goAllWays_176 rfl rfl
theorem iX8_goAllWays_177 : mn_ins 95 177 = some (8, false, .bipush 8, 2) := by decide +kernel
theorem eX8_goAllWays_177 : Ev 95 177 (ls) (st) h r ↔ Ev 95 179 (ls) (.int (nI 8) :: st) h r := ev_bipush iX8_goAllWays_177 (by decide)
theorem iX8_goAllWays_179 : mn_ins 95 179 = some (8, false, .aload_n 0, 1) := by decide +kernel
theorem eX8_goAllWays_179 : Ev 95 179 (some (.ref a) :: ls) (st) h r ↔ Ev 95 180 (some (.ref a) :: ls) (.ref a :: st) h r := ev_aload_n iX8_goAllWays_179 rfl rfl
theorem iX8_goAllWays_180 : mn_ins 95 180 = some (8, false, .getfield 20, 3) := by decide +kernel
theorem eX8_goAllWays_180 : Ev 95 180 (ls) (.ref a :: st) h r ↔ Evk 95 183 ls (mn_gf h a 8 6) st h r := ev_getf iX8_goAllWays_180 (by decide +kernel)
theorem iX8_goAllWays_183 : mn_ins 95 183 = some (8, false, .bipush 24, 2) := by decide +kernel
theorem eX8_goAllWays_183 : Ev 95 183 (ls) (st) h r ↔ Ev 95 185 (ls) (.int (nI 24) :: st) h r := ev_bipush iX8_goAllWays_183 (by decide)
theorem iX8_goAllWays_185 : mn_ins 95 185 = some (8, false, .iload_n 1, 1) := by decide +kernel
theorem eX8_goAllWays_185 : Ev 95 185 (a0 :: some (.int x) :: ls) (st) h r ↔ Ev 95 186 (a0 :: some (.int x) :: ls) (.int x :: st) h r := ev_iload_n iX8_goAllWays_185 rfl
theorem iX8_goAllWays_186 : mn_ins 95 186 = some (8, false, .imul, 1) := by decide +kernel
theorem eX8_goAllWays_186 : Ev 95 186 (ls) (.int y :: .int x :: st) h r ↔ Ev 95 187 (ls) (.int (x * y) :: st) h r := ev_imul iX8_goAllWays_186
theorem iX8_goAllWays_187 : mn_ins 95 187 = some (8, false, .iload_n 3, 1) := by decide +kernel
theorem eX8_goAllWays_187 : Ev 95 187 (a0 :: a1 :: a2 :: some (.int x) :: ls) (st) h r ↔ Ev 95 188 (a0 :: a1 :: a2 :: some (.int x) :: ls) (.int x :: st) h r := ev_iload_n iX8_goAllWays_187 rfl
theorem iX8_goAllWays_188 : mn_ins 95 188 = some (8, false, .bipush 8, 2) := by decide +kernel
theorem eX8_goAllWays_188 : Ev 95 188 (ls) (st) h r ↔ Ev 95 190 (ls) (.int (nI 8) :: st) h r := ev_bipush iX8_goAllWays_188 (by decide)
theorem iX8_goAllWays_190 : mn_ins 95 190 = some (8, false, .idiv, 1) := by decide +kernel
theorem eX8_goAllWays_190 (hy : ¬ y = 0) : Ev 95 190 (ls) (.int y :: .int x :: st) h r ↔ Ev 95 191 (ls) (.int (x / y) :: st) h r := ev_idiv iX8_goAllWays_190 hy
theorem iX8_goAllWays_191 : mn_ins 95 191 = some (8, false, .iadd, 1) := by decide +kernel
theorem eX8_goAllWays_191 : Ev 95 191 (ls) (.int y :: .int x :: st) h r ↔ Ev 95 192 (ls) (.int (x + y) :: st) h r := ev_iadd iX8_goAllWays_191
theorem iX8_goAllWays_192 : mn_ins 95 192 = some (8, false, .iaload, 1) := by decide +kernel
theorem eX8_goAllWays_192 : Ev 95 192 (ls) (.int x :: .ref a :: st) h r ↔ Evk 95 193 ls (mn_al h a 0 x) st h r := ev_iald iX8_goAllWays_192
theorem iX8_goAllWays_193 : mn_ins 95 193 = some (8, false, .imul, 1) := by decide +kernel
theorem eX8_goAllWays_193 : Ev 95 193 (ls) (.int y :: .int x :: st) h r ↔ Ev 95 194 (ls) (.int (x * y) :: st) h r := ev_imul iX8_goAllWays_193
theorem iX8_goAllWays_194 : mn_ins 95 194 = some (8, false, .iload 6, 2) := by decide +kernel
theorem eX8_goAllWays_194 : Ev 95 194 (a0 :: a1 :: a2 :: a3 :: a4 :: a5 :: some (.int x) :: ls) (st) h r ↔ Ev 95 196 (a0 :: a1 :: a2 :: a3 :: a4 :: a5 :: some (.int x) :: ls) (.int x :: st) h r := ev_iload iX8_goAllWays_194 rfl
theorem iX8_goAllWays_196 : mn_ins 95 196 = some (8, false, .iadd, 1) := by decide +kernel
theorem eX8_goAllWays_196 : Ev 95 196 (ls) (.int y :: .int x :: st) h r ↔ Ev 95 197 (ls) (.int (x + y) :: st) h r := ev_iadd iX8_goAllWays_196
theorem iX8_goAllWays_197 : mn_ins 95 197 = some (8, false, .invokevirtual 122, 3) := by decide +kernel
theorem eX8_goAllWays_197 : Ev 95 197 (ls) (.int x0 :: .ref b :: st) h r ↔ Evr true (decide (mn_cats st ≤ 8) && mn_isc h b 8) 95 197 ls st h.2.2.1 h.2.2.2 (Cl 96 (.ref b :: [.int x0]) h.1 h.2.1) r := Ev_V (As := [.int x0]) iX8_goAllWays_197 (by decide +kernel) (x := mnI_X8_goAllWays) (x2 := mnI_X8_reach) rfl rfl rfl (by decide +kernel) (Nat.le_of_ble_eq_true rfl) rfl
theorem iX8_goAllWays_200 : mn_ins 95 200 = some (8, false, .ifCond .ne 7, 3) := by decide +kernel
theorem eX8_goAllWays_200 : Ev 95 200 (ls) (.int x :: st) h r ↔ if x = nI 0 then Ev 95 203 (ls) (st) h r else Ev 95 207 (ls) (st) h r := ev_ifne iX8_goAllWays_200 (by decide)
theorem iX8_goAllWays_203 : mn_ins 95 203 = some (8, false, .iload_n 2, 1) := by decide +kernel
theorem eX8_goAllWays_203 : Ev 95 203 (a0 :: a1 :: some (.int x) :: ls) (st) h r ↔ Ev 95 204 (a0 :: a1 :: some (.int x) :: ls) (.int x :: st) h r := ev_iload_n iX8_goAllWays_203 rfl
theorem iX8_goAllWays_204 : mn_ins 95 204 = some (8, false, .ifCond .eq 7, 3) := by decide +kernel
theorem eX8_goAllWays_204 : Ev 95 204 (ls) (.int x :: st) h r ↔ if x = nI 0 then Ev 95 211 (ls) (st) h r else Ev 95 207 (ls) (st) h r := ev_ifeq iX8_goAllWays_204 (by decide)
theorem iX8_goAllWays_207 : mn_ins 95 207 = some (8, false, .iconst 1, 1) := by decide +kernel
theorem eX8_goAllWays_207 : Ev 95 207 (ls) (st) h r ↔ Ev 95 208 (ls) (.int (nI 1) :: st) h r := ev_iconst iX8_goAllWays_207 (by decide)
theorem iX8_goAllWays_208 : mn_ins 95 208 = some (8, false, .goto 4, 3) := by decide +kernel
theorem eX8_goAllWays_208 : Ev 95 208 (ls) (st) h r ↔ Ev 95 212 (ls) (st) h r := ev_goto iX8_goAllWays_208 (by decide)
theorem iX8_goAllWays_211 : mn_ins 95 211 = some (8, false, .iconst 0, 1) := by decide +kernel
theorem eX8_goAllWays_211 : Ev 95 211 (ls) (st) h r ↔ Ev 95 212 (ls) (.int (nI 0) :: st) h r := ev_iconst iX8_goAllWays_211 (by decide)
theorem iX8_goAllWays_212 : mn_ins 95 212 = some (8, false, .istore_n 2, 1) := by decide +kernel
theorem eX8_goAllWays_212 : Ev 95 212 (a0 :: a1 :: a2 :: ls) (.int x :: st) h r ↔ Ev 95 213 (a0 :: mn_k a1 :: some (.int x) :: ls) (st) h r := ev_istore_n iX8_goAllWays_212 (by show 2 < _; simp only [List.length_cons]; omega)
theorem iX8_goAllWays_213 : mn_ins 95 213 = some (8, false, .iinc 3 1, 3) := by decide +kernel
theorem eX8_goAllWays_213 : Ev 95 213 (a0 :: a1 :: a2 :: some (.int x) :: ls) (st) h r ↔ Ev 95 216 (a0 :: a1 :: mn_k a2 :: some (.int (x + (nI 1))) :: ls) (st) h r := ev_iinc iX8_goAllWays_213 rfl (by decide)
theorem iX8_goAllWays_216 : mn_ins 95 216 = some (8, false, .goto (-177), 3) := by decide +kernel
theorem eX8_goAllWays_216 : Ev 95 216 (ls) (st) h r ↔ Ev 95 39 (ls) (st) h r := ev_goto iX8_goAllWays_216 (by decide)
theorem iX8_goAllWays_219 : mn_ins 95 219 = some (8, false, .goto (-188), 3) := by decide +kernel
theorem eX8_goAllWays_219 : Ev 95 219 (ls) (st) h r ↔ Ev 95 31 (ls) (st) h r := ev_goto iX8_goAllWays_219 (by decide)
theorem iX8_goAllWays_222 : mn_ins 95 222 = some (8, false, .return_, 1) := by decide +kernel
theorem eX8_goAllWays_222 : Ev 95 222 (ls) [] h r ↔ r = (h, .inl none) := ev_vret iX8_goAllWays_222 (X := mnI_X8_goAllWays) rfl rfl
theorem iX8_reach_0 : mn_ins 96 0 = some (8, false, .aload_n 0, 1) := by decide +kernel
theorem eX8_reach_0 : Ev 96 0 (some (.ref a) :: ls) (st) h r ↔ Ev 96 1 (some (.ref a) :: ls) (.ref a :: st) h r := ev_aload_n iX8_reach_0 rfl rfl
theorem iX8_reach_1 : mn_ins 96 1 = some (8, false, .getfield 29, 3) := by decide +kernel
theorem eX8_reach_1 : Ev 96 1 (ls) (.ref a :: st) h r ↔ Evk 96 4 ls (mn_gf h a 8 10) st h r := ev_getf iX8_reach_1 (by decide +kernel)
theorem iX8_reach_4 : mn_ins 96 4 = some (8, false, .iload_n 1, 1) := by decide +kernel
theorem eX8_reach_4 : Ev 96 4 (a0 :: some (.int x) :: ls) (st) h r ↔ Ev 96 5 (a0 :: some (.int x) :: ls) (.int x :: st) h r := ev_iload_n iX8_reach_4 rfl
theorem iX8_reach_5 : mn_ins 96 5 = some (8, false, .baload, 1) := by decide +kernel
theorem eX8_reach_5 : Ev 96 5 (ls) (.int x :: .ref a :: st) h r ↔ Evk 96 6 ls (mn_al h a 2 x) st h r := ev_bald iX8_reach_5
theorem iX8_reach_6 : mn_ins 96 6 = some (8, false, .ifCond .ne 7, 3) := by decide +kernel
theorem eX8_reach_6 : Ev 96 6 (ls) (.int x :: st) h r ↔ if x = nI 0 then Ev 96 9 (ls) (st) h r else Ev 96 13 (ls) (st) h r := ev_ifne iX8_reach_6 (by decide)
theorem iX8_reach_9 : mn_ins 96 9 = some (8, false, .iconst 1, 1) := by decide +kernel
theorem eX8_reach_9 : Ev 96 9 (ls) (st) h r ↔ Ev 96 10 (ls) (.int (nI 1) :: st) h r := ev_iconst iX8_reach_9 (by decide)
theorem iX8_reach_10 : mn_ins 96 10 = some (8, false, .goto 4, 3) := by decide +kernel
theorem eX8_reach_10 : Ev 96 10 (ls) (st) h r ↔ Ev 96 14 (ls) (st) h r := ev_goto iX8_reach_10 (by decide)
theorem iX8_reach_13 : mn_ins 96 13 = some (8, false, .iconst 0, 1) := by decide +kernel
theorem eX8_reach_13 : Ev 96 13 (ls) (st) h r ↔ Ev 96 14 (ls) (.int (nI 0) :: st) h r := ev_iconst iX8_reach_13 (by decide)
theorem iX8_reach_14 : mn_ins 96 14 = some (8, false, .istore_n 2, 1) := by decide +kernel
theorem eX8_reach_14 : Ev 96 14 (a0 :: a1 :: a2 :: ls) (.int x :: st) h r ↔ Ev 96 15 (a0 :: mn_k a1 :: some (.int x) :: ls) (st) h r := ev_istore_n iX8_reach_14 (by show 2 < _; simp only [List.length_cons]; omega)
theorem iX8_reach_15 : mn_ins 96 15 = some (8, false, .aload_n 0, 1) := by decide +kernel
theorem eX8_reach_15 : Ev 96 15 (some (.ref a) :: ls) (st) h r ↔ Ev 96 16 (some (.ref a) :: ls) (.ref a :: st) h r := ev_aload_n iX8_reach_15 rfl rfl
theorem iX8_reach_16 : mn_ins 96 16 = some (8, false, .getfield 29, 3) := by decide +kernel
theorem eX8_reach_16 : Ev 96 16 (ls) (.ref a :: st) h r ↔ Evk 96 19 ls (mn_gf h a 8 10) st h r := ev_getf iX8_reach_16 (by decide +kernel)
theorem iX8_reach_19 : mn_ins 96 19 = some (8, false, .iload_n 1, 1) := by decide +kernel
theorem eX8_reach_19 : Ev 96 19 (a0 :: some (.int x) :: ls) (st) h r ↔ Ev 96 20 (a0 :: some (.int x) :: ls) (.int x :: st) h r := ev_iload_n iX8_reach_19 rfl
theorem iX8_reach_20 : mn_ins 96 20 = some (8, false, .iconst 1, 1) := by decide +kernel
theorem eX8_reach_20 : Ev 96 20 (ls) (st) h r ↔ Ev 96 21 (ls) (.int (nI 1) :: st) h r := ev_iconst iX8_reach_20 (by decide)
theorem iX8_reach_21 : mn_ins 96 21 = some (8, false, .bastore, 1) := by decide +kernel
theorem eX8_reach_21 : Ev 96 21 (ls) (.int y :: .int x :: .ref a :: st) h r ↔ Evh 96 22 ls st (mn_asz h a x y) r := ev_bast iX8_reach_21
theorem iX8_reach_22 : mn_ins 96 22 = some (8, false, .iload_n 2, 1) := by decide +kernel
theorem eX8_reach_22 : Ev 96 22 (a0 :: a1 :: some (.int x) :: ls) (st) h r ↔ Ev 96 23 (a0 :: a1 :: some (.int x) :: ls) (.int x :: st) h r := ev_iload_n iX8_reach_22 rfl
theorem iX8_reach_23 : mn_ins 96 23 = some (8, false, .ireturn, 1) := by decide +kernel
theorem eX8_reach_23 (hx : x = 0 ∨ x = 1) : Ev 96 23 (ls) [.int x] h r ↔ r = (h, .inl (some (.int x))) := ev_zret iX8_reach_23 (X := mnI_X8_reach) rfl rfl hx
theorem iX8_stackFault_0 : mn_ins 97 0 = some (8, false, .aload_n 0, 1) := by decide +kernel
theorem eX8_stackFault_0 : Ev 97 0 (some (.ref a) :: ls) (st) h r ↔ Ev 97 1 (some (.ref a) :: ls) (.ref a :: st) h r := ev_aload_n iX8_stackFault_0 rfl rfl
theorem iX8_stackFault_1 : mn_ins 97 1 = some (8, false, .iload_n 1, 1) := by decide +kernel
theorem eX8_stackFault_1 : Ev 97 1 (a0 :: some (.int x) :: ls) (st) h r ↔ Ev 97 2 (a0 :: some (.int x) :: ls) (.int x :: st) h r := ev_iload_n iX8_stackFault_1 rfl
theorem iX8_stackFault_2 : mn_ins 97 2 = some (8, false, .invokevirtual 126, 3) := by decide +kernel
theorem eX8_stackFault_2 : Ev 97 2 (ls) (.int x0 :: .ref b :: st) h r ↔ Evr true (decide (mn_cats st ≤ 8) && mn_isc h b 8) 97 2 ls st h.2.2.1 h.2.2.2 (Cl 95 (.ref b :: [.int x0]) h.1 h.2.1) r := Ev_V (As := [.int x0]) iX8_stackFault_2 (by decide +kernel) (x := mnI_X8_stackFault) (x2 := mnI_X8_goAllWays) rfl rfl rfl (by decide +kernel) (Nat.le_of_ble_eq_true rfl) rfl
theorem iX8_stackFault_5 : mn_ins 97 5 = some (8, false, .iconst (-1), 1) := by decide +kernel
theorem eX8_stackFault_5 : Ev 97 5 (ls) (st) h r ↔ Ev 97 6 (ls) (.int (-1) :: st) h r := ev_iconst iX8_stackFault_5 (by decide)
theorem iX8_stackFault_6 : mn_ins 97 6 = some (8, false, .istore_n 2, 1) := by decide +kernel
theorem eX8_stackFault_6 : Ev 97 6 (a0 :: a1 :: a2 :: ls) (.int x :: st) h r ↔ Ev 97 7 (a0 :: mn_k a1 :: some (.int x) :: ls) (st) h r := ev_istore_n iX8_stackFault_6 (by show 2 < _; simp only [List.length_cons]; omega)
theorem iX8_stackFault_7 : mn_ins 97 7 = some (8, false, .aload_n 0, 1) := by decide +kernel
theorem eX8_stackFault_7 : Ev 97 7 (some (.ref a) :: ls) (st) h r ↔ Ev 97 8 (some (.ref a) :: ls) (.ref a :: st) h r := ev_aload_n iX8_stackFault_7 rfl rfl
theorem iX8_stackFault_8 : mn_ins 97 8 = some (8, false, .getfield 13, 3) := by decide +kernel
theorem eX8_stackFault_8 : Ev 97 8 (ls) (.ref a :: st) h r ↔ Evk 97 11 ls (mn_gf h a 8 4) st h r := ev_getf iX8_stackFault_8 (by decide +kernel)
theorem iX8_stackFault_11 : mn_ins 97 11 = some (8, false, .iload_n 1, 1) := by decide +kernel
theorem eX8_stackFault_11 : Ev 97 11 (a0 :: some (.int x) :: ls) (st) h r ↔ Ev 97 12 (a0 :: some (.int x) :: ls) (.int x :: st) h r := ev_iload_n iX8_stackFault_11 rfl
theorem iX8_stackFault_12 : mn_ins 97 12 = some (8, false, .iaload, 1) := by decide +kernel
theorem eX8_stackFault_12 : Ev 97 12 (ls) (.int x :: .ref a :: st) h r ↔ Evk 97 13 ls (mn_al h a 0 x) st h r := ev_iald iX8_stackFault_12
theorem iX8_stackFault_13 : mn_ins 97 13 = some (8, false, .iconst 1, 1) := by decide +kernel
theorem eX8_stackFault_13 : Ev 97 13 (ls) (st) h r ↔ Ev 97 14 (ls) (.int (nI 1) :: st) h r := ev_iconst iX8_stackFault_13 (by decide)
theorem iX8_stackFault_14 : mn_ins 97 14 = some (8, false, .isub, 1) := by decide +kernel
theorem eX8_stackFault_14 : Ev 97 14 (ls) (.int y :: .int x :: st) h r ↔ Ev 97 15 (ls) (.int (x - y) :: st) h r := ev_isub iX8_stackFault_14
theorem iX8_stackFault_15 : mn_ins 97 15 = some (8, false, .istore_n 3, 1) := by decide +kernel
theorem eX8_stackFault_15 : Ev 97 15 (a0 :: a1 :: a2 :: a3 :: ls) (.int x :: st) h r ↔ Ev 97 16 (a0 :: a1 :: mn_k a2 :: some (.int x) :: ls) (st) h r := ev_istore_n iX8_stackFault_15 (by show 3 < _; simp only [List.length_cons]; omega)
theorem iX8_stackFault_16 : mn_ins 97 16 = some (8, false, .iload_n 3, 1) := by decide +kernel
theorem eX8_stackFault_16 : Ev 97 16 (a0 :: a1 :: a2 :: some (.int x) :: ls) (st) h r ↔ Ev 97 17 (a0 :: a1 :: a2 :: some (.int x) :: ls) (.int x :: st) h r := ev_iload_n iX8_stackFault_16 rfl
theorem iX8_stackFault_17 : mn_ins 97 17 = some (8, false, .ifCond .lt 107, 3) := by decide +kernel
theorem eX8_stackFault_17 : Ev 97 17 (ls) (.int x :: st) h r ↔ if x < nI 0 then Ev 97 124 (ls) (st) h r else Ev 97 20 (ls) (st) h r := ev_iflt iX8_stackFault_17 (by decide)
theorem iX8_stackFault_20 : mn_ins 97 20 = some (8, false, .iconst 0, 1) := by decide +kernel
theorem eX8_stackFault_20 : Ev 97 20 (ls) (st) h r ↔ Ev 97 21 (ls) (.int (nI 0) :: st) h r := ev_iconst iX8_stackFault_20 (by decide)
theorem iX8_stackFault_21 : mn_ins 97 21 = some (8, false, .istore 4, 2) := by decide +kernel
theorem eX8_stackFault_21 : Ev 97 21 (a0 :: a1 :: a2 :: a3 :: a4 :: ls) (.int x :: st) h r ↔ Ev 97 23 (a0 :: a1 :: a2 :: mn_k a3 :: some (.int x) :: ls) (st) h r := ev_istore iX8_stackFault_21 (by show 4 < _; simp only [List.length_cons]; omega)
theorem iX8_stackFault_23 : mn_ins 97 23 = some (8, false, .iconst 0, 1) := by decide +kernel
theorem eX8_stackFault_23 : Ev 97 23 (ls) (st) h r ↔ Ev 97 24 (ls) (.int (nI 0) :: st) h r := ev_iconst iX8_stackFault_23 (by decide)
theorem iX8_stackFault_24 : mn_ins 97 24 = some (8, false, .istore 5, 2) := by decide +kernel
theorem eX8_stackFault_24 : Ev 97 24 (a0 :: a1 :: a2 :: a3 :: a4 :: a5 :: ls) (.int x :: st) h r ↔ Ev 97 26 (a0 :: a1 :: a2 :: a3 :: mn_k a4 :: some (.int x) :: ls) (st) h r := ev_istore iX8_stackFault_24 (by show 5 < _; simp only [List.length_cons]; omega)
theorem iX8_stackFault_26 : mn_ins 97 26 = some (8, false, .iconst 0, 1) := by decide +kernel
theorem eX8_stackFault_26 : Ev 97 26 (ls) (st) h r ↔ Ev 97 27 (ls) (.int (nI 0) :: st) h r := ev_iconst iX8_stackFault_26 (by decide)
theorem iX8_stackFault_27 : mn_ins 97 27 = some (8, false, .istore 6, 2) := by decide +kernel
theorem eX8_stackFault_27 : Ev 97 27 (a0 :: a1 :: a2 :: a3 :: a4 :: a5 :: a6 :: ls) (.int x :: st) h r ↔ Ev 97 29 (a0 :: a1 :: a2 :: a3 :: a4 :: mn_k a5 :: some (.int x) :: ls) (st) h r := ev_istore iX8_stackFault_27 (by show 6 < _; simp only [List.length_cons]; omega)
theorem iX8_stackFault_29 : mn_ins 97 29 = some (8, false, .iload 6, 2) := by decide +kernel
theorem eX8_stackFault_29 : Ev 97 29 (a0 :: a1 :: a2 :: a3 :: a4 :: a5 :: some (.int x) :: ls) (st) h r ↔ Ev 97 31 (a0 :: a1 :: a2 :: a3 :: a4 :: a5 :: some (.int x) :: ls) (.int x :: st) h r := ev_iload iX8_stackFault_29 rfl
theorem iX8_stackFault_31 : mn_ins 97 31 = some (8, false, .bipush 8, 2) := by decide +kernel
theorem eX8_stackFault_31 : Ev 97 31 (ls) (st) h r ↔ Ev 97 33 (ls) (.int (nI 8) :: st) h r := ev_bipush iX8_stackFault_31 (by decide)
theorem iX8_stackFault_33 : mn_ins 97 33 = some (8, false, .if_icmp .ge 68, 3) := by decide +kernel
theorem eX8_stackFault_33 : Ev 97 33 (ls) (.int y :: .int x :: st) h r ↔ if y ≤ x then Ev 97 101 (ls) (st) h r else Ev 97 36 (ls) (st) h r := ev_cmpge iX8_stackFault_33 (by decide)
theorem iX8_stackFault_36 : mn_ins 97 36 = some (8, false, .aload_n 0, 1) := by decide +kernel
theorem eX8_stackFault_36 : Ev 97 36 (some (.ref a) :: ls) (st) h r ↔ Ev 97 37 (some (.ref a) :: ls) (.ref a :: st) h r := ev_aload_n iX8_stackFault_36 rfl rfl
theorem iX8_stackFault_37 : mn_ins 97 37 = some (8, false, .getfield 29, 3) := by decide +kernel
theorem eX8_stackFault_37 : Ev 97 37 (ls) (.ref a :: st) h r ↔ Evk 97 40 ls (mn_gf h a 8 10) st h r := ev_getf iX8_stackFault_37 (by decide +kernel)
theorem iX8_stackFault_40 : mn_ins 97 40 = some (8, false, .bipush 8, 2) := by decide +kernel
theorem eX8_stackFault_40 : Ev 97 40 (ls) (st) h r ↔ Ev 97 42 (ls) (.int (nI 8) :: st) h r := ev_bipush iX8_stackFault_40 (by decide)
theorem iX8_stackFault_42 : mn_ins 97 42 = some (8, false, .iload_n 3, 1) := by decide +kernel
theorem eX8_stackFault_42 : Ev 97 42 (a0 :: a1 :: a2 :: some (.int x) :: ls) (st) h r ↔ Ev 97 43 (a0 :: a1 :: a2 :: some (.int x) :: ls) (.int x :: st) h r := ev_iload_n iX8_stackFault_42 rfl
theorem iX8_stackFault_43 : mn_ins 97 43 = some (8, false, .imul, 1) := by decide +kernel
theorem eX8_stackFault_43 : Ev 97 43 (ls) (.int y :: .int x :: st) h r ↔ Ev 97 44 (ls) (.int (x * y) :: st) h r := ev_imul iX8_stackFault_43
theorem iX8_stackFault_44 : mn_ins 97 44 = some (8, false, .iload 6, 2) := by decide +kernel
theorem eX8_stackFault_44 : Ev 97 44 (a0 :: a1 :: a2 :: a3 :: a4 :: a5 :: some (.int x) :: ls) (st) h r ↔ Ev 97 46 (a0 :: a1 :: a2 :: a3 :: a4 :: a5 :: some (.int x) :: ls) (.int x :: st) h r := ev_iload iX8_stackFault_44 rfl
theorem iX8_stackFault_46 : mn_ins 97 46 = some (8, false, .iadd, 1) := by decide +kernel
theorem eX8_stackFault_46 : Ev 97 46 (ls) (.int y :: .int x :: st) h r ↔ Ev 97 47 (ls) (.int (x + y) :: st) h r := ev_iadd iX8_stackFault_46
theorem iX8_stackFault_47 : mn_ins 97 47 = some (8, false, .baload, 1) := by decide +kernel
theorem eX8_stackFault_47 : Ev 97 47 (ls) (.int x :: .ref a :: st) h r ↔ Evk 97 48 ls (mn_al h a 2 x) st h r := ev_bald iX8_stackFault_47
theorem iX8_stackFault_48 : mn_ins 97 48 = some (8, false, .ifCond .ne 6, 3) := by decide +kernel
theorem eX8_stackFault_48 : Ev 97 48 (ls) (.int x :: st) h r ↔ if x = nI 0 then Ev 97 51 (ls) (st) h r else Ev 97 54 (ls) (st) h r := ev_ifne iX8_stackFault_48 (by decide)
theorem iX8_stackFault_51 : mn_ins 97 51 = some (8, false, .goto 44, 3) := by decide +kernel
theorem eX8_stackFault_51 : Ev 97 51 (ls) (st) h r ↔ Ev 97 95 (ls) (st) h r := ev_goto iX8_stackFault_51 (by decide)
theorem iX8_stackFault_54 : mn_ins 97 54 = some (8, false, .iinc 4 1, 3) := by decide +kernel
theorem eX8_stackFault_54 : Ev 97 54 (a0 :: a1 :: a2 :: a3 :: some (.int x) :: ls) (st) h r ↔ Ev 97 57 (a0 :: a1 :: a2 :: mn_k a3 :: some (.int (x + (nI 1))) :: ls) (st) h r := ev_iinc iX8_stackFault_54 rfl (by decide)
theorem iX8_stackFault_57 : mn_ins 97 57 = some (8, false, .iload 5, 2) := by decide +kernel
theorem eX8_stackFault_57 : Ev 97 57 (a0 :: a1 :: a2 :: a3 :: a4 :: some (.int x) :: ls) (st) h r ↔ Ev 97 59 (a0 :: a1 :: a2 :: a3 :: a4 :: some (.int x) :: ls) (.int x :: st) h r := ev_iload iX8_stackFault_57 rfl
theorem iX8_stackFault_59 : mn_ins 97 59 = some (8, false, .ifCond .ne 29, 3) := by decide +kernel
theorem eX8_stackFault_59 : Ev 97 59 (ls) (.int x :: st) h r ↔ if x = nI 0 then Ev 97 62 (ls) (st) h r else Ev 97 88 (ls) (st) h r := ev_ifne iX8_stackFault_59 (by decide)
theorem iX8_stackFault_62 : mn_ins 97 62 = some (8, false, .iload 6, 2) := by decide +kernel
theorem eX8_stackFault_62 : Ev 97 62 (a0 :: a1 :: a2 :: a3 :: a4 :: a5 :: some (.int x) :: ls) (st) h r ↔ Ev 97 64 (a0 :: a1 :: a2 :: a3 :: a4 :: a5 :: some (.int x) :: ls) (.int x :: st) h r := ev_iload iX8_stackFault_62 rfl
theorem iX8_stackFault_64 : mn_ins 97 64 = some (8, false, .bipush 6, 2) := by decide +kernel
theorem eX8_stackFault_64 : Ev 97 64 (ls) (st) h r ↔ Ev 97 66 (ls) (.int (nI 6) :: st) h r := ev_bipush iX8_stackFault_64 (by decide)
theorem iX8_stackFault_66 : mn_ins 97 66 = some (8, false, .if_icmp .gt 22, 3) := by decide +kernel
theorem eX8_stackFault_66 : Ev 97 66 (ls) (.int y :: .int x :: st) h r ↔ if y < x then Ev 97 88 (ls) (st) h r else Ev 97 69 (ls) (st) h r := ev_cmpgt iX8_stackFault_66 (by decide)
theorem iX8_stackFault_69 : mn_ins 97 69 = some (8, false, .iload 6, 2) := by decide +kernel
theorem eX8_stackFault_69 : Ev 97 69 (a0 :: a1 :: a2 :: a3 :: a4 :: a5 :: some (.int x) :: ls) (st) h r ↔ Ev 97 71 (a0 :: a1 :: a2 :: a3 :: a4 :: a5 :: some (.int x) :: ls) (.int x :: st) h r := ev_iload iX8_stackFault_69 rfl
theorem iX8_stackFault_71 : mn_ins 97 71 = some (8, false, .aload_n 0, 1) := by decide +kernel
theorem eX8_stackFault_71 : Ev 97 71 (some (.ref a) :: ls) (st) h r ↔ Ev 97 72 (some (.ref a) :: ls) (.ref a :: st) h r := ev_aload_n iX8_stackFault_71 rfl rfl
theorem iX8_stackFault_72 : mn_ins 97 72 = some (8, false, .getfield 17, 3) := by decide +kernel
theorem eX8_stackFault_72 : Ev 97 72 (ls) (.ref a :: st) h r ↔ Evk 97 75 ls (mn_gf h a 8 5) st h r := ev_getf iX8_stackFault_72 (by decide +kernel)
theorem iX8_stackFault_75 : mn_ins 97 75 = some (8, false, .bipush 24, 2) := by decide +kernel
theorem eX8_stackFault_75 : Ev 97 75 (ls) (st) h r ↔ Ev 97 77 (ls) (.int (nI 24) :: st) h r := ev_bipush iX8_stackFault_75 (by decide)
theorem iX8_stackFault_77 : mn_ins 97 77 = some (8, false, .iload_n 1, 1) := by decide +kernel
theorem eX8_stackFault_77 : Ev 97 77 (a0 :: some (.int x) :: ls) (st) h r ↔ Ev 97 78 (a0 :: some (.int x) :: ls) (.int x :: st) h r := ev_iload_n iX8_stackFault_77 rfl
theorem iX8_stackFault_78 : mn_ins 97 78 = some (8, false, .imul, 1) := by decide +kernel
theorem eX8_stackFault_78 : Ev 97 78 (ls) (.int y :: .int x :: st) h r ↔ Ev 97 79 (ls) (.int (x * y) :: st) h r := ev_imul iX8_stackFault_78
theorem iX8_stackFault_79 : mn_ins 97 79 = some (8, false, .iload_n 3, 1) := by decide +kernel
theorem eX8_stackFault_79 : Ev 97 79 (a0 :: a1 :: a2 :: some (.int x) :: ls) (st) h r ↔ Ev 97 80 (a0 :: a1 :: a2 :: some (.int x) :: ls) (.int x :: st) h r := ev_iload_n iX8_stackFault_79 rfl
theorem iX8_stackFault_80 : mn_ins 97 80 = some (8, false, .iadd, 1) := by decide +kernel
theorem eX8_stackFault_80 : Ev 97 80 (ls) (.int y :: .int x :: st) h r ↔ Ev 97 81 (ls) (.int (x + y) :: st) h r := ev_iadd iX8_stackFault_80
theorem iX8_stackFault_81 : mn_ins 97 81 = some (8, false, .iaload, 1) := by decide +kernel
theorem eX8_stackFault_81 : Ev 97 81 (ls) (.int x :: .ref a :: st) h r ↔ Evk 97 82 ls (mn_al h a 0 x) st h r := ev_iald iX8_stackFault_81
theorem iX8_stackFault_82 : mn_ins 97 82 = some (8, false, .invokestatic 115, 3) := by decide +kernel
theorem eX8_stackFault_82 : Ev 97 82 (ls) (.int x0 :: st) h r ↔ Evr false (decide (mn_cats st ≤ 8)) 97 82 ls st h.2.2.1 h.2.2.2 (Cl 93 [.int x0] h.1 h.2.1) r := Ev_T (As := [.int x0]) (q := 1) iX8_stackFault_82 (by decide +kernel) (by decide) (x := mnI_X8_stackFault) (x2 := mnI_X8_takes) rfl rfl rfl (by decide +kernel) (Nat.le_of_ble_eq_true rfl) rfl
theorem iX8_stackFault_85 : mn_ins 97 85 = some (8, false, .if_icmp .ge 7, 3) := by decide +kernel
theorem eX8_stackFault_85 : Ev 97 85 (ls) (.int y :: .int x :: st) h r ↔ if y ≤ x then Ev 97 92 (ls) (st) h r else Ev 97 88 (ls) (st) h r := ev_cmpge iX8_stackFault_85 (by decide)
theorem iX8_stackFault_88 : mn_ins 97 88 = some (8, false, .iconst 1, 1) := by decide +kernel
theorem eX8_stackFault_88 : Ev 97 88 (ls) (st) h r ↔ Ev 97 89 (ls) (.int (nI 1) :: st) h r := ev_iconst iX8_stackFault_88 (by decide)
theorem iX8_stackFault_89 : mn_ins 97 89 = some (8, false, .goto 4, 3) := by decide +kernel
theorem eX8_stackFault_89 : Ev 97 89 (ls) (st) h r ↔ Ev 97 93 (ls) (st) h r := ev_goto iX8_stackFault_89 (by decide)
theorem iX8_stackFault_92 : mn_ins 97 92 = some (8, false, .iconst 0, 1) := by decide +kernel
theorem eX8_stackFault_92 : Ev 97 92 (ls) (st) h r ↔ Ev 97 93 (ls) (.int (nI 0) :: st) h r := ev_iconst iX8_stackFault_92 (by decide)
theorem iX8_stackFault_93 : mn_ins 97 93 = some (8, false, .istore 5, 2) := by decide +kernel
theorem eX8_stackFault_93 : Ev 97 93 (a0 :: a1 :: a2 :: a3 :: a4 :: a5 :: ls) (.int x :: st) h r ↔ Ev 97 95 (a0 :: a1 :: a2 :: a3 :: mn_k a4 :: some (.int x) :: ls) (st) h r := ev_istore iX8_stackFault_93 (by show 5 < _; simp only [List.length_cons]; omega)
theorem iX8_stackFault_95 : mn_ins 97 95 = some (8, false, .iinc 6 1, 3) := by decide +kernel
theorem eX8_stackFault_95 : Ev 97 95 (a0 :: a1 :: a2 :: a3 :: a4 :: a5 :: some (.int x) :: ls) (st) h r ↔ Ev 97 98 (a0 :: a1 :: a2 :: a3 :: a4 :: mn_k a5 :: some (.int (x + (nI 1))) :: ls) (st) h r := ev_iinc iX8_stackFault_95 rfl (by decide)
theorem iX8_stackFault_98 : mn_ins 97 98 = some (8, false, .goto (-69), 3) := by decide +kernel
theorem eX8_stackFault_98 : Ev 97 98 (ls) (st) h r ↔ Ev 97 29 (ls) (st) h r := ev_goto iX8_stackFault_98 (by decide)
theorem iX8_stackFault_101 : mn_ins 97 101 = some (8, false, .iload 5, 2) := by decide +kernel
theorem eX8_stackFault_101 : Ev 97 101 (a0 :: a1 :: a2 :: a3 :: a4 :: some (.int x) :: ls) (st) h r ↔ Ev 97 103 (a0 :: a1 :: a2 :: a3 :: a4 :: some (.int x) :: ls) (.int x :: st) h r := ev_iload iX8_stackFault_101 rfl
theorem iX8_stackFault_103 : mn_ins 97 103 = some (8, false, .ifCond .ne 9, 3) := by decide +kernel
theorem eX8_stackFault_103 : Ev 97 103 (ls) (.int x :: st) h r ↔ if x = nI 0 then Ev 97 106 (ls) (st) h r else Ev 97 112 (ls) (st) h r := ev_ifne iX8_stackFault_103 (by decide)
theorem iX8_stackFault_106 : mn_ins 97 106 = some (8, false, .iload 4, 2) := by decide +kernel
theorem eX8_stackFault_106 : Ev 97 106 (a0 :: a1 :: a2 :: a3 :: some (.int x) :: ls) (st) h r ↔ Ev 97 108 (a0 :: a1 :: a2 :: a3 :: some (.int x) :: ls) (.int x :: st) h r := ev_iload iX8_stackFault_106 rfl
theorem iX8_stackFault_108 : mn_ins 97 108 = some (8, false, .iconst 1, 1) := by decide +kernel
theorem eX8_stackFault_108 : Ev 97 108 (ls) (st) h r ↔ Ev 97 109 (ls) (.int (nI 1) :: st) h r := ev_iconst iX8_stackFault_108 (by decide)
theorem iX8_stackFault_109 : mn_ins 97 109 = some (8, false, .if_icmp .le 7, 3) := by decide +kernel
theorem eX8_stackFault_109 : Ev 97 109 (ls) (.int y :: .int x :: st) h r ↔ if x ≤ y then Ev 97 116 (ls) (st) h r else Ev 97 112 (ls) (st) h r := ev_cmple iX8_stackFault_109 (by decide)
theorem iX8_stackFault_112 : mn_ins 97 112 = some (8, false, .iload_n 3, 1) := by decide +kernel
theorem eX8_stackFault_112 : Ev 97 112 (a0 :: a1 :: a2 :: some (.int x) :: ls) (st) h r ↔ Ev 97 113 (a0 :: a1 :: a2 :: some (.int x) :: ls) (.int x :: st) h r := ev_iload_n iX8_stackFault_112 rfl
theorem iX8_stackFault_113 : mn_ins 97 113 = some (8, false, .goto 4, 3) := by decide +kernel
theorem eX8_stackFault_113 : Ev 97 113 (ls) (st) h r ↔ Ev 97 117 (ls) (st) h r := ev_goto iX8_stackFault_113 (by decide)
theorem iX8_stackFault_116 : mn_ins 97 116 = some (8, false, .iload_n 2, 1) := by decide +kernel
theorem eX8_stackFault_116 : Ev 97 116 (a0 :: a1 :: some (.int x) :: ls) (st) h r ↔ Ev 97 117 (a0 :: a1 :: some (.int x) :: ls) (.int x :: st) h r := ev_iload_n iX8_stackFault_116 rfl
theorem iX8_stackFault_117 : mn_ins 97 117 = some (8, false, .istore_n 2, 1) := by decide +kernel
theorem eX8_stackFault_117 : Ev 97 117 (a0 :: a1 :: a2 :: ls) (.int x :: st) h r ↔ Ev 97 118 (a0 :: mn_k a1 :: some (.int x) :: ls) (st) h r := ev_istore_n iX8_stackFault_117 (by show 2 < _; simp only [List.length_cons]; omega)
theorem iX8_stackFault_118 : mn_ins 97 118 = some (8, false, .iinc 3 (-1), 3) := by decide +kernel
theorem eX8_stackFault_118 : Ev 97 118 (a0 :: a1 :: a2 :: some (.int x) :: ls) (st) h r ↔ Ev 97 121 (a0 :: a1 :: mn_k a2 :: some (.int (x + (-1))) :: ls) (st) h r := ev_iinc iX8_stackFault_118 rfl (by decide)
theorem iX8_stackFault_121 : mn_ins 97 121 = some (8, false, .goto (-105), 3) := by decide +kernel
theorem eX8_stackFault_121 : Ev 97 121 (ls) (st) h r ↔ Ev 97 16 (ls) (st) h r := ev_goto iX8_stackFault_121 (by decide)
theorem iX8_stackFault_124 : mn_ins 97 124 = some (8, false, .iload_n 2, 1) := by decide +kernel
theorem eX8_stackFault_124 : Ev 97 124 (a0 :: a1 :: some (.int x) :: ls) (st) h r ↔ Ev 97 125 (a0 :: a1 :: some (.int x) :: ls) (.int x :: st) h r := ev_iload_n iX8_stackFault_124 rfl
theorem iX8_stackFault_125 : mn_ins 97 125 = some (8, false, .ireturn, 1) := by decide +kernel
theorem eX8_stackFault_125 : Ev 97 125 (ls) [.int x] h r ↔ r = (h, .inl (some (.int x))) := ev_iret iX8_stackFault_125 (X := mnI_X8_stackFault) rfl rfl
theorem iX8_faultOf_0 : mn_ins 98 0 = some (8, false, .aload_n 0, 1) := by decide +kernel
theorem eX8_faultOf_0 : Ev 98 0 (some (.ref a) :: ls) (st) h r ↔ Ev 98 1 (some (.ref a) :: ls) (.ref a :: st) h r := ev_aload_n iX8_faultOf_0 rfl rfl
theorem iX8_faultOf_1 : mn_ins 98 1 = some (8, false, .getfield 13, 3) := by decide +kernel
theorem eX8_faultOf_1 : Ev 98 1 (ls) (.ref a :: st) h r ↔ Evk 98 4 ls (mn_gf h a 8 4) st h r := ev_getf iX8_faultOf_1 (by decide +kernel)
theorem iX8_faultOf_4 : mn_ins 98 4 = some (8, false, .iload_n 1, 1) := by decide +kernel
theorem eX8_faultOf_4 : Ev 98 4 (a0 :: some (.int x) :: ls) (st) h r ↔ Ev 98 5 (a0 :: some (.int x) :: ls) (.int x :: st) h r := ev_iload_n iX8_faultOf_4 rfl
theorem iX8_faultOf_5 : mn_ins 98 5 = some (8, false, .iaload, 1) := by decide +kernel
theorem eX8_faultOf_5 : Ev 98 5 (ls) (.int x :: .ref a :: st) h r ↔ Evk 98 6 ls (mn_al h a 0 x) st h r := ev_iald iX8_faultOf_5
theorem iX8_faultOf_6 : mn_ins 98 6 = some (8, false, .istore_n 2, 1) := by decide +kernel
theorem eX8_faultOf_6 : Ev 98 6 (a0 :: a1 :: a2 :: ls) (.int x :: st) h r ↔ Ev 98 7 (a0 :: mn_k a1 :: some (.int x) :: ls) (st) h r := ev_istore_n iX8_faultOf_6 (by show 2 < _; simp only [List.length_cons]; omega)
theorem iX8_faultOf_7 : mn_ins 98 7 = some (8, false, .iconst 0, 1) := by decide +kernel
theorem eX8_faultOf_7 : Ev 98 7 (ls) (st) h r ↔ Ev 98 8 (ls) (.int (nI 0) :: st) h r := ev_iconst iX8_faultOf_7 (by decide)
theorem iX8_faultOf_8 : mn_ins 98 8 = some (8, false, .istore_n 3, 1) := by decide +kernel
theorem eX8_faultOf_8 : Ev 98 8 (a0 :: a1 :: a2 :: a3 :: ls) (.int x :: st) h r ↔ Ev 98 9 (a0 :: a1 :: mn_k a2 :: some (.int x) :: ls) (st) h r := ev_istore_n iX8_faultOf_8 (by show 3 < _; simp only [List.length_cons]; omega)
theorem iX8_faultOf_9 : mn_ins 98 9 = some (8, false, .iload_n 3, 1) := by decide +kernel
theorem eX8_faultOf_9 : Ev 98 9 (a0 :: a1 :: a2 :: some (.int x) :: ls) (st) h r ↔ Ev 98 10 (a0 :: a1 :: a2 :: some (.int x) :: ls) (.int x :: st) h r := ev_iload_n iX8_faultOf_9 rfl
theorem iX8_faultOf_10 : mn_ins 98 10 = some (8, false, .iload_n 2, 1) := by decide +kernel
theorem eX8_faultOf_10 : Ev 98 10 (a0 :: a1 :: some (.int x) :: ls) (st) h r ↔ Ev 98 11 (a0 :: a1 :: some (.int x) :: ls) (.int x :: st) h r := ev_iload_n iX8_faultOf_10 rfl
theorem iX8_faultOf_11 : mn_ins 98 11 = some (8, false, .if_icmp .ge 20, 3) := by decide +kernel
theorem eX8_faultOf_11 : Ev 98 11 (ls) (.int y :: .int x :: st) h r ↔ if y ≤ x then Ev 98 31 (ls) (st) h r else Ev 98 14 (ls) (st) h r := ev_cmpge iX8_faultOf_11 (by decide)
theorem iX8_faultOf_14 : mn_ins 98 14 = some (8, false, .aload_n 0, 1) := by decide +kernel
theorem eX8_faultOf_14 : Ev 98 14 (some (.ref a) :: ls) (st) h r ↔ Ev 98 15 (some (.ref a) :: ls) (.ref a :: st) h r := ev_aload_n iX8_faultOf_14 rfl rfl
theorem iX8_faultOf_15 : mn_ins 98 15 = some (8, false, .iload_n 1, 1) := by decide +kernel
theorem eX8_faultOf_15 : Ev 98 15 (a0 :: some (.int x) :: ls) (st) h r ↔ Ev 98 16 (a0 :: some (.int x) :: ls) (.int x :: st) h r := ev_iload_n iX8_faultOf_15 rfl
theorem iX8_faultOf_16 : mn_ins 98 16 = some (8, false, .iload_n 3, 1) := by decide +kernel
theorem eX8_faultOf_16 : Ev 98 16 (a0 :: a1 :: a2 :: some (.int x) :: ls) (st) h r ↔ Ev 98 17 (a0 :: a1 :: a2 :: some (.int x) :: ls) (.int x :: st) h r := ev_iload_n iX8_faultOf_16 rfl
theorem iX8_faultOf_17 : mn_ins 98 17 = some (8, false, .invokevirtual 130, 3) := by decide +kernel
theorem eX8_faultOf_17 : Ev 98 17 (ls) (.int x1 :: .int x0 :: .ref b :: st) h r ↔ Evr true (decide (mn_cats st ≤ 8) && mn_isc h b 8) 98 17 ls st h.2.2.1 h.2.2.2 (Cl 92 (.ref b :: [.int x0, .int x1]) h.1 h.2.1) r := Ev_V (As := [.int x0, .int x1]) iX8_faultOf_17 (by decide +kernel) (x := mnI_X8_faultOf) (x2 := mnI_X8_isArgument) rfl rfl rfl (by decide +kernel) (Nat.le_of_ble_eq_true rfl) rfl
theorem iX8_faultOf_20 : mn_ins 98 20 = some (8, false, .ifCond .ne 5, 3) := by decide +kernel
theorem eX8_faultOf_20 : Ev 98 20 (ls) (.int x :: st) h r ↔ if x = nI 0 then Ev 98 23 (ls) (st) h r else Ev 98 25 (ls) (st) h r := ev_ifne iX8_faultOf_20 (by decide)
theorem iX8_faultOf_23 : mn_ins 98 23 = some (8, false, .iload_n 3, 1) := by decide +kernel
theorem eX8_faultOf_23 : Ev 98 23 (a0 :: a1 :: a2 :: some (.int x) :: ls) (st) h r ↔ Ev 98 24 (a0 :: a1 :: a2 :: some (.int x) :: ls) (.int x :: st) h r := ev_iload_n iX8_faultOf_23 rfl
theorem iX8_faultOf_24 : mn_ins 98 24 = some (8, false, .ireturn, 1) := by decide +kernel
theorem eX8_faultOf_24 : Ev 98 24 (ls) [.int x] h r ↔ r = (h, .inl (some (.int x))) := ev_iret iX8_faultOf_24 (X := mnI_X8_faultOf) rfl rfl
theorem iX8_faultOf_25 : mn_ins 98 25 = some (8, false, .iinc 3 1, 3) := by decide +kernel
theorem eX8_faultOf_25 : Ev 98 25 (a0 :: a1 :: a2 :: some (.int x) :: ls) (st) h r ↔ Ev 98 28 (a0 :: a1 :: mn_k a2 :: some (.int (x + (nI 1))) :: ls) (st) h r := ev_iinc iX8_faultOf_25 rfl (by decide)
theorem iX8_faultOf_28 : mn_ins 98 28 = some (8, false, .goto (-19), 3) := by decide +kernel
theorem eX8_faultOf_28 : Ev 98 28 (ls) (st) h r ↔ Ev 98 9 (ls) (st) h r := ev_goto iX8_faultOf_28 (by decide)
theorem iX8_faultOf_31 : mn_ins 98 31 = some (8, false, .iload_n 2, 1) := by decide +kernel
theorem eX8_faultOf_31 : Ev 98 31 (a0 :: a1 :: some (.int x) :: ls) (st) h r ↔ Ev 98 32 (a0 :: a1 :: some (.int x) :: ls) (.int x :: st) h r := ev_iload_n iX8_faultOf_31 rfl
theorem iX8_faultOf_32 : mn_ins 98 32 = some (8, false, .ifCond .ne 5, 3) := by decide +kernel
theorem eX8_faultOf_32 : Ev 98 32 (ls) (.int x :: st) h r ↔ if x = nI 0 then Ev 98 35 (ls) (st) h r else Ev 98 37 (ls) (st) h r := ev_ifne iX8_faultOf_32 (by decide)
theorem iX8_faultOf_35 : mn_ins 98 35 = some (8, false, .iconst 0, 1) := by decide +kernel
theorem eX8_faultOf_35 : Ev 98 35 (ls) (st) h r ↔ Ev 98 36 (ls) (.int (nI 0) :: st) h r := ev_iconst iX8_faultOf_35 (by decide)
theorem iX8_faultOf_36 : mn_ins 98 36 = some (8, false, .ireturn, 1) := by decide +kernel
theorem eX8_faultOf_36 : Ev 98 36 (ls) [.int x] h r ↔ r = (h, .inl (some (.int x))) := ev_iret iX8_faultOf_36 (X := mnI_X8_faultOf) rfl rfl
theorem iX8_faultOf_37 : mn_ins 98 37 = some (8, false, .aload_n 0, 1) := by decide +kernel
theorem eX8_faultOf_37 : Ev 98 37 (some (.ref a) :: ls) (st) h r ↔ Ev 98 38 (some (.ref a) :: ls) (.ref a :: st) h r := ev_aload_n iX8_faultOf_37 rfl rfl
theorem iX8_faultOf_38 : mn_ins 98 38 = some (8, false, .getfield 17, 3) := by decide +kernel
theorem eX8_faultOf_38 : Ev 98 38 (ls) (.ref a :: st) h r ↔ Evk 98 41 ls (mn_gf h a 8 5) st h r := ev_getf iX8_faultOf_38 (by decide +kernel)
theorem iX8_faultOf_41 : mn_ins 98 41 = some (8, false, .bipush 24, 2) := by decide +kernel
theorem eX8_faultOf_41 : Ev 98 41 (ls) (st) h r ↔ Ev 98 43 (ls) (.int (nI 24) :: st) h r := ev_bipush iX8_faultOf_41 (by decide)
theorem iX8_faultOf_43 : mn_ins 98 43 = some (8, false, .iload_n 1, 1) := by decide +kernel
theorem eX8_faultOf_43 : Ev 98 43 (a0 :: some (.int x) :: ls) (st) h r ↔ Ev 98 44 (a0 :: some (.int x) :: ls) (.int x :: st) h r := ev_iload_n iX8_faultOf_43 rfl
theorem iX8_faultOf_44 : mn_ins 98 44 = some (8, false, .imul, 1) := by decide +kernel
theorem eX8_faultOf_44 : Ev 98 44 (ls) (.int y :: .int x :: st) h r ↔ Ev 98 45 (ls) (.int (x * y) :: st) h r := ev_imul iX8_faultOf_44
theorem iX8_faultOf_45 : mn_ins 98 45 = some (8, false, .iload_n 2, 1) := by decide +kernel
theorem eX8_faultOf_45 : Ev 98 45 (a0 :: a1 :: some (.int x) :: ls) (st) h r ↔ Ev 98 46 (a0 :: a1 :: some (.int x) :: ls) (.int x :: st) h r := ev_iload_n iX8_faultOf_45 rfl
theorem iX8_faultOf_46 : mn_ins 98 46 = some (8, false, .iadd, 1) := by decide +kernel
theorem eX8_faultOf_46 : Ev 98 46 (ls) (.int y :: .int x :: st) h r ↔ Ev 98 47 (ls) (.int (x + y) :: st) h r := ev_iadd iX8_faultOf_46
theorem iX8_faultOf_47 : mn_ins 98 47 = some (8, false, .iconst 1, 1) := by decide +kernel
theorem eX8_faultOf_47 : Ev 98 47 (ls) (st) h r ↔ Ev 98 48 (ls) (.int (nI 1) :: st) h r := ev_iconst iX8_faultOf_47 (by decide)
theorem iX8_faultOf_48 : mn_ins 98 48 = some (8, false, .isub, 1) := by decide +kernel
theorem eX8_faultOf_48 : Ev 98 48 (ls) (.int y :: .int x :: st) h r ↔ Ev 98 49 (ls) (.int (x - y) :: st) h r := ev_isub iX8_faultOf_48
theorem iX8_faultOf_49 : mn_ins 98 49 = some (8, false, .iaload, 1) := by decide +kernel
theorem eX8_faultOf_49 : Ev 98 49 (ls) (.int x :: .ref a :: st) h r ↔ Evk 98 50 ls (mn_al h a 0 x) st h r := ev_iald iX8_faultOf_49
theorem iX8_faultOf_50 : mn_ins 98 50 = some (8, false, .istore_n 3, 1) := by decide +kernel
theorem eX8_faultOf_50 : Ev 98 50 (a0 :: a1 :: a2 :: a3 :: ls) (.int x :: st) h r ↔ Ev 98 51 (a0 :: a1 :: mn_k a2 :: some (.int x) :: ls) (st) h r := ev_istore_n iX8_faultOf_50 (by show 3 < _; simp only [List.length_cons]; omega)
theorem iX8_faultOf_51 : mn_ins 98 51 = some (8, false, .iload_n 3, 1) := by decide +kernel
theorem eX8_faultOf_51 : Ev 98 51 (a0 :: a1 :: a2 :: some (.int x) :: ls) (st) h r ↔ Ev 98 52 (a0 :: a1 :: a2 :: some (.int x) :: ls) (.int x :: st) h r := ev_iload_n iX8_faultOf_51 rfl
theorem iX8_faultOf_52 : mn_ins 98 52 = some (8, false, .bipush 16, 2) := by decide +kernel
theorem eX8_faultOf_52 : Ev 98 52 (ls) (st) h r ↔ Ev 98 54 (ls) (.int (nI 16) :: st) h r := ev_bipush iX8_faultOf_52 (by decide)
theorem iX8_faultOf_54 : mn_ins 98 54 = some (8, false, .if_icmp .eq 19, 3) := by decide +kernel
theorem eX8_faultOf_54 : Ev 98 54 (ls) (.int y :: .int x :: st) h r ↔ if x = y then Ev 98 73 (ls) (st) h r else Ev 98 57 (ls) (st) h r := ev_cmpeq iX8_faultOf_54 (by decide)
theorem iX8_faultOf_57 : mn_ins 98 57 = some (8, false, .iload_n 1, 1) := by decide +kernel
theorem eX8_faultOf_57 : Ev 98 57 (a0 :: some (.int x) :: ls) (st) h r ↔ Ev 98 58 (a0 :: some (.int x) :: ls) (.int x :: st) h r := ev_iload_n iX8_faultOf_57 rfl
theorem iX8_faultOf_58 : mn_ins 98 58 = some (8, false, .bipush 6, 2) := by decide +kernel
theorem eX8_faultOf_58 : Ev 98 58 (ls) (st) h r ↔ Ev 98 60 (ls) (.int (nI 6) :: st) h r := ev_bipush iX8_faultOf_58 (by decide)
theorem iX8_faultOf_60 : mn_ins 98 60 = some (8, false, .if_icmp .ge 9, 3) := by decide +kernel
theorem eX8_faultOf_60 : Ev 98 60 (ls) (.int y :: .int x :: st) h r ↔ if y ≤ x then Ev 98 69 (ls) (st) h r else Ev 98 63 (ls) (st) h r := ev_cmpge iX8_faultOf_60 (by decide)
theorem iX8_faultOf_63 : mn_ins 98 63 = some (8, false, .iload_n 3, 1) := by decide +kernel
theorem eX8_faultOf_63 : Ev 98 63 (a0 :: a1 :: a2 :: some (.int x) :: ls) (st) h r ↔ Ev 98 64 (a0 :: a1 :: a2 :: some (.int x) :: ls) (.int x :: st) h r := ev_iload_n iX8_faultOf_63 rfl
theorem iX8_faultOf_64 : mn_ins 98 64 = some (8, false, .bipush 11, 2) := by decide +kernel
theorem eX8_faultOf_64 : Ev 98 64 (ls) (st) h r ↔ Ev 98 66 (ls) (.int (nI 11) :: st) h r := ev_bipush iX8_faultOf_64 (by decide)
theorem iX8_faultOf_66 : mn_ins 98 66 = some (8, false, .if_icmp .eq 7, 3) := by decide +kernel
theorem eX8_faultOf_66 : Ev 98 66 (ls) (.int y :: .int x :: st) h r ↔ if x = y then Ev 98 73 (ls) (st) h r else Ev 98 69 (ls) (st) h r := ev_cmpeq iX8_faultOf_66 (by decide)
theorem iX8_faultOf_69 : mn_ins 98 69 = some (8, false, .iload_n 2, 1) := by decide +kernel
theorem eX8_faultOf_69 : Ev 98 69 (a0 :: a1 :: some (.int x) :: ls) (st) h r ↔ Ev 98 70 (a0 :: a1 :: some (.int x) :: ls) (.int x :: st) h r := ev_iload_n iX8_faultOf_69 rfl
theorem iX8_faultOf_70 : mn_ins 98 70 = some (8, false, .iconst 1, 1) := by decide +kernel
theorem eX8_faultOf_70 : Ev 98 70 (ls) (st) h r ↔ Ev 98 71 (ls) (.int (nI 1) :: st) h r := ev_iconst iX8_faultOf_70 (by decide)
theorem iX8_faultOf_71 : mn_ins 98 71 = some (8, false, .isub, 1) := by decide +kernel
theorem eX8_faultOf_71 : Ev 98 71 (ls) (.int y :: .int x :: st) h r ↔ Ev 98 72 (ls) (.int (x - y) :: st) h r := ev_isub iX8_faultOf_71
theorem iX8_faultOf_72 : mn_ins 98 72 = some (8, false, .ireturn, 1) := by decide +kernel
theorem eX8_faultOf_72 : Ev 98 72 (ls) [.int x] h r ↔ r = (h, .inl (some (.int x))) := ev_iret iX8_faultOf_72 (X := mnI_X8_faultOf) rfl rfl
theorem iX8_faultOf_73 : mn_ins 98 73 = some (8, false, .aload_n 0, 1) := by decide +kernel
theorem eX8_faultOf_73 : Ev 98 73 (some (.ref a) :: ls) (st) h r ↔ Ev 98 74 (some (.ref a) :: ls) (.ref a :: st) h r := ev_aload_n iX8_faultOf_73 rfl rfl
theorem iX8_faultOf_74 : mn_ins 98 74 = some (8, false, .iload_n 1, 1) := by decide +kernel
theorem eX8_faultOf_74 : Ev 98 74 (a0 :: some (.int x) :: ls) (st) h r ↔ Ev 98 75 (a0 :: some (.int x) :: ls) (.int x :: st) h r := ev_iload_n iX8_faultOf_74 rfl
theorem iX8_faultOf_75 : mn_ins 98 75 = some (8, false, .invokevirtual 134, 3) := by decide +kernel
theorem eX8_faultOf_75 : Ev 98 75 (ls) (.int x0 :: .ref b :: st) h r ↔ Evr true (decide (mn_cats st ≤ 8) && mn_isc h b 8) 98 75 ls st h.2.2.1 h.2.2.2 (Cl 97 (.ref b :: [.int x0]) h.1 h.2.1) r := Ev_V (As := [.int x0]) iX8_faultOf_75 (by decide +kernel) (x := mnI_X8_faultOf) (x2 := mnI_X8_stackFault) rfl rfl rfl (by decide +kernel) (Nat.le_of_ble_eq_true rfl) rfl
theorem iX8_faultOf_78 : mn_ins 98 78 = some (8, false, .ireturn, 1) := by decide +kernel
theorem eX8_faultOf_78 : Ev 98 78 (ls) [.int x] h r ↔ r = (h, .inl (some (.int x))) := ev_iret iX8_faultOf_78 (X := mnI_X8_faultOf) rfl rfl
theorem iX8_programFault_0 : mn_ins 99 0 = some (8, false, .iconst 0, 1) := by decide +kernel
theorem eX8_programFault_0 : Ev 99 0 (ls) (st) h r ↔ Ev 99 1 (ls) (.int (nI 0) :: st) h r := ev_iconst iX8_programFault_0 (by decide)
theorem iX8_programFault_1 : mn_ins 99 1 = some (8, false, .istore_n 1, 1) := by decide +kernel
theorem eX8_programFault_1 : Ev 99 1 (a0 :: a1 :: ls) (.int x :: st) h r ↔ Ev 99 2 (mn_k a0 :: some (.int x) :: ls) (st) h r := ev_istore_n iX8_programFault_1 (by show 1 < _; simp only [List.length_cons]; omega)
theorem iX8_programFault_2 : mn_ins 99 2 = some (8, false, .iload_n 1, 1) := by decide +kernel
theorem eX8_programFault_2 : Ev 99 2 (a0 :: some (.int x) :: ls) (st) h r ↔ Ev 99 3 (a0 :: some (.int x) :: ls) (.int x :: st) h r := ev_iload_n iX8_programFault_2 rfl
theorem iX8_programFault_3 : mn_ins 99 3 = some (8, false, .bipush 8, 2) := by decide +kernel
theorem eX8_programFault_3 : Ev 99 3 (ls) (st) h r ↔ Ev 99 5 (ls) (.int (nI 8) :: st) h r := ev_bipush iX8_programFault_3 (by decide)
theorem iX8_programFault_5 : mn_ins 99 5 = some (8, false, .if_icmp .ge 78, 3) := by decide +kernel
theorem eX8_programFault_5 : Ev 99 5 (ls) (.int y :: .int x :: st) h r ↔ if y ≤ x then Ev 99 83 (ls) (st) h r else Ev 99 8 (ls) (st) h r := ev_cmpge iX8_programFault_5 (by decide)
theorem iX8_programFault_8 : mn_ins 99 8 = some (8, false, .iload_n 1, 1) := by decide +kernel
theorem eX8_programFault_8 : Ev 99 8 (a0 :: some (.int x) :: ls) (st) h r ↔ Ev 99 9 (a0 :: some (.int x) :: ls) (.int x :: st) h r := ev_iload_n iX8_programFault_8 rfl
theorem iX8_programFault_9 : mn_ins 99 9 = some (8, false, .bipush 6, 2) := by decide +kernel
theorem eX8_programFault_9 : Ev 99 9 (ls) (st) h r ↔ Ev 99 11 (ls) (.int (nI 6) :: st) h r := ev_bipush iX8_programFault_9 (by decide)
theorem iX8_programFault_11 : mn_ins 99 11 = some (8, false, .if_icmp .ge 14, 3) := by decide +kernel
theorem eX8_programFault_11 : Ev 99 11 (ls) (.int y :: .int x :: st) h r ↔ if y ≤ x then Ev 99 25 (ls) (st) h r else Ev 99 14 (ls) (st) h r := ev_cmpge iX8_programFault_11 (by decide)
theorem iX8_programFault_14 : mn_ins 99 14 = some (8, false, .iload_n 1, 1) := by decide +kernel
theorem eX8_programFault_14 : Ev 99 14 (a0 :: some (.int x) :: ls) (st) h r ↔ Ev 99 15 (a0 :: some (.int x) :: ls) (.int x :: st) h r := ev_iload_n iX8_programFault_14 rfl
theorem iX8_programFault_15 : mn_ins 99 15 = some (8, false, .aload_n 0, 1) := by decide +kernel
theorem eX8_programFault_15 : Ev 99 15 (some (.ref a) :: ls) (st) h r ↔ Ev 99 16 (some (.ref a) :: ls) (.ref a :: st) h r := ev_aload_n iX8_programFault_15 rfl rfl
theorem iX8_programFault_16 : mn_ins 99 16 = some (8, false, .getfield 101, 3) := by decide +kernel
theorem eX8_programFault_16 : Ev 99 16 (ls) (.ref a :: st) h r ↔ Evk 99 19 ls (mn_gf h a 8 1) st h r := ev_getf iX8_programFault_16 (by decide +kernel)
theorem iX8_programFault_19 : mn_ins 99 19 = some (8, false, .if_icmp .lt 20, 3) := by decide +kernel
theorem eX8_programFault_19 : Ev 99 19 (ls) (.int y :: .int x :: st) h r ↔ if x < y then Ev 99 39 (ls) (st) h r else Ev 99 22 (ls) (st) h r := ev_cmplt iX8_programFault_19 (by decide)
theorem iX8_programFault_22 : mn_ins 99 22 = some (8, false, .goto 55, 3) := by decide +kernel
theorem eX8_programFault_22 : Ev 99 22 (ls) (st) h r ↔ Ev 99 77 (ls) (st) h r := ev_goto iX8_programFault_22 (by decide)
theorem iX8_programFault_25 : mn_ins 99 25 = some (8, false, .iload_n 1, 1) := by decide +kernel
theorem eX8_programFault_25 : Ev 99 25 (a0 :: some (.int x) :: ls) (st) h r ↔ Ev 99 26 (a0 :: some (.int x) :: ls) (.int x :: st) h r := ev_iload_n iX8_programFault_25 rfl
theorem iX8_programFault_26 : mn_ins 99 26 = some (8, false, .bipush 6, 2) := by decide +kernel
theorem eX8_programFault_26 : Ev 99 26 (ls) (st) h r ↔ Ev 99 28 (ls) (.int (nI 6) :: st) h r := ev_bipush iX8_programFault_26 (by decide)
theorem iX8_programFault_28 : mn_ins 99 28 = some (8, false, .isub, 1) := by decide +kernel
theorem eX8_programFault_28 : Ev 99 28 (ls) (.int y :: .int x :: st) h r ↔ Ev 99 29 (ls) (.int (x - y) :: st) h r := ev_isub iX8_programFault_28
theorem iX8_programFault_29 : mn_ins 99 29 = some (8, false, .aload_n 0, 1) := by decide +kernel
theorem eX8_programFault_29 : Ev 99 29 (some (.ref a) :: ls) (st) h r ↔ Ev 99 30 (some (.ref a) :: ls) (.ref a :: st) h r := ev_aload_n iX8_programFault_29 rfl rfl
theorem iX8_programFault_30 : mn_ins 99 30 = some (8, false, .getfield 108, 3) := by decide +kernel
theorem eX8_programFault_30 : Ev 99 30 (ls) (.ref a :: st) h r ↔ Evk 99 33 ls (mn_gf h a 8 2) st h r := ev_getf iX8_programFault_30 (by decide +kernel)
theorem iX8_programFault_33 : mn_ins 99 33 = some (8, false, .if_icmp .lt 6, 3) := by decide +kernel
theorem eX8_programFault_33 : Ev 99 33 (ls) (.int y :: .int x :: st) h r ↔ if x < y then Ev 99 39 (ls) (st) h r else Ev 99 36 (ls) (st) h r := ev_cmplt iX8_programFault_33 (by decide)
theorem iX8_programFault_36 : mn_ins 99 36 = some (8, false, .goto 41, 3) := by decide +kernel
theorem eX8_programFault_36 : Ev 99 36 (ls) (st) h r ↔ Ev 99 77 (ls) (st) h r := ev_goto iX8_programFault_36 (by decide)
theorem iX8_programFault_39 : mn_ins 99 39 = some (8, false, .aload_n 0, 1) := by decide +kernel
theorem eX8_programFault_39 : Ev 99 39 (some (.ref a) :: ls) (st) h r ↔ Ev 99 40 (some (.ref a) :: ls) (.ref a :: st) h r := ev_aload_n iX8_programFault_39 rfl rfl
theorem iX8_programFault_40 : mn_ins 99 40 = some (8, false, .iload_n 1, 1) := by decide +kernel
theorem eX8_programFault_40 : Ev 99 40 (a0 :: some (.int x) :: ls) (st) h r ↔ Ev 99 41 (a0 :: some (.int x) :: ls) (.int x :: st) h r := ev_iload_n iX8_programFault_40 rfl
theorem iX8_programFault_41 : mn_ins 99 41 = some (8, false, .invokevirtual 137, 3) := by decide +kernel
theorem eX8_programFault_41 : Ev 99 41 (ls) (.int x0 :: .ref b :: st) h r ↔ Evr true (decide (mn_cats st ≤ 8) && mn_isc h b 8) 99 41 ls st h.2.2.1 h.2.2.2 (Cl 98 (.ref b :: [.int x0]) h.1 h.2.1) r := Ev_V (As := [.int x0]) iX8_programFault_41 (by decide +kernel) (x := mnI_X8_programFault) (x2 := mnI_X8_faultOf) rfl rfl rfl (by decide +kernel) (Nat.le_of_ble_eq_true rfl) rfl
theorem iX8_programFault_44 : mn_ins 99 44 = some (8, false, .istore_n 2, 1) := by decide +kernel
theorem eX8_programFault_44 : Ev 99 44 (a0 :: a1 :: a2 :: ls) (.int x :: st) h r ↔ Ev 99 45 (a0 :: mn_k a1 :: some (.int x) :: ls) (st) h r := ev_istore_n iX8_programFault_44 (by show 2 < _; simp only [List.length_cons]; omega)
theorem iX8_programFault_45 : mn_ins 99 45 = some (8, false, .iload_n 2, 1) := by decide +kernel
theorem eX8_programFault_45 : Ev 99 45 (a0 :: a1 :: some (.int x) :: ls) (st) h r ↔ Ev 99 46 (a0 :: a1 :: some (.int x) :: ls) (.int x :: st) h r := ev_iload_n iX8_programFault_45 rfl
theorem iX8_programFault_46 : mn_ins 99 46 = some (8, false, .iconst (-1), 1) := by decide +kernel
theorem eX8_programFault_46 : Ev 99 46 (ls) (st) h r ↔ Ev 99 47 (ls) (.int (-1) :: st) h r := ev_iconst iX8_programFault_46 (by decide)
theorem iX8_programFault_47 : mn_ins 99 47 = some (8, false, .if_icmp .eq 30, 3) := by decide +kernel
theorem eX8_programFault_47 : Ev 99 47 (ls) (.int y :: .int x :: st) h r ↔ if x = y then Ev 99 77 (ls) (st) h r else Ev 99 50 (ls) (st) h r := ev_cmpeq iX8_programFault_47 (by decide)
theorem iX8_programFault_50 : mn_ins 99 50 = some (8, false, .iload_n 1, 1) := by decide +kernel
theorem eX8_programFault_50 : Ev 99 50 (a0 :: some (.int x) :: ls) (st) h r ↔ Ev 99 51 (a0 :: some (.int x) :: ls) (.int x :: st) h r := ev_iload_n iX8_programFault_50 rfl
theorem iX8_programFault_51 : mn_ins 99 51 = some (8, false, .bipush 6, 2) := by decide +kernel
theorem eX8_programFault_51 : Ev 99 51 (ls) (st) h r ↔ Ev 99 53 (ls) (.int (nI 6) :: st) h r := ev_bipush iX8_programFault_51 (by decide)
theorem iX8_programFault_53 : mn_ins 99 53 = some (8, false, .if_icmp .ge 10, 3) := by decide +kernel
theorem eX8_programFault_53 : Ev 99 53 (ls) (.int y :: .int x :: st) h r ↔ if y ≤ x then Ev 99 63 (ls) (st) h r else Ev 99 56 (ls) (st) h r := ev_cmpge iX8_programFault_53 (by decide)
theorem iX8_programFault_56 : mn_ins 99 56 = some (8, false, .bipush 100, 2) := by decide +kernel
theorem eX8_programFault_56 : Ev 99 56 (ls) (st) h r ↔ Ev 99 58 (ls) (.int (nI 100) :: st) h r := ev_bipush iX8_programFault_56 (by decide)
theorem iX8_programFault_58 : mn_ins 99 58 = some (8, false, .iload_n 1, 1) := by decide +kernel
theorem eX8_programFault_58 : Ev 99 58 (a0 :: some (.int x) :: ls) (st) h r ↔ Ev 99 59 (a0 :: some (.int x) :: ls) (.int x :: st) h r := ev_iload_n iX8_programFault_58 rfl
theorem iX8_programFault_59 : mn_ins 99 59 = some (8, false, .imul, 1) := by decide +kernel
theorem eX8_programFault_59 : Ev 99 59 (ls) (.int y :: .int x :: st) h r ↔ Ev 99 60 (ls) (.int (x * y) :: st) h r := ev_imul iX8_programFault_59
theorem iX8_programFault_60 : mn_ins 99 60 = some (8, false, .goto 14, 3) := by decide +kernel
theorem eX8_programFault_60 : Ev 99 60 (ls) (st) h r ↔ Ev 99 74 (ls) (st) h r := ev_goto iX8_programFault_60 (by decide)
theorem iX8_programFault_63 : mn_ins 99 63 = some (8, false, .sipush 1000, 3) := by decide +kernel
theorem eX8_programFault_63 : Ev 99 63 (ls) (st) h r ↔ Ev 99 66 (ls) (.int (nI 1000) :: st) h r := ev_sipush iX8_programFault_63 (by decide)
theorem iX8_programFault_66 : mn_ins 99 66 = some (8, false, .bipush 100, 2) := by decide +kernel
theorem eX8_programFault_66 : Ev 99 66 (ls) (st) h r ↔ Ev 99 68 (ls) (.int (nI 100) :: st) h r := ev_bipush iX8_programFault_66 (by decide)
theorem iX8_programFault_68 : mn_ins 99 68 = some (8, false, .iload_n 1, 1) := by decide +kernel
theorem eX8_programFault_68 : Ev 99 68 (a0 :: some (.int x) :: ls) (st) h r ↔ Ev 99 69 (a0 :: some (.int x) :: ls) (.int x :: st) h r := ev_iload_n iX8_programFault_68 rfl
theorem iX8_programFault_69 : mn_ins 99 69 = some (8, false, .bipush 6, 2) := by decide +kernel
theorem eX8_programFault_69 : Ev 99 69 (ls) (st) h r ↔ Ev 99 71 (ls) (.int (nI 6) :: st) h r := ev_bipush iX8_programFault_69 (by decide)
theorem iX8_programFault_71 : mn_ins 99 71 = some (8, false, .isub, 1) := by decide +kernel
theorem eX8_programFault_71 : Ev 99 71 (ls) (.int y :: .int x :: st) h r ↔ Ev 99 72 (ls) (.int (x - y) :: st) h r := ev_isub iX8_programFault_71
theorem iX8_programFault_72 : mn_ins 99 72 = some (8, false, .imul, 1) := by decide +kernel
theorem eX8_programFault_72 : Ev 99 72 (ls) (.int y :: .int x :: st) h r ↔ Ev 99 73 (ls) (.int (x * y) :: st) h r := ev_imul iX8_programFault_72
theorem iX8_programFault_73 : mn_ins 99 73 = some (8, false, .iadd, 1) := by decide +kernel
theorem eX8_programFault_73 : Ev 99 73 (ls) (.int y :: .int x :: st) h r ↔ Ev 99 74 (ls) (.int (x + y) :: st) h r := ev_iadd iX8_programFault_73
theorem iX8_programFault_74 : mn_ins 99 74 = some (8, false, .iload_n 2, 1) := by decide +kernel
theorem eX8_programFault_74 : Ev 99 74 (a0 :: a1 :: some (.int x) :: ls) (st) h r ↔ Ev 99 75 (a0 :: a1 :: some (.int x) :: ls) (.int x :: st) h r := ev_iload_n iX8_programFault_74 rfl
theorem iX8_programFault_75 : mn_ins 99 75 = some (8, false, .iadd, 1) := by decide +kernel
theorem eX8_programFault_75 : Ev 99 75 (ls) (.int y :: .int x :: st) h r ↔ Ev 99 76 (ls) (.int (x + y) :: st) h r := ev_iadd iX8_programFault_75
theorem iX8_programFault_76 : mn_ins 99 76 = some (8, false, .ireturn, 1) := by decide +kernel
theorem eX8_programFault_76 : Ev 99 76 (ls) [.int x] h r ↔ r = (h, .inl (some (.int x))) := ev_iret iX8_programFault_76 (X := mnI_X8_programFault) rfl rfl
theorem iX8_programFault_77 : mn_ins 99 77 = some (8, false, .iinc 1 1, 3) := by decide +kernel
theorem eX8_programFault_77 : Ev 99 77 (a0 :: some (.int x) :: ls) (st) h r ↔ Ev 99 80 (mn_k a0 :: some (.int (x + (nI 1))) :: ls) (st) h r := ev_iinc iX8_programFault_77 rfl (by decide)
theorem iX8_programFault_80 : mn_ins 99 80 = some (8, false, .goto (-78), 3) := by decide +kernel
theorem eX8_programFault_80 : Ev 99 80 (ls) (st) h r ↔ Ev 99 2 (ls) (st) h r := ev_goto iX8_programFault_80 (by decide)
theorem iX8_programFault_83 : mn_ins 99 83 = some (8, false, .iconst (-1), 1) := by decide +kernel
theorem eX8_programFault_83 : Ev 99 83 (ls) (st) h r ↔ Ev 99 84 (ls) (.int (-1) :: st) h r := ev_iconst iX8_programFault_83 (by decide)
theorem iX8_programFault_84 : mn_ins 99 84 = some (8, false, .ireturn, 1) := by decide +kernel
theorem eX8_programFault_84 : Ev 99 84 (ls) [.int x] h r ↔ r = (h, .inl (some (.int x))) := ev_iret iX8_programFault_84 (X := mnI_X8_programFault) rfl rfl
theorem iX8_fault_0 : mn_ins 100 0 = some (8, false, .aload_n 0, 1) := by decide +kernel
theorem eX8_fault_0 : Ev 100 0 (some (.ref a) :: ls) (st) h r ↔ Ev 100 1 (some (.ref a) :: ls) (.ref a :: st) h r := ev_aload_n iX8_fault_0 rfl rfl
theorem iX8_fault_1 : mn_ins 100 1 = some (8, false, .iconst 0, 1) := by decide +kernel
theorem eX8_fault_1 : Ev 100 1 (ls) (st) h r ↔ Ev 100 2 (ls) (.int (nI 0) :: st) h r := ev_iconst iX8_fault_1 (by decide)
theorem iX8_fault_2 : mn_ins 100 2 = some (8, false, .putfield 94, 3) := by decide +kernel
theorem eX8_fault_2 : Ev 100 2 (ls) (w :: .ref a :: st) h r ↔ Evh 100 5 ls st (mn_pf h a 8 0 w) r := ev_putf iX8_fault_2 (by decide +kernel) (by decide +kernel)
theorem iX8_fault_5 : mn_ins 100 5 = some (8, false, .aload_n 0, 1) := by decide +kernel
theorem eX8_fault_5 : Ev 100 5 (some (.ref a) :: ls) (st) h r ↔ Ev 100 6 (some (.ref a) :: ls) (.ref a :: st) h r := ev_aload_n iX8_fault_5 rfl rfl
theorem iX8_fault_6 : mn_ins 100 6 = some (8, false, .invokevirtual 140, 3) := by decide +kernel
theorem eX8_fault_6 : Ev 100 6 (ls) (.ref b :: st) h r ↔ Evr true (decide (mn_cats st ≤ 8) && mn_isc h b 8) 100 6 ls st h.2.2.1 h.2.2.2 (Cl 99 (.ref b :: []) h.1 h.2.1) r := Ev_V (As := []) iX8_fault_6 (by decide +kernel) (x := mnI_X8_fault) (x2 := mnI_X8_programFault) rfl rfl rfl (by decide +kernel) (Nat.le_of_ble_eq_true rfl) rfl
theorem iX8_fault_9 : mn_ins 100 9 = some (8, false, .ireturn, 1) := by decide +kernel
theorem eX8_fault_9 : Ev 100 9 (ls) [.int x] h r ↔ r = (h, .inl (some (.int x))) := ev_iret iX8_fault_9 (X := mnI_X8_fault) rfl rfl
theorem iX8_start_0 : mn_ins 101 0 = some (8, false, .aload_n 0, 1) := by decide +kernel
theorem eX8_start_0 : Ev 101 0 (some (.ref a) :: ls) (st) h r ↔ Ev 101 1 (some (.ref a) :: ls) (.ref a :: st) h r := ev_aload_n iX8_start_0 rfl rfl
theorem iX8_start_1 : mn_ins 101 1 = some (8, false, .getfield 101, 3) := by decide +kernel
theorem eX8_start_1 : Ev 101 1 (ls) (.ref a :: st) h r ↔ Evk 101 4 ls (mn_gf h a 8 1) st h r := ev_getf iX8_start_1 (by decide +kernel)
theorem iX8_start_4 : mn_ins 101 4 = some (8, false, .ifCond .le 15, 3) := by decide +kernel
theorem eX8_start_4 : Ev 101 4 (ls) (.int x :: st) h r ↔ if x ≤ nI 0 then Ev 101 19 (ls) (st) h r else Ev 101 7 (ls) (st) h r := ev_ifle iX8_start_4 (by decide)
theorem iX8_start_7 : mn_ins 101 7 = some (8, false, .aload_n 0, 1) := by decide +kernel
theorem eX8_start_7 : Ev 101 7 (some (.ref a) :: ls) (st) h r ↔ Ev 101 8 (some (.ref a) :: ls) (.ref a :: st) h r := ev_aload_n iX8_start_7 rfl rfl
theorem iX8_start_8 : mn_ins 101 8 = some (8, false, .invokevirtual 140, 3) := by decide +kernel
theorem eX8_start_8 : Ev 101 8 (ls) (.ref b :: st) h r ↔ Evr true (decide (mn_cats st ≤ 8) && mn_isc h b 8) 101 8 ls st h.2.2.1 h.2.2.2 (Cl 99 (.ref b :: []) h.1 h.2.1) r := Ev_V (As := []) iX8_start_8 (by decide +kernel) (x := mnI_X8_start) (x2 := mnI_X8_programFault) rfl rfl rfl (by decide +kernel) (Nat.le_of_ble_eq_true rfl) rfl
theorem iX8_start_11 : mn_ins 101 11 = some (8, false, .iconst (-1), 1) := by decide +kernel
theorem eX8_start_11 : Ev 101 11 (ls) (st) h r ↔ Ev 101 12 (ls) (.int (-1) :: st) h r := ev_iconst iX8_start_11 (by decide)
theorem iX8_start_12 : mn_ins 101 12 = some (8, false, .if_icmp .ne 7, 3) := by decide +kernel
theorem eX8_start_12 : Ev 101 12 (ls) (.int y :: .int x :: st) h r ↔ if x = y then Ev 101 15 (ls) (st) h r else Ev 101 19 (ls) (st) h r := ev_cmpne iX8_start_12 (by decide)
theorem iX8_start_15 : mn_ins 101 15 = some (8, false, .iconst 1, 1) := by decide +kernel
theorem eX8_start_15 : Ev 101 15 (ls) (st) h r ↔ Ev 101 16 (ls) (.int (nI 1) :: st) h r := ev_iconst iX8_start_15 (by decide)
theorem iX8_start_16 : mn_ins 101 16 = some (8, false, .goto 4, 3) := by decide +kernel
theorem eX8_start_16 : Ev 101 16 (ls) (st) h r ↔ Ev 101 20 (ls) (st) h r := ev_goto iX8_start_16 (by decide)
theorem iX8_start_19 : mn_ins 101 19 = some (8, false, .iconst 0, 1) := by decide +kernel
theorem eX8_start_19 : Ev 101 19 (ls) (st) h r ↔ Ev 101 20 (ls) (.int (nI 0) :: st) h r := ev_iconst iX8_start_19 (by decide)
theorem iX8_start_20 : mn_ins 101 20 = some (8, false, .istore_n 1, 1) := by decide +kernel
theorem eX8_start_20 : Ev 101 20 (a0 :: a1 :: ls) (.int x :: st) h r ↔ Ev 101 21 (mn_k a0 :: some (.int x) :: ls) (st) h r := ev_istore_n iX8_start_20 (by show 1 < _; simp only [List.length_cons]; omega)
theorem iX8_start_21 : mn_ins 101 21 = some (8, false, .iconst 0, 1) := by decide +kernel
theorem eX8_start_21 : Ev 101 21 (ls) (st) h r ↔ Ev 101 22 (ls) (.int (nI 0) :: st) h r := ev_iconst iX8_start_21 (by decide)
theorem iX8_start_22 : mn_ins 101 22 = some (8, false, .istore_n 2, 1) := by decide +kernel
theorem eX8_start_22 : Ev 101 22 (a0 :: a1 :: a2 :: ls) (.int x :: st) h r ↔ Ev 101 23 (a0 :: mn_k a1 :: some (.int x) :: ls) (st) h r := ev_istore_n iX8_start_22 (by show 2 < _; simp only [List.length_cons]; omega)
theorem iX8_start_23 : mn_ins 101 23 = some (8, false, .iload_n 2, 1) := by decide +kernel
theorem eX8_start_23 : Ev 101 23 (a0 :: a1 :: some (.int x) :: ls) (st) h r ↔ Ev 101 24 (a0 :: a1 :: some (.int x) :: ls) (.int x :: st) h r := ev_iload_n iX8_start_23 rfl
theorem iX8_start_24 : mn_ins 101 24 = some (8, false, .bipush 12, 2) := by decide +kernel
theorem eX8_start_24 : Ev 101 24 (ls) (st) h r ↔ Ev 101 26 (ls) (.int (nI 12) :: st) h r := ev_bipush iX8_start_24 (by decide)
theorem iX8_start_26 : mn_ins 101 26 = some (8, false, .if_icmp .ge 42, 3) := by decide +kernel
theorem eX8_start_26 : Ev 101 26 (ls) (.int y :: .int x :: st) h r ↔ if y ≤ x then Ev 101 68 (ls) (st) h r else Ev 101 29 (ls) (st) h r := ev_cmpge iX8_start_26 (by decide)
theorem iX8_start_29 : mn_ins 101 29 = some (8, false, .iload_n 1, 1) := by decide +kernel
theorem eX8_start_29 : Ev 101 29 (a0 :: some (.int x) :: ls) (st) h r ↔ Ev 101 30 (a0 :: some (.int x) :: ls) (.int x :: st) h r := ev_iload_n iX8_start_29 rfl
theorem iX8_start_30 : mn_ins 101 30 = some (8, false, .ifCond .eq 30, 3) := by decide +kernel
theorem eX8_start_30 : Ev 101 30 (ls) (.int x :: st) h r ↔ if x = nI 0 then Ev 101 60 (ls) (st) h r else Ev 101 33 (ls) (st) h r := ev_ifeq iX8_start_30 (by decide)
theorem iX8_start_33 : mn_ins 101 33 = some (8, false, .aload_n 0, 1) := by decide +kernel
theorem eX8_start_33 : Ev 101 33 (some (.ref a) :: ls) (st) h r ↔ Ev 101 34 (some (.ref a) :: ls) (.ref a :: st) h r := ev_aload_n iX8_start_33 rfl rfl
theorem iX8_start_34 : mn_ins 101 34 = some (8, false, .getfield 23, 3) := by decide +kernel
theorem eX8_start_34 : Ev 101 34 (ls) (.ref a :: st) h r ↔ Evk 101 37 ls (mn_gf h a 8 7) st h r := ev_getf iX8_start_34 (by decide +kernel)
theorem iX8_start_37 : mn_ins 101 37 = some (8, false, .iload_n 2, 1) := by decide +kernel
theorem eX8_start_37 : Ev 101 37 (a0 :: a1 :: some (.int x) :: ls) (st) h r ↔ Ev 101 38 (a0 :: a1 :: some (.int x) :: ls) (.int x :: st) h r := ev_iload_n iX8_start_37 rfl
theorem iX8_start_38 : mn_ins 101 38 = some (8, false, .iaload, 1) := by decide +kernel
theorem eX8_start_38 : Ev 101 38 (ls) (.int x :: .ref a :: st) h r ↔ Evk 101 39 ls (mn_al h a 0 x) st h r := ev_iald iX8_start_38
theorem iX8_start_39 : mn_ins 101 39 = some (8, false, .iconst 3, 1) := by decide +kernel
theorem eX8_start_39 : Ev 101 39 (ls) (st) h r ↔ Ev 101 40 (ls) (.int (nI 3) :: st) h r := ev_iconst iX8_start_39 (by decide)
theorem iX8_start_40 : mn_ins 101 40 = some (8, false, .if_icmp .ne 16, 3) := by decide +kernel
theorem eX8_start_40 : Ev 101 40 (ls) (.int y :: .int x :: st) h r ↔ if x = y then Ev 101 43 (ls) (st) h r else Ev 101 56 (ls) (st) h r := ev_cmpne iX8_start_40 (by decide)
theorem iX8_start_43 : mn_ins 101 43 = some (8, false, .aload_n 0, 1) := by decide +kernel
theorem eX8_start_43 : Ev 101 43 (some (.ref a) :: ls) (st) h r ↔ Ev 101 44 (some (.ref a) :: ls) (.ref a :: st) h r := ev_aload_n iX8_start_43 rfl rfl
theorem iX8_start_44 : mn_ins 101 44 = some (8, false, .getfield 26, 3) := by decide +kernel
theorem eX8_start_44 : Ev 101 44 (ls) (.ref a :: st) h r ↔ Evk 101 47 ls (mn_gf h a 8 8) st h r := ev_getf iX8_start_44 (by decide +kernel)
theorem iX8_start_47 : mn_ins 101 47 = some (8, false, .iload_n 2, 1) := by decide +kernel
theorem eX8_start_47 : Ev 101 47 (a0 :: a1 :: some (.int x) :: ls) (st) h r ↔ Ev 101 48 (a0 :: a1 :: some (.int x) :: ls) (.int x :: st) h r := ev_iload_n iX8_start_47 rfl
theorem iX8_start_48 : mn_ins 101 48 = some (8, false, .iaload, 1) := by decide +kernel
theorem eX8_start_48 : Ev 101 48 (ls) (.int x :: .ref a :: st) h r ↔ Evk 101 49 ls (mn_al h a 0 x) st h r := ev_iald iX8_start_48
theorem iX8_start_49 : mn_ins 101 49 = some (8, false, .aload_n 0, 1) := by decide +kernel
theorem eX8_start_49 : Ev 101 49 (some (.ref a) :: ls) (st) h r ↔ Ev 101 50 (some (.ref a) :: ls) (.ref a :: st) h r := ev_aload_n iX8_start_49 rfl rfl
theorem iX8_start_50 : mn_ins 101 50 = some (8, false, .getfield 108, 3) := by decide +kernel
theorem eX8_start_50 : Ev 101 50 (ls) (.ref a :: st) h r ↔ Evk 101 53 ls (mn_gf h a 8 2) st h r := ev_getf iX8_start_50 (by decide +kernel)
theorem iX8_start_53 : mn_ins 101 53 = some (8, false, .if_icmp .ge 7, 3) := by decide +kernel
theorem eX8_start_53 : Ev 101 53 (ls) (.int y :: .int x :: st) h r ↔ if y ≤ x then Ev 101 60 (ls) (st) h r else Ev 101 56 (ls) (st) h r := ev_cmpge iX8_start_53 (by decide)
theorem iX8_start_56 : mn_ins 101 56 = some (8, false, .iconst 1, 1) := by decide +kernel
theorem eX8_start_56 : Ev 101 56 (ls) (st) h r ↔ Ev 101 57 (ls) (.int (nI 1) :: st) h r := ev_iconst iX8_start_56 (by decide)
theorem iX8_start_57 : mn_ins 101 57 = some (8, false, .goto 4, 3) := by decide +kernel
theorem eX8_start_57 : Ev 101 57 (ls) (st) h r ↔ Ev 101 61 (ls) (st) h r := ev_goto iX8_start_57 (by decide)
theorem iX8_start_60 : mn_ins 101 60 = some (8, false, .iconst 0, 1) := by decide +kernel
theorem eX8_start_60 : Ev 101 60 (ls) (st) h r ↔ Ev 101 61 (ls) (.int (nI 0) :: st) h r := ev_iconst iX8_start_60 (by decide)
theorem iX8_start_61 : mn_ins 101 61 = some (8, false, .istore_n 1, 1) := by decide +kernel
theorem eX8_start_61 : Ev 101 61 (a0 :: a1 :: ls) (.int x :: st) h r ↔ Ev 101 62 (mn_k a0 :: some (.int x) :: ls) (st) h r := ev_istore_n iX8_start_61 (by show 1 < _; simp only [List.length_cons]; omega)
theorem iX8_start_62 : mn_ins 101 62 = some (8, false, .iinc 2 1, 3) := by decide +kernel
theorem eX8_start_62 : Ev 101 62 (a0 :: a1 :: some (.int x) :: ls) (st) h r ↔ Ev 101 65 (a0 :: mn_k a1 :: some (.int (x + (nI 1))) :: ls) (st) h r := ev_iinc iX8_start_62 rfl (by decide)
theorem iX8_start_65 : mn_ins 101 65 = some (8, false, .goto (-42), 3) := by decide +kernel
theorem eX8_start_65 : Ev 101 65 (ls) (st) h r ↔ Ev 101 23 (ls) (st) h r := ev_goto iX8_start_65 (by decide)
theorem iX8_start_68 : mn_ins 101 68 = some (8, false, .aload_n 0, 1) := by decide +kernel
theorem eX8_start_68 : Ev 101 68 (some (.ref a) :: ls) (st) h r ↔ Ev 101 69 (some (.ref a) :: ls) (.ref a :: st) h r := ev_aload_n iX8_start_68 rfl rfl
theorem iX8_start_69 : mn_ins 101 69 = some (8, false, .iload_n 1, 1) := by decide +kernel
theorem eX8_start_69 : Ev 101 69 (a0 :: some (.int x) :: ls) (st) h r ↔ Ev 101 70 (a0 :: some (.int x) :: ls) (.int x :: st) h r := ev_iload_n iX8_start_69 rfl
theorem iX8_start_70 : mn_ins 101 70 = some (8, false, .ifCond .eq 7, 3) := by decide +kernel
theorem eX8_start_70 : Ev 101 70 (ls) (.int x :: st) h r ↔ if x = nI 0 then Ev 101 77 (ls) (st) h r else Ev 101 73 (ls) (st) h r := ev_ifeq iX8_start_70 (by decide)
theorem iX8_start_73 : mn_ins 101 73 = some (8, false, .iconst 0, 1) := by decide +kernel
theorem eX8_start_73 : Ev 101 73 (ls) (st) h r ↔ Ev 101 74 (ls) (.int (nI 0) :: st) h r := ev_iconst iX8_start_73 (by decide)
theorem iX8_start_74 : mn_ins 101 74 = some (8, false, .goto 4, 3) := by decide +kernel
theorem eX8_start_74 : Ev 101 74 (ls) (st) h r ↔ Ev 101 78 (ls) (st) h r := ev_goto iX8_start_74 (by decide)
theorem iX8_start_77 : mn_ins 101 77 = some (8, false, .iconst 1, 1) := by decide +kernel
theorem eX8_start_77 : Ev 101 77 (ls) (st) h r ↔ Ev 101 78 (ls) (.int (nI 1) :: st) h r := ev_iconst iX8_start_77 (by decide)
theorem iX8_start_78 : mn_ins 101 78 = some (8, false, .putfield 94, 3) := by decide +kernel
theorem eX8_start_78 : Ev 101 78 (ls) (w :: .ref a :: st) h r ↔ Evh 101 81 ls st (mn_pf h a 8 0 w) r := ev_putf iX8_start_78 (by decide +kernel) (by decide +kernel)
theorem iX8_start_81 : mn_ins 101 81 = some (8, false, .aload_n 0, 1) := by decide +kernel
theorem eX8_start_81 : Ev 101 81 (some (.ref a) :: ls) (st) h r ↔ Ev 101 82 (some (.ref a) :: ls) (.ref a :: st) h r := ev_aload_n iX8_start_81 rfl rfl
theorem iX8_start_82 : mn_ins 101 82 = some (8, false, .getfield 94, 3) := by decide +kernel
theorem eX8_start_82 : Ev 101 82 (ls) (.ref a :: st) h r ↔ Evk 101 85 ls (mn_gf h a 8 0) st h r := ev_getf iX8_start_82 (by decide +kernel)
theorem iX8_start_85 : mn_ins 101 85 = some (8, false, .ifCond .le 4, 3) := by decide +kernel
theorem eX8_start_85 : Ev 101 85 (ls) (.int x :: st) h r ↔ if x ≤ nI 0 then Ev 101 89 (ls) (st) h r else Ev 101 88 (ls) (st) h r := ev_ifle iX8_start_85 (by decide)
theorem iX8_start_88 : mn_ins 101 88 = some (8, false, .return_, 1) := by decide +kernel
theorem eX8_start_88 : Ev 101 88 (ls) [] h r ↔ r = (h, .inl none) := ev_vret iX8_start_88 (X := mnI_X8_start) rfl rfl
theorem iX8_start_89 : mn_ins 101 89 = some (8, false, .aload_n 0, 1) := by decide +kernel
theorem eX8_start_89 : Ev 101 89 (some (.ref a) :: ls) (st) h r ↔ Ev 101 90 (some (.ref a) :: ls) (.ref a :: st) h r := ev_aload_n iX8_start_89 rfl rfl
theorem iX8_start_90 : mn_ins 101 90 = some (8, false, .iconst 1, 1) := by decide +kernel
theorem eX8_start_90 : Ev 101 90 (ls) (st) h r ↔ Ev 101 91 (ls) (.int (nI 1) :: st) h r := ev_iconst iX8_start_90 (by decide)
theorem iX8_start_91 : mn_ins 101 91 = some (8, false, .putfield 97, 3) := by decide +kernel
theorem eX8_start_91 : Ev 101 91 (ls) (w :: .ref a :: st) h r ↔ Evh 101 94 ls st (mn_pf h a 8 9 w) r := ev_putf iX8_start_91 (by decide +kernel) (by decide +kernel)
theorem iX8_start_94 : mn_ins 101 94 = some (8, false, .aload_n 0, 1) := by decide +kernel
theorem eX8_start_94 : Ev 101 94 (some (.ref a) :: ls) (st) h r ↔ Ev 101 95 (some (.ref a) :: ls) (.ref a :: st) h r := ev_aload_n iX8_start_94 rfl rfl
theorem iX8_start_95 : mn_ins 101 95 = some (8, false, .iconst 0, 1) := by decide +kernel
theorem eX8_start_95 : Ev 101 95 (ls) (st) h r ↔ Ev 101 96 (ls) (.int (nI 0) :: st) h r := ev_iconst iX8_start_95 (by decide)
theorem iX8_start_96 : mn_ins 101 96 = some (8, false, .putfield 144, 3) := by decide +kernel
theorem eX8_start_96 : Ev 101 96 (ls) (w :: .ref a :: st) h r ↔ Evh 101 99 ls st (mn_pf h a 8 11 w) r := ev_putf iX8_start_96 (by decide +kernel) (by decide +kernel)
theorem iX8_start_99 : mn_ins 101 99 = some (8, false, .aload_n 0, 1) := by decide +kernel
theorem eX8_start_99 : Ev 101 99 (some (.ref a) :: ls) (st) h r ↔ Ev 101 100 (some (.ref a) :: ls) (.ref a :: st) h r := ev_aload_n iX8_start_99 rfl rfl
theorem iX8_start_100 : mn_ins 101 100 = some (8, false, .iconst 0, 1) := by decide +kernel
theorem eX8_start_100 : Ev 101 100 (ls) (st) h r ↔ Ev 101 101 (ls) (.int (nI 0) :: st) h r := ev_iconst iX8_start_100 (by decide)
theorem iX8_start_101 : mn_ins 101 101 = some (8, false, .putfield 147, 3) := by decide +kernel
theorem eX8_start_101 : Ev 101 101 (ls) (w :: .ref a :: st) h r ↔ Evh 101 104 ls st (mn_pf h a 8 12 w) r := ev_putf iX8_start_101 (by decide +kernel) (by decide +kernel)
theorem iX8_start_104 : mn_ins 101 104 = some (8, false, .aload_n 0, 1) := by decide +kernel
theorem eX8_start_104 : Ev 101 104 (some (.ref a) :: ls) (st) h r ↔ Ev 101 105 (some (.ref a) :: ls) (.ref a :: st) h r := ev_aload_n iX8_start_104 rfl rfl
theorem iX8_start_105 : mn_ins 101 105 = some (8, false, .iconst 0, 1) := by decide +kernel
theorem eX8_start_105 : Ev 101 105 (ls) (st) h r ↔ Ev 101 106 (ls) (.int (nI 0) :: st) h r := ev_iconst iX8_start_105 (by decide)
theorem iX8_start_106 : mn_ins 101 106 = some (8, false, .putfield 150, 3) := by decide +kernel
theorem eX8_start_106 : Ev 101 106 (ls) (w :: .ref a :: st) h r ↔ Evh 101 109 ls st (mn_pf h a 8 13 w) r := ev_putf iX8_start_106 (by decide +kernel) (by decide +kernel)
theorem iX8_start_109 : mn_ins 101 109 = some (8, false, .iconst 0, 1) := by decide +kernel
theorem eX8_start_109 : Ev 101 109 (ls) (st) h r ↔ Ev 101 110 (ls) (.int (nI 0) :: st) h r := ev_iconst iX8_start_109 (by decide)
theorem iX8_start_110 : mn_ins 101 110 = some (8, false, .istore_n 2, 1) := by decide +kernel
theorem eX8_start_110 : Ev 101 110 (a0 :: a1 :: a2 :: ls) (.int x :: st) h r ↔ Ev 101 111 (a0 :: mn_k a1 :: some (.int x) :: ls) (st) h r := ev_istore_n iX8_start_110 (by show 2 < _; simp only [List.length_cons]; omega)
theorem iX8_start_111 : mn_ins 101 111 = some (8, false, .iload_n 2, 1) := by decide +kernel
theorem eX8_start_111 : Ev 101 111 (a0 :: a1 :: some (.int x) :: ls) (st) h r ↔ Ev 101 112 (a0 :: a1 :: some (.int x) :: ls) (.int x :: st) h r := ev_iload_n iX8_start_111 rfl
theorem iX8_start_112 : mn_ins 101 112 = some (8, false, .bipush 40, 2) := by decide +kernel
theorem eX8_start_112 : Ev 101 112 (ls) (st) h r ↔ Ev 101 114 (ls) (.int (nI 40) :: st) h r := ev_bipush iX8_start_112 (by decide)
theorem iX8_start_114 : mn_ins 101 114 = some (8, false, .if_icmp .ge 16, 3) := by decide +kernel
theorem eX8_start_114 : Ev 101 114 (ls) (.int y :: .int x :: st) h r ↔ if y ≤ x then Ev 101 130 (ls) (st) h r else Ev 101 117 (ls) (st) h r := ev_cmpge iX8_start_114 (by decide)
theorem iX8_start_117 : mn_ins 101 117 = some (8, false, .aload_n 0, 1) := by decide +kernel
theorem eX8_start_117 : Ev 101 117 (some (.ref a) :: ls) (st) h r ↔ Ev 101 118 (some (.ref a) :: ls) (.ref a :: st) h r := ev_aload_n iX8_start_117 rfl rfl
theorem iX8_start_118 : mn_ins 101 118 = some (8, false, .getfield 79, 3) := by decide +kernel
theorem eX8_start_118 : Ev 101 118 (ls) (.ref a :: st) h r ↔ Evk 101 121 ls (mn_gf h a 8 29) st h r := ev_getf iX8_start_118 (by decide +kernel)
theorem iX8_start_121 : mn_ins 101 121 = some (8, false, .iload_n 2, 1) := by decide +kernel
theorem eX8_start_121 : Ev 101 121 (a0 :: a1 :: some (.int x) :: ls) (st) h r ↔ Ev 101 122 (a0 :: a1 :: some (.int x) :: ls) (.int x :: st) h r := ev_iload_n iX8_start_121 rfl
theorem iX8_start_122 : mn_ins 101 122 = some (8, false, .iconst 0, 1) := by decide +kernel
theorem eX8_start_122 : Ev 101 122 (ls) (st) h r ↔ Ev 101 123 (ls) (.int (nI 0) :: st) h r := ev_iconst iX8_start_122 (by decide)
theorem iX8_start_123 : mn_ins 101 123 = some (8, false, .bastore, 1) := by decide +kernel
theorem eX8_start_123 : Ev 101 123 (ls) (.int y :: .int x :: .ref a :: st) h r ↔ Evh 101 124 ls st (mn_asz h a x y) r := ev_bast iX8_start_123
theorem iX8_start_124 : mn_ins 101 124 = some (8, false, .iinc 2 1, 3) := by decide +kernel
theorem eX8_start_124 : Ev 101 124 (a0 :: a1 :: some (.int x) :: ls) (st) h r ↔ Ev 101 127 (a0 :: mn_k a1 :: some (.int (x + (nI 1))) :: ls) (st) h r := ev_iinc iX8_start_124 rfl (by decide)
theorem iX8_start_127 : mn_ins 101 127 = some (8, false, .goto (-16), 3) := by decide +kernel
theorem eX8_start_127 : Ev 101 127 (ls) (st) h r ↔ Ev 101 111 (ls) (st) h r := ev_goto iX8_start_127 (by decide)
theorem iX8_start_130 : mn_ins 101 130 = some (8, false, .aload_n 0, 1) := by decide +kernel
theorem eX8_start_130 : Ev 101 130 (some (.ref a) :: ls) (st) h r ↔ Ev 101 131 (some (.ref a) :: ls) (.ref a :: st) h r := ev_aload_n iX8_start_130 rfl rfl
theorem iX8_start_131 : mn_ins 101 131 = some (8, false, .iconst 0, 1) := by decide +kernel
theorem eX8_start_131 : Ev 101 131 (ls) (st) h r ↔ Ev 101 132 (ls) (.int (nI 0) :: st) h r := ev_iconst iX8_start_131 (by decide)
theorem iX8_start_132 : mn_ins 101 132 = some (8, false, .iconst (-1), 1) := by decide +kernel
theorem eX8_start_132 : Ev 101 132 (ls) (st) h r ↔ Ev 101 133 (ls) (.int (-1) :: st) h r := ev_iconst iX8_start_132 (by decide)
theorem iX8_start_133 : mn_ins 101 133 = some (8, false, .lconst 0, 1) := by decide +kernel
theorem eX8_start_133 : Ev 101 133 (ls) (st) h r ↔ Ev 101 134 (ls) (.long 0 :: st) h r := ev_lconst iX8_start_133 (by decide)
theorem iX8_start_134 : mn_ins 101 134 = some (8, false, .aload_n 0, 1) := by decide +kernel
theorem eX8_start_134 : Ev 101 134 (some (.ref a) :: ls) (st) h r ↔ Ev 101 135 (some (.ref a) :: ls) (.ref a :: st) h r := ev_aload_n iX8_start_134 rfl rfl
theorem iX8_start_135 : mn_ins 101 135 = some (8, false, .iconst (-1), 1) := by decide +kernel
theorem eX8_start_135 : Ev 101 135 (ls) (st) h r ↔ Ev 101 136 (ls) (.int (-1) :: st) h r := ev_iconst iX8_start_135 (by decide)
theorem iX8_start_136 : mn_ins 101 136 = some (8, false, .invokevirtual 153, 3) := by decide +kernel
theorem eX8_start_136 : Ev 101 136 (ls) (.int x0 :: .ref b :: st) h r ↔ Evr true (decide (mn_cats st ≤ 8) && mn_isc h b 8) 101 136 ls st h.2.2.1 h.2.2.2 (Cl 103 (.ref b :: [.int x0]) h.1 h.2.1) r := Ev_V (As := [.int x0]) iX8_start_136 (by decide +kernel) (x := mnI_X8_start) (x2 := mnI_X8_open) rfl rfl rfl (by decide +kernel) (Nat.le_of_ble_eq_true rfl) rfl
theorem iX8_start_139 : mn_ins 101 139 = some (8, false, .iconst (-1), 1) := by decide +kernel
theorem eX8_start_139 : Ev 101 139 (ls) (st) h r ↔ Ev 101 140 (ls) (.int (-1) :: st) h r := ev_iconst iX8_start_139 (by decide)
theorem iX8_start_140 : mn_ins 101 140 = some (8, false, .invokevirtual 156, 3) := by decide +kernel
theorem eX8_start_140 : Ev 101 140 (ls) (.int x4 :: .int x3 :: .long u2 :: .int x1 :: .int x0 :: .ref b :: st) h r ↔ Evr true (decide (mn_cats st ≤ 8) && mn_isc h b 8) 101 140 ls st h.2.2.1 h.2.2.2 (Cl 108 (.ref b :: [.int x0, .int x1, .long u2, .int x3, .int x4]) h.1 h.2.1) r := Ev_V (As := [.int x0, .int x1, .long u2, .int x3, .int x4]) iX8_start_140 (by decide +kernel) (x := mnI_X8_start) (x2 := mnI_X8_beginTask) rfl rfl rfl (by decide +kernel) (Nat.le_of_ble_eq_true rfl) rfl
theorem iX8_start_143 : mn_ins 101 143 = some (8, false, .pop, 1) := by decide +kernel
theorem eX8_start_143 : Ev 101 143 (ls) (.int x :: st) h r ↔ Ev 101 144 (ls) (st) h r := ev_pop iX8_start_143 rfl
theorem eX8_start_143r : Ev 101 143 (ls) (.ref a :: st) h r ↔ Ev 101 144 (ls) (st) h r := ev_pop iX8_start_143 rfl
theorem iX8_start_144 : mn_ins 101 144 = some (8, false, .return_, 1) := by decide +kernel
theorem eX8_start_144 : Ev 101 144 (ls) [] h r ↔ r = (h, .inl none) := ev_vret iX8_start_144 (X := mnI_X8_start) rfl rfl
theorem iX8_reset_0 : mn_ins 102 0 = some (8, false, .aload_n 0, 1) := by decide +kernel
theorem eX8_reset_0 : Ev 102 0 (some (.ref a) :: ls) (st) h r ↔ Ev 102 1 (some (.ref a) :: ls) (.ref a :: st) h r := ev_aload_n iX8_reset_0 rfl rfl
theorem iX8_reset_1 : mn_ins 102 1 = some (8, false, .iconst 0, 1) := by decide +kernel
theorem eX8_reset_1 : Ev 102 1 (ls) (st) h r ↔ Ev 102 2 (ls) (.int (nI 0) :: st) h r := ev_iconst iX8_reset_1 (by decide)
theorem iX8_reset_2 : mn_ins 102 2 = some (8, false, .putfield 94, 3) := by decide +kernel
theorem eX8_reset_2 : Ev 102 2 (ls) (w :: .ref a :: st) h r ↔ Evh 102 5 ls st (mn_pf h a 8 0 w) r := ev_putf iX8_reset_2 (by decide +kernel) (by decide +kernel)
theorem iX8_reset_5 : mn_ins 102 5 = some (8, false, .aload_n 0, 1) := by decide +kernel
theorem eX8_reset_5 : Ev 102 5 (some (.ref a) :: ls) (st) h r ↔ Ev 102 6 (some (.ref a) :: ls) (.ref a :: st) h r := ev_aload_n iX8_reset_5 rfl rfl
theorem iX8_reset_6 : mn_ins 102 6 = some (8, false, .iconst 0, 1) := by decide +kernel
theorem eX8_reset_6 : Ev 102 6 (ls) (st) h r ↔ Ev 102 7 (ls) (.int (nI 0) :: st) h r := ev_iconst iX8_reset_6 (by decide)
theorem iX8_reset_7 : mn_ins 102 7 = some (8, false, .putfield 97, 3) := by decide +kernel
theorem eX8_reset_7 : Ev 102 7 (ls) (w :: .ref a :: st) h r ↔ Evh 102 10 ls st (mn_pf h a 8 9 w) r := ev_putf iX8_reset_7 (by decide +kernel) (by decide +kernel)
theorem iX8_reset_10 : mn_ins 102 10 = some (8, false, .aload_n 0, 1) := by decide +kernel
theorem eX8_reset_10 : Ev 102 10 (some (.ref a) :: ls) (st) h r ↔ Ev 102 11 (some (.ref a) :: ls) (.ref a :: st) h r := ev_aload_n iX8_reset_10 rfl rfl
theorem iX8_reset_11 : mn_ins 102 11 = some (8, false, .iconst 0, 1) := by decide +kernel
theorem eX8_reset_11 : Ev 102 11 (ls) (st) h r ↔ Ev 102 12 (ls) (.int (nI 0) :: st) h r := ev_iconst iX8_reset_11 (by decide)
theorem iX8_reset_12 : mn_ins 102 12 = some (8, false, .putfield 144, 3) := by decide +kernel
theorem eX8_reset_12 : Ev 102 12 (ls) (w :: .ref a :: st) h r ↔ Evh 102 15 ls st (mn_pf h a 8 11 w) r := ev_putf iX8_reset_12 (by decide +kernel) (by decide +kernel)
theorem iX8_reset_15 : mn_ins 102 15 = some (8, false, .return_, 1) := by decide +kernel
theorem eX8_reset_15 : Ev 102 15 (ls) [] h r ↔ r = (h, .inl none) := ev_vret iX8_reset_15 (X := mnI_X8_reset) rfl rfl
end E_41a_rows
