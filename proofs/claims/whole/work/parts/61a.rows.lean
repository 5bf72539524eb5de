section E_61a_rows
variable {ls : List (Option Value)} {st : List Value} {h : mn_S} {r : mn_Res} {a0 a1 a2 a3 a4 a5 a6 a7 a8 a9 a10 a11 a12 a13 : Option Value} {x y : Int32} {u v : Int64} {w w2 w3 w4 w5 w6 w7 w8 : Value} {x0 x1 x2 x3 x4 x5 x6 x7 x8 : Int32} {u0 u1 u2 u3 u4 u5 u6 u7 u8 : Int64} {a b : Nat} {o1 o2 : Option Nat}
theorem iX1_init_0 : mn_ins 6 0 = some (1, true, .aload_n 0, 1) := by decide +kernel
theorem eX1_init_0 : Ev 6 0 (some (.ref a) :: ls) (st) h r ↔ Ev 6 1 (some (.ref a) :: ls) (.ref a :: st) h r := ev_aload_n iX1_init_0 rfl rfl
theorem iX1_init_1 : mn_ins 6 1 = some (1, true, .invokespecial 3, 3) := by decide +kernel
theorem eX1_init_1 (hc : mn_cats st ≤ 8) : Ev 6 1 (ls) (.ref a :: st) h r ↔ Ev 6 4 (ls) (st) h r := Ev_obj iX1_init_1 (q := 0) (by decide +kernel) (x := mnI_X1_init) rfl (by decide) hc
theorem iX1_init_4 : mn_ins 6 4 = some (1, true, .aload_n 0, 1) := by decide +kernel
theorem eX1_init_4 : Ev 6 4 (some (.ref a) :: ls) (st) h r ↔ Ev 6 5 (some (.ref a) :: ls) (.ref a :: st) h r := ev_aload_n iX1_init_4 rfl rfl
theorem iX1_init_5 : mn_ins 6 5 = some (1, true, .iload_n 1, 1) := by decide +kernel
theorem eX1_init_5 : Ev 6 5 (a0 :: some (.int x) :: ls) (st) h r ↔ Ev 6 6 (a0 :: some (.int x) :: ls) (.int x :: st) h r := ev_iload_n iX1_init_5 rfl
theorem iX1_init_6 : mn_ins 6 6 = some (1, true, .putfield 9, 3) := by decide +kernel
theorem eX1_init_6 : Ev 6 6 (ls) (w :: .ref a :: st) h r ↔ Evh 6 9 ls st (mn_pf h a 1 0 w) r := ev_putf iX1_init_6 (by decide +kernel) (by decide +kernel)
theorem iX1_init_9 : mn_ins 6 9 = some (1, true, .iload_n 1, 1) := by decide +kernel
theorem eX1_init_9 : Ev 6 9 (a0 :: some (.int x) :: ls) (st) h r ↔ Ev 6 10 (a0 :: some (.int x) :: ls) (.int x :: st) h r := ev_iload_n iX1_init_9 rfl
theorem iX1_init_10 : mn_ins 6 10 = some (1, true, .ifCond .eq 8, 3) := by decide +kernel
theorem eX1_init_10 : Ev 6 10 (ls) (.int x :: st) h r ↔ if x = nI 0 then Ev 6 18 (ls) (st) h r else Ev 6 13 (ls) (st) h r := ev_ifeq iX1_init_10 (by decide)
theorem iX1_init_13 : mn_ins 6 13 = some (1, true, .bipush 12, 2) := by decide +kernel
theorem eX1_init_13 : Ev 6 13 (ls) (st) h r ↔ Ev 6 15 (ls) (.int (nI 12) :: st) h r := ev_bipush iX1_init_13 (by decide)
theorem iX1_init_15 : mn_ins 6 15 = some (1, true, .goto 5, 3) := by decide +kernel
theorem eX1_init_15 : Ev 6 15 (ls) (st) h r ↔ Ev 6 20 (ls) (st) h r := ev_goto iX1_init_15 (by decide)
theorem iX1_init_18 : mn_ins 6 18 = some (1, true, .bipush 24, 2) := by decide +kernel
theorem eX1_init_18 : Ev 6 18 (ls) (st) h r ↔ Ev 6 20 (ls) (.int (nI 24) :: st) h r := ev_bipush iX1_init_18 (by decide)
theorem iX1_init_20 : mn_ins 6 20 = some (1, true, .istore_n 2, 1) := by decide +kernel
theorem eX1_init_20 : Ev 6 20 (a0 :: a1 :: a2 :: ls) (.int x :: st) h r ↔ Ev 6 21 (a0 :: mn_k a1 :: some (.int x) :: ls) (st) h r := ev_istore_n iX1_init_20 (by show 2 < _; simp only [List.length_cons]; omega)
theorem iX1_init_21 : mn_ins 6 21 = some (1, true, .aload_n 0, 1) := by decide +kernel
theorem eX1_init_21 : Ev 6 21 (some (.ref a) :: ls) (st) h r ↔ Ev 6 22 (some (.ref a) :: ls) (.ref a :: st) h r := ev_aload_n iX1_init_21 rfl rfl
theorem iX1_init_22 : mn_ins 6 22 = some (1, true, .iload_n 2, 1) := by decide +kernel
theorem eX1_init_22 : Ev 6 22 (a0 :: a1 :: some (.int x) :: ls) (st) h r ↔ Ev 6 23 (a0 :: a1 :: some (.int x) :: ls) (.int x :: st) h r := ev_iload_n iX1_init_22 rfl
theorem iX1_init_23 : mn_ins 6 23 = some (1, true, .newarray .int, 2) := by decide +kernel
theorem eX1_init_23 : Ev 6 23 (ls) (.int x :: st) h r ↔ Evn 6 25 ls st (mn_na h 0 x) r := ev_newi iX1_init_23
theorem iX1_init_25 : mn_ins 6 25 = some (1, true, .putfield 15, 3) := by decide +kernel
theorem eX1_init_25 : Ev 6 25 (ls) (w :: .ref a :: st) h r ↔ Evh 6 28 ls st (mn_pf h a 1 1 w) r := ev_putf iX1_init_25 (by decide +kernel) (by decide +kernel)
theorem iX1_init_28 : mn_ins 6 28 = some (1, true, .aload_n 0, 1) := by decide +kernel
theorem eX1_init_28 : Ev 6 28 (some (.ref a) :: ls) (st) h r ↔ Ev 6 29 (some (.ref a) :: ls) (.ref a :: st) h r := ev_aload_n iX1_init_28 rfl rfl
theorem iX1_init_29 : mn_ins 6 29 = some (1, true, .iload_n 2, 1) := by decide +kernel
theorem eX1_init_29 : Ev 6 29 (a0 :: a1 :: some (.int x) :: ls) (st) h r ↔ Ev 6 30 (a0 :: a1 :: some (.int x) :: ls) (.int x :: st) h r := ev_iload_n iX1_init_29 rfl
theorem iX1_init_30 : mn_ins 6 30 = some (1, true, .newarray .int, 2) := by decide +kernel
theorem eX1_init_30 : Ev 6 30 (ls) (.int x :: st) h r ↔ Evn 6 32 ls st (mn_na h 0 x) r := ev_newi iX1_init_30
theorem iX1_init_32 : mn_ins 6 32 = some (1, true, .putfield 19, 3) := by decide +kernel
theorem eX1_init_32 : Ev 6 32 (ls) (w :: .ref a :: st) h r ↔ Evh 6 35 ls st (mn_pf h a 1 2 w) r := ev_putf iX1_init_32 (by decide +kernel) (by decide +kernel)
theorem iX1_init_35 : mn_ins 6 35 = some (1, true, .return_, 1) := by decide +kernel
theorem eX1_init_35 : Ev 6 35 (ls) [] h r ↔ r = (h, .inl none) := ev_vret iX1_init_35 (X := mnI_X1_init) rfl rfl
theorem iX1_isFull_0 : mn_ins 7 0 = some (1, false, .aload_n 0, 1) := by decide +kernel
theorem eX1_isFull_0 : Ev 7 0 (some (.ref a) :: ls) (st) h r ↔ Ev 7 1 (some (.ref a) :: ls) (.ref a :: st) h r := ev_aload_n iX1_isFull_0 rfl rfl
theorem iX1_isFull_1 : mn_ins 7 1 = some (1, false, .getfield 22, 3) := by decide +kernel
theorem eX1_isFull_1 : Ev 7 1 (ls) (.ref a :: st) h r ↔ Evk 7 4 ls (mn_gf h a 1 3) st h r := ev_getf iX1_isFull_1 (by decide +kernel)
theorem iX1_isFull_4 : mn_ins 7 4 = some (1, false, .aload_n 0, 1) := by decide +kernel
theorem eX1_isFull_4 : Ev 7 4 (some (.ref a) :: ls) (st) h r ↔ Ev 7 5 (some (.ref a) :: ls) (.ref a :: st) h r := ev_aload_n iX1_isFull_4 rfl rfl
theorem iX1_isFull_5 : mn_ins 7 5 = some (1, false, .getfield 15, 3) := by decide +kernel
theorem eX1_isFull_5 : Ev 7 5 (ls) (.ref a :: st) h r ↔ Evk 7 8 ls (mn_gf h a 1 1) st h r := ev_getf iX1_isFull_5 (by decide +kernel)
theorem iX1_isFull_8 : mn_ins 7 8 = some (1, false, .arraylength, 1) := by decide +kernel
theorem eX1_isFull_8 : Ev 7 8 (ls) (.ref a :: st) h r ↔ Evk 7 9 ls (mn_len h a) st h r := ev_alen iX1_isFull_8
theorem iX1_isFull_9 : mn_ins 7 9 = some (1, false, .if_icmp .lt 7, 3) := by decide +kernel
theorem eX1_isFull_9 : Ev 7 9 (ls) (.int y :: .int x :: st) h r ↔ if x < y then Ev 7 16 (ls) (st) h r else Ev 7 12 (ls) (st) h r := ev_cmplt iX1_isFull_9 (by decide)
theorem iX1_isFull_12 : mn_ins 7 12 = some (1, false, .iconst 1, 1) := by decide +kernel
theorem eX1_isFull_12 : Ev 7 12 (ls) (st) h r ↔ Ev 7 13 (ls) (.int (nI 1) :: st) h r := ev_iconst iX1_isFull_12 (by decide)
theorem iX1_isFull_13 : mn_ins 7 13 = some (1, false, .goto 4, 3) := by decide +kernel
theorem eX1_isFull_13 : Ev 7 13 (ls) (st) h r ↔ Ev 7 17 (ls) (st) h r := ev_goto iX1_isFull_13 (by decide)
theorem iX1_isFull_16 : mn_ins 7 16 = some (1, false, .iconst 0, 1) := by decide +kernel
theorem eX1_isFull_16 : Ev 7 16 (ls) (st) h r ↔ Ev 7 17 (ls) (.int (nI 0) :: st) h r := ev_iconst iX1_isFull_16 (by decide)
theorem iX1_isFull_17 : mn_ins 7 17 = some (1, false, .ireturn, 1) := by decide +kernel
theorem eX1_isFull_17 (hx : x = 0 ∨ x = 1) : Ev 7 17 (ls) [.int x] h r ↔ r = (h, .inl (some (.int x))) := ev_zret iX1_isFull_17 (X := mnI_X1_isFull) rfl rfl hx
theorem iX1_append_0 : mn_ins 8 0 = some (1, false, .aload_n 0, 1) := by decide +kernel
theorem eX1_append_0 : Ev 8 0 (some (.ref a) :: ls) (st) h r ↔ Ev 8 1 (some (.ref a) :: ls) (.ref a :: st) h r := ev_aload_n iX1_append_0 rfl rfl
theorem iX1_append_1 : mn_ins 8 1 = some (1, false, .invokevirtual 26, 3) := by decide +kernel
theorem eX1_append_1 : Ev 8 1 (ls) (.ref b :: st) h r ↔ Evr true (decide (mn_cats st ≤ 8) && mn_isc h b 1) 8 1 ls st h.2.2.1 h.2.2.2 (Cl 7 (.ref b :: []) h.1 h.2.1) r := Ev_V (As := []) iX1_append_1 (by decide +kernel) (x := mnI_X1_append) (x2 := mnI_X1_isFull) rfl rfl rfl (by decide +kernel) (Nat.le_of_ble_eq_true rfl) rfl
theorem iX1_append_4 : mn_ins 8 4 = some (1, false, .ifCond .ne 33, 3) := by decide +kernel
theorem eX1_append_4 : Ev 8 4 (ls) (.int x :: st) h r ↔ if x = nI 0 then Ev 8 7 (ls) (st) h r else Ev 8 37 (ls) (st) h r := ev_ifne iX1_append_4 (by decide)
theorem iX1_append_7 : mn_ins 8 7 = some (1, false, .aload_n 0, 1) := by decide +kernel
theorem eX1_append_7 : Ev 8 7 (some (.ref a) :: ls) (st) h r ↔ Ev 8 8 (some (.ref a) :: ls) (.ref a :: st) h r := ev_aload_n iX1_append_7 rfl rfl
theorem iX1_append_8 : mn_ins 8 8 = some (1, false, .getfield 15, 3) := by decide +kernel
theorem eX1_append_8 : Ev 8 8 (ls) (.ref a :: st) h r ↔ Evk 8 11 ls (mn_gf h a 1 1) st h r := ev_getf iX1_append_8 (by decide +kernel)
theorem iX1_append_11 : mn_ins 8 11 = some (1, false, .aload_n 0, 1) := by decide +kernel
theorem eX1_append_11 : Ev 8 11 (some (.ref a) :: ls) (st) h r ↔ Ev 8 12 (some (.ref a) :: ls) (.ref a :: st) h r := ev_aload_n iX1_append_11 rfl rfl
theorem iX1_append_12 : mn_ins 8 12 = some (1, false, .getfield 22, 3) := by decide +kernel
theorem eX1_append_12 : Ev 8 12 (ls) (.ref a :: st) h r ↔ Evk 8 15 ls (mn_gf h a 1 3) st h r := ev_getf iX1_append_12 (by decide +kernel)
theorem iX1_append_15 : mn_ins 8 15 = some (1, false, .iload_n 1, 1) := by decide +kernel
theorem eX1_append_15 : Ev 8 15 (a0 :: some (.int x) :: ls) (st) h r ↔ Ev 8 16 (a0 :: some (.int x) :: ls) (.int x :: st) h r := ev_iload_n iX1_append_15 rfl
theorem iX1_append_16 : mn_ins 8 16 = some (1, false, .iastore, 1) := by decide +kernel
theorem eX1_append_16 : Ev 8 16 (ls) (.int y :: .int x :: .ref a :: st) h r ↔ Evh 8 17 ls st (mn_asi h a x y) r := ev_iast iX1_append_16
theorem iX1_append_17 : mn_ins 8 17 = some (1, false, .aload_n 0, 1) := by decide +kernel
theorem eX1_append_17 : Ev 8 17 (some (.ref a) :: ls) (st) h r ↔ Ev 8 18 (some (.ref a) :: ls) (.ref a :: st) h r := ev_aload_n iX1_append_17 rfl rfl
theorem iX1_append_18 : mn_ins 8 18 = some (1, false, .getfield 19, 3) := by decide +kernel
theorem eX1_append_18 : Ev 8 18 (ls) (.ref a :: st) h r ↔ Evk 8 21 ls (mn_gf h a 1 2) st h r := ev_getf iX1_append_18 (by decide +kernel)
theorem iX1_append_21 : mn_ins 8 21 = some (1, false, .aload_n 0, 1) := by decide +kernel
theorem eX1_append_21 : Ev 8 21 (some (.ref a) :: ls) (st) h r ↔ Ev 8 22 (some (.ref a) :: ls) (.ref a :: st) h r := ev_aload_n iX1_append_21 rfl rfl
theorem iX1_append_22 : mn_ins 8 22 = some (1, false, .getfield 22, 3) := by decide +kernel
theorem eX1_append_22 : Ev 8 22 (ls) (.ref a :: st) h r ↔ Evk 8 25 ls (mn_gf h a 1 3) st h r := ev_getf iX1_append_22 (by decide +kernel)
theorem iX1_append_25 : mn_ins 8 25 = some (1, false, .iload_n 2, 1) := by decide +kernel
theorem eX1_append_25 : Ev 8 25 (a0 :: a1 :: some (.int x) :: ls) (st) h r ↔ Ev 8 26 (a0 :: a1 :: some (.int x) :: ls) (.int x :: st) h r := ev_iload_n iX1_append_25 rfl
theorem iX1_append_26 : mn_ins 8 26 = some (1, false, .iastore, 1) := by decide +kernel
theorem eX1_append_26 : Ev 8 26 (ls) (.int y :: .int x :: .ref a :: st) h r ↔ Evh 8 27 ls st (mn_asi h a x y) r := ev_iast iX1_append_26
theorem iX1_append_27 : mn_ins 8 27 = some (1, false, .aload_n 0, 1) := by decide +kernel
theorem eX1_append_27 : Ev 8 27 (some (.ref a) :: ls) (st) h r ↔ Ev 8 28 (some (.ref a) :: ls) (.ref a :: st) h r := ev_aload_n iX1_append_27 rfl rfl
theorem iX1_append_28 : mn_ins 8 28 = some (1, false, .dup, 1) := by decide +kernel
theorem eX1_append_28 : Ev 8 28 (ls) (.ref a :: st) h r ↔ Ev 8 29 (ls) (.ref a :: .ref a :: st) h r := ev_dup iX1_append_28 rfl
theorem iX1_append_29 : mn_ins 8 29 = some (1, false, .getfield 22, 3) := by decide +kernel
theorem eX1_append_29 : Ev 8 29 (ls) (.ref a :: st) h r ↔ Evk 8 32 ls (mn_gf h a 1 3) st h r := ev_getf iX1_append_29 (by decide +kernel)
theorem iX1_append_32 : mn_ins 8 32 = some (1, false, .iconst 1, 1) := by decide +kernel
theorem eX1_append_32 : Ev 8 32 (ls) (st) h r ↔ Ev 8 33 (ls) (.int (nI 1) :: st) h r := ev_iconst iX1_append_32 (by decide)
theorem iX1_append_33 : mn_ins 8 33 = some (1, false, .iadd, 1) := by decide +kernel
theorem eX1_append_33 : Ev 8 33 (ls) (.int y :: .int x :: st) h r ↔ Ev 8 34 (ls) (.int (x + y) :: st) h r := ev_iadd iX1_append_33
theorem iX1_append_34 : mn_ins 8 34 = some (1, false, .putfield 22, 3) := by decide +kernel
theorem eX1_append_34 : Ev 8 34 (ls) (w :: .ref a :: st) h r ↔ Evh 8 37 ls st (mn_pf h a 1 3 w) r := ev_putf iX1_append_34 (by decide +kernel) (by decide +kernel)
theorem iX1_append_37 : mn_ins 8 37 = some (1, false, .aload_n 0, 1) := by decide +kernel
theorem eX1_append_37 : Ev 8 37 (some (.ref a) :: ls) (st) h r ↔ Ev 8 38 (some (.ref a) :: ls) (.ref a :: st) h r := ev_aload_n iX1_append_37 rfl rfl
theorem iX1_append_38 : mn_ins 8 38 = some (1, false, .getfield 22, 3) := by decide +kernel
theorem eX1_append_38 : Ev 8 38 (ls) (.ref a :: st) h r ↔ Evk 8 41 ls (mn_gf h a 1 3) st h r := ev_getf iX1_append_38 (by decide +kernel)
theorem iX1_append_41 : mn_ins 8 41 = some (1, false, .ireturn, 1) := by decide +kernel
theorem eX1_append_41 : Ev 8 41 (ls) [.int x] h r ↔ r = (h, .inl (some (.int x))) := ev_iret iX1_append_41 (X := mnI_X1_append) rfl rfl
theorem iX1_operationAt_0 : mn_ins 9 0 = some (1, false, .iload_n 1, 1) := by decide +kernel
theorem eX1_operationAt_0 : Ev 9 0 (a0 :: some (.int x) :: ls) (st) h r ↔ Ev 9 1 (a0 :: some (.int x) :: ls) (.int x :: st) h r := ev_iload_n iX1_operationAt_0 rfl
theorem iX1_operationAt_1 : mn_ins 9 1 = some (1, false, .ifCond .lt 20, 3) := by decide +kernel
theorem eX1_operationAt_1 : Ev 9 1 (ls) (.int x :: st) h r ↔ if x < nI 0 then Ev 9 21 (ls) (st) h r else Ev 9 4 (ls) (st) h r := ev_iflt iX1_operationAt_1 (by decide)
theorem iX1_operationAt_4 : mn_ins 9 4 = some (1, false, .iload_n 1, 1) := by decide +kernel
theorem eX1_operationAt_4 : Ev 9 4 (a0 :: some (.int x) :: ls) (st) h r ↔ Ev 9 5 (a0 :: some (.int x) :: ls) (.int x :: st) h r := ev_iload_n iX1_operationAt_4 rfl
theorem iX1_operationAt_5 : mn_ins 9 5 = some (1, false, .aload_n 0, 1) := by decide +kernel
theorem eX1_operationAt_5 : Ev 9 5 (some (.ref a) :: ls) (st) h r ↔ Ev 9 6 (some (.ref a) :: ls) (.ref a :: st) h r := ev_aload_n iX1_operationAt_5 rfl rfl
theorem iX1_operationAt_6 : mn_ins 9 6 = some (1, false, .getfield 22, 3) := by decide +kernel
theorem eX1_operationAt_6 : Ev 9 6 (ls) (.ref a :: st) h r ↔ Evk 9 9 ls (mn_gf h a 1 3) st h r := ev_getf iX1_operationAt_6 (by decide +kernel)
theorem iX1_operationAt_9 : mn_ins 9 9 = some (1, false, .if_icmp .ge 12, 3) := by decide +kernel
theorem eX1_operationAt_9 : Ev 9 9 (ls) (.int y :: .int x :: st) h r ↔ if y ≤ x then Ev 9 21 (ls) (st) h r else Ev 9 12 (ls) (st) h r := ev_cmpge iX1_operationAt_9 (by decide)
theorem iX1_operationAt_12 : mn_ins 9 12 = some (1, false, .aload_n 0, 1) := by decide +kernel
theorem eX1_operationAt_12 : Ev 9 12 (some (.ref a) :: ls) (st) h r ↔ Ev 9 13 (some (.ref a) :: ls) (.ref a :: st) h r := ev_aload_n iX1_operationAt_12 rfl rfl
theorem iX1_operationAt_13 : mn_ins 9 13 = some (1, false, .getfield 15, 3) := by decide +kernel
theorem eX1_operationAt_13 : Ev 9 13 (ls) (.ref a :: st) h r ↔ Evk 9 16 ls (mn_gf h a 1 1) st h r := ev_getf iX1_operationAt_13 (by decide +kernel)
theorem iX1_operationAt_16 : mn_ins 9 16 = some (1, false, .iload_n 1, 1) := by decide +kernel
theorem eX1_operationAt_16 : Ev 9 16 (a0 :: some (.int x) :: ls) (st) h r ↔ Ev 9 17 (a0 :: some (.int x) :: ls) (.int x :: st) h r := ev_iload_n iX1_operationAt_16 rfl
theorem iX1_operationAt_17 : mn_ins 9 17 = some (1, false, .iaload, 1) := by decide +kernel
theorem eX1_operationAt_17 : Ev 9 17 (ls) (.int x :: .ref a :: st) h r ↔ Evk 9 18 ls (mn_al h a 0 x) st h r := ev_iald iX1_operationAt_17
theorem iX1_operationAt_18 : mn_ins 9 18 = some (1, false, .goto 5, 3) := by decide +kernel
theorem eX1_operationAt_18 : Ev 9 18 (ls) (st) h r ↔ Ev 9 23 (ls) (st) h r := ev_goto iX1_operationAt_18 (by decide)
theorem iX1_operationAt_21 : mn_ins 9 21 = some (1, false, .bipush 16, 2) := by decide +kernel
theorem eX1_operationAt_21 : Ev 9 21 (ls) (st) h r ↔ Ev 9 23 (ls) (.int (nI 16) :: st) h r := ev_bipush iX1_operationAt_21 (by decide)
theorem iX1_operationAt_23 : mn_ins 9 23 = some (1, false, .ireturn, 1) := by decide +kernel
theorem eX1_operationAt_23 : Ev 9 23 (ls) [.int x] h r ↔ r = (h, .inl (some (.int x))) := ev_iret iX1_operationAt_23 (X := mnI_X1_operationAt) rfl rfl
theorem iX1_argumentAt_0 : mn_ins 10 0 = some (1, false, .iload_n 1, 1) := by decide +kernel
theorem eX1_argumentAt_0 : Ev 10 0 (a0 :: some (.int x) :: ls) (st) h r ↔ Ev 10 1 (a0 :: some (.int x) :: ls) (.int x :: st) h r := ev_iload_n iX1_argumentAt_0 rfl
theorem iX1_argumentAt_1 : mn_ins 10 1 = some (1, false, .ifCond .lt 20, 3) := by decide +kernel
theorem eX1_argumentAt_1 : Ev 10 1 (ls) (.int x :: st) h r ↔ if x < nI 0 then Ev 10 21 (ls) (st) h r else Ev 10 4 (ls) (st) h r := ev_iflt iX1_argumentAt_1 (by decide)
theorem iX1_argumentAt_4 : mn_ins 10 4 = some (1, false, .iload_n 1, 1) := by decide +kernel
theorem eX1_argumentAt_4 : Ev 10 4 (a0 :: some (.int x) :: ls) (st) h r ↔ Ev 10 5 (a0 :: some (.int x) :: ls) (.int x :: st) h r := ev_iload_n iX1_argumentAt_4 rfl
theorem iX1_argumentAt_5 : mn_ins 10 5 = some (1, false, .aload_n 0, 1) := by decide +kernel
theorem eX1_argumentAt_5 : Ev 10 5 (some (.ref a) :: ls) (st) h r ↔ Ev 10 6 (some (.ref a) :: ls) (.ref a :: st) h r := ev_aload_n iX1_argumentAt_5 rfl rfl
theorem iX1_argumentAt_6 : mn_ins 10 6 = some (1, false, .getfield 22, 3) := by decide +kernel
theorem eX1_argumentAt_6 : Ev 10 6 (ls) (.ref a :: st) h r ↔ Evk 10 9 ls (mn_gf h a 1 3) st h r := ev_getf iX1_argumentAt_6 (by decide +kernel)
theorem iX1_argumentAt_9 : mn_ins 10 9 = some (1, false, .if_icmp .ge 12, 3) := by decide +kernel
theorem eX1_argumentAt_9 : Ev 10 9 (ls) (.int y :: .int x :: st) h r ↔ if y ≤ x then Ev 10 21 (ls) (st) h r else Ev 10 12 (ls) (st) h r := ev_cmpge iX1_argumentAt_9 (by decide)
theorem iX1_argumentAt_12 : mn_ins 10 12 = some (1, false, .aload_n 0, 1) := by decide +kernel
theorem eX1_argumentAt_12 : Ev 10 12 (some (.ref a) :: ls) (st) h r ↔ Ev 10 13 (some (.ref a) :: ls) (.ref a :: st) h r := ev_aload_n iX1_argumentAt_12 rfl rfl
theorem iX1_argumentAt_13 : mn_ins 10 13 = some (1, false, .getfield 19, 3) := by decide +kernel
theorem eX1_argumentAt_13 : Ev 10 13 (ls) (.ref a :: st) h r ↔ Evk 10 16 ls (mn_gf h a 1 2) st h r := ev_getf iX1_argumentAt_13 (by decide +kernel)
theorem iX1_argumentAt_16 : mn_ins 10 16 = some (1, false, .iload_n 1, 1) := by decide +kernel
theorem eX1_argumentAt_16 : Ev 10 16 (a0 :: some (.int x) :: ls) (st) h r ↔ Ev 10 17 (a0 :: some (.int x) :: ls) (.int x :: st) h r := ev_iload_n iX1_argumentAt_16 rfl
theorem iX1_argumentAt_17 : mn_ins 10 17 = some (1, false, .iaload, 1) := by decide +kernel
theorem eX1_argumentAt_17 : Ev 10 17 (ls) (.int x :: .ref a :: st) h r ↔ Evk 10 18 ls (mn_al h a 0 x) st h r := ev_iald iX1_argumentAt_17
theorem iX1_argumentAt_18 : mn_ins 10 18 = some (1, false, .goto 4, 3) := by decide +kernel
theorem eX1_argumentAt_18 : Ev 10 18 (ls) (st) h r ↔ Ev 10 22 (ls) (st) h r := ev_goto iX1_argumentAt_18 (by decide)
theorem iX1_argumentAt_21 : mn_ins 10 21 = some (1, false, .iconst 0, 1) := by decide +kernel
theorem eX1_argumentAt_21 : Ev 10 21 (ls) (st) h r ↔ Ev 10 22 (ls) (.int (nI 0) :: st) h r := ev_iconst iX1_argumentAt_21 (by decide)
theorem iX1_argumentAt_22 : mn_ins 10 22 = some (1, false, .ireturn, 1) := by decide +kernel
theorem eX1_argumentAt_22 : Ev 10 22 (ls) [.int x] h r ↔ r = (h, .inl (some (.int x))) := ev_iret iX1_argumentAt_22 (X := mnI_X1_argumentAt) rfl rfl
theorem iX2_init_0 : mn_ins 11 0 = some (2, true, .aload_n 0, 1) := by decide +kernel
theorem eX2_init_0 : Ev 11 0 (some (.ref a) :: ls) (st) h r ↔ Ev 11 1 (some (.ref a) :: ls) (.ref a :: st) h r := ev_aload_n iX2_init_0 rfl rfl
theorem iX2_init_1 : mn_ins 11 1 = some (2, true, .invokespecial 3, 3) := by decide +kernel
theorem eX2_init_1 (hc : mn_cats st ≤ 8) : Ev 11 1 (ls) (.ref a :: st) h r ↔ Ev 11 4 (ls) (st) h r := Ev_obj iX2_init_1 (q := 0) (by decide +kernel) (x := mnI_X2_init) rfl (by decide) hc
theorem iX2_init_4 : mn_ins 11 4 = some (2, true, .aload_n 0, 1) := by decide +kernel
theorem eX2_init_4 : Ev 11 4 (some (.ref a) :: ls) (st) h r ↔ Ev 11 5 (some (.ref a) :: ls) (.ref a :: st) h r := ev_aload_n iX2_init_4 rfl rfl
theorem iX2_init_5 : mn_ins 11 5 = some (2, true, .bipush 7, 2) := by decide +kernel
theorem eX2_init_5 : Ev 11 5 (ls) (st) h r ↔ Ev 11 7 (ls) (.int (nI 7) :: st) h r := ev_bipush iX2_init_5 (by decide)
theorem iX2_init_7 : mn_ins 11 7 = some (2, true, .newarray .long, 2) := by decide +kernel
theorem eX2_init_7 : Ev 11 7 (ls) (.int x :: st) h r ↔ Evn 11 9 ls st (mn_na h 1 x) r := ev_newl iX2_init_7
theorem iX2_init_9 : mn_ins 11 9 = some (2, true, .putfield 9, 3) := by decide +kernel
theorem eX2_init_9 : Ev 11 9 (ls) (w :: .ref a :: st) h r ↔ Evh 11 12 ls st (mn_pf h a 2 0 w) r := ev_putf iX2_init_9 (by decide +kernel) (by decide +kernel)
theorem iX2_init_12 : mn_ins 11 12 = some (2, true, .aload_n 0, 1) := by decide +kernel
theorem eX2_init_12 : Ev 11 12 (some (.ref a) :: ls) (st) h r ↔ Ev 11 13 (some (.ref a) :: ls) (.ref a :: st) h r := ev_aload_n iX2_init_12 rfl rfl
theorem iX2_init_13 : mn_ins 11 13 = some (2, true, .iconst 4, 1) := by decide +kernel
theorem eX2_init_13 : Ev 11 13 (ls) (st) h r ↔ Ev 11 14 (ls) (.int (nI 4) :: st) h r := ev_iconst iX2_init_13 (by decide)
theorem iX2_init_14 : mn_ins 11 14 = some (2, true, .newarray .long, 2) := by decide +kernel
theorem eX2_init_14 : Ev 11 14 (ls) (.int x :: st) h r ↔ Evn 11 16 ls st (mn_na h 1 x) r := ev_newl iX2_init_14
theorem iX2_init_16 : mn_ins 11 16 = some (2, true, .putfield 15, 3) := by decide +kernel
theorem eX2_init_16 : Ev 11 16 (ls) (w :: .ref a :: st) h r ↔ Evh 11 19 ls st (mn_pf h a 2 1 w) r := ev_putf iX2_init_16 (by decide +kernel) (by decide +kernel)
theorem iX2_init_19 : mn_ins 11 19 = some (2, true, .return_, 1) := by decide +kernel
theorem eX2_init_19 : Ev 11 19 (ls) [] h r ↔ r = (h, .inl none) := ev_vret iX2_init_19 (X := mnI_X2_init) rfl rfl
theorem iX2_begin_0 : mn_ins 12 0 = some (2, false, .aload_n 0, 1) := by decide +kernel
theorem eX2_begin_0 : Ev 12 0 (some (.ref a) :: ls) (st) h r ↔ Ev 12 1 (some (.ref a) :: ls) (.ref a :: st) h r := ev_aload_n iX2_begin_0 rfl rfl
theorem iX2_begin_1 : mn_ins 12 1 = some (2, false, .aload_n 1, 1) := by decide +kernel
theorem eX2_begin_1 : Ev 12 1 (a0 :: some (.ref a) :: ls) (st) h r ↔ Ev 12 2 (a0 :: some (.ref a) :: ls) (.ref a :: st) h r := ev_aload_n iX2_begin_1 rfl rfl
theorem eX2_begin_1n : Ev 12 1 (a0 :: some (.null) :: ls) (st) h r ↔ Ev 12 2 (a0 :: some (.null) :: ls) (.null :: st) h r := ev_aload_n iX2_begin_1 rfl rfl
theorem eX2_begin_1t : Ev 12 1 (a0 :: some (tkv o1) :: ls) (st) h r ↔ Ev 12 2 (a0 :: some (tkv o1) :: ls) (tkv o1 :: st) h r := ev_aload_n iX2_begin_1 rfl tkv_r
theorem eX2_begin_1s : Ev 12 1 (a0 :: some (sgv o1) :: ls) (st) h r ↔ Ev 12 2 (a0 :: some (sgv o1) :: ls) (sgv o1 :: st) h r := ev_aload_n iX2_begin_1 rfl sgv_r
theorem eX2_begin_1c : Ev 12 1 (a0 :: some (cdv o1) :: ls) (st) h r ↔ Ev 12 2 (a0 :: some (cdv o1) :: ls) (cdv o1 :: st) h r := ev_aload_n iX2_begin_1 rfl cdv_r
theorem iX2_begin_2 : mn_ins 12 2 = some (2, false, .putfield 18, 3) := by decide +kernel
theorem eX2_begin_2 : Ev 12 2 (ls) (w :: .ref a :: st) h r ↔ Evh 12 5 ls st (mn_pf h a 2 2 w) r := ev_putf iX2_begin_2 (by decide +kernel) (by decide +kernel)
theorem iX2_begin_5 : mn_ins 12 5 = some (2, false, .aload_n 0, 1) := by decide +kernel
theorem eX2_begin_5 : Ev 12 5 (some (.ref a) :: ls) (st) h r ↔ Ev 12 6 (some (.ref a) :: ls) (.ref a :: st) h r := ev_aload_n iX2_begin_5 rfl rfl
theorem iX2_begin_6 : mn_ins 12 6 = some (2, false, .iconst 0, 1) := by decide +kernel
theorem eX2_begin_6 : Ev 12 6 (ls) (st) h r ↔ Ev 12 7 (ls) (.int (nI 0) :: st) h r := ev_iconst iX2_begin_6 (by decide)
theorem iX2_begin_7 : mn_ins 12 7 = some (2, false, .putfield 22, 3) := by decide +kernel
theorem eX2_begin_7 : Ev 12 7 (ls) (w :: .ref a :: st) h r ↔ Evh 12 10 ls st (mn_pf h a 2 3 w) r := ev_putf iX2_begin_7 (by decide +kernel) (by decide +kernel)
theorem iX2_begin_10 : mn_ins 12 10 = some (2, false, .aload_n 0, 1) := by decide +kernel
theorem eX2_begin_10 : Ev 12 10 (some (.ref a) :: ls) (st) h r ↔ Ev 12 11 (some (.ref a) :: ls) (.ref a :: st) h r := ev_aload_n iX2_begin_10 rfl rfl
theorem iX2_begin_11 : mn_ins 12 11 = some (2, false, .iconst 0, 1) := by decide +kernel
theorem eX2_begin_11 : Ev 12 11 (ls) (st) h r ↔ Ev 12 12 (ls) (.int (nI 0) :: st) h r := ev_iconst iX2_begin_11 (by decide)
theorem iX2_begin_12 : mn_ins 12 12 = some (2, false, .putfield 26, 3) := by decide +kernel
theorem eX2_begin_12 : Ev 12 12 (ls) (w :: .ref a :: st) h r ↔ Evh 12 15 ls st (mn_pf h a 2 4 w) r := ev_putf iX2_begin_12 (by decide +kernel) (by decide +kernel)
theorem iX2_begin_15 : mn_ins 12 15 = some (2, false, .iconst 1, 1) := by decide +kernel
theorem eX2_begin_15 : Ev 12 15 (ls) (st) h r ↔ Ev 12 16 (ls) (.int (nI 1) :: st) h r := ev_iconst iX2_begin_15 (by decide)
theorem iX2_begin_16 : mn_ins 12 16 = some (2, false, .istore 4, 2) := by decide +kernel
theorem eX2_begin_16 : Ev 12 16 (a0 :: a1 :: a2 :: a3 :: a4 :: ls) (.int x :: st) h r ↔ Ev 12 18 (a0 :: a1 :: a2 :: mn_k a3 :: some (.int x) :: ls) (st) h r := ev_istore iX2_begin_16 (by show 4 < _; simp only [List.length_cons]; omega)
theorem iX2_begin_18 : mn_ins 12 18 = some (2, false, .iload 4, 2) := by decide +kernel
theorem eX2_begin_18 : Ev 12 18 (a0 :: a1 :: a2 :: a3 :: some (.int x) :: ls) (st) h r ↔ Ev 12 20 (a0 :: a1 :: a2 :: a3 :: some (.int x) :: ls) (.int x :: st) h r := ev_iload iX2_begin_18 rfl
theorem iX2_begin_20 : mn_ins 12 20 = some (2, false, .iconst 4, 1) := by decide +kernel
theorem eX2_begin_20 : Ev 12 20 (ls) (st) h r ↔ Ev 12 21 (ls) (.int (nI 4) :: st) h r := ev_iconst iX2_begin_20 (by decide)
theorem iX2_begin_21 : mn_ins 12 21 = some (2, false, .if_icmp .ge 17, 3) := by decide +kernel
theorem eX2_begin_21 : Ev 12 21 (ls) (.int y :: .int x :: st) h r ↔ if y ≤ x then Ev 12 38 (ls) (st) h r else Ev 12 24 (ls) (st) h r := ev_cmpge iX2_begin_21 (by decide)
theorem iX2_begin_24 : mn_ins 12 24 = some (2, false, .aload_n 0, 1) := by decide +kernel
theorem eX2_begin_24 : Ev 12 24 (some (.ref a) :: ls) (st) h r ↔ Ev 12 25 (some (.ref a) :: ls) (.ref a :: st) h r := ev_aload_n iX2_begin_24 rfl rfl
theorem iX2_begin_25 : mn_ins 12 25 = some (2, false, .getfield 15, 3) := by decide +kernel
theorem eX2_begin_25 : Ev 12 25 (ls) (.ref a :: st) h r ↔ Evk 12 28 ls (mn_gf h a 2 1) st h r := ev_getf iX2_begin_25 (by decide +kernel)
theorem iX2_begin_28 : mn_ins 12 28 = some (2, false, .iload 4, 2) := by decide +kernel
theorem eX2_begin_28 : Ev 12 28 (a0 :: a1 :: a2 :: a3 :: some (.int x) :: ls) (st) h r ↔ Ev 12 30 (a0 :: a1 :: a2 :: a3 :: some (.int x) :: ls) (.int x :: st) h r := ev_iload iX2_begin_28 rfl
theorem iX2_begin_30 : mn_ins 12 30 = some (2, false, .lconst 0, 1) := by decide +kernel
theorem eX2_begin_30 : Ev 12 30 (ls) (st) h r ↔ Ev 12 31 (ls) (.long 0 :: st) h r := ev_lconst iX2_begin_30 (by decide)
theorem iX2_begin_31 : mn_ins 12 31 = some (2, false, .lastore, 1) := by decide +kernel
theorem eX2_begin_31 : Ev 12 31 (ls) (.long u :: .int x :: .ref a :: st) h r ↔ Evh 12 32 ls st (mn_asl h a x u) r := ev_last iX2_begin_31
theorem iX2_begin_32 : mn_ins 12 32 = some (2, false, .iinc 4 1, 3) := by decide +kernel
theorem eX2_begin_32 : Ev 12 32 (a0 :: a1 :: a2 :: a3 :: some (.int x) :: ls) (st) h r ↔ Ev 12 35 (a0 :: a1 :: a2 :: mn_k a3 :: some (.int (x + (nI 1))) :: ls) (st) h r := ev_iinc iX2_begin_32 rfl (by decide)
theorem iX2_begin_35 : mn_ins 12 35 = some (2, false, .goto (-17), 3) := by decide +kernel
theorem eX2_begin_35 : Ev 12 35 (ls) (st) h r ↔ Ev 12 18 (ls) (st) h r := ev_goto iX2_begin_35 (by decide)
theorem iX2_begin_38 : mn_ins 12 38 = some (2, false, .aload_n 0, 1) := by decide +kernel
theorem eX2_begin_38 : Ev 12 38 (some (.ref a) :: ls) (st) h r ↔ Ev 12 39 (some (.ref a) :: ls) (.ref a :: st) h r := ev_aload_n iX2_begin_38 rfl rfl
theorem iX2_begin_39 : mn_ins 12 39 = some (2, false, .getfield 15, 3) := by decide +kernel
theorem eX2_begin_39 : Ev 12 39 (ls) (.ref a :: st) h r ↔ Evk 12 42 ls (mn_gf h a 2 1) st h r := ev_getf iX2_begin_39 (by decide +kernel)
theorem iX2_begin_42 : mn_ins 12 42 = some (2, false, .iconst 0, 1) := by decide +kernel
theorem eX2_begin_42 : Ev 12 42 (ls) (st) h r ↔ Ev 12 43 (ls) (.int (nI 0) :: st) h r := ev_iconst iX2_begin_42 (by decide)
theorem iX2_begin_43 : mn_ins 12 43 = some (2, false, .lload_n 2, 1) := by decide +kernel
theorem eX2_begin_43 : Ev 12 43 (a0 :: a1 :: some (.long u) :: ls) (st) h r ↔ Ev 12 44 (a0 :: a1 :: some (.long u) :: ls) (.long u :: st) h r := ev_lload_n iX2_begin_43 rfl
theorem iX2_begin_44 : mn_ins 12 44 = some (2, false, .lastore, 1) := by decide +kernel
theorem eX2_begin_44 : Ev 12 44 (ls) (.long u :: .int x :: .ref a :: st) h r ↔ Evh 12 45 ls st (mn_asl h a x u) r := ev_last iX2_begin_44
theorem iX2_begin_45 : mn_ins 12 45 = some (2, false, .return_, 1) := by decide +kernel
theorem eX2_begin_45 : Ev 12 45 (ls) [] h r ↔ r = (h, .inl none) := ev_vret iX2_begin_45 (X := mnI_X2_begin) rfl rfl
theorem iX2_operation_0 : mn_ins 13 0 = some (2, false, .aload_n 0, 1) := by decide +kernel
theorem eX2_operation_0 : Ev 13 0 (some (.ref a) :: ls) (st) h r ↔ Ev 13 1 (some (.ref a) :: ls) (.ref a :: st) h r := ev_aload_n iX2_operation_0 rfl rfl
theorem iX2_operation_1 : mn_ins 13 1 = some (2, false, .getfield 18, 3) := by decide +kernel
theorem eX2_operation_1 : Ev 13 1 (ls) (.ref a :: st) h r ↔ Evk 13 4 ls (mn_gf h a 2 2) st h r := ev_getf iX2_operation_1 (by decide +kernel)
theorem iX2_operation_4 : mn_ins 13 4 = some (2, false, .aload_n 0, 1) := by decide +kernel
theorem eX2_operation_4 : Ev 13 4 (some (.ref a) :: ls) (st) h r ↔ Ev 13 5 (some (.ref a) :: ls) (.ref a :: st) h r := ev_aload_n iX2_operation_4 rfl rfl
theorem iX2_operation_5 : mn_ins 13 5 = some (2, false, .getfield 22, 3) := by decide +kernel
theorem eX2_operation_5 : Ev 13 5 (ls) (.ref a :: st) h r ↔ Evk 13 8 ls (mn_gf h a 2 3) st h r := ev_getf iX2_operation_5 (by decide +kernel)
theorem iX2_operation_8 : mn_ins 13 8 = some (2, false, .invokevirtual 29, 3) := by decide +kernel
theorem eX2_operation_8 : Ev 13 8 (ls) (.int x0 :: .ref b :: st) h r ↔ Evr true (decide (mn_cats st ≤ 8) && mn_isc h b 1) 13 8 ls st h.2.2.1 h.2.2.2 (Cl 9 (.ref b :: [.int x0]) h.1 h.2.1) r := Ev_V (As := [.int x0]) iX2_operation_8 (by decide +kernel) (x := mnI_X2_operation) (x2 := mnI_X1_operationAt) rfl rfl rfl (by decide +kernel) (Nat.le_of_ble_eq_true rfl) rfl
theorem iX2_operation_11 : mn_ins 13 11 = some (2, false, .ireturn, 1) := by decide +kernel
theorem eX2_operation_11 : Ev 13 11 (ls) [.int x] h r ↔ r = (h, .inl (some (.int x))) := ev_iret iX2_operation_11 (X := mnI_X2_operation) rfl rfl
theorem iX2_argument_0 : mn_ins 14 0 = some (2, false, .aload_n 0, 1) := by decide +kernel
theorem eX2_argument_0 : Ev 14 0 (some (.ref a) :: ls) (st) h r ↔ Ev 14 1 (some (.ref a) :: ls) (.ref a :: st) h r := ev_aload_n iX2_argument_0 rfl rfl
theorem iX2_argument_1 : mn_ins 14 1 = some (2, false, .getfield 18, 3) := by decide +kernel
theorem eX2_argument_1 : Ev 14 1 (ls) (.ref a :: st) h r ↔ Evk 14 4 ls (mn_gf h a 2 2) st h r := ev_getf iX2_argument_1 (by decide +kernel)
theorem iX2_argument_4 : mn_ins 14 4 = some (2, false, .aload_n 0, 1) := by decide +kernel
theorem eX2_argument_4 : Ev 14 4 (some (.ref a) :: ls) (st) h r ↔ Ev 14 5 (some (.ref a) :: ls) (.ref a :: st) h r := ev_aload_n iX2_argument_4 rfl rfl
theorem iX2_argument_5 : mn_ins 14 5 = some (2, false, .getfield 22, 3) := by decide +kernel
theorem eX2_argument_5 : Ev 14 5 (ls) (.ref a :: st) h r ↔ Evk 14 8 ls (mn_gf h a 2 3) st h r := ev_getf iX2_argument_5 (by decide +kernel)
theorem iX2_argument_8 : mn_ins 14 8 = some (2, false, .invokevirtual 35, 3) := by decide +kernel
theorem eX2_argument_8 : Ev 14 8 (ls) (.int x0 :: .ref b :: st) h r ↔ Evr true (decide (mn_cats st ≤ 8) && mn_isc h b 1) 14 8 ls st h.2.2.1 h.2.2.2 (Cl 10 (.ref b :: [.int x0]) h.1 h.2.1) r := Ev_V (As := [.int x0]) iX2_argument_8 (by decide +kernel) (x := mnI_X2_argument) (x2 := mnI_X1_argumentAt) rfl rfl rfl (by decide +kernel) (Nat.le_of_ble_eq_true rfl) rfl
theorem iX2_argument_11 : mn_ins 14 11 = some (2, false, .ireturn, 1) := by decide +kernel
theorem eX2_argument_11 : Ev 14 11 (ls) [.int x] h r ↔ r = (h, .inl (some (.int x))) := ev_iret iX2_argument_11 (X := mnI_X2_argument) rfl rfl
theorem iX2_moveOn_0 : mn_ins 15 0 = some (2, false, .aload_n 0, 1) := by decide +kernel
theorem eX2_moveOn_0 : Ev 15 0 (some (.ref a) :: ls) (st) h r ↔ Ev 15 1 (some (.ref a) :: ls) (.ref a :: st) h r := ev_aload_n iX2_moveOn_0 rfl rfl
theorem iX2_moveOn_1 : mn_ins 15 1 = some (2, false, .dup, 1) := by decide +kernel
theorem eX2_moveOn_1 : Ev 15 1 (ls) (.ref a :: st) h r ↔ Ev 15 2 (ls) (.ref a :: .ref a :: st) h r := ev_dup iX2_moveOn_1 rfl
theorem iX2_moveOn_2 : mn_ins 15 2 = some (2, false, .getfield 22, 3) := by decide +kernel
theorem eX2_moveOn_2 : Ev 15 2 (ls) (.ref a :: st) h r ↔ Evk 15 5 ls (mn_gf h a 2 3) st h r := ev_getf iX2_moveOn_2 (by decide +kernel)
theorem iX2_moveOn_5 : mn_ins 15 5 = some (2, false, .iconst 1, 1) := by decide +kernel
theorem eX2_moveOn_5 : Ev 15 5 (ls) (st) h r ↔ Ev 15 6 (ls) (.int (nI 1) :: st) h r := ev_iconst iX2_moveOn_5 (by decide)
theorem iX2_moveOn_6 : mn_ins 15 6 = some (2, false, .iadd, 1) := by decide +kernel
theorem eX2_moveOn_6 : Ev 15 6 (ls) (.int y :: .int x :: st) h r ↔ Ev 15 7 (ls) (.int (x + y) :: st) h r := ev_iadd iX2_moveOn_6
theorem iX2_moveOn_7 : mn_ins 15 7 = some (2, false, .putfield 22, 3) := by decide +kernel
theorem eX2_moveOn_7 : Ev 15 7 (ls) (w :: .ref a :: st) h r ↔ Evh 15 10 ls st (mn_pf h a 2 3 w) r := ev_putf iX2_moveOn_7 (by decide +kernel) (by decide +kernel)
theorem iX2_moveOn_10 : mn_ins 15 10 = some (2, false, .return_, 1) := by decide +kernel
theorem eX2_moveOn_10 : Ev 15 10 (ls) [] h r ↔ r = (h, .inl none) := ev_vret iX2_moveOn_10 (X := mnI_X2_moveOn) rfl rfl
theorem iX2_push_0 : mn_ins 16 0 = some (2, false, .aload_n 0, 1) := by decide +kernel
theorem eX2_push_0 : Ev 16 0 (some (.ref a) :: ls) (st) h r ↔ Ev 16 1 (some (.ref a) :: ls) (.ref a :: st) h r := ev_aload_n iX2_push_0 rfl rfl
theorem iX2_push_1 : mn_ins 16 1 = some (2, false, .getfield 26, 3) := by decide +kernel
theorem eX2_push_1 : Ev 16 1 (ls) (.ref a :: st) h r ↔ Evk 16 4 ls (mn_gf h a 2 4) st h r := ev_getf iX2_push_1 (by decide +kernel)
theorem iX2_push_4 : mn_ins 16 4 = some (2, false, .aload_n 0, 1) := by decide +kernel
theorem eX2_push_4 : Ev 16 4 (some (.ref a) :: ls) (st) h r ↔ Ev 16 5 (some (.ref a) :: ls) (.ref a :: st) h r := ev_aload_n iX2_push_4 rfl rfl
theorem iX2_push_5 : mn_ins 16 5 = some (2, false, .getfield 9, 3) := by decide +kernel
theorem eX2_push_5 : Ev 16 5 (ls) (.ref a :: st) h r ↔ Evk 16 8 ls (mn_gf h a 2 0) st h r := ev_getf iX2_push_5 (by decide +kernel)
theorem iX2_push_8 : mn_ins 16 8 = some (2, false, .arraylength, 1) := by decide +kernel
theorem eX2_push_8 : Ev 16 8 (ls) (.ref a :: st) h r ↔ Evk 16 9 ls (mn_len h a) st h r := ev_alen iX2_push_8
theorem iX2_push_9 : mn_ins 16 9 = some (2, false, .if_icmp .ge 23, 3) := by decide +kernel
theorem eX2_push_9 : Ev 16 9 (ls) (.int y :: .int x :: st) h r ↔ if y ≤ x then Ev 16 32 (ls) (st) h r else Ev 16 12 (ls) (st) h r := ev_cmpge iX2_push_9 (by decide)
theorem iX2_push_12 : mn_ins 16 12 = some (2, false, .aload_n 0, 1) := by decide +kernel
theorem eX2_push_12 : Ev 16 12 (some (.ref a) :: ls) (st) h r ↔ Ev 16 13 (some (.ref a) :: ls) (.ref a :: st) h r := ev_aload_n iX2_push_12 rfl rfl
theorem iX2_push_13 : mn_ins 16 13 = some (2, false, .getfield 9, 3) := by decide +kernel
theorem eX2_push_13 : Ev 16 13 (ls) (.ref a :: st) h r ↔ Evk 16 16 ls (mn_gf h a 2 0) st h r := ev_getf iX2_push_13 (by decide +kernel)
theorem iX2_push_16 : mn_ins 16 16 = some (2, false, .aload_n 0, 1) := by decide +kernel
theorem eX2_push_16 : Ev 16 16 (some (.ref a) :: ls) (st) h r ↔ Ev 16 17 (some (.ref a) :: ls) (.ref a :: st) h r := ev_aload_n iX2_push_16 rfl rfl
theorem iX2_push_17 : mn_ins 16 17 = some (2, false, .getfield 26, 3) := by decide +kernel
theorem eX2_push_17 : Ev 16 17 (ls) (.ref a :: st) h r ↔ Evk 16 20 ls (mn_gf h a 2 4) st h r := ev_getf iX2_push_17 (by decide +kernel)
theorem iX2_push_20 : mn_ins 16 20 = some (2, false, .lload_n 1, 1) := by decide +kernel
theorem eX2_push_20 : Ev 16 20 (a0 :: some (.long u) :: ls) (st) h r ↔ Ev 16 21 (a0 :: some (.long u) :: ls) (.long u :: st) h r := ev_lload_n iX2_push_20 rfl
theorem iX2_push_21 : mn_ins 16 21 = some (2, false, .lastore, 1) := by decide +kernel
theorem eX2_push_21 : Ev 16 21 (ls) (.long u :: .int x :: .ref a :: st) h r ↔ Evh 16 22 ls st (mn_asl h a x u) r := ev_last iX2_push_21
theorem iX2_push_22 : mn_ins 16 22 = some (2, false, .aload_n 0, 1) := by decide +kernel
theorem eX2_push_22 : Ev 16 22 (some (.ref a) :: ls) (st) h r ↔ Ev 16 23 (some (.ref a) :: ls) (.ref a :: st) h r := ev_aload_n iX2_push_22 rfl rfl
theorem iX2_push_23 : mn_ins 16 23 = some (2, false, .dup, 1) := by decide +kernel
theorem eX2_push_23 : Ev 16 23 (ls) (.ref a :: st) h r ↔ Ev 16 24 (ls) (.ref a :: .ref a :: st) h r := ev_dup iX2_push_23 rfl
theorem iX2_push_24 : mn_ins 16 24 = some (2, false, .getfield 26, 3) := by decide +kernel
theorem eX2_push_24 : Ev 16 24 (ls) (.ref a :: st) h r ↔ Evk 16 27 ls (mn_gf h a 2 4) st h r := ev_getf iX2_push_24 (by decide +kernel)
theorem iX2_push_27 : mn_ins 16 27 = some (2, false, .iconst 1, 1) := by decide +kernel
theorem eX2_push_27 : Ev 16 27 (ls) (st) h r ↔ Ev 16 28 (ls) (.int (nI 1) :: st) h r := ev_iconst iX2_push_27 (by decide)
theorem iX2_push_28 : mn_ins 16 28 = some (2, false, .iadd, 1) := by decide +kernel
theorem eX2_push_28 : Ev 16 28 (ls) (.int y :: .int x :: st) h r ↔ Ev 16 29 (ls) (.int (x + y) :: st) h r := ev_iadd iX2_push_28
theorem iX2_push_29 : mn_ins 16 29 = some (2, false, .putfield 26, 3) := by decide +kernel
theorem eX2_push_29 : Ev 16 29 (ls) (w :: .ref a :: st) h r ↔ Evh 16 32 ls st (mn_pf h a 2 4 w) r := ev_putf iX2_push_29 (by decide +kernel) (by decide +kernel)
theorem iX2_push_32 : mn_ins 16 32 = some (2, false, .return_, 1) := by decide +kernel
theorem eX2_push_32 : Ev 16 32 (ls) [] h r ↔ r = (h, .inl none) := ev_vret iX2_push_32 (X := mnI_X2_push) rfl rfl
theorem iX2_pop_0 : mn_ins 17 0 = some (2, false, .aload_n 0, 1) := by decide +kernel
theorem eX2_pop_0 : Ev 17 0 (some (.ref a) :: ls) (st) h r ↔ Ev 17 1 (some (.ref a) :: ls) (.ref a :: st) h r := ev_aload_n iX2_pop_0 rfl rfl
theorem iX2_pop_1 : mn_ins 17 1 = some (2, false, .getfield 26, 3) := by decide +kernel
theorem eX2_pop_1 : Ev 17 1 (ls) (.ref a :: st) h r ↔ Evk 17 4 ls (mn_gf h a 2 4) st h r := ev_getf iX2_pop_1 (by decide +kernel)
theorem iX2_pop_4 : mn_ins 17 4 = some (2, false, .ifCond .ne 5, 3) := by decide +kernel
theorem eX2_pop_4 : Ev 17 4 (ls) (.int x :: st) h r ↔ if x = nI 0 then Ev 17 7 (ls) (st) h r else Ev 17 9 (ls) (st) h r := ev_ifne iX2_pop_4 (by decide)
theorem iX2_pop_7 : mn_ins 17 7 = some (2, false, .lconst 0, 1) := by decide +kernel
theorem eX2_pop_7 : Ev 17 7 (ls) (st) h r ↔ Ev 17 8 (ls) (.long 0 :: st) h r := ev_lconst iX2_pop_7 (by decide)
theorem iX2_pop_8 : mn_ins 17 8 = some (2, false, .lreturn, 1) := by decide +kernel
theorem eX2_pop_8 : Ev 17 8 (ls) [.long u] h r ↔ r = (h, .inl (some (.long u))) := ev_lret iX2_pop_8 (X := mnI_X2_pop) rfl rfl
theorem iX2_pop_9 : mn_ins 17 9 = some (2, false, .aload_n 0, 1) := by decide +kernel
theorem eX2_pop_9 : Ev 17 9 (some (.ref a) :: ls) (st) h r ↔ Ev 17 10 (some (.ref a) :: ls) (.ref a :: st) h r := ev_aload_n iX2_pop_9 rfl rfl
theorem iX2_pop_10 : mn_ins 17 10 = some (2, false, .dup, 1) := by decide +kernel
theorem eX2_pop_10 : Ev 17 10 (ls) (.ref a :: st) h r ↔ Ev 17 11 (ls) (.ref a :: .ref a :: st) h r := ev_dup iX2_pop_10 rfl
theorem iX2_pop_11 : mn_ins 17 11 = some (2, false, .getfield 26, 3) := by decide +kernel
theorem eX2_pop_11 : Ev 17 11 (ls) (.ref a :: st) h r ↔ Evk 17 14 ls (mn_gf h a 2 4) st h r := ev_getf iX2_pop_11 (by decide +kernel)
theorem iX2_pop_14 : mn_ins 17 14 = some (2, false, .iconst 1, 1) := by decide +kernel
theorem eX2_pop_14 : Ev 17 14 (ls) (st) h r ↔ Ev 17 15 (ls) (.int (nI 1) :: st) h r := ev_iconst iX2_pop_14 (by decide)
theorem iX2_pop_15 : mn_ins 17 15 = some (2, false, .isub, 1) := by decide +kernel
theorem eX2_pop_15 : Ev 17 15 (ls) (.int y :: .int x :: st) h r ↔ Ev 17 16 (ls) (.int (x - y) :: st) h r := ev_isub iX2_pop_15
theorem iX2_pop_16 : mn_ins 17 16 = some (2, false, .putfield 26, 3) := by decide +kernel
theorem eX2_pop_16 : Ev 17 16 (ls) (w :: .ref a :: st) h r ↔ Evh 17 19 ls st (mn_pf h a 2 4 w) r := ev_putf iX2_pop_16 (by decide +kernel) (by decide +kernel)
theorem iX2_pop_19 : mn_ins 17 19 = some (2, false, .aload_n 0, 1) := by decide +kernel
theorem eX2_pop_19 : Ev 17 19 (some (.ref a) :: ls) (st) h r ↔ Ev 17 20 (some (.ref a) :: ls) (.ref a :: st) h r := ev_aload_n iX2_pop_19 rfl rfl
theorem iX2_pop_20 : mn_ins 17 20 = some (2, false, .getfield 9, 3) := by decide +kernel
theorem eX2_pop_20 : Ev 17 20 (ls) (.ref a :: st) h r ↔ Evk 17 23 ls (mn_gf h a 2 0) st h r := ev_getf iX2_pop_20 (by decide +kernel)
theorem iX2_pop_23 : mn_ins 17 23 = some (2, false, .aload_n 0, 1) := by decide +kernel
theorem eX2_pop_23 : Ev 17 23 (some (.ref a) :: ls) (st) h r ↔ Ev 17 24 (some (.ref a) :: ls) (.ref a :: st) h r := ev_aload_n iX2_pop_23 rfl rfl
theorem iX2_pop_24 : mn_ins 17 24 = some (2, false, .getfield 26, 3) := by decide +kernel
theorem eX2_pop_24 : Ev 17 24 (ls) (.ref a :: st) h r ↔ Evk 17 27 ls (mn_gf h a 2 4) st h r := ev_getf iX2_pop_24 (by decide +kernel)
theorem iX2_pop_27 : mn_ins 17 27 = some (2, false, .laload, 1) := by decide +kernel
theorem eX2_pop_27 : Ev 17 27 (ls) (.int x :: .ref a :: st) h r ↔ Evk 17 28 ls (mn_al h a 1 x) st h r := ev_lald iX2_pop_27
theorem iX2_pop_28 : mn_ins 17 28 = some (2, false, .lreturn, 1) := by decide +kernel
theorem eX2_pop_28 : Ev 17 28 (ls) [.long u] h r ↔ r = (h, .inl (some (.long u))) := ev_lret iX2_pop_28 (X := mnI_X2_pop) rfl rfl
theorem iX2_top_0 : mn_ins 18 0 = some (2, false, .aload_n 0, 1) := by decide +kernel
theorem eX2_top_0 : Ev 18 0 (some (.ref a) :: ls) (st) h r ↔ Ev 18 1 (some (.ref a) :: ls) (.ref a :: st) h r := ev_aload_n iX2_top_0 rfl rfl
theorem iX2_top_1 : mn_ins 18 1 = some (2, false, .getfield 26, 3) := by decide +kernel
theorem eX2_top_1 : Ev 18 1 (ls) (.ref a :: st) h r ↔ Evk 18 4 ls (mn_gf h a 2 4) st h r := ev_getf iX2_top_1 (by decide +kernel)
theorem iX2_top_4 : mn_ins 18 4 = some (2, false, .ifCond .ne 7, 3) := by decide +kernel
theorem eX2_top_4 : Ev 18 4 (ls) (.int x :: st) h r ↔ if x = nI 0 then Ev 18 7 (ls) (st) h r else Ev 18 11 (ls) (st) h r := ev_ifne iX2_top_4 (by decide)
theorem iX2_top_7 : mn_ins 18 7 = some (2, false, .lconst 0, 1) := by decide +kernel
theorem eX2_top_7 : Ev 18 7 (ls) (st) h r ↔ Ev 18 8 (ls) (.long 0 :: st) h r := ev_lconst iX2_top_7 (by decide)
theorem iX2_top_8 : mn_ins 18 8 = some (2, false, .goto 14, 3) := by decide +kernel
theorem eX2_top_8 : Ev 18 8 (ls) (st) h r ↔ Ev 18 22 (ls) (st) h r := ev_goto iX2_top_8 (by decide)
theorem iX2_top_11 : mn_ins 18 11 = some (2, false, .aload_n 0, 1) := by decide +kernel
theorem eX2_top_11 : Ev 18 11 (some (.ref a) :: ls) (st) h r ↔ Ev 18 12 (some (.ref a) :: ls) (.ref a :: st) h r := ev_aload_n iX2_top_11 rfl rfl
theorem iX2_top_12 : mn_ins 18 12 = some (2, false, .getfield 9, 3) := by decide +kernel
theorem eX2_top_12 : Ev 18 12 (ls) (.ref a :: st) h r ↔ Evk 18 15 ls (mn_gf h a 2 0) st h r := ev_getf iX2_top_12 (by decide +kernel)
theorem iX2_top_15 : mn_ins 18 15 = some (2, false, .aload_n 0, 1) := by decide +kernel
theorem eX2_top_15 : Ev 18 15 (some (.ref a) :: ls) (st) h r ↔ Ev 18 16 (some (.ref a) :: ls) (.ref a :: st) h r := ev_aload_n iX2_top_15 rfl rfl
theorem iX2_top_16 : mn_ins 18 16 = some (2, false, .getfield 26, 3) := by decide +kernel
theorem eX2_top_16 : Ev 18 16 (ls) (.ref a :: st) h r ↔ Evk 18 19 ls (mn_gf h a 2 4) st h r := ev_getf iX2_top_16 (by decide +kernel)
theorem iX2_top_19 : mn_ins 18 19 = some (2, false, .iconst 1, 1) := by decide +kernel
theorem eX2_top_19 : Ev 18 19 (ls) (st) h r ↔ Ev 18 20 (ls) (.int (nI 1) :: st) h r := ev_iconst iX2_top_19 (by decide)
theorem iX2_top_20 : mn_ins 18 20 = some (2, false, .isub, 1) := by decide +kernel
theorem eX2_top_20 : Ev 18 20 (ls) (.int y :: .int x :: st) h r ↔ Ev 18 21 (ls) (.int (x - y) :: st) h r := ev_isub iX2_top_20
theorem iX2_top_21 : mn_ins 18 21 = some (2, false, .laload, 1) := by decide +kernel
theorem eX2_top_21 : Ev 18 21 (ls) (.int x :: .ref a :: st) h r ↔ Evk 18 22 ls (mn_al h a 1 x) st h r := ev_lald iX2_top_21
theorem iX2_top_22 : mn_ins 18 22 = some (2, false, .lreturn, 1) := by decide +kernel
theorem eX2_top_22 : Ev 18 22 (ls) [.long u] h r ↔ r = (h, .inl (some (.long u))) := ev_lret iX2_top_22 (X := mnI_X2_top) rfl rfl
theorem iX2_go_0 : mn_ins 19 0 = some (2, false, .aload_n 0, 1) := by decide +kernel
theorem eX2_go_0 : Ev 19 0 (some (.ref a) :: ls) (st) h r ↔ Ev 19 1 (some (.ref a) :: ls) (.ref a :: st) h r := ev_aload_n iX2_go_0 rfl rfl
theorem iX2_go_1 : mn_ins 19 1 = some (2, false, .getfield 18, 3) := by decide +kernel
theorem eX2_go_1 : Ev 19 1 (ls) (.ref a :: st) h r ↔ Evk 19 4 ls (mn_gf h a 2 2) st h r := ev_getf iX2_go_1 (by decide +kernel)
theorem iX2_go_4 : mn_ins 19 4 = some (2, false, .aload_n 0, 1) := by decide +kernel
theorem eX2_go_4 : Ev 19 4 (some (.ref a) :: ls) (st) h r ↔ Ev 19 5 (some (.ref a) :: ls) (.ref a :: st) h r := ev_aload_n iX2_go_4 rfl rfl
theorem iX2_go_5 : mn_ins 19 5 = some (2, false, .getfield 22, 3) := by decide +kernel
theorem eX2_go_5 : Ev 19 5 (ls) (.ref a :: st) h r ↔ Evk 19 8 ls (mn_gf h a 2 3) st h r := ev_getf iX2_go_5 (by decide +kernel)
theorem iX2_go_8 : mn_ins 19 8 = some (2, false, .invokevirtual 29, 3) := by decide +kernel
theorem eX2_go_8 : Ev 19 8 (ls) (.int x0 :: .ref b :: st) h r ↔ Evr true (decide (mn_cats st ≤ 8) && mn_isc h b 1) 19 8 ls st h.2.2.1 h.2.2.2 (Cl 9 (.ref b :: [.int x0]) h.1 h.2.1) r := Ev_V (As := [.int x0]) iX2_go_8 (by decide +kernel) (x := mnI_X2_go) (x2 := mnI_X1_operationAt) rfl rfl rfl (by decide +kernel) (Nat.le_of_ble_eq_true rfl) rfl
theorem iX2_go_11 : mn_ins 19 11 = some (2, false, .istore_n 1, 1) := by decide +kernel
theorem eX2_go_11 : Ev 19 11 (a0 :: a1 :: ls) (.int x :: st) h r ↔ Ev 19 12 (mn_k a0 :: some (.int x) :: ls) (st) h r := ev_istore_n iX2_go_11 (by show 1 < _; simp only [List.length_cons]; omega)
theorem iX2_go_12 : mn_ins 19 12 = some (2, false, .aload_n 0, 1) := by decide +kernel
theorem eX2_go_12 : Ev 19 12 (some (.ref a) :: ls) (st) h r ↔ Ev 19 13 (some (.ref a) :: ls) (.ref a :: st) h r := ev_aload_n iX2_go_12 rfl rfl
theorem iX2_go_13 : mn_ins 19 13 = some (2, false, .getfield 18, 3) := by decide +kernel
theorem eX2_go_13 : Ev 19 13 (ls) (.ref a :: st) h r ↔ Evk 19 16 ls (mn_gf h a 2 2) st h r := ev_getf iX2_go_13 (by decide +kernel)
theorem iX2_go_16 : mn_ins 19 16 = some (2, false, .aload_n 0, 1) := by decide +kernel
theorem eX2_go_16 : Ev 19 16 (some (.ref a) :: ls) (st) h r ↔ Ev 19 17 (some (.ref a) :: ls) (.ref a :: st) h r := ev_aload_n iX2_go_16 rfl rfl
theorem iX2_go_17 : mn_ins 19 17 = some (2, false, .getfield 22, 3) := by decide +kernel
theorem eX2_go_17 : Ev 19 17 (ls) (.ref a :: st) h r ↔ Evk 19 20 ls (mn_gf h a 2 3) st h r := ev_getf iX2_go_17 (by decide +kernel)
theorem iX2_go_20 : mn_ins 19 20 = some (2, false, .invokevirtual 35, 3) := by decide +kernel
theorem eX2_go_20 : Ev 19 20 (ls) (.int x0 :: .ref b :: st) h r ↔ Evr true (decide (mn_cats st ≤ 8) && mn_isc h b 1) 19 20 ls st h.2.2.1 h.2.2.2 (Cl 10 (.ref b :: [.int x0]) h.1 h.2.1) r := Ev_V (As := [.int x0]) iX2_go_20 (by decide +kernel) (x := mnI_X2_go) (x2 := mnI_X1_argumentAt) rfl rfl rfl (by decide +kernel) (Nat.le_of_ble_eq_true rfl) rfl
theorem iX2_go_23 : mn_ins 19 23 = some (2, false, .istore_n 2, 1) := by decide +kernel
theorem eX2_go_23 : Ev 19 23 (a0 :: a1 :: a2 :: ls) (.int x :: st) h r ↔ Ev 19 24 (a0 :: mn_k a1 :: some (.int x) :: ls) (st) h r := ev_istore_n iX2_go_23 (by show 2 < _; simp only [List.length_cons]; omega)
theorem iX2_go_24 : mn_ins 19 24 = some (2, false, .aload_n 0, 1) := by decide +kernel
theorem eX2_go_24 : Ev 19 24 (some (.ref a) :: ls) (st) h r ↔ Ev 19 25 (some (.ref a) :: ls) (.ref a :: st) h r := ev_aload_n iX2_go_24 rfl rfl
theorem iX2_go_25 : mn_ins 19 25 = some (2, false, .invokevirtual 38, 3) := by decide +kernel
theorem eX2_go_25 : Ev 19 25 (ls) (.ref b :: st) h r ↔ Evr true (decide (mn_cats st ≤ 8) && mn_isc h b 2) 19 25 ls st h.2.2.1 h.2.2.2 (Cl 15 (.ref b :: []) h.1 h.2.1) r := Ev_V (As := []) iX2_go_25 (by decide +kernel) (x := mnI_X2_go) (x2 := mnI_X2_moveOn) rfl rfl rfl (by decide +kernel) (Nat.le_of_ble_eq_true rfl) rfl
theorem iX2_go_28 : mn_ins 19 28 = some (2, false, .iload_n 1, 1) := by decide +kernel
theorem eX2_go_28 : Ev 19 28 (a0 :: some (.int x) :: ls) (st) h r ↔ Ev 19 29 (a0 :: some (.int x) :: ls) (.int x :: st) h r := ev_iload_n iX2_go_28 rfl
theorem iX2_go_29 : mn_ins 19 29 = some (2, false, .tableswitch 190 0 18 #[91, 100, 125, 190, 190, 190, 190, 190, 190, 190, 190, 146, 154, 190, 190, 190, 190, 171, 182], 91) := by decide +kernel
theorem eX2_go_29_c0 : Ev 19 29 (ls) (.int (nI 0) :: st) h r ↔ Ev 19 120 (ls) (st) h r := ev_tsIn iX2_go_29 (by decide) (off := 91) (by decide) (by decide)
theorem eX2_go_29_c1 : Ev 19 29 (ls) (.int (nI 1) :: st) h r ↔ Ev 19 129 (ls) (st) h r := ev_tsIn iX2_go_29 (by decide) (off := 100) (by decide) (by decide)
theorem eX2_go_29_c2 : Ev 19 29 (ls) (.int (nI 2) :: st) h r ↔ Ev 19 154 (ls) (st) h r := ev_tsIn iX2_go_29 (by decide) (off := 125) (by decide) (by decide)
theorem eX2_go_29_c3 : Ev 19 29 (ls) (.int (nI 3) :: st) h r ↔ Ev 19 219 (ls) (st) h r := ev_tsIn iX2_go_29 (by decide) (off := 190) (by decide) (by decide)
theorem eX2_go_29_c4 : Ev 19 29 (ls) (.int (nI 4) :: st) h r ↔ Ev 19 219 (ls) (st) h r := ev_tsIn iX2_go_29 (by decide) (off := 190) (by decide) (by decide)
theorem eX2_go_29_c5 : Ev 19 29 (ls) (.int (nI 5) :: st) h r ↔ Ev 19 219 (ls) (st) h r := ev_tsIn iX2_go_29 (by decide) (off := 190) (by decide) (by decide)
theorem eX2_go_29_c6 : Ev 19 29 (ls) (.int (nI 6) :: st) h r ↔ Ev 19 219 (ls) (st) h r := ev_tsIn iX2_go_29 (by decide) (off := 190) (by decide) (by decide)
theorem eX2_go_29_c7 : Ev 19 29 (ls) (.int (nI 7) :: st) h r ↔ Ev 19 219 (ls) (st) h r := ev_tsIn iX2_go_29 (by decide) (off := 190) (by decide) (by decide)
theorem eX2_go_29_c8 : Ev 19 29 (ls) (.int (nI 8) :: st) h r ↔ Ev 19 219 (ls) (st) h r := ev_tsIn iX2_go_29 (by decide) (off := 190) (by decide) (by decide)
theorem eX2_go_29_c9 : Ev 19 29 (ls) (.int (nI 9) :: st) h r ↔ Ev 19 219 (ls) (st) h r := ev_tsIn iX2_go_29 (by decide) (off := 190) (by decide) (by decide)
theorem eX2_go_29_c10 : Ev 19 29 (ls) (.int (nI 10) :: st) h r ↔ Ev 19 219 (ls) (st) h r := ev_tsIn iX2_go_29 (by decide) (off := 190) (by decide) (by decide)
theorem eX2_go_29_c11 : Ev 19 29 (ls) (.int (nI 11) :: st) h r ↔ Ev 19 175 (ls) (st) h r := ev_tsIn iX2_go_29 (by decide) (off := 146) (by decide) (by decide)
theorem eX2_go_29_c12 : Ev 19 29 (ls) (.int (nI 12) :: st) h r ↔ Ev 19 183 (ls) (st) h r := ev_tsIn iX2_go_29 (by decide) (off := 154) (by decide) (by decide)
theorem eX2_go_29_c13 : Ev 19 29 (ls) (.int (nI 13) :: st) h r ↔ Ev 19 219 (ls) (st) h r := ev_tsIn iX2_go_29 (by decide) (off := 190) (by decide) (by decide)
theorem eX2_go_29_c14 : Ev 19 29 (ls) (.int (nI 14) :: st) h r ↔ Ev 19 219 (ls) (st) h r := ev_tsIn iX2_go_29 (by decide) (off := 190) (by decide) (by decide)
theorem eX2_go_29_c15 : Ev 19 29 (ls) (.int (nI 15) :: st) h r ↔ Ev 19 219 (ls) (st) h r := ev_tsIn iX2_go_29 (by decide) (off := 190) (by decide) (by decide)
theorem eX2_go_29_c16 : Ev 19 29 (ls) (.int (nI 16) :: st) h r ↔ Ev 19 219 (ls) (st) h r := ev_tsIn iX2_go_29 (by decide) (off := 190) (by decide) (by decide)
theorem eX2_go_29_c17 : Ev 19 29 (ls) (.int (nI 17) :: st) h r ↔ Ev 19 200 (ls) (st) h r := ev_tsIn iX2_go_29 (by decide) (off := 171) (by decide) (by decide)
theorem eX2_go_29_c18 : Ev 19 29 (ls) (.int (nI 18) :: st) h r ↔ Ev 19 211 (ls) (st) h r := ev_tsIn iX2_go_29 (by decide) (off := 182) (by decide) (by decide)
theorem eX2_go_29_c19 : Ev 19 29 (ls) (.int (nI 19) :: st) h r ↔ Ev 19 219 (ls) (st) h r := ev_tsOut iX2_go_29 (by decide) (by decide)
theorem eX2_go_29_d (hx : x.toInt < 0 ∨ 18 < x.toInt) : Ev 19 29 (ls) (.int x :: st) h r ↔ Ev 19 219 (ls) (st) h r := ev_tsOut iX2_go_29 hx (by decide)
theorem iX2_go_120 : mn_ins 19 120 = some (2, false, .aload_n 0, 1) := by decide +kernel
theorem eX2_go_120 : Ev 19 120 (some (.ref a) :: ls) (st) h r ↔ Ev 19 121 (some (.ref a) :: ls) (.ref a :: st) h r := ev_aload_n iX2_go_120 rfl rfl
theorem iX2_go_121 : mn_ins 19 121 = some (2, false, .iload_n 2, 1) := by decide +kernel
theorem eX2_go_121 : Ev 19 121 (a0 :: a1 :: some (.int x) :: ls) (st) h r ↔ Ev 19 122 (a0 :: a1 :: some (.int x) :: ls) (.int x :: st) h r := ev_iload_n iX2_go_121 rfl
theorem iX2_go_122 : mn_ins 19 122 = some (2, false, .i2l, 1) := by decide +kernel
theorem eX2_go_122 : Ev 19 122 (ls) (.int x :: st) h r ↔ Ev 19 123 (ls) (.long x.toInt64 :: st) h r := ev_i2l iX2_go_122
theorem iX2_go_123 : mn_ins 19 123 = some (2, false, .invokevirtual 41, 3) := by decide +kernel
theorem eX2_go_123 : Ev 19 123 (ls) (.long u0 :: .ref b :: st) h r ↔ Evr true (decide (mn_cats st ≤ 8) && mn_isc h b 2) 19 123 ls st h.2.2.1 h.2.2.2 (Cl 16 (.ref b :: [.long u0]) h.1 h.2.1) r := Ev_V (As := [.long u0]) iX2_go_123 (by decide +kernel) (x := mnI_X2_go) (x2 := mnI_X2_push) rfl rfl rfl (by decide +kernel) (Nat.le_of_ble_eq_true rfl) rfl
theorem iX2_go_126 : mn_ins 19 126 = some (2, false, .goto 115, 3) := by decide +kernel
theorem eX2_go_126 : Ev 19 126 (ls) (st) h r ↔ Ev 19 241 (ls) (st) h r := ev_goto iX2_go_126 (by decide)
theorem iX2_go_129 : mn_ins 19 129 = some (2, false, .aload_n 0, 1) := by decide +kernel
theorem eX2_go_129 : Ev 19 129 (some (.ref a) :: ls) (st) h r ↔ Ev 19 130 (some (.ref a) :: ls) (.ref a :: st) h r := ev_aload_n iX2_go_129 rfl rfl
theorem iX2_go_130 : mn_ins 19 130 = some (2, false, .iload_n 2, 1) := by decide +kernel
theorem eX2_go_130 : Ev 19 130 (a0 :: a1 :: some (.int x) :: ls) (st) h r ↔ Ev 19 131 (a0 :: a1 :: some (.int x) :: ls) (.int x :: st) h r := ev_iload_n iX2_go_130 rfl
theorem iX2_go_131 : mn_ins 19 131 = some (2, false, .iconst 4, 1) := by decide +kernel
theorem eX2_go_131 : Ev 19 131 (ls) (st) h r ↔ Ev 19 132 (ls) (.int (nI 4) :: st) h r := ev_iconst iX2_go_131 (by decide)
theorem iX2_go_132 : mn_ins 19 132 = some (2, false, .invokestatic 45, 3) := by decide +kernel
theorem eX2_go_132 : Ev 19 132 (ls) (.int x1 :: .int x0 :: st) h r ↔ Evr false (decide (mn_cats st ≤ 8)) 19 132 ls st h.2.2.1 h.2.2.2 (Cl 83 [.int x0, .int x1] h.1 h.2.1) r := Ev_T (As := [.int x0, .int x1]) (q := 3) iX2_go_132 (by decide +kernel) (by decide) (x := mnI_X2_go) (x2 := mnI_X7_isWithin) rfl rfl rfl (by decide +kernel) (Nat.le_of_ble_eq_true rfl) rfl
theorem iX2_go_135 : mn_ins 19 135 = some (2, false, .ifCond .eq 12, 3) := by decide +kernel
theorem eX2_go_135 : Ev 19 135 (ls) (.int x :: st) h r ↔ if x = nI 0 then Ev 19 147 (ls) (st) h r else Ev 19 138 (ls) (st) h r := ev_ifeq iX2_go_135 (by decide)
theorem iX2_go_138 : mn_ins 19 138 = some (2, false, .aload_n 0, 1) := by decide +kernel
theorem eX2_go_138 : Ev 19 138 (some (.ref a) :: ls) (st) h r ↔ Ev 19 139 (some (.ref a) :: ls) (.ref a :: st) h r := ev_aload_n iX2_go_138 rfl rfl
theorem iX2_go_139 : mn_ins 19 139 = some (2, false, .getfield 15, 3) := by decide +kernel
theorem eX2_go_139 : Ev 19 139 (ls) (.ref a :: st) h r ↔ Evk 19 142 ls (mn_gf h a 2 1) st h r := ev_getf iX2_go_139 (by decide +kernel)
theorem iX2_go_142 : mn_ins 19 142 = some (2, false, .iload_n 2, 1) := by decide +kernel
theorem eX2_go_142 : Ev 19 142 (a0 :: a1 :: some (.int x) :: ls) (st) h r ↔ Ev 19 143 (a0 :: a1 :: some (.int x) :: ls) (.int x :: st) h r := ev_iload_n iX2_go_142 rfl
theorem iX2_go_143 : mn_ins 19 143 = some (2, false, .laload, 1) := by decide +kernel
theorem eX2_go_143 : Ev 19 143 (ls) (.int x :: .ref a :: st) h r ↔ Evk 19 144 ls (mn_al h a 1 x) st h r := ev_lald iX2_go_143
theorem iX2_go_144 : mn_ins 19 144 = some (2, false, .goto 4, 3) := by decide +kernel
theorem eX2_go_144 : Ev 19 144 (ls) (st) h r ↔ Ev 19 148 (ls) (st) h r := ev_goto iX2_go_144 (by decide)
theorem iX2_go_147 : mn_ins 19 147 = some (2, false, .lconst 0, 1) := by decide +kernel
theorem eX2_go_147 : Ev 19 147 (ls) (st) h r ↔ Ev 19 148 (ls) (.long 0 :: st) h r := ev_lconst iX2_go_147 (by decide)
theorem iX2_go_148 : mn_ins 19 148 = some (2, false, .invokevirtual 41, 3) := by decide +kernel
theorem eX2_go_148 : Ev 19 148 (ls) (.long u0 :: .ref b :: st) h r ↔ Evr true (decide (mn_cats st ≤ 8) && mn_isc h b 2) 19 148 ls st h.2.2.1 h.2.2.2 (Cl 16 (.ref b :: [.long u0]) h.1 h.2.1) r := Ev_V (As := [.long u0]) iX2_go_148 (by decide +kernel) (x := mnI_X2_go) (x2 := mnI_X2_push) rfl rfl rfl (by decide +kernel) (Nat.le_of_ble_eq_true rfl) rfl
theorem iX2_go_151 : mn_ins 19 151 = some (2, false, .goto 90, 3) := by decide +kernel
theorem eX2_go_151 : Ev 19 151 (ls) (st) h r ↔ Ev 19 241 (ls) (st) h r := ev_goto iX2_go_151 (by decide)
theorem iX2_go_154 : mn_ins 19 154 = some (2, false, .iload_n 2, 1) := by decide +kernel
theorem eX2_go_154 : Ev 19 154 (a0 :: a1 :: some (.int x) :: ls) (st) h r ↔ Ev 19 155 (a0 :: a1 :: some (.int x) :: ls) (.int x :: st) h r := ev_iload_n iX2_go_154 rfl
theorem iX2_go_155 : mn_ins 19 155 = some (2, false, .iconst 4, 1) := by decide +kernel
theorem eX2_go_155 : Ev 19 155 (ls) (st) h r ↔ Ev 19 156 (ls) (.int (nI 4) :: st) h r := ev_iconst iX2_go_155 (by decide)
theorem iX2_go_156 : mn_ins 19 156 = some (2, false, .invokestatic 45, 3) := by decide +kernel
theorem eX2_go_156 : Ev 19 156 (ls) (.int x1 :: .int x0 :: st) h r ↔ Evr false (decide (mn_cats st ≤ 8)) 19 156 ls st h.2.2.1 h.2.2.2 (Cl 83 [.int x0, .int x1] h.1 h.2.1) r := Ev_T (As := [.int x0, .int x1]) (q := 3) iX2_go_156 (by decide +kernel) (by decide) (x := mnI_X2_go) (x2 := mnI_X7_isWithin) rfl rfl rfl (by decide +kernel) (Nat.le_of_ble_eq_true rfl) rfl
theorem iX2_go_159 : mn_ins 19 159 = some (2, false, .ifCond .eq 82, 3) := by decide +kernel
theorem eX2_go_159 : Ev 19 159 (ls) (.int x :: st) h r ↔ if x = nI 0 then Ev 19 241 (ls) (st) h r else Ev 19 162 (ls) (st) h r := ev_ifeq iX2_go_159 (by decide)
theorem iX2_go_162 : mn_ins 19 162 = some (2, false, .aload_n 0, 1) := by decide +kernel
theorem eX2_go_162 : Ev 19 162 (some (.ref a) :: ls) (st) h r ↔ Ev 19 163 (some (.ref a) :: ls) (.ref a :: st) h r := ev_aload_n iX2_go_162 rfl rfl
theorem iX2_go_163 : mn_ins 19 163 = some (2, false, .getfield 15, 3) := by decide +kernel
theorem eX2_go_163 : Ev 19 163 (ls) (.ref a :: st) h r ↔ Evk 19 166 ls (mn_gf h a 2 1) st h r := ev_getf iX2_go_163 (by decide +kernel)
theorem iX2_go_166 : mn_ins 19 166 = some (2, false, .iload_n 2, 1) := by decide +kernel
theorem eX2_go_166 : Ev 19 166 (a0 :: a1 :: some (.int x) :: ls) (st) h r ↔ Ev 19 167 (a0 :: a1 :: some (.int x) :: ls) (.int x :: st) h r := ev_iload_n iX2_go_166 rfl
theorem iX2_go_167 : mn_ins 19 167 = some (2, false, .aload_n 0, 1) := by decide +kernel
theorem eX2_go_167 : Ev 19 167 (some (.ref a) :: ls) (st) h r ↔ Ev 19 168 (some (.ref a) :: ls) (.ref a :: st) h r := ev_aload_n iX2_go_167 rfl rfl
theorem iX2_go_168 : mn_ins 19 168 = some (2, false, .invokevirtual 49, 3) := by decide +kernel
theorem eX2_go_168 : Ev 19 168 (ls) (.ref b :: st) h r ↔ Evr true (decide (mn_cats st ≤ 8) && mn_isc h b 2) 19 168 ls st h.2.2.1 h.2.2.2 (Cl 17 (.ref b :: []) h.1 h.2.1) r := Ev_V (As := []) iX2_go_168 (by decide +kernel) (x := mnI_X2_go) (x2 := mnI_X2_pop) rfl rfl rfl (by decide +kernel) (Nat.le_of_ble_eq_true rfl) rfl
theorem iX2_go_171 : mn_ins 19 171 = some (2, false, .lastore, 1) := by decide +kernel
theorem eX2_go_171 : Ev 19 171 (ls) (.long u :: .int x :: .ref a :: st) h r ↔ Evh 19 172 ls st (mn_asl h a x u) r := ev_last iX2_go_171
theorem iX2_go_172 : mn_ins 19 172 = some (2, false, .goto 69, 3) := by decide +kernel
theorem eX2_go_172 : Ev 19 172 (ls) (st) h r ↔ Ev 19 241 (ls) (st) h r := ev_goto iX2_go_172 (by decide)
theorem iX2_go_175 : mn_ins 19 175 = some (2, false, .aload_n 0, 1) := by decide +kernel
theorem eX2_go_175 : Ev 19 175 (some (.ref a) :: ls) (st) h r ↔ Ev 19 176 (some (.ref a) :: ls) (.ref a :: st) h r := ev_aload_n iX2_go_175 rfl rfl
theorem iX2_go_176 : mn_ins 19 176 = some (2, false, .iload_n 2, 1) := by decide +kernel
theorem eX2_go_176 : Ev 19 176 (a0 :: a1 :: some (.int x) :: ls) (st) h r ↔ Ev 19 177 (a0 :: a1 :: some (.int x) :: ls) (.int x :: st) h r := ev_iload_n iX2_go_176 rfl
theorem iX2_go_177 : mn_ins 19 177 = some (2, false, .putfield 22, 3) := by decide +kernel
theorem eX2_go_177 : Ev 19 177 (ls) (w :: .ref a :: st) h r ↔ Evh 19 180 ls st (mn_pf h a 2 3 w) r := ev_putf iX2_go_177 (by decide +kernel) (by decide +kernel)
theorem iX2_go_180 : mn_ins 19 180 = some (2, false, .goto 61, 3) := by decide +kernel
theorem eX2_go_180 : Ev 19 180 (ls) (st) h r ↔ Ev 19 241 (ls) (st) h r := ev_goto iX2_go_180 (by decide)
theorem iX2_go_183 : mn_ins 19 183 = some (2, false, .aload_n 0, 1) := by decide +kernel
theorem eX2_go_183 : Ev 19 183 (some (.ref a) :: ls) (st) h r ↔ Ev 19 184 (some (.ref a) :: ls) (.ref a :: st) h r := ev_aload_n iX2_go_183 rfl rfl
theorem iX2_go_184 : mn_ins 19 184 = some (2, false, .invokevirtual 49, 3) := by decide +kernel
theorem eX2_go_184 : Ev 19 184 (ls) (.ref b :: st) h r ↔ Evr true (decide (mn_cats st ≤ 8) && mn_isc h b 2) 19 184 ls st h.2.2.1 h.2.2.2 (Cl 17 (.ref b :: []) h.1 h.2.1) r := Ev_V (As := []) iX2_go_184 (by decide +kernel) (x := mnI_X2_go) (x2 := mnI_X2_pop) rfl rfl rfl (by decide +kernel) (Nat.le_of_ble_eq_true rfl) rfl
theorem iX2_go_187 : mn_ins 19 187 = some (2, false, .lconst 0, 1) := by decide +kernel
theorem eX2_go_187 : Ev 19 187 (ls) (st) h r ↔ Ev 19 188 (ls) (.long 0 :: st) h r := ev_lconst iX2_go_187 (by decide)
theorem iX2_go_188 : mn_ins 19 188 = some (2, false, .lcmp, 1) := by decide +kernel
theorem eX2_go_188 : Ev 19 188 (ls) (.long v :: .long u :: st) h r ↔ Ev 19 189 (ls) (.int (lg_cmp u v) :: st) h r := ev_lcmp iX2_go_188
theorem iX2_go_189 : mn_ins 19 189 = some (2, false, .ifCond .ne 52, 3) := by decide +kernel
theorem eX2_go_189 : Ev 19 189 (ls) (.int x :: st) h r ↔ if x = nI 0 then Ev 19 192 (ls) (st) h r else Ev 19 241 (ls) (st) h r := ev_ifne iX2_go_189 (by decide)
theorem iX2_go_192 : mn_ins 19 192 = some (2, false, .aload_n 0, 1) := by decide +kernel
theorem eX2_go_192 : Ev 19 192 (some (.ref a) :: ls) (st) h r ↔ Ev 19 193 (some (.ref a) :: ls) (.ref a :: st) h r := ev_aload_n iX2_go_192 rfl rfl
theorem iX2_go_193 : mn_ins 19 193 = some (2, false, .iload_n 2, 1) := by decide +kernel
theorem eX2_go_193 : Ev 19 193 (a0 :: a1 :: some (.int x) :: ls) (st) h r ↔ Ev 19 194 (a0 :: a1 :: some (.int x) :: ls) (.int x :: st) h r := ev_iload_n iX2_go_193 rfl
theorem iX2_go_194 : mn_ins 19 194 = some (2, false, .putfield 22, 3) := by decide +kernel
theorem eX2_go_194 : Ev 19 194 (ls) (w :: .ref a :: st) h r ↔ Evh 19 197 ls st (mn_pf h a 2 3 w) r := ev_putf iX2_go_194 (by decide +kernel) (by decide +kernel)
theorem iX2_go_197 : mn_ins 19 197 = some (2, false, .goto 44, 3) := by decide +kernel
theorem eX2_go_197 : Ev 19 197 (ls) (st) h r ↔ Ev 19 241 (ls) (st) h r := ev_goto iX2_go_197 (by decide)
theorem iX2_go_200 : mn_ins 19 200 = some (2, false, .aload_n 0, 1) := by decide +kernel
theorem eX2_go_200 : Ev 19 200 (some (.ref a) :: ls) (st) h r ↔ Ev 19 201 (some (.ref a) :: ls) (.ref a :: st) h r := ev_aload_n iX2_go_200 rfl rfl
theorem iX2_go_201 : mn_ins 19 201 = some (2, false, .aload_n 0, 1) := by decide +kernel
theorem eX2_go_201 : Ev 19 201 (some (.ref a) :: ls) (st) h r ↔ Ev 19 202 (some (.ref a) :: ls) (.ref a :: st) h r := ev_aload_n iX2_go_201 rfl rfl
theorem iX2_go_202 : mn_ins 19 202 = some (2, false, .invokevirtual 53, 3) := by decide +kernel
theorem eX2_go_202 : Ev 19 202 (ls) (.ref b :: st) h r ↔ Evr true (decide (mn_cats st ≤ 8) && mn_isc h b 2) 19 202 ls st h.2.2.1 h.2.2.2 (Cl 18 (.ref b :: []) h.1 h.2.1) r := Ev_V (As := []) iX2_go_202 (by decide +kernel) (x := mnI_X2_go) (x2 := mnI_X2_top) rfl rfl rfl (by decide +kernel) (Nat.le_of_ble_eq_true rfl) rfl
theorem iX2_go_205 : mn_ins 19 205 = some (2, false, .invokevirtual 41, 3) := by decide +kernel
theorem eX2_go_205 : Ev 19 205 (ls) (.long u0 :: .ref b :: st) h r ↔ Evr true (decide (mn_cats st ≤ 8) && mn_isc h b 2) 19 205 ls st h.2.2.1 h.2.2.2 (Cl 16 (.ref b :: [.long u0]) h.1 h.2.1) r := Ev_V (As := [.long u0]) iX2_go_205 (by decide +kernel) (x := mnI_X2_go) (x2 := mnI_X2_push) rfl rfl rfl (by decide +kernel) (Nat.le_of_ble_eq_true rfl) rfl
theorem iX2_go_208 : mn_ins 19 208 = some (2, false, .goto 33, 3) := by decide +kernel
theorem eX2_go_208 : Ev 19 208 (ls) (st) h r ↔ Ev 19 241 (ls) (st) h r := ev_goto iX2_go_208 (by decide)
theorem iX2_go_211 : mn_ins 19 211 = some (2, false, .aload_n 0, 1) := by decide +kernel
theorem eX2_go_211 : Ev 19 211 (some (.ref a) :: ls) (st) h r ↔ Ev 19 212 (some (.ref a) :: ls) (.ref a :: st) h r := ev_aload_n iX2_go_211 rfl rfl
theorem iX2_go_212 : mn_ins 19 212 = some (2, false, .invokevirtual 49, 3) := by decide +kernel
theorem eX2_go_212 : Ev 19 212 (ls) (.ref b :: st) h r ↔ Evr true (decide (mn_cats st ≤ 8) && mn_isc h b 2) 19 212 ls st h.2.2.1 h.2.2.2 (Cl 17 (.ref b :: []) h.1 h.2.1) r := Ev_V (As := []) iX2_go_212 (by decide +kernel) (x := mnI_X2_go) (x2 := mnI_X2_pop) rfl rfl rfl (by decide +kernel) (Nat.le_of_ble_eq_true rfl) rfl
theorem iX2_go_215 : mn_ins 19 215 = some (2, false, .pop2, 1) := by decide +kernel
theorem eX2_go_215 : Ev 19 215 (ls) (.long u :: st) h r ↔ Ev 19 216 (ls) (st) h r := ev_pop2 iX2_go_215
theorem iX2_go_216 : mn_ins 19 216 = some (2, false, .goto 25, 3) := by decide +kernel
theorem eX2_go_216 : Ev 19 216 (ls) (st) h r ↔ Ev 19 241 (ls) (st) h r := ev_goto iX2_go_216 (by decide)
theorem iX2_go_219 : mn_ins 19 219 = some (2, false, .aload_n 0, 1) := by decide +kernel
theorem eX2_go_219 : Ev 19 219 (some (.ref a) :: ls) (st) h r ↔ Ev 19 220 (some (.ref a) :: ls) (.ref a :: st) h r := ev_aload_n iX2_go_219 rfl rfl
theorem iX2_go_220 : mn_ins 19 220 = some (2, false, .invokevirtual 49, 3) := by decide +kernel
theorem eX2_go_220 : Ev 19 220 (ls) (.ref b :: st) h r ↔ Evr true (decide (mn_cats st ≤ 8) && mn_isc h b 2) 19 220 ls st h.2.2.1 h.2.2.2 (Cl 17 (.ref b :: []) h.1 h.2.1) r := Ev_V (As := []) iX2_go_220 (by decide +kernel) (x := mnI_X2_go) (x2 := mnI_X2_pop) rfl rfl rfl (by decide +kernel) (Nat.le_of_ble_eq_true rfl) rfl
theorem iX2_go_223 : mn_ins 19 223 = some (2, false, .lstore_n 3, 1) := by decide +kernel
theorem eX2_go_223 : Ev 19 223 (a0 :: a1 :: a2 :: a3 :: a4 :: ls) (.long u :: st) h r ↔ Ev 19 224 (a0 :: a1 :: mn_k a2 :: some (.long u) :: none :: ls) (st) h r := ev_lstore_n iX2_go_223 (by show 4 < _; simp only [List.length_cons]; omega)
theorem iX2_go_224 : mn_ins 19 224 = some (2, false, .aload_n 0, 1) := by decide +kernel
theorem eX2_go_224 : Ev 19 224 (some (.ref a) :: ls) (st) h r ↔ Ev 19 225 (some (.ref a) :: ls) (.ref a :: st) h r := ev_aload_n iX2_go_224 rfl rfl
theorem iX2_go_225 : mn_ins 19 225 = some (2, false, .invokevirtual 49, 3) := by decide +kernel
theorem eX2_go_225 : Ev 19 225 (ls) (.ref b :: st) h r ↔ Evr true (decide (mn_cats st ≤ 8) && mn_isc h b 2) 19 225 ls st h.2.2.1 h.2.2.2 (Cl 17 (.ref b :: []) h.1 h.2.1) r := Ev_V (As := []) iX2_go_225 (by decide +kernel) (x := mnI_X2_go) (x2 := mnI_X2_pop) rfl rfl rfl (by decide +kernel) (Nat.le_of_ble_eq_true rfl) rfl
theorem iX2_go_228 : mn_ins 19 228 = some (2, false, .lstore 5, 2) := by decide +kernel
theorem eX2_go_228 : Ev 19 228 (a0 :: a1 :: a2 :: a3 :: a4 :: a5 :: a6 :: ls) (.long u :: st) h r ↔ Ev 19 230 (a0 :: a1 :: a2 :: a3 :: mn_k a4 :: some (.long u) :: none :: ls) (st) h r := ev_lstore iX2_go_228 (by show 6 < _; simp only [List.length_cons]; omega)
theorem iX2_go_230 : mn_ins 19 230 = some (2, false, .aload_n 0, 1) := by decide +kernel
theorem eX2_go_230 : Ev 19 230 (some (.ref a) :: ls) (st) h r ↔ Ev 19 231 (some (.ref a) :: ls) (.ref a :: st) h r := ev_aload_n iX2_go_230 rfl rfl
theorem iX2_go_231 : mn_ins 19 231 = some (2, false, .iload_n 1, 1) := by decide +kernel
theorem eX2_go_231 : Ev 19 231 (a0 :: some (.int x) :: ls) (st) h r ↔ Ev 19 232 (a0 :: some (.int x) :: ls) (.int x :: st) h r := ev_iload_n iX2_go_231 rfl
theorem iX2_go_232 : mn_ins 19 232 = some (2, false, .lload 5, 2) := by decide +kernel
theorem eX2_go_232 : Ev 19 232 (a0 :: a1 :: a2 :: a3 :: a4 :: some (.long u) :: ls) (st) h r ↔ Ev 19 234 (a0 :: a1 :: a2 :: a3 :: a4 :: some (.long u) :: ls) (.long u :: st) h r := ev_lload iX2_go_232 rfl
theorem iX2_go_234 : mn_ins 19 234 = some (2, false, .lload_n 3, 1) := by decide +kernel
theorem eX2_go_234 : Ev 19 234 (a0 :: a1 :: a2 :: some (.long u) :: ls) (st) h r ↔ Ev 19 235 (a0 :: a1 :: a2 :: some (.long u) :: ls) (.long u :: st) h r := ev_lload_n iX2_go_234 rfl
theorem iX2_go_235 : mn_ins 19 235 = some (2, false, .invokestatic 56, 3) := by decide +kernel
theorem eX2_go_235 : Ev 19 235 (ls) (.long u2 :: .long u1 :: .int x0 :: st) h r ↔ Evr false (decide (mn_cats st ≤ 8)) 19 235 ls st h.2.2.1 h.2.2.2 (Cl 20 [.int x0, .long u1, .long u2] h.1 h.2.1) r := Ev_T (As := [.int x0, .long u1, .long u2]) (q := 1) iX2_go_235 (by decide +kernel) (by decide) (x := mnI_X2_go) (x2 := mnI_X2_reckon) rfl rfl rfl (by decide +kernel) (Nat.le_of_ble_eq_true rfl) rfl
theorem iX2_go_238 : mn_ins 19 238 = some (2, false, .invokevirtual 41, 3) := by decide +kernel
theorem eX2_go_238 : Ev 19 238 (ls) (.long u0 :: .ref b :: st) h r ↔ Evr true (decide (mn_cats st ≤ 8) && mn_isc h b 2) 19 238 ls st h.2.2.1 h.2.2.2 (Cl 16 (.ref b :: [.long u0]) h.1 h.2.1) r := Ev_V (As := [.long u0]) iX2_go_238 (by decide +kernel) (x := mnI_X2_go) (x2 := mnI_X2_push) rfl rfl rfl (by decide +kernel) (Nat.le_of_ble_eq_true rfl) rfl
theorem iX2_go_241 : mn_ins 19 241 = some (2, false, .return_, 1) := by decide +kernel
theorem eX2_go_241 : Ev 19 241 (ls) [] h r ↔ r = (h, .inl none) := ev_vret iX2_go_241 (X := mnI_X2_go) rfl rfl
theorem iX2_reckon_0 : mn_ins 20 0 = some (2, false, .iload_n 0, 1) := by decide +kernel
theorem eX2_reckon_0 : Ev 20 0 (some (.int x) :: ls) (st) h r ↔ Ev 20 1 (some (.int x) :: ls) (.int x :: st) h r := ev_iload_n iX2_reckon_0 rfl
theorem iX2_reckon_1 : mn_ins 20 1 = some (2, false, .tableswitch 71 5 10 #[39, 43, 47, 51, 55, 59], 39) := by decide +kernel
theorem eX2_reckon_1_c5 : Ev 20 1 (ls) (.int (nI 5) :: st) h r ↔ Ev 20 40 (ls) (st) h r := ev_tsIn iX2_reckon_1 (by decide) (off := 39) (by decide) (by decide)
theorem eX2_reckon_1_c6 : Ev 20 1 (ls) (.int (nI 6) :: st) h r ↔ Ev 20 44 (ls) (st) h r := ev_tsIn iX2_reckon_1 (by decide) (off := 43) (by decide) (by decide)
theorem eX2_reckon_1_c7 : Ev 20 1 (ls) (.int (nI 7) :: st) h r ↔ Ev 20 48 (ls) (st) h r := ev_tsIn iX2_reckon_1 (by decide) (off := 47) (by decide) (by decide)
theorem eX2_reckon_1_c8 : Ev 20 1 (ls) (.int (nI 8) :: st) h r ↔ Ev 20 52 (ls) (st) h r := ev_tsIn iX2_reckon_1 (by decide) (off := 51) (by decide) (by decide)
theorem eX2_reckon_1_c9 : Ev 20 1 (ls) (.int (nI 9) :: st) h r ↔ Ev 20 56 (ls) (st) h r := ev_tsIn iX2_reckon_1 (by decide) (off := 55) (by decide) (by decide)
theorem eX2_reckon_1_c10 : Ev 20 1 (ls) (.int (nI 10) :: st) h r ↔ Ev 20 60 (ls) (st) h r := ev_tsIn iX2_reckon_1 (by decide) (off := 59) (by decide) (by decide)
theorem eX2_reckon_1_c0 : Ev 20 1 (ls) (.int (nI 0) :: st) h r ↔ Ev 20 72 (ls) (st) h r := ev_tsOut iX2_reckon_1 (by decide) (by decide)
theorem eX2_reckon_1_c1 : Ev 20 1 (ls) (.int (nI 1) :: st) h r ↔ Ev 20 72 (ls) (st) h r := ev_tsOut iX2_reckon_1 (by decide) (by decide)
theorem eX2_reckon_1_c2 : Ev 20 1 (ls) (.int (nI 2) :: st) h r ↔ Ev 20 72 (ls) (st) h r := ev_tsOut iX2_reckon_1 (by decide) (by decide)
theorem eX2_reckon_1_c3 : Ev 20 1 (ls) (.int (nI 3) :: st) h r ↔ Ev 20 72 (ls) (st) h r := ev_tsOut iX2_reckon_1 (by decide) (by decide)
theorem eX2_reckon_1_c4 : Ev 20 1 (ls) (.int (nI 4) :: st) h r ↔ Ev 20 72 (ls) (st) h r := ev_tsOut iX2_reckon_1 (by decide) (by decide)
theorem eX2_reckon_1_c11 : Ev 20 1 (ls) (.int (nI 11) :: st) h r ↔ Ev 20 72 (ls) (st) h r := ev_tsOut iX2_reckon_1 (by decide) (by decide)
theorem eX2_reckon_1_c12 : Ev 20 1 (ls) (.int (nI 12) :: st) h r ↔ Ev 20 72 (ls) (st) h r := ev_tsOut iX2_reckon_1 (by decide) (by decide)
theorem eX2_reckon_1_c13 : Ev 20 1 (ls) (.int (nI 13) :: st) h r ↔ Ev 20 72 (ls) (st) h r := ev_tsOut iX2_reckon_1 (by decide) (by decide)
theorem eX2_reckon_1_c14 : Ev 20 1 (ls) (.int (nI 14) :: st) h r ↔ Ev 20 72 (ls) (st) h r := ev_tsOut iX2_reckon_1 (by decide) (by decide)
theorem eX2_reckon_1_c15 : Ev 20 1 (ls) (.int (nI 15) :: st) h r ↔ Ev 20 72 (ls) (st) h r := ev_tsOut iX2_reckon_1 (by decide) (by decide)
theorem eX2_reckon_1_c16 : Ev 20 1 (ls) (.int (nI 16) :: st) h r ↔ Ev 20 72 (ls) (st) h r := ev_tsOut iX2_reckon_1 (by decide) (by decide)
theorem eX2_reckon_1_c17 : Ev 20 1 (ls) (.int (nI 17) :: st) h r ↔ Ev 20 72 (ls) (st) h r := ev_tsOut iX2_reckon_1 (by decide) (by decide)
theorem eX2_reckon_1_c18 : Ev 20 1 (ls) (.int (nI 18) :: st) h r ↔ Ev 20 72 (ls) (st) h r := ev_tsOut iX2_reckon_1 (by decide) (by decide)
theorem eX2_reckon_1_c19 : Ev 20 1 (ls) (.int (nI 19) :: st) h r ↔ Ev 20 72 (ls) (st) h r := ev_tsOut iX2_reckon_1 (by decide) (by decide)
theorem eX2_reckon_1_d (hx : x.toInt < 5 ∨ 10 < x.toInt) : Ev 20 1 (ls) (.int x :: st) h r ↔ Ev 20 72 (ls) (st) h r := ev_tsOut iX2_reckon_1 hx (by decide)
theorem iX2_reckon_40 : mn_ins 20 40 = some (2, false, .lload_n 1, 1) := by decide +kernel
theorem eX2_reckon_40 : Ev 20 40 (a0 :: some (.long u) :: ls) (st) h r ↔ Ev 20 41 (a0 :: some (.long u) :: ls) (.long u :: st) h r := ev_lload_n iX2_reckon_40 rfl
theorem iX2_reckon_41 : mn_ins 20 41 = some (2, false, .lload_n 3, 1) := by decide +kernel
theorem eX2_reckon_41 : Ev 20 41 (a0 :: a1 :: a2 :: some (.long u) :: ls) (st) h r ↔ Ev 20 42 (a0 :: a1 :: a2 :: some (.long u) :: ls) (.long u :: st) h r := ev_lload_n iX2_reckon_41 rfl
theorem iX2_reckon_42 : mn_ins 20 42 = some (2, false, .ladd, 1) := by decide +kernel
theorem eX2_reckon_42 : Ev 20 42 (ls) (.long v :: .long u :: st) h r ↔ Ev 20 43 (ls) (.long (u + v) :: st) h r := ev_ladd iX2_reckon_42
theorem iX2_reckon_43 : mn_ins 20 43 = some (2, false, .lreturn, 1) := by decide +kernel
theorem eX2_reckon_43 : Ev 20 43 (ls) [.long u] h r ↔ r = (h, .inl (some (.long u))) := ev_lret iX2_reckon_43 (X := mnI_X2_reckon) rfl rfl
theorem iX2_reckon_44 : mn_ins 20 44 = some (2, false, .lload_n 1, 1) := by decide +kernel
theorem eX2_reckon_44 : Ev 20 44 (a0 :: some (.long u) :: ls) (st) h r ↔ Ev 20 45 (a0 :: some (.long u) :: ls) (.long u :: st) h r := ev_lload_n iX2_reckon_44 rfl
theorem iX2_reckon_45 : mn_ins 20 45 = some (2, false, .lload_n 3, 1) := by decide +kernel
theorem eX2_reckon_45 : Ev 20 45 (a0 :: a1 :: a2 :: some (.long u) :: ls) (st) h r ↔ Ev 20 46 (a0 :: a1 :: a2 :: some (.long u) :: ls) (.long u :: st) h r := ev_lload_n iX2_reckon_45 rfl
theorem iX2_reckon_46 : mn_ins 20 46 = some (2, false, .lsub, 1) := by decide +kernel
theorem eX2_reckon_46 : Ev 20 46 (ls) (.long v :: .long u :: st) h r ↔ Ev 20 47 (ls) (.long (u - v) :: st) h r := ev_lsub iX2_reckon_46
theorem iX2_reckon_47 : mn_ins 20 47 = some (2, false, .lreturn, 1) := by decide +kernel
theorem eX2_reckon_47 : Ev 20 47 (ls) [.long u] h r ↔ r = (h, .inl (some (.long u))) := ev_lret iX2_reckon_47 (X := mnI_X2_reckon) rfl rfl
theorem iX2_reckon_48 : mn_ins 20 48 = some (2, false, .lload_n 1, 1) := by decide +kernel
theorem eX2_reckon_48 : Ev 20 48 (a0 :: some (.long u) :: ls) (st) h r ↔ Ev 20 49 (a0 :: some (.long u) :: ls) (.long u :: st) h r := ev_lload_n iX2_reckon_48 rfl
theorem iX2_reckon_49 : mn_ins 20 49 = some (2, false, .lload_n 3, 1) := by decide +kernel
theorem eX2_reckon_49 : Ev 20 49 (a0 :: a1 :: a2 :: some (.long u) :: ls) (st) h r ↔ Ev 20 50 (a0 :: a1 :: a2 :: some (.long u) :: ls) (.long u :: st) h r := ev_lload_n iX2_reckon_49 rfl
theorem iX2_reckon_50 : mn_ins 20 50 = some (2, false, .lmul, 1) := by decide +kernel
theorem eX2_reckon_50 : Ev 20 50 (ls) (.long v :: .long u :: st) h r ↔ Ev 20 51 (ls) (.long (u * v) :: st) h r := ev_lmul iX2_reckon_50
theorem iX2_reckon_51 : mn_ins 20 51 = some (2, false, .lreturn, 1) := by decide +kernel
theorem eX2_reckon_51 : Ev 20 51 (ls) [.long u] h r ↔ r = (h, .inl (some (.long u))) := ev_lret iX2_reckon_51 (X := mnI_X2_reckon) rfl rfl
theorem iX2_reckon_52 : mn_ins 20 52 = some (2, false, .lload_n 1, 1) := by decide +kernel
theorem eX2_reckon_52 : Ev 20 52 (a0 :: some (.long u) :: ls) (st) h r ↔ Ev 20 53 (a0 :: some (.long u) :: ls) (.long u :: st) h r := ev_lload_n iX2_reckon_52 rfl
theorem iX2_reckon_53 : mn_ins 20 53 = some (2, false, .lload_n 3, 1) := by decide +kernel
theorem eX2_reckon_53 : Ev 20 53 (a0 :: a1 :: a2 :: some (.long u) :: ls) (st) h r ↔ Ev 20 54 (a0 :: a1 :: a2 :: some (.long u) :: ls) (.long u :: st) h r := ev_lload_n iX2_reckon_53 rfl
theorem iX2_reckon_54 : mn_ins 20 54 = some (2, false, .land, 1) := by decide +kernel
theorem eX2_reckon_54 : Ev 20 54 (ls) (.long v :: .long u :: st) h r ↔ Ev 20 55 (ls) (.long (u &&& v) :: st) h r := ev_land iX2_reckon_54
theorem iX2_reckon_55 : mn_ins 20 55 = some (2, false, .lreturn, 1) := by decide +kernel
theorem eX2_reckon_55 : Ev 20 55 (ls) [.long u] h r ↔ r = (h, .inl (some (.long u))) := ev_lret iX2_reckon_55 (X := mnI_X2_reckon) rfl rfl
theorem iX2_reckon_56 : mn_ins 20 56 = some (2, false, .lload_n 1, 1) := by decide +kernel
theorem eX2_reckon_56 : Ev 20 56 (a0 :: some (.long u) :: ls) (st) h r ↔ Ev 20 57 (a0 :: some (.long u) :: ls) (.long u :: st) h r := ev_lload_n iX2_reckon_56 rfl
theorem iX2_reckon_57 : mn_ins 20 57 = some (2, false, .lload_n 3, 1) := by decide +kernel
theorem eX2_reckon_57 : Ev 20 57 (a0 :: a1 :: a2 :: some (.long u) :: ls) (st) h r ↔ Ev 20 58 (a0 :: a1 :: a2 :: some (.long u) :: ls) (.long u :: st) h r := ev_lload_n iX2_reckon_57 rfl
theorem iX2_reckon_58 : mn_ins 20 58 = some (2, false, .lor, 1) := by decide +kernel
theorem eX2_reckon_58 : Ev 20 58 (ls) (.long v :: .long u :: st) h r ↔ Ev 20 59 (ls) (.long (u ||| v) :: st) h r := ev_lor iX2_reckon_58
theorem iX2_reckon_59 : mn_ins 20 59 = some (2, false, .lreturn, 1) := by decide +kernel
theorem eX2_reckon_59 : Ev 20 59 (ls) [.long u] h r ↔ r = (h, .inl (some (.long u))) := ev_lret iX2_reckon_59 (X := mnI_X2_reckon) rfl rfl
theorem iX2_reckon_60 : mn_ins 20 60 = some (2, false, .lload_n 1, 1) := by decide +kernel
theorem eX2_reckon_60 : Ev 20 60 (a0 :: some (.long u) :: ls) (st) h r ↔ Ev 20 61 (a0 :: some (.long u) :: ls) (.long u :: st) h r := ev_lload_n iX2_reckon_60 rfl
theorem iX2_reckon_61 : mn_ins 20 61 = some (2, false, .lload_n 3, 1) := by decide +kernel
theorem eX2_reckon_61 : Ev 20 61 (a0 :: a1 :: a2 :: some (.long u) :: ls) (st) h r ↔ Ev 20 62 (a0 :: a1 :: a2 :: some (.long u) :: ls) (.long u :: st) h r := ev_lload_n iX2_reckon_61 rfl
theorem iX2_reckon_62 : mn_ins 20 62 = some (2, false, .lcmp, 1) := by decide +kernel
theorem eX2_reckon_62 : Ev 20 62 (ls) (.long v :: .long u :: st) h r ↔ Ev 20 63 (ls) (.int (lg_cmp u v) :: st) h r := ev_lcmp iX2_reckon_62
theorem iX2_reckon_63 : mn_ins 20 63 = some (2, false, .ifCond .ge 7, 3) := by decide +kernel
theorem eX2_reckon_63 : Ev 20 63 (ls) (.int x :: st) h r ↔ if nI 0 ≤ x then Ev 20 70 (ls) (st) h r else Ev 20 66 (ls) (st) h r := ev_ifge iX2_reckon_63 (by decide)
theorem iX2_reckon_66 : mn_ins 20 66 = some (2, false, .lconst 1, 1) := by decide +kernel
theorem eX2_reckon_66 : Ev 20 66 (ls) (st) h r ↔ Ev 20 67 (ls) (.long 1 :: st) h r := ev_lconst iX2_reckon_66 (by decide)
theorem iX2_reckon_67 : mn_ins 20 67 = some (2, false, .goto 4, 3) := by decide +kernel
theorem eX2_reckon_67 : Ev 20 67 (ls) (st) h r ↔ Ev 20 71 (ls) (st) h r := ev_goto iX2_reckon_67 (by decide)
theorem iX2_reckon_70 : mn_ins 20 70 = some (2, false, .lconst 0, 1) := by decide +kernel
theorem eX2_reckon_70 : Ev 20 70 (ls) (st) h r ↔ Ev 20 71 (ls) (.long 0 :: st) h r := ev_lconst iX2_reckon_70 (by decide)
theorem iX2_reckon_71 : mn_ins 20 71 = some (2, false, .lreturn, 1) := by decide +kernel
theorem eX2_reckon_71 : Ev 20 71 (ls) [.long u] h r ↔ r = (h, .inl (some (.long u))) := ev_lret iX2_reckon_71 (X := mnI_X2_reckon) rfl rfl
theorem iX2_reckon_72 : mn_ins 20 72 = some (2, false, .lconst 0, 1) := by decide +kernel
theorem eX2_reckon_72 : Ev 20 72 (ls) (st) h r ↔ Ev 20 73 (ls) (.long 0 :: st) h r := ev_lconst iX2_reckon_72 (by decide)
theorem iX2_reckon_73 : mn_ins 20 73 = some (2, false, .lreturn, 1) := by decide +kernel
theorem eX2_reckon_73 : Ev 20 73 (ls) [.long u] h r ↔ r = (h, .inl (some (.long u))) := ev_lret iX2_reckon_73 (X := mnI_X2_reckon) rfl rfl
theorem iX2_outcome_0 : mn_ins 21 0 = some (2, false, .aload_n 0, 1) := by decide +kernel
theorem eX2_outcome_0 : Ev 21 0 (some (.ref a) :: ls) (st) h r ↔ Ev 21 1 (some (.ref a) :: ls) (.ref a :: st) h r := ev_aload_n iX2_outcome_0 rfl rfl
theorem iX2_outcome_1 : mn_ins 21 1 = some (2, false, .aload_n 1, 1) := by decide +kernel
theorem eX2_outcome_1 : Ev 21 1 (a0 :: some (.ref a) :: ls) (st) h r ↔ Ev 21 2 (a0 :: some (.ref a) :: ls) (.ref a :: st) h r := ev_aload_n iX2_outcome_1 rfl rfl
theorem eX2_outcome_1n : Ev 21 1 (a0 :: some (.null) :: ls) (st) h r ↔ Ev 21 2 (a0 :: some (.null) :: ls) (.null :: st) h r := ev_aload_n iX2_outcome_1 rfl rfl
theorem eX2_outcome_1t : Ev 21 1 (a0 :: some (tkv o1) :: ls) (st) h r ↔ Ev 21 2 (a0 :: some (tkv o1) :: ls) (tkv o1 :: st) h r := ev_aload_n iX2_outcome_1 rfl tkv_r
theorem eX2_outcome_1s : Ev 21 1 (a0 :: some (sgv o1) :: ls) (st) h r ↔ Ev 21 2 (a0 :: some (sgv o1) :: ls) (sgv o1 :: st) h r := ev_aload_n iX2_outcome_1 rfl sgv_r
theorem eX2_outcome_1c : Ev 21 1 (a0 :: some (cdv o1) :: ls) (st) h r ↔ Ev 21 2 (a0 :: some (cdv o1) :: ls) (cdv o1 :: st) h r := ev_aload_n iX2_outcome_1 rfl cdv_r
theorem iX2_outcome_2 : mn_ins 21 2 = some (2, false, .lload_n 2, 1) := by decide +kernel
theorem eX2_outcome_2 : Ev 21 2 (a0 :: a1 :: some (.long u) :: ls) (st) h r ↔ Ev 21 3 (a0 :: a1 :: some (.long u) :: ls) (.long u :: st) h r := ev_lload_n iX2_outcome_2 rfl
theorem iX2_outcome_3 : mn_ins 21 3 = some (2, false, .invokevirtual 60, 3) := by decide +kernel
theorem EgX2_outcome_3 (hw3 : (mn_r w3).isSome = true) : Ev 21 3 (ls) (.long u1 :: w3 :: .ref b :: st) h r ↔ Evr true (decide (mn_cats st ≤ 8) && mn_isc h b 2) 21 3 ls st h.2.2.1 h.2.2.2 (Cl 12 (.ref b :: [w3, .long u1]) h.1 h.2.1) r := Ev_V (As := [w3, .long u1]) iX2_outcome_3 (by decide +kernel) (x := mnI_X2_outcome) (x2 := mnI_X2_begin) rfl rfl rfl (by decide +kernel) (by rcases mn_r_is hw3 with ⟨_, rfl⟩ | rfl <;> exact Nat.le_of_ble_eq_true rfl) rfl
theorem eX2_outcome_3 {cw3 : Nat} : Ev 21 3 (ls) (.long u1 :: (.ref cw3) :: .ref b :: st) h r ↔ Evr true (decide (mn_cats st ≤ 8) && mn_isc h b 2) 21 3 ls st h.2.2.1 h.2.2.2 (Cl 12 (.ref b :: [(.ref cw3), .long u1]) h.1 h.2.1) r := EgX2_outcome_3 rfl
theorem iX2_outcome_6 : mn_ins 21 6 = some (2, false, .aload_n 0, 1) := by decide +kernel
theorem eX2_outcome_6 : Ev 21 6 (some (.ref a) :: ls) (st) h r ↔ Ev 21 7 (some (.ref a) :: ls) (.ref a :: st) h r := ev_aload_n iX2_outcome_6 rfl rfl
theorem iX2_outcome_7 : mn_ins 21 7 = some (2, false, .getfield 15, 3) := by decide +kernel
theorem eX2_outcome_7 : Ev 21 7 (ls) (.ref a :: st) h r ↔ Evk 21 10 ls (mn_gf h a 2 1) st h r := ev_getf iX2_outcome_7 (by decide +kernel)
theorem iX2_outcome_10 : mn_ins 21 10 = some (2, false, .iconst 1, 1) := by decide +kernel
theorem eX2_outcome_10 : Ev 21 10 (ls) (st) h r ↔ Ev 21 11 (ls) (.int (nI 1) :: st) h r := ev_iconst iX2_outcome_10 (by decide)
theorem iX2_outcome_11 : mn_ins 21 11 = some (2, false, .lload 4, 2) := by decide +kernel
theorem eX2_outcome_11 : Ev 21 11 (a0 :: a1 :: a2 :: a3 :: some (.long u) :: ls) (st) h r ↔ Ev 21 13 (a0 :: a1 :: a2 :: a3 :: some (.long u) :: ls) (.long u :: st) h r := ev_lload iX2_outcome_11 rfl
theorem iX2_outcome_13 : mn_ins 21 13 = some (2, false, .lastore, 1) := by decide +kernel
theorem eX2_outcome_13 : Ev 21 13 (ls) (.long u :: .int x :: .ref a :: st) h r ↔ Evh 21 14 ls st (mn_asl h a x u) r := ev_last iX2_outcome_13
theorem iX2_outcome_14 : mn_ins 21 14 = some (2, false, .aload_n 0, 1) := by decide +kernel
theorem eX2_outcome_14 : Ev 21 14 (some (.ref a) :: ls) (st) h r ↔ Ev 21 15 (some (.ref a) :: ls) (.ref a :: st) h r := ev_aload_n iX2_outcome_14 rfl rfl
theorem iX2_outcome_15 : mn_ins 21 15 = some (2, false, .getfield 15, 3) := by decide +kernel
theorem eX2_outcome_15 : Ev 21 15 (ls) (.ref a :: st) h r ↔ Evk 21 18 ls (mn_gf h a 2 1) st h r := ev_getf iX2_outcome_15 (by decide +kernel)
theorem iX2_outcome_18 : mn_ins 21 18 = some (2, false, .iconst 2, 1) := by decide +kernel
theorem eX2_outcome_18 : Ev 21 18 (ls) (st) h r ↔ Ev 21 19 (ls) (.int (nI 2) :: st) h r := ev_iconst iX2_outcome_18 (by decide)
theorem iX2_outcome_19 : mn_ins 21 19 = some (2, false, .lload 6, 2) := by decide +kernel
theorem eX2_outcome_19 : Ev 21 19 (a0 :: a1 :: a2 :: a3 :: a4 :: a5 :: some (.long u) :: ls) (st) h r ↔ Ev 21 21 (a0 :: a1 :: a2 :: a3 :: a4 :: a5 :: some (.long u) :: ls) (.long u :: st) h r := ev_lload iX2_outcome_19 rfl
theorem iX2_outcome_21 : mn_ins 21 21 = some (2, false, .lastore, 1) := by decide +kernel
theorem eX2_outcome_21 : Ev 21 21 (ls) (.long u :: .int x :: .ref a :: st) h r ↔ Evh 21 22 ls st (mn_asl h a x u) r := ev_last iX2_outcome_21
theorem iX2_outcome_22 : mn_ins 21 22 = some (2, false, .iconst 0, 1) := by decide +kernel
theorem eX2_outcome_22 : Ev 21 22 (ls) (st) h r ↔ Ev 21 23 (ls) (.int (nI 0) :: st) h r := ev_iconst iX2_outcome_22 (by decide)
theorem iX2_outcome_23 : mn_ins 21 23 = some (2, false, .istore 8, 2) := by decide +kernel
theorem eX2_outcome_23 : Ev 21 23 (a0 :: a1 :: a2 :: a3 :: a4 :: a5 :: a6 :: a7 :: a8 :: ls) (.int x :: st) h r ↔ Ev 21 25 (a0 :: a1 :: a2 :: a3 :: a4 :: a5 :: a6 :: mn_k a7 :: some (.int x) :: ls) (st) h r := ev_istore iX2_outcome_23 (by show 8 < _; simp only [List.length_cons]; omega)
theorem iX2_outcome_25 : mn_ins 21 25 = some (2, false, .iload 8, 2) := by decide +kernel
theorem eX2_outcome_25 : Ev 21 25 (a0 :: a1 :: a2 :: a3 :: a4 :: a5 :: a6 :: a7 :: some (.int x) :: ls) (st) h r ↔ Ev 21 27 (a0 :: a1 :: a2 :: a3 :: a4 :: a5 :: a6 :: a7 :: some (.int x) :: ls) (.int x :: st) h r := ev_iload iX2_outcome_25 rfl
theorem iX2_outcome_27 : mn_ins 21 27 = some (2, false, .aload_n 1, 1) := by decide +kernel
theorem eX2_outcome_27 : Ev 21 27 (a0 :: some (.ref a) :: ls) (st) h r ↔ Ev 21 28 (a0 :: some (.ref a) :: ls) (.ref a :: st) h r := ev_aload_n iX2_outcome_27 rfl rfl
theorem eX2_outcome_27n : Ev 21 27 (a0 :: some (.null) :: ls) (st) h r ↔ Ev 21 28 (a0 :: some (.null) :: ls) (.null :: st) h r := ev_aload_n iX2_outcome_27 rfl rfl
theorem eX2_outcome_27t : Ev 21 27 (a0 :: some (tkv o1) :: ls) (st) h r ↔ Ev 21 28 (a0 :: some (tkv o1) :: ls) (tkv o1 :: st) h r := ev_aload_n iX2_outcome_27 rfl tkv_r
theorem eX2_outcome_27s : Ev 21 27 (a0 :: some (sgv o1) :: ls) (st) h r ↔ Ev 21 28 (a0 :: some (sgv o1) :: ls) (sgv o1 :: st) h r := ev_aload_n iX2_outcome_27 rfl sgv_r
theorem eX2_outcome_27c : Ev 21 27 (a0 :: some (cdv o1) :: ls) (st) h r ↔ Ev 21 28 (a0 :: some (cdv o1) :: ls) (cdv o1 :: st) h r := ev_aload_n iX2_outcome_27 rfl cdv_r
theorem iX2_outcome_28 : mn_ins 21 28 = some (2, false, .getfield 64, 3) := by decide +kernel
theorem eX2_outcome_28 : Ev 21 28 (ls) (.ref a :: st) h r ↔ Evk 21 31 ls (mn_gf h a 1 3) st h r := ev_getf iX2_outcome_28 (by decide +kernel)
theorem iX2_outcome_31 : mn_ins 21 31 = some (2, false, .if_icmp .ge 22, 3) := by decide +kernel
theorem eX2_outcome_31 : Ev 21 31 (ls) (.int y :: .int x :: st) h r ↔ if y ≤ x then Ev 21 53 (ls) (st) h r else Ev 21 34 (ls) (st) h r := ev_cmpge iX2_outcome_31 (by decide)
theorem iX2_outcome_34 : mn_ins 21 34 = some (2, false, .aload_n 0, 1) := by decide +kernel
theorem eX2_outcome_34 : Ev 21 34 (some (.ref a) :: ls) (st) h r ↔ Ev 21 35 (some (.ref a) :: ls) (.ref a :: st) h r := ev_aload_n iX2_outcome_34 rfl rfl
theorem iX2_outcome_35 : mn_ins 21 35 = some (2, false, .invokevirtual 67, 3) := by decide +kernel
theorem eX2_outcome_35 : Ev 21 35 (ls) (.ref b :: st) h r ↔ Evr true (decide (mn_cats st ≤ 8) && mn_isc h b 2) 21 35 ls st h.2.2.1 h.2.2.2 (Cl 13 (.ref b :: []) h.1 h.2.1) r := Ev_V (As := []) iX2_outcome_35 (by decide +kernel) (x := mnI_X2_outcome) (x2 := mnI_X2_operation) rfl rfl rfl (by decide +kernel) (Nat.le_of_ble_eq_true rfl) rfl
theorem iX2_outcome_38 : mn_ins 21 38 = some (2, false, .bipush 16, 2) := by decide +kernel
theorem eX2_outcome_38 : Ev 21 38 (ls) (st) h r ↔ Ev 21 40 (ls) (.int (nI 16) :: st) h r := ev_bipush iX2_outcome_38 (by decide)
theorem iX2_outcome_40 : mn_ins 21 40 = some (2, false, .if_icmp .eq 13, 3) := by decide +kernel
theorem eX2_outcome_40 : Ev 21 40 (ls) (.int y :: .int x :: st) h r ↔ if x = y then Ev 21 53 (ls) (st) h r else Ev 21 43 (ls) (st) h r := ev_cmpeq iX2_outcome_40 (by decide)
theorem iX2_outcome_43 : mn_ins 21 43 = some (2, false, .aload_n 0, 1) := by decide +kernel
theorem eX2_outcome_43 : Ev 21 43 (some (.ref a) :: ls) (st) h r ↔ Ev 21 44 (some (.ref a) :: ls) (.ref a :: st) h r := ev_aload_n iX2_outcome_43 rfl rfl
theorem iX2_outcome_44 : mn_ins 21 44 = some (2, false, .invokevirtual 71, 3) := by decide +kernel
theorem eX2_outcome_44 : Ev 21 44 (ls) (.ref b :: st) h r ↔ Evr true (decide (mn_cats st ≤ 8) && mn_isc h b 2) 21 44 ls st h.2.2.1 h.2.2.2 (Cl 19 (.ref b :: []) h.1 h.2.1) r := Ev_V (As := []) iX2_outcome_44 (by decide +kernel) (x := mnI_X2_outcome) (x2 := mnI_X2_go) rfl rfl rfl (by decide +kernel) (Nat.le_of_ble_eq_true rfl) rfl
theorem iX2_outcome_47 : mn_ins 21 47 = some (2, false, .iinc 8 1, 3) := by decide +kernel
theorem eX2_outcome_47 : Ev 21 47 (a0 :: a1 :: a2 :: a3 :: a4 :: a5 :: a6 :: a7 :: some (.int x) :: ls) (st) h r ↔ Ev 21 50 (a0 :: a1 :: a2 :: a3 :: a4 :: a5 :: a6 :: mn_k a7 :: some (.int (x + (nI 1))) :: ls) (st) h r := ev_iinc iX2_outcome_47 rfl (by decide)
theorem iX2_outcome_50 : mn_ins 21 50 = some (2, false, .goto (-25), 3) := by decide +kernel
theorem eX2_outcome_50 : Ev 21 50 (ls) (st) h r ↔ Ev 21 25 (ls) (st) h r := ev_goto iX2_outcome_50 (by decide)
theorem iX2_outcome_53 : mn_ins 21 53 = some (2, false, .aload_n 0, 1) := by decide +kernel
theorem eX2_outcome_53 : Ev 21 53 (some (.ref a) :: ls) (st) h r ↔ Ev 21 54 (some (.ref a) :: ls) (.ref a :: st) h r := ev_aload_n iX2_outcome_53 rfl rfl
theorem iX2_outcome_54 : mn_ins 21 54 = some (2, false, .invokevirtual 49, 3) := by decide +kernel
theorem eX2_outcome_54 : Ev 21 54 (ls) (.ref b :: st) h r ↔ Evr true (decide (mn_cats st ≤ 8) && mn_isc h b 2) 21 54 ls st h.2.2.1 h.2.2.2 (Cl 17 (.ref b :: []) h.1 h.2.1) r := Ev_V (As := []) iX2_outcome_54 (by decide +kernel) (x := mnI_X2_outcome) (x2 := mnI_X2_pop) rfl rfl rfl (by decide +kernel) (Nat.le_of_ble_eq_true rfl) rfl
theorem iX2_outcome_57 : mn_ins 21 57 = some (2, false, .lreturn, 1) := by decide +kernel
theorem eX2_outcome_57 : Ev 21 57 (ls) [.long u] h r ↔ r = (h, .inl (some (.long u))) := ev_lret iX2_outcome_57 (X := mnI_X2_outcome) rfl rfl
theorem iX4_init_0 : mn_ins 32 0 = some (4, true, .aload_n 0, 1) := by decide +kernel
theorem eX4_init_0 : Ev 32 0 (some (.ref a) :: ls) (st) h r ↔ Ev 32 1 (some (.ref a) :: ls) (.ref a :: st) h r := ev_aload_n iX4_init_0 rfl rfl
theorem iX4_init_1 : mn_ins 32 1 = some (4, true, .invokespecial 3, 3) := by decide +kernel
theorem eX4_init_1 (hc : mn_cats st ≤ 8) : Ev 32 1 (ls) (.ref a :: st) h r ↔ Ev 32 4 (ls) (st) h r := Ev_obj iX4_init_1 (q := 0) (by decide +kernel) (x := mnI_X4_init) rfl (by decide) hc
theorem iX4_init_4 : mn_ins 32 4 = some (4, true, .aload_n 0, 1) := by decide +kernel
theorem eX4_init_4 : Ev 32 4 (some (.ref a) :: ls) (st) h r ↔ Ev 32 5 (some (.ref a) :: ls) (.ref a :: st) h r := ev_aload_n iX4_init_4 rfl rfl
theorem iX4_init_5 : mn_ins 32 5 = some (4, true, .bipush 12, 2) := by decide +kernel
theorem eX4_init_5 : Ev 32 5 (ls) (st) h r ↔ Ev 32 7 (ls) (.int (nI 12) :: st) h r := ev_bipush iX4_init_5 (by decide)
theorem iX4_init_7 : mn_ins 32 7 = some (4, true, .newarray .long, 2) := by decide +kernel
theorem eX4_init_7 : Ev 32 7 (ls) (.int x :: st) h r ↔ Evn 32 9 ls st (mn_na h 1 x) r := ev_newl iX4_init_7
theorem iX4_init_9 : mn_ins 32 9 = some (4, true, .putfield 9, 3) := by decide +kernel
theorem eX4_init_9 : Ev 32 9 (ls) (w :: .ref a :: st) h r ↔ Evh 32 12 ls st (mn_pf h a 4 0 w) r := ev_putf iX4_init_9 (by decide +kernel) (by decide +kernel)
theorem iX4_init_12 : mn_ins 32 12 = some (4, true, .return_, 1) := by decide +kernel
theorem eX4_init_12 : Ev 32 12 (ls) [] h r ↔ r = (h, .inl none) := ev_vret iX4_init_12 (X := mnI_X4_init) rfl rfl
theorem iX4_begin_0 : mn_ins 33 0 = some (4, false, .aload_n 0, 1) := by decide +kernel
theorem eX4_begin_0 : Ev 33 0 (some (.ref a) :: ls) (st) h r ↔ Ev 33 1 (some (.ref a) :: ls) (.ref a :: st) h r := ev_aload_n iX4_begin_0 rfl rfl
theorem iX4_begin_1 : mn_ins 33 1 = some (4, false, .aload_n 1, 1) := by decide +kernel
theorem eX4_begin_1 : Ev 33 1 (a0 :: some (.ref a) :: ls) (st) h r ↔ Ev 33 2 (a0 :: some (.ref a) :: ls) (.ref a :: st) h r := ev_aload_n iX4_begin_1 rfl rfl
theorem eX4_begin_1n : Ev 33 1 (a0 :: some (.null) :: ls) (st) h r ↔ Ev 33 2 (a0 :: some (.null) :: ls) (.null :: st) h r := ev_aload_n iX4_begin_1 rfl rfl
theorem eX4_begin_1t : Ev 33 1 (a0 :: some (tkv o1) :: ls) (st) h r ↔ Ev 33 2 (a0 :: some (tkv o1) :: ls) (tkv o1 :: st) h r := ev_aload_n iX4_begin_1 rfl tkv_r
theorem eX4_begin_1s : Ev 33 1 (a0 :: some (sgv o1) :: ls) (st) h r ↔ Ev 33 2 (a0 :: some (sgv o1) :: ls) (sgv o1 :: st) h r := ev_aload_n iX4_begin_1 rfl sgv_r
theorem eX4_begin_1c : Ev 33 1 (a0 :: some (cdv o1) :: ls) (st) h r ↔ Ev 33 2 (a0 :: some (cdv o1) :: ls) (cdv o1 :: st) h r := ev_aload_n iX4_begin_1 rfl cdv_r
theorem iX4_begin_2 : mn_ins 33 2 = some (4, false, .putfield 15, 3) := by decide +kernel
theorem eX4_begin_2 : Ev 33 2 (ls) (w :: .ref a :: st) h r ↔ Evh 33 5 ls st (mn_pf h a 4 2 w) r := ev_putf iX4_begin_2 (by decide +kernel) (by decide +kernel)
theorem iX4_begin_5 : mn_ins 33 5 = some (4, false, .aload_n 0, 1) := by decide +kernel
theorem eX4_begin_5 : Ev 33 5 (some (.ref a) :: ls) (st) h r ↔ Ev 33 6 (some (.ref a) :: ls) (.ref a :: st) h r := ev_aload_n iX4_begin_5 rfl rfl
theorem iX4_begin_6 : mn_ins 33 6 = some (4, false, .iconst 0, 1) := by decide +kernel
theorem eX4_begin_6 : Ev 33 6 (ls) (st) h r ↔ Ev 33 7 (ls) (.int (nI 0) :: st) h r := ev_iconst iX4_begin_6 (by decide)
theorem iX4_begin_7 : mn_ins 33 7 = some (4, false, .putfield 19, 3) := by decide +kernel
theorem eX4_begin_7 : Ev 33 7 (ls) (w :: .ref a :: st) h r ↔ Evh 33 10 ls st (mn_pf h a 4 1 w) r := ev_putf iX4_begin_7 (by decide +kernel) (by decide +kernel)
theorem iX4_begin_10 : mn_ins 33 10 = some (4, false, .aload_n 0, 1) := by decide +kernel
theorem eX4_begin_10 : Ev 33 10 (some (.ref a) :: ls) (st) h r ↔ Ev 33 11 (some (.ref a) :: ls) (.ref a :: st) h r := ev_aload_n iX4_begin_10 rfl rfl
theorem iX4_begin_11 : mn_ins 33 11 = some (4, false, .iconst 1, 1) := by decide +kernel
theorem eX4_begin_11 : Ev 33 11 (ls) (st) h r ↔ Ev 33 12 (ls) (.int (nI 1) :: st) h r := ev_iconst iX4_begin_11 (by decide)
theorem iX4_begin_12 : mn_ins 33 12 = some (4, false, .putfield 23, 3) := by decide +kernel
theorem eX4_begin_12 : Ev 33 12 (ls) (w :: .ref a :: st) h r ↔ Evh 33 15 ls st (mn_pf h a 4 3 w) r := ev_putf iX4_begin_12 (by decide +kernel) (by decide +kernel)
theorem iX4_begin_15 : mn_ins 33 15 = some (4, false, .return_, 1) := by decide +kernel
theorem eX4_begin_15 : Ev 33 15 (ls) [] h r ↔ r = (h, .inl none) := ev_vret iX4_begin_15 (X := mnI_X4_begin) rfl rfl
theorem iX4_hasWritten_0 : mn_ins 34 0 = some (4, false, .aload_n 0, 1) := by decide +kernel
theorem eX4_hasWritten_0 : Ev 34 0 (some (.ref a) :: ls) (st) h r ↔ Ev 34 1 (some (.ref a) :: ls) (.ref a :: st) h r := ev_aload_n iX4_hasWritten_0 rfl rfl
theorem iX4_hasWritten_1 : mn_ins 34 1 = some (4, false, .getfield 19, 3) := by decide +kernel
theorem eX4_hasWritten_1 : Ev 34 1 (ls) (.ref a :: st) h r ↔ Evk 34 4 ls (mn_gf h a 4 1) st h r := ev_getf iX4_hasWritten_1 (by decide +kernel)
theorem iX4_hasWritten_4 : mn_ins 34 4 = some (4, false, .iload_n 1, 1) := by decide +kernel
theorem eX4_hasWritten_4 : Ev 34 4 (a0 :: some (.int x) :: ls) (st) h r ↔ Ev 34 5 (a0 :: some (.int x) :: ls) (.int x :: st) h r := ev_iload_n iX4_hasWritten_4 rfl
theorem iX4_hasWritten_5 : mn_ins 34 5 = some (4, false, .ishr, 1) := by decide +kernel
theorem eX4_hasWritten_5 : Ev 34 5 (ls) (.int y :: .int x :: st) h r ↔ Ev 34 6 (ls) (.int (x >>> (y &&& 31)) :: st) h r := ev_ishr iX4_hasWritten_5
theorem iX4_hasWritten_6 : mn_ins 34 6 = some (4, false, .iconst 1, 1) := by decide +kernel
theorem eX4_hasWritten_6 : Ev 34 6 (ls) (st) h r ↔ Ev 34 7 (ls) (.int (nI 1) :: st) h r := ev_iconst iX4_hasWritten_6 (by decide)
theorem iX4_hasWritten_7 : mn_ins 34 7 = some (4, false, .iand, 1) := by decide +kernel
theorem eX4_hasWritten_7 : Ev 34 7 (ls) (.int y :: .int x :: st) h r ↔ Ev 34 8 (ls) (.int (x &&& y) :: st) h r := ev_iand iX4_hasWritten_7
theorem iX4_hasWritten_8 : mn_ins 34 8 = some (4, false, .ifCond .eq 7, 3) := by decide +kernel
theorem eX4_hasWritten_8 : Ev 34 8 (ls) (.int x :: st) h r ↔ if x = nI 0 then Ev 34 15 (ls) (st) h r else Ev 34 11 (ls) (st) h r := ev_ifeq iX4_hasWritten_8 (by decide)
theorem iX4_hasWritten_11 : mn_ins 34 11 = some (4, false, .iconst 1, 1) := by decide +kernel
theorem eX4_hasWritten_11 : Ev 34 11 (ls) (st) h r ↔ Ev 34 12 (ls) (.int (nI 1) :: st) h r := ev_iconst iX4_hasWritten_11 (by decide)
theorem iX4_hasWritten_12 : mn_ins 34 12 = some (4, false, .goto 4, 3) := by decide +kernel
theorem eX4_hasWritten_12 : Ev 34 12 (ls) (st) h r ↔ Ev 34 16 (ls) (st) h r := ev_goto iX4_hasWritten_12 (by decide)
theorem iX4_hasWritten_15 : mn_ins 34 15 = some (4, false, .iconst 0, 1) := by decide +kernel
theorem eX4_hasWritten_15 : Ev 34 15 (ls) (st) h r ↔ Ev 34 16 (ls) (.int (nI 0) :: st) h r := ev_iconst iX4_hasWritten_15 (by decide)
theorem iX4_hasWritten_16 : mn_ins 34 16 = some (4, false, .ireturn, 1) := by decide +kernel
theorem eX4_hasWritten_16 (hx : x = 0 ∨ x = 1) : Ev 34 16 (ls) [.int x] h r ↔ r = (h, .inl (some (.int x))) := ev_zret iX4_hasWritten_16 (X := mnI_X4_hasWritten) rfl rfl hx
theorem iX4_put_0 : mn_ins 35 0 = some (4, false, .iload_n 1, 1) := by decide +kernel
theorem eX4_put_0 : Ev 35 0 (a0 :: some (.int x) :: ls) (st) h r ↔ Ev 35 1 (a0 :: some (.int x) :: ls) (.int x :: st) h r := ev_iload_n iX4_put_0 rfl
theorem iX4_put_1 : mn_ins 35 1 = some (4, false, .bipush 12, 2) := by decide +kernel
theorem eX4_put_1 : Ev 35 1 (ls) (st) h r ↔ Ev 35 3 (ls) (.int (nI 12) :: st) h r := ev_bipush iX4_put_1 (by decide)
theorem iX4_put_3 : mn_ins 35 3 = some (4, false, .invokestatic 27, 3) := by decide +kernel
theorem eX4_put_3 : Ev 35 3 (ls) (.int x1 :: .int x0 :: st) h r ↔ Evr false (decide (mn_cats st ≤ 8)) 35 3 ls st h.2.2.1 h.2.2.2 (Cl 83 [.int x0, .int x1] h.1 h.2.1) r := Ev_T (As := [.int x0, .int x1]) (q := 3) iX4_put_3 (by decide +kernel) (by decide) (x := mnI_X4_put) (x2 := mnI_X7_isWithin) rfl rfl rfl (by decide +kernel) (Nat.le_of_ble_eq_true rfl) rfl
theorem iX4_put_6 : mn_ins 35 6 = some (4, false, .ifCond .eq 22, 3) := by decide +kernel
theorem eX4_put_6 : Ev 35 6 (ls) (.int x :: st) h r ↔ if x = nI 0 then Ev 35 28 (ls) (st) h r else Ev 35 9 (ls) (st) h r := ev_ifeq iX4_put_6 (by decide)
theorem iX4_put_9 : mn_ins 35 9 = some (4, false, .aload_n 0, 1) := by decide +kernel
theorem eX4_put_9 : Ev 35 9 (some (.ref a) :: ls) (st) h r ↔ Ev 35 10 (some (.ref a) :: ls) (.ref a :: st) h r := ev_aload_n iX4_put_9 rfl rfl
theorem iX4_put_10 : mn_ins 35 10 = some (4, false, .getfield 9, 3) := by decide +kernel
theorem eX4_put_10 : Ev 35 10 (ls) (.ref a :: st) h r ↔ Evk 35 13 ls (mn_gf h a 4 0) st h r := ev_getf iX4_put_10 (by decide +kernel)
theorem iX4_put_13 : mn_ins 35 13 = some (4, false, .iload_n 1, 1) := by decide +kernel
theorem eX4_put_13 : Ev 35 13 (a0 :: some (.int x) :: ls) (st) h r ↔ Ev 35 14 (a0 :: some (.int x) :: ls) (.int x :: st) h r := ev_iload_n iX4_put_13 rfl
theorem iX4_put_14 : mn_ins 35 14 = some (4, false, .lload_n 2, 1) := by decide +kernel
theorem eX4_put_14 : Ev 35 14 (a0 :: a1 :: some (.long u) :: ls) (st) h r ↔ Ev 35 15 (a0 :: a1 :: some (.long u) :: ls) (.long u :: st) h r := ev_lload_n iX4_put_14 rfl
theorem iX4_put_15 : mn_ins 35 15 = some (4, false, .lastore, 1) := by decide +kernel
theorem eX4_put_15 : Ev 35 15 (ls) (.long u :: .int x :: .ref a :: st) h r ↔ Evh 35 16 ls st (mn_asl h a x u) r := ev_last iX4_put_15
theorem iX4_put_16 : mn_ins 35 16 = some (4, false, .aload_n 0, 1) := by decide +kernel
theorem eX4_put_16 : Ev 35 16 (some (.ref a) :: ls) (st) h r ↔ Ev 35 17 (some (.ref a) :: ls) (.ref a :: st) h r := ev_aload_n iX4_put_16 rfl rfl
theorem iX4_put_17 : mn_ins 35 17 = some (4, false, .dup, 1) := by decide +kernel
theorem eX4_put_17 : Ev 35 17 (ls) (.ref a :: st) h r ↔ Ev 35 18 (ls) (.ref a :: .ref a :: st) h r := ev_dup iX4_put_17 rfl
theorem iX4_put_18 : mn_ins 35 18 = some (4, false, .getfield 19, 3) := by decide +kernel
theorem eX4_put_18 : Ev 35 18 (ls) (.ref a :: st) h r ↔ Evk 35 21 ls (mn_gf h a 4 1) st h r := ev_getf iX4_put_18 (by decide +kernel)
theorem iX4_put_21 : mn_ins 35 21 = some (4, false, .iconst 1, 1) := by decide +kernel
theorem eX4_put_21 : Ev 35 21 (ls) (st) h r ↔ Ev 35 22 (ls) (.int (nI 1) :: st) h r := ev_iconst iX4_put_21 (by decide)
theorem iX4_put_22 : mn_ins 35 22 = some (4, false, .iload_n 1, 1) := by decide +kernel
theorem eX4_put_22 : Ev 35 22 (a0 :: some (.int x) :: ls) (st) h r ↔ Ev 35 23 (a0 :: some (.int x) :: ls) (.int x :: st) h r := ev_iload_n iX4_put_22 rfl
theorem iX4_put_23 : mn_ins 35 23 = some (4, false, .ishl, 1) := by decide +kernel
theorem eX4_put_23 : Ev 35 23 (ls) (.int y :: .int x :: st) h r ↔ Ev 35 24 (ls) (.int (x <<< (y &&& 31)) :: st) h r := ev_ishl iX4_put_23
theorem iX4_put_24 : mn_ins 35 24 = some (4, false, .ior, 1) := by decide +kernel
theorem eX4_put_24 : Ev 35 24 (ls) (.int y :: .int x :: st) h r ↔ Ev 35 25 (ls) (.int (x ||| y) :: st) h r := ev_ior iX4_put_24
theorem iX4_put_25 : mn_ins 35 25 = some (4, false, .putfield 19, 3) := by decide +kernel
theorem eX4_put_25 : Ev 35 25 (ls) (w :: .ref a :: st) h r ↔ Evh 35 28 ls st (mn_pf h a 4 1 w) r := ev_putf iX4_put_25 (by decide +kernel) (by decide +kernel)
theorem iX4_put_28 : mn_ins 35 28 = some (4, false, .return_, 1) := by decide +kernel
theorem eX4_put_28 : Ev 35 28 (ls) [] h r ↔ r = (h, .inl none) := ev_vret iX4_put_28 (X := mnI_X4_put) rfl rfl
theorem iX4_lookUp_0 : mn_ins 36 0 = some (4, false, .iload_n 1, 1) := by decide +kernel
theorem eX4_lookUp_0 : Ev 36 0 (a0 :: some (.int x) :: ls) (st) h r ↔ Ev 36 1 (a0 :: some (.int x) :: ls) (.int x :: st) h r := ev_iload_n iX4_lookUp_0 rfl
theorem iX4_lookUp_1 : mn_ins 36 1 = some (4, false, .bipush 12, 2) := by decide +kernel
theorem eX4_lookUp_1 : Ev 36 1 (ls) (st) h r ↔ Ev 36 3 (ls) (.int (nI 12) :: st) h r := ev_bipush iX4_lookUp_1 (by decide)
theorem iX4_lookUp_3 : mn_ins 36 3 = some (4, false, .invokestatic 27, 3) := by decide +kernel
theorem eX4_lookUp_3 : Ev 36 3 (ls) (.int x1 :: .int x0 :: st) h r ↔ Evr false (decide (mn_cats st ≤ 8)) 36 3 ls st h.2.2.1 h.2.2.2 (Cl 83 [.int x0, .int x1] h.1 h.2.1) r := Ev_T (As := [.int x0, .int x1]) (q := 3) iX4_lookUp_3 (by decide +kernel) (by decide) (x := mnI_X4_lookUp) (x2 := mnI_X7_isWithin) rfl rfl rfl (by decide +kernel) (Nat.le_of_ble_eq_true rfl) rfl
theorem iX4_lookUp_6 : mn_ins 36 6 = some (4, false, .ifCond .ne 5, 3) := by decide +kernel
theorem eX4_lookUp_6 : Ev 36 6 (ls) (.int x :: st) h r ↔ if x = nI 0 then Ev 36 9 (ls) (st) h r else Ev 36 11 (ls) (st) h r := ev_ifne iX4_lookUp_6 (by decide)
theorem iX4_lookUp_9 : mn_ins 36 9 = some (4, false, .lconst 0, 1) := by decide +kernel
theorem eX4_lookUp_9 : Ev 36 9 (ls) (st) h r ↔ Ev 36 10 (ls) (.long 0 :: st) h r := ev_lconst iX4_lookUp_9 (by decide)
theorem iX4_lookUp_10 : mn_ins 36 10 = some (4, false, .lreturn, 1) := by decide +kernel
theorem eX4_lookUp_10 : Ev 36 10 (ls) [.long u] h r ↔ r = (h, .inl (some (.long u))) := ev_lret iX4_lookUp_10 (X := mnI_X4_lookUp) rfl rfl
theorem iX4_lookUp_11 : mn_ins 36 11 = some (4, false, .aload_n 0, 1) := by decide +kernel
theorem eX4_lookUp_11 : Ev 36 11 (some (.ref a) :: ls) (st) h r ↔ Ev 36 12 (some (.ref a) :: ls) (.ref a :: st) h r := ev_aload_n iX4_lookUp_11 rfl rfl
theorem iX4_lookUp_12 : mn_ins 36 12 = some (4, false, .astore_n 2, 1) := by decide +kernel
theorem eX4_lookUp_12 : Ev 36 12 (a0 :: a1 :: a2 :: ls) (.ref a :: st) h r ↔ Ev 36 13 (a0 :: mn_k a1 :: some (.ref a) :: ls) (st) h r := ev_astore_n iX4_lookUp_12 (by show 2 < _; simp only [List.length_cons]; omega) rfl
theorem eX4_lookUp_12n : Ev 36 12 (a0 :: a1 :: a2 :: ls) (.null :: st) h r ↔ Ev 36 13 (a0 :: mn_k a1 :: some (.null) :: ls) (st) h r := ev_astore_n iX4_lookUp_12 (by show 2 < _; simp only [List.length_cons]; omega) rfl
theorem eX4_lookUp_12t : Ev 36 12 (a0 :: a1 :: a2 :: ls) (tkv o1 :: st) h r ↔ Ev 36 13 (a0 :: mn_k a1 :: some (tkv o1) :: ls) (st) h r := ev_astore_n iX4_lookUp_12 (by show 2 < _; simp only [List.length_cons]; omega) tkv_r
theorem eX4_lookUp_12s : Ev 36 12 (a0 :: a1 :: a2 :: ls) (sgv o1 :: st) h r ↔ Ev 36 13 (a0 :: mn_k a1 :: some (sgv o1) :: ls) (st) h r := ev_astore_n iX4_lookUp_12 (by show 2 < _; simp only [List.length_cons]; omega) sgv_r
theorem eX4_lookUp_12c : Ev 36 12 (a0 :: a1 :: a2 :: ls) (cdv o1 :: st) h r ↔ Ev 36 13 (a0 :: mn_k a1 :: some (cdv o1) :: ls) (st) h r := ev_astore_n iX4_lookUp_12 (by show 2 < _; simp only [List.length_cons]; omega) cdv_r
theorem iX4_lookUp_13 : mn_ins 36 13 = some (4, false, .aload_n 2, 1) := by decide +kernel
theorem eX4_lookUp_13 : Ev 36 13 (a0 :: a1 :: some (.ref a) :: ls) (st) h r ↔ Ev 36 14 (a0 :: a1 :: some (.ref a) :: ls) (.ref a :: st) h r := ev_aload_n iX4_lookUp_13 rfl rfl
theorem eX4_lookUp_13n : Ev 36 13 (a0 :: a1 :: some (.null) :: ls) (st) h r ↔ Ev 36 14 (a0 :: a1 :: some (.null) :: ls) (.null :: st) h r := ev_aload_n iX4_lookUp_13 rfl rfl
theorem eX4_lookUp_13t : Ev 36 13 (a0 :: a1 :: some (tkv o1) :: ls) (st) h r ↔ Ev 36 14 (a0 :: a1 :: some (tkv o1) :: ls) (tkv o1 :: st) h r := ev_aload_n iX4_lookUp_13 rfl tkv_r
theorem eX4_lookUp_13s : Ev 36 13 (a0 :: a1 :: some (sgv o1) :: ls) (st) h r ↔ Ev 36 14 (a0 :: a1 :: some (sgv o1) :: ls) (sgv o1 :: st) h r := ev_aload_n iX4_lookUp_13 rfl sgv_r
theorem eX4_lookUp_13c : Ev 36 13 (a0 :: a1 :: some (cdv o1) :: ls) (st) h r ↔ Ev 36 14 (a0 :: a1 :: some (cdv o1) :: ls) (cdv o1 :: st) h r := ev_aload_n iX4_lookUp_13 rfl cdv_r
theorem iX4_lookUp_14 : mn_ins 36 14 = some (4, false, .ifnull 26, 3) := by decide +kernel
theorem eX4_lookUp_14 : Ev 36 14 (ls) (va_rf o1 :: st) h r ↔ if o1 = none then Ev 36 40 (ls) (st) h r else Ev 36 17 (ls) (st) h r := ev_ifnull iX4_lookUp_14 (by decide) (mr_rf _)
theorem eX4_lookUp_14r : Ev 36 14 (ls) (.ref a :: st) h r ↔ Ev 36 17 (ls) (st) h r := (ev_ifnull (t := 40) (w := .ref a) (x := some a) iX4_lookUp_14 (by decide) rfl).trans (by rw [if_neg (by simp)])
theorem eX4_lookUp_14n : Ev 36 14 (ls) (.null :: st) h r ↔ Ev 36 40 (ls) (st) h r := (ev_ifnull (t := 40) (w := .null) (x := none) iX4_lookUp_14 (by decide) rfl).trans (by rw [if_pos rfl])
theorem iX4_lookUp_17 : mn_ins 36 17 = some (4, false, .aload_n 2, 1) := by decide +kernel
theorem eX4_lookUp_17 : Ev 36 17 (a0 :: a1 :: some (.ref a) :: ls) (st) h r ↔ Ev 36 18 (a0 :: a1 :: some (.ref a) :: ls) (.ref a :: st) h r := ev_aload_n iX4_lookUp_17 rfl rfl
theorem eX4_lookUp_17n : Ev 36 17 (a0 :: a1 :: some (.null) :: ls) (st) h r ↔ Ev 36 18 (a0 :: a1 :: some (.null) :: ls) (.null :: st) h r := ev_aload_n iX4_lookUp_17 rfl rfl
theorem eX4_lookUp_17t : Ev 36 17 (a0 :: a1 :: some (tkv o1) :: ls) (st) h r ↔ Ev 36 18 (a0 :: a1 :: some (tkv o1) :: ls) (tkv o1 :: st) h r := ev_aload_n iX4_lookUp_17 rfl tkv_r
theorem eX4_lookUp_17s : Ev 36 17 (a0 :: a1 :: some (sgv o1) :: ls) (st) h r ↔ Ev 36 18 (a0 :: a1 :: some (sgv o1) :: ls) (sgv o1 :: st) h r := ev_aload_n iX4_lookUp_17 rfl sgv_r
theorem eX4_lookUp_17c : Ev 36 17 (a0 :: a1 :: some (cdv o1) :: ls) (st) h r ↔ Ev 36 18 (a0 :: a1 :: some (cdv o1) :: ls) (cdv o1 :: st) h r := ev_aload_n iX4_lookUp_17 rfl cdv_r
theorem iX4_lookUp_18 : mn_ins 36 18 = some (4, false, .iload_n 1, 1) := by decide +kernel
theorem eX4_lookUp_18 : Ev 36 18 (a0 :: some (.int x) :: ls) (st) h r ↔ Ev 36 19 (a0 :: some (.int x) :: ls) (.int x :: st) h r := ev_iload_n iX4_lookUp_18 rfl
theorem iX4_lookUp_19 : mn_ins 36 19 = some (4, false, .invokevirtual 31, 3) := by decide +kernel
theorem eX4_lookUp_19 : Ev 36 19 (ls) (.int x0 :: .ref b :: st) h r ↔ Evr true (decide (mn_cats st ≤ 8) && mn_isc h b 4) 36 19 ls st h.2.2.1 h.2.2.2 (Cl 34 (.ref b :: [.int x0]) h.1 h.2.1) r := Ev_V (As := [.int x0]) iX4_lookUp_19 (by decide +kernel) (x := mnI_X4_lookUp) (x2 := mnI_X4_hasWritten) rfl rfl rfl (by decide +kernel) (Nat.le_of_ble_eq_true rfl) rfl
theorem iX4_lookUp_22 : mn_ins 36 22 = some (4, false, .ifCond .eq 10, 3) := by decide +kernel
theorem eX4_lookUp_22 : Ev 36 22 (ls) (.int x :: st) h r ↔ if x = nI 0 then Ev 36 32 (ls) (st) h r else Ev 36 25 (ls) (st) h r := ev_ifeq iX4_lookUp_22 (by decide)
theorem iX4_lookUp_25 : mn_ins 36 25 = some (4, false, .aload_n 2, 1) := by decide +kernel
theorem eX4_lookUp_25 : Ev 36 25 (a0 :: a1 :: some (.ref a) :: ls) (st) h r ↔ Ev 36 26 (a0 :: a1 :: some (.ref a) :: ls) (.ref a :: st) h r := ev_aload_n iX4_lookUp_25 rfl rfl
theorem eX4_lookUp_25n : Ev 36 25 (a0 :: a1 :: some (.null) :: ls) (st) h r ↔ Ev 36 26 (a0 :: a1 :: some (.null) :: ls) (.null :: st) h r := ev_aload_n iX4_lookUp_25 rfl rfl
theorem eX4_lookUp_25t : Ev 36 25 (a0 :: a1 :: some (tkv o1) :: ls) (st) h r ↔ Ev 36 26 (a0 :: a1 :: some (tkv o1) :: ls) (tkv o1 :: st) h r := ev_aload_n iX4_lookUp_25 rfl tkv_r
theorem eX4_lookUp_25s : Ev 36 25 (a0 :: a1 :: some (sgv o1) :: ls) (st) h r ↔ Ev 36 26 (a0 :: a1 :: some (sgv o1) :: ls) (sgv o1 :: st) h r := ev_aload_n iX4_lookUp_25 rfl sgv_r
theorem eX4_lookUp_25c : Ev 36 25 (a0 :: a1 :: some (cdv o1) :: ls) (st) h r ↔ Ev 36 26 (a0 :: a1 :: some (cdv o1) :: ls) (cdv o1 :: st) h r := ev_aload_n iX4_lookUp_25 rfl cdv_r
theorem iX4_lookUp_26 : mn_ins 36 26 = some (4, false, .getfield 9, 3) := by decide +kernel
theorem eX4_lookUp_26 : Ev 36 26 (ls) (.ref a :: st) h r ↔ Evk 36 29 ls (mn_gf h a 4 0) st h r := ev_getf iX4_lookUp_26 (by decide +kernel)
theorem iX4_lookUp_29 : mn_ins 36 29 = some (4, false, .iload_n 1, 1) := by decide +kernel
theorem eX4_lookUp_29 : Ev 36 29 (a0 :: some (.int x) :: ls) (st) h r ↔ Ev 36 30 (a0 :: some (.int x) :: ls) (.int x :: st) h r := ev_iload_n iX4_lookUp_29 rfl
theorem iX4_lookUp_30 : mn_ins 36 30 = some (4, false, .laload, 1) := by decide +kernel
theorem eX4_lookUp_30 : Ev 36 30 (ls) (.int x :: .ref a :: st) h r ↔ Evk 36 31 ls (mn_al h a 1 x) st h r := ev_lald iX4_lookUp_30
theorem iX4_lookUp_31 : mn_ins 36 31 = some (4, false, .lreturn, 1) := by decide +kernel
theorem eX4_lookUp_31 : Ev 36 31 (ls) [.long u] h r ↔ r = (h, .inl (some (.long u))) := ev_lret iX4_lookUp_31 (X := mnI_X4_lookUp) rfl rfl
theorem iX4_lookUp_32 : mn_ins 36 32 = some (4, false, .aload_n 2, 1) := by decide +kernel
theorem eX4_lookUp_32 : Ev 36 32 (a0 :: a1 :: some (.ref a) :: ls) (st) h r ↔ Ev 36 33 (a0 :: a1 :: some (.ref a) :: ls) (.ref a :: st) h r := ev_aload_n iX4_lookUp_32 rfl rfl
theorem eX4_lookUp_32n : Ev 36 32 (a0 :: a1 :: some (.null) :: ls) (st) h r ↔ Ev 36 33 (a0 :: a1 :: some (.null) :: ls) (.null :: st) h r := ev_aload_n iX4_lookUp_32 rfl rfl
theorem eX4_lookUp_32t : Ev 36 32 (a0 :: a1 :: some (tkv o1) :: ls) (st) h r ↔ Ev 36 33 (a0 :: a1 :: some (tkv o1) :: ls) (tkv o1 :: st) h r := ev_aload_n iX4_lookUp_32 rfl tkv_r
theorem eX4_lookUp_32s : Ev 36 32 (a0 :: a1 :: some (sgv o1) :: ls) (st) h r ↔ Ev 36 33 (a0 :: a1 :: some (sgv o1) :: ls) (sgv o1 :: st) h r := ev_aload_n iX4_lookUp_32 rfl sgv_r
theorem eX4_lookUp_32c : Ev 36 32 (a0 :: a1 :: some (cdv o1) :: ls) (st) h r ↔ Ev 36 33 (a0 :: a1 :: some (cdv o1) :: ls) (cdv o1 :: st) h r := ev_aload_n iX4_lookUp_32 rfl cdv_r
theorem iX4_lookUp_33 : mn_ins 36 33 = some (4, false, .getfield 15, 3) := by decide +kernel
theorem eX4_lookUp_33 : Ev 36 33 (ls) (.ref a :: st) h r ↔ Evk 36 36 ls (mn_gf h a 4 2) st h r := ev_getf iX4_lookUp_33 (by decide +kernel)
theorem iX4_lookUp_36 : mn_ins 36 36 = some (4, false, .astore_n 2, 1) := by decide +kernel
theorem eX4_lookUp_36 : Ev 36 36 (a0 :: a1 :: a2 :: ls) (.ref a :: st) h r ↔ Ev 36 37 (a0 :: mn_k a1 :: some (.ref a) :: ls) (st) h r := ev_astore_n iX4_lookUp_36 (by show 2 < _; simp only [List.length_cons]; omega) rfl
theorem eX4_lookUp_36n : Ev 36 36 (a0 :: a1 :: a2 :: ls) (.null :: st) h r ↔ Ev 36 37 (a0 :: mn_k a1 :: some (.null) :: ls) (st) h r := ev_astore_n iX4_lookUp_36 (by show 2 < _; simp only [List.length_cons]; omega) rfl
theorem eX4_lookUp_36t : Ev 36 36 (a0 :: a1 :: a2 :: ls) (tkv o1 :: st) h r ↔ Ev 36 37 (a0 :: mn_k a1 :: some (tkv o1) :: ls) (st) h r := ev_astore_n iX4_lookUp_36 (by show 2 < _; simp only [List.length_cons]; omega) tkv_r
theorem eX4_lookUp_36s : Ev 36 36 (a0 :: a1 :: a2 :: ls) (sgv o1 :: st) h r ↔ Ev 36 37 (a0 :: mn_k a1 :: some (sgv o1) :: ls) (st) h r := ev_astore_n iX4_lookUp_36 (by show 2 < _; simp only [List.length_cons]; omega) sgv_r
theorem eX4_lookUp_36c : Ev 36 36 (a0 :: a1 :: a2 :: ls) (cdv o1 :: st) h r ↔ Ev 36 37 (a0 :: mn_k a1 :: some (cdv o1) :: ls) (st) h r := ev_astore_n iX4_lookUp_36 (by show 2 < _; simp only [List.length_cons]; omega) cdv_r
theorem iX4_lookUp_37 : mn_ins 36 37 = some (4, false, .goto (-24), 3) := by decide +kernel
theorem eX4_lookUp_37 : Ev 36 37 (ls) (st) h r ↔ Ev 36 13 (ls) (st) h r := ev_goto iX4_lookUp_37 (by decide)
theorem iX4_lookUp_40 : mn_ins 36 40 = some (4, false, .lconst 0, 1) := by decide +kernel
theorem eX4_lookUp_40 : Ev 36 40 (ls) (st) h r ↔ Ev 36 41 (ls) (.long 0 :: st) h r := ev_lconst iX4_lookUp_40 (by decide)
theorem iX4_lookUp_41 : mn_ins 36 41 = some (4, false, .lreturn, 1) := by decide +kernel
theorem eX4_lookUp_41 : Ev 36 41 (ls) [.long u] h r ↔ r = (h, .inl (some (.long u))) := ev_lret iX4_lookUp_41 (X := mnI_X4_lookUp) rfl rfl
theorem iX4_writtenCount_0 : mn_ins 37 0 = some (4, false, .aload_n 0, 1) := by decide +kernel
theorem eX4_writtenCount_0 : Ev 37 0 (some (.ref a) :: ls) (st) h r ↔ Ev 37 1 (some (.ref a) :: ls) (.ref a :: st) h r := ev_aload_n iX4_writtenCount_0 rfl rfl
theorem iX4_writtenCount_1 : mn_ins 37 1 = some (4, false, .getfield 19, 3) := by decide +kernel
theorem eX4_writtenCount_1 : Ev 37 1 (ls) (.ref a :: st) h r ↔ Evk 37 4 ls (mn_gf h a 4 1) st h r := ev_getf iX4_writtenCount_1 (by decide +kernel)
theorem iX4_writtenCount_4 : mn_ins 37 4 = some (4, false, .invokestatic 35, 3) := by decide +kernel
theorem eX4_writtenCount_4 : Ev 37 4 (ls) (.int x0 :: st) h r ↔ Evr false (decide (mn_cats st ≤ 8)) 37 4 ls st h.2.2.1 h.2.2.2 (Cl 135 [.int x0] h.1 h.2.1) r := Ev_T (As := [.int x0]) (q := 1) iX4_writtenCount_4 (by decide +kernel) (by decide) (x := mnI_X4_writtenCount) (x2 := mnI_J6_bitCount_0f7a4) rfl rfl rfl (by decide +kernel) (Nat.le_of_ble_eq_true rfl) rfl
theorem iX4_writtenCount_7 : mn_ins 37 7 = some (4, false, .ireturn, 1) := by decide +kernel
theorem eX4_writtenCount_7 : Ev 37 7 (ls) [.int x] h r ↔ r = (h, .inl (some (.int x))) := ev_iret iX4_writtenCount_7 (X := mnI_X4_writtenCount) rfl rfl
theorem iX4_writtenAbove_0 : mn_ins 38 0 = some (4, false, .iconst 0, 1) := by decide +kernel
theorem eX4_writtenAbove_0 : Ev 38 0 (ls) (st) h r ↔ Ev 38 1 (ls) (.int (nI 0) :: st) h r := ev_iconst iX4_writtenAbove_0 (by decide)
theorem iX4_writtenAbove_1 : mn_ins 38 1 = some (4, false, .istore_n 2, 1) := by decide +kernel
theorem eX4_writtenAbove_1 : Ev 38 1 (a0 :: a1 :: a2 :: ls) (.int x :: st) h r ↔ Ev 38 2 (a0 :: mn_k a1 :: some (.int x) :: ls) (st) h r := ev_istore_n iX4_writtenAbove_1 (by show 2 < _; simp only [List.length_cons]; omega)
theorem iX4_writtenAbove_2 : mn_ins 38 2 = some (4, false, .aload_n 0, 1) := by decide +kernel
theorem eX4_writtenAbove_2 : Ev 38 2 (some (.ref a) :: ls) (st) h r ↔ Ev 38 3 (some (.ref a) :: ls) (.ref a :: st) h r := ev_aload_n iX4_writtenAbove_2 rfl rfl
theorem iX4_writtenAbove_3 : mn_ins 38 3 = some (4, false, .astore_n 3, 1) := by decide +kernel
theorem eX4_writtenAbove_3 : Ev 38 3 (a0 :: a1 :: a2 :: a3 :: ls) (.ref a :: st) h r ↔ Ev 38 4 (a0 :: a1 :: mn_k a2 :: some (.ref a) :: ls) (st) h r := ev_astore_n iX4_writtenAbove_3 (by show 3 < _; simp only [List.length_cons]; omega) rfl
theorem eX4_writtenAbove_3n : Ev 38 3 (a0 :: a1 :: a2 :: a3 :: ls) (.null :: st) h r ↔ Ev 38 4 (a0 :: a1 :: mn_k a2 :: some (.null) :: ls) (st) h r := ev_astore_n iX4_writtenAbove_3 (by show 3 < _; simp only [List.length_cons]; omega) rfl
theorem eX4_writtenAbove_3t : Ev 38 3 (a0 :: a1 :: a2 :: a3 :: ls) (tkv o1 :: st) h r ↔ Ev 38 4 (a0 :: a1 :: mn_k a2 :: some (tkv o1) :: ls) (st) h r := ev_astore_n iX4_writtenAbove_3 (by show 3 < _; simp only [List.length_cons]; omega) tkv_r
theorem eX4_writtenAbove_3s : Ev 38 3 (a0 :: a1 :: a2 :: a3 :: ls) (sgv o1 :: st) h r ↔ Ev 38 4 (a0 :: a1 :: mn_k a2 :: some (sgv o1) :: ls) (st) h r := ev_astore_n iX4_writtenAbove_3 (by show 3 < _; simp only [List.length_cons]; omega) sgv_r
theorem eX4_writtenAbove_3c : Ev 38 3 (a0 :: a1 :: a2 :: a3 :: ls) (cdv o1 :: st) h r ↔ Ev 38 4 (a0 :: a1 :: mn_k a2 :: some (cdv o1) :: ls) (st) h r := ev_astore_n iX4_writtenAbove_3 (by show 3 < _; simp only [List.length_cons]; omega) cdv_r
theorem iX4_writtenAbove_4 : mn_ins 38 4 = some (4, false, .aload_n 3, 1) := by decide +kernel
theorem eX4_writtenAbove_4 : Ev 38 4 (a0 :: a1 :: a2 :: some (.ref a) :: ls) (st) h r ↔ Ev 38 5 (a0 :: a1 :: a2 :: some (.ref a) :: ls) (.ref a :: st) h r := ev_aload_n iX4_writtenAbove_4 rfl rfl
theorem eX4_writtenAbove_4n : Ev 38 4 (a0 :: a1 :: a2 :: some (.null) :: ls) (st) h r ↔ Ev 38 5 (a0 :: a1 :: a2 :: some (.null) :: ls) (.null :: st) h r := ev_aload_n iX4_writtenAbove_4 rfl rfl
theorem eX4_writtenAbove_4t : Ev 38 4 (a0 :: a1 :: a2 :: some (tkv o1) :: ls) (st) h r ↔ Ev 38 5 (a0 :: a1 :: a2 :: some (tkv o1) :: ls) (tkv o1 :: st) h r := ev_aload_n iX4_writtenAbove_4 rfl tkv_r
theorem eX4_writtenAbove_4s : Ev 38 4 (a0 :: a1 :: a2 :: some (sgv o1) :: ls) (st) h r ↔ Ev 38 5 (a0 :: a1 :: a2 :: some (sgv o1) :: ls) (sgv o1 :: st) h r := ev_aload_n iX4_writtenAbove_4 rfl sgv_r
theorem eX4_writtenAbove_4c : Ev 38 4 (a0 :: a1 :: a2 :: some (cdv o1) :: ls) (st) h r ↔ Ev 38 5 (a0 :: a1 :: a2 :: some (cdv o1) :: ls) (cdv o1 :: st) h r := ev_aload_n iX4_writtenAbove_4 rfl cdv_r
theorem iX4_writtenAbove_5 : mn_ins 38 5 = some (4, false, .ifnull 23, 3) := by decide +kernel
theorem eX4_writtenAbove_5 : Ev 38 5 (ls) (va_rf o1 :: st) h r ↔ if o1 = none then Ev 38 28 (ls) (st) h r else Ev 38 8 (ls) (st) h r := ev_ifnull iX4_writtenAbove_5 (by decide) (mr_rf _)
theorem eX4_writtenAbove_5r : Ev 38 5 (ls) (.ref a :: st) h r ↔ Ev 38 8 (ls) (st) h r := (ev_ifnull (t := 28) (w := .ref a) (x := some a) iX4_writtenAbove_5 (by decide) rfl).trans (by rw [if_neg (by simp)])
theorem eX4_writtenAbove_5n : Ev 38 5 (ls) (.null :: st) h r ↔ Ev 38 28 (ls) (st) h r := (ev_ifnull (t := 28) (w := .null) (x := none) iX4_writtenAbove_5 (by decide) rfl).trans (by rw [if_pos rfl])
theorem iX4_writtenAbove_8 : mn_ins 38 8 = some (4, false, .aload_n 3, 1) := by decide +kernel
theorem eX4_writtenAbove_8 : Ev 38 8 (a0 :: a1 :: a2 :: some (.ref a) :: ls) (st) h r ↔ Ev 38 9 (a0 :: a1 :: a2 :: some (.ref a) :: ls) (.ref a :: st) h r := ev_aload_n iX4_writtenAbove_8 rfl rfl
theorem eX4_writtenAbove_8n : Ev 38 8 (a0 :: a1 :: a2 :: some (.null) :: ls) (st) h r ↔ Ev 38 9 (a0 :: a1 :: a2 :: some (.null) :: ls) (.null :: st) h r := ev_aload_n iX4_writtenAbove_8 rfl rfl
theorem eX4_writtenAbove_8t : Ev 38 8 (a0 :: a1 :: a2 :: some (tkv o1) :: ls) (st) h r ↔ Ev 38 9 (a0 :: a1 :: a2 :: some (tkv o1) :: ls) (tkv o1 :: st) h r := ev_aload_n iX4_writtenAbove_8 rfl tkv_r
theorem eX4_writtenAbove_8s : Ev 38 8 (a0 :: a1 :: a2 :: some (sgv o1) :: ls) (st) h r ↔ Ev 38 9 (a0 :: a1 :: a2 :: some (sgv o1) :: ls) (sgv o1 :: st) h r := ev_aload_n iX4_writtenAbove_8 rfl sgv_r
theorem eX4_writtenAbove_8c : Ev 38 8 (a0 :: a1 :: a2 :: some (cdv o1) :: ls) (st) h r ↔ Ev 38 9 (a0 :: a1 :: a2 :: some (cdv o1) :: ls) (cdv o1 :: st) h r := ev_aload_n iX4_writtenAbove_8 rfl cdv_r
theorem iX4_writtenAbove_9 : mn_ins 38 9 = some (4, false, .aload_n 1, 1) := by decide +kernel
theorem eX4_writtenAbove_9 : Ev 38 9 (a0 :: some (.ref a) :: ls) (st) h r ↔ Ev 38 10 (a0 :: some (.ref a) :: ls) (.ref a :: st) h r := ev_aload_n iX4_writtenAbove_9 rfl rfl
theorem eX4_writtenAbove_9n : Ev 38 9 (a0 :: some (.null) :: ls) (st) h r ↔ Ev 38 10 (a0 :: some (.null) :: ls) (.null :: st) h r := ev_aload_n iX4_writtenAbove_9 rfl rfl
theorem eX4_writtenAbove_9t : Ev 38 9 (a0 :: some (tkv o1) :: ls) (st) h r ↔ Ev 38 10 (a0 :: some (tkv o1) :: ls) (tkv o1 :: st) h r := ev_aload_n iX4_writtenAbove_9 rfl tkv_r
theorem eX4_writtenAbove_9s : Ev 38 9 (a0 :: some (sgv o1) :: ls) (st) h r ↔ Ev 38 10 (a0 :: some (sgv o1) :: ls) (sgv o1 :: st) h r := ev_aload_n iX4_writtenAbove_9 rfl sgv_r
theorem eX4_writtenAbove_9c : Ev 38 9 (a0 :: some (cdv o1) :: ls) (st) h r ↔ Ev 38 10 (a0 :: some (cdv o1) :: ls) (cdv o1 :: st) h r := ev_aload_n iX4_writtenAbove_9 rfl cdv_r
theorem iX4_writtenAbove_10 : mn_ins 38 10 = some (4, false, .if_acmp .eq 18, 3) := by decide +kernel
theorem eX4_writtenAbove_10 (h3 : 3 ≤ a) : Ev 38 10 (ls) (.ref b :: .ref a :: st) h r ↔ if a = b then Ev 38 28 (ls) (st) h r else Ev 38 13 (ls) (st) h r := (ev_acmpeq (t := 28) (x := some a) (y := some b) iX4_writtenAbove_10 (by decide) rfl rfl (mn_r3_of h3)).trans (by simp only [Option.some.injEq])
theorem eX4_writtenAbove_10n : Ev 38 10 (ls) (.ref b :: .null :: st) h r ↔ Ev 38 13 (ls) (st) h r := (ev_acmpeq (t := 28) (x := none) (y := some b) iX4_writtenAbove_10 (by decide) rfl rfl rfl).trans (by rw [if_neg (by simp)])
theorem iX4_writtenAbove_13 : mn_ins 38 13 = some (4, false, .iload_n 2, 1) := by decide +kernel
theorem eX4_writtenAbove_13 : Ev 38 13 (a0 :: a1 :: some (.int x) :: ls) (st) h r ↔ Ev 38 14 (a0 :: a1 :: some (.int x) :: ls) (.int x :: st) h r := ev_iload_n iX4_writtenAbove_13 rfl
theorem iX4_writtenAbove_14 : mn_ins 38 14 = some (4, false, .aload_n 3, 1) := by decide +kernel
theorem eX4_writtenAbove_14 : Ev 38 14 (a0 :: a1 :: a2 :: some (.ref a) :: ls) (st) h r ↔ Ev 38 15 (a0 :: a1 :: a2 :: some (.ref a) :: ls) (.ref a :: st) h r := ev_aload_n iX4_writtenAbove_14 rfl rfl
theorem eX4_writtenAbove_14n : Ev 38 14 (a0 :: a1 :: a2 :: some (.null) :: ls) (st) h r ↔ Ev 38 15 (a0 :: a1 :: a2 :: some (.null) :: ls) (.null :: st) h r := ev_aload_n iX4_writtenAbove_14 rfl rfl
theorem eX4_writtenAbove_14t : Ev 38 14 (a0 :: a1 :: a2 :: some (tkv o1) :: ls) (st) h r ↔ Ev 38 15 (a0 :: a1 :: a2 :: some (tkv o1) :: ls) (tkv o1 :: st) h r := ev_aload_n iX4_writtenAbove_14 rfl tkv_r
theorem eX4_writtenAbove_14s : Ev 38 14 (a0 :: a1 :: a2 :: some (sgv o1) :: ls) (st) h r ↔ Ev 38 15 (a0 :: a1 :: a2 :: some (sgv o1) :: ls) (sgv o1 :: st) h r := ev_aload_n iX4_writtenAbove_14 rfl sgv_r
theorem eX4_writtenAbove_14c : Ev 38 14 (a0 :: a1 :: a2 :: some (cdv o1) :: ls) (st) h r ↔ Ev 38 15 (a0 :: a1 :: a2 :: some (cdv o1) :: ls) (cdv o1 :: st) h r := ev_aload_n iX4_writtenAbove_14 rfl cdv_r
theorem iX4_writtenAbove_15 : mn_ins 38 15 = some (4, false, .getfield 19, 3) := by decide +kernel
theorem eX4_writtenAbove_15 : Ev 38 15 (ls) (.ref a :: st) h r ↔ Evk 38 18 ls (mn_gf h a 4 1) st h r := ev_getf iX4_writtenAbove_15 (by decide +kernel)
theorem iX4_writtenAbove_18 : mn_ins 38 18 = some (4, false, .ior, 1) := by decide +kernel
theorem eX4_writtenAbove_18 : Ev 38 18 (ls) (.int y :: .int x :: st) h r ↔ Ev 38 19 (ls) (.int (x ||| y) :: st) h r := ev_ior iX4_writtenAbove_18
theorem iX4_writtenAbove_19 : mn_ins 38 19 = some (4, false, .istore_n 2, 1) := by decide +kernel
theorem eX4_writtenAbove_19 : Ev 38 19 (a0 :: a1 :: a2 :: ls) (.int x :: st) h r ↔ Ev 38 20 (a0 :: mn_k a1 :: some (.int x) :: ls) (st) h r := ev_istore_n iX4_writtenAbove_19 (by show 2 < _; simp only [List.length_cons]; omega)
theorem iX4_writtenAbove_20 : mn_ins 38 20 = some (4, false, .aload_n 3, 1) := by decide +kernel
theorem eX4_writtenAbove_20 : Ev 38 20 (a0 :: a1 :: a2 :: some (.ref a) :: ls) (st) h r ↔ Ev 38 21 (a0 :: a1 :: a2 :: some (.ref a) :: ls) (.ref a :: st) h r := ev_aload_n iX4_writtenAbove_20 rfl rfl
theorem eX4_writtenAbove_20n : Ev 38 20 (a0 :: a1 :: a2 :: some (.null) :: ls) (st) h r ↔ Ev 38 21 (a0 :: a1 :: a2 :: some (.null) :: ls) (.null :: st) h r := ev_aload_n iX4_writtenAbove_20 rfl rfl
theorem eX4_writtenAbove_20t : Ev 38 20 (a0 :: a1 :: a2 :: some (tkv o1) :: ls) (st) h r ↔ Ev 38 21 (a0 :: a1 :: a2 :: some (tkv o1) :: ls) (tkv o1 :: st) h r := ev_aload_n iX4_writtenAbove_20 rfl tkv_r
theorem eX4_writtenAbove_20s : Ev 38 20 (a0 :: a1 :: a2 :: some (sgv o1) :: ls) (st) h r ↔ Ev 38 21 (a0 :: a1 :: a2 :: some (sgv o1) :: ls) (sgv o1 :: st) h r := ev_aload_n iX4_writtenAbove_20 rfl sgv_r
theorem eX4_writtenAbove_20c : Ev 38 20 (a0 :: a1 :: a2 :: some (cdv o1) :: ls) (st) h r ↔ Ev 38 21 (a0 :: a1 :: a2 :: some (cdv o1) :: ls) (cdv o1 :: st) h r := ev_aload_n iX4_writtenAbove_20 rfl cdv_r
theorem iX4_writtenAbove_21 : mn_ins 38 21 = some (4, false, .getfield 15, 3) := by decide +kernel
theorem eX4_writtenAbove_21 : Ev 38 21 (ls) (.ref a :: st) h r ↔ Evk 38 24 ls (mn_gf h a 4 2) st h r := ev_getf iX4_writtenAbove_21 (by decide +kernel)
theorem iX4_writtenAbove_24 : mn_ins 38 24 = some (4, false, .astore_n 3, 1) := by decide +kernel
theorem eX4_writtenAbove_24 : Ev 38 24 (a0 :: a1 :: a2 :: a3 :: ls) (.ref a :: st) h r ↔ Ev 38 25 (a0 :: a1 :: mn_k a2 :: some (.ref a) :: ls) (st) h r := ev_astore_n iX4_writtenAbove_24 (by show 3 < _; simp only [List.length_cons]; omega) rfl
theorem eX4_writtenAbove_24n : Ev 38 24 (a0 :: a1 :: a2 :: a3 :: ls) (.null :: st) h r ↔ Ev 38 25 (a0 :: a1 :: mn_k a2 :: some (.null) :: ls) (st) h r := ev_astore_n iX4_writtenAbove_24 (by show 3 < _; simp only [List.length_cons]; omega) rfl
theorem eX4_writtenAbove_24t : Ev 38 24 (a0 :: a1 :: a2 :: a3 :: ls) (tkv o1 :: st) h r ↔ Ev 38 25 (a0 :: a1 :: mn_k a2 :: some (tkv o1) :: ls) (st) h r := ev_astore_n iX4_writtenAbove_24 (by show 3 < _; simp only [List.length_cons]; omega) tkv_r
theorem eX4_writtenAbove_24s : Ev 38 24 (a0 :: a1 :: a2 :: a3 :: ls) (sgv o1 :: st) h r ↔ Ev 38 25 (a0 :: a1 :: mn_k a2 :: some (sgv o1) :: ls) (st) h r := ev_astore_n iX4_writtenAbove_24 (by show 3 < _; simp only [List.length_cons]; omega) sgv_r
theorem eX4_writtenAbove_24c : Ev 38 24 (a0 :: a1 :: a2 :: a3 :: ls) (cdv o1 :: st) h r ↔ Ev 38 25 (a0 :: a1 :: mn_k a2 :: some (cdv o1) :: ls) (st) h r := ev_astore_n iX4_writtenAbove_24 (by show 3 < _; simp only [List.length_cons]; omega) cdv_r
theorem iX4_writtenAbove_25 : mn_ins 38 25 = some (4, false, .goto (-21), 3) := by decide +kernel
theorem eX4_writtenAbove_25 : Ev 38 25 (ls) (st) h r ↔ Ev 38 4 (ls) (st) h r := ev_goto iX4_writtenAbove_25 (by decide)
theorem iX4_writtenAbove_28 : mn_ins 38 28 = some (4, false, .iload_n 2, 1) := by decide +kernel
theorem eX4_writtenAbove_28 : Ev 38 28 (a0 :: a1 :: some (.int x) :: ls) (st) h r ↔ Ev 38 29 (a0 :: a1 :: some (.int x) :: ls) (.int x :: st) h r := ev_iload_n iX4_writtenAbove_28 rfl
theorem iX4_writtenAbove_29 : mn_ins 38 29 = some (4, false, .ireturn, 1) := by decide +kernel
theorem eX4_writtenAbove_29 : Ev 38 29 (ls) [.int x] h r ↔ r = (h, .inl (some (.int x))) := ev_iret iX4_writtenAbove_29 (X := mnI_X4_writtenAbove) rfl rfl
theorem iX4_takeIn_0 : mn_ins 39 0 = some (4, false, .iconst 0, 1) := by decide +kernel
theorem eX4_takeIn_0 : Ev 39 0 (ls) (st) h r ↔ Ev 39 1 (ls) (.int (nI 0) :: st) h r := ev_iconst iX4_takeIn_0 (by decide)
theorem iX4_takeIn_1 : mn_ins 39 1 = some (4, false, .istore_n 2, 1) := by decide +kernel
theorem eX4_takeIn_1 : Ev 39 1 (a0 :: a1 :: a2 :: ls) (.int x :: st) h r ↔ Ev 39 2 (a0 :: mn_k a1 :: some (.int x) :: ls) (st) h r := ev_istore_n iX4_takeIn_1 (by show 2 < _; simp only [List.length_cons]; omega)
theorem iX4_takeIn_2 : mn_ins 39 2 = some (4, false, .iload_n 2, 1) := by decide +kernel
theorem eX4_takeIn_2 : Ev 39 2 (a0 :: a1 :: some (.int x) :: ls) (st) h r ↔ Ev 39 3 (a0 :: a1 :: some (.int x) :: ls) (.int x :: st) h r := ev_iload_n iX4_takeIn_2 rfl
theorem iX4_takeIn_3 : mn_ins 39 3 = some (4, false, .bipush 12, 2) := by decide +kernel
theorem eX4_takeIn_3 : Ev 39 3 (ls) (st) h r ↔ Ev 39 5 (ls) (.int (nI 12) :: st) h r := ev_bipush iX4_takeIn_3 (by decide)
theorem iX4_takeIn_5 : mn_ins 39 5 = some (4, false, .if_icmp .ge 49, 3) := by decide +kernel
theorem eX4_takeIn_5 : Ev 39 5 (ls) (.int y :: .int x :: st) h r ↔ if y ≤ x then Ev 39 54 (ls) (st) h r else Ev 39 8 (ls) (st) h r := ev_cmpge iX4_takeIn_5 (by decide)
theorem iX4_takeIn_8 : mn_ins 39 8 = some (4, false, .aload_n 1, 1) := by decide +kernel
theorem eX4_takeIn_8 : Ev 39 8 (a0 :: some (.ref a) :: ls) (st) h r ↔ Ev 39 9 (a0 :: some (.ref a) :: ls) (.ref a :: st) h r := ev_aload_n iX4_takeIn_8 rfl rfl
theorem eX4_takeIn_8n : Ev 39 8 (a0 :: some (.null) :: ls) (st) h r ↔ Ev 39 9 (a0 :: some (.null) :: ls) (.null :: st) h r := ev_aload_n iX4_takeIn_8 rfl rfl
theorem eX4_takeIn_8t : Ev 39 8 (a0 :: some (tkv o1) :: ls) (st) h r ↔ Ev 39 9 (a0 :: some (tkv o1) :: ls) (tkv o1 :: st) h r := ev_aload_n iX4_takeIn_8 rfl tkv_r
theorem eX4_takeIn_8s : Ev 39 8 (a0 :: some (sgv o1) :: ls) (st) h r ↔ Ev 39 9 (a0 :: some (sgv o1) :: ls) (sgv o1 :: st) h r := ev_aload_n iX4_takeIn_8 rfl sgv_r
theorem eX4_takeIn_8c : Ev 39 8 (a0 :: some (cdv o1) :: ls) (st) h r ↔ Ev 39 9 (a0 :: some (cdv o1) :: ls) (cdv o1 :: st) h r := ev_aload_n iX4_takeIn_8 rfl cdv_r
theorem iX4_takeIn_9 : mn_ins 39 9 = some (4, false, .iload_n 2, 1) := by decide +kernel
theorem eX4_takeIn_9 : Ev 39 9 (a0 :: a1 :: some (.int x) :: ls) (st) h r ↔ Ev 39 10 (a0 :: a1 :: some (.int x) :: ls) (.int x :: st) h r := ev_iload_n iX4_takeIn_9 rfl
theorem iX4_takeIn_10 : mn_ins 39 10 = some (4, false, .invokevirtual 31, 3) := by decide +kernel
theorem eX4_takeIn_10 : Ev 39 10 (ls) (.int x0 :: .ref b :: st) h r ↔ Evr true (decide (mn_cats st ≤ 8) && mn_isc h b 4) 39 10 ls st h.2.2.1 h.2.2.2 (Cl 34 (.ref b :: [.int x0]) h.1 h.2.1) r := Ev_V (As := [.int x0]) iX4_takeIn_10 (by decide +kernel) (x := mnI_X4_takeIn) (x2 := mnI_X4_hasWritten) rfl rfl rfl (by decide +kernel) (Nat.le_of_ble_eq_true rfl) rfl
theorem iX4_takeIn_13 : mn_ins 39 13 = some (4, false, .ifCond .eq 35, 3) := by decide +kernel
theorem eX4_takeIn_13 : Ev 39 13 (ls) (.int x :: st) h r ↔ if x = nI 0 then Ev 39 48 (ls) (st) h r else Ev 39 16 (ls) (st) h r := ev_ifeq iX4_takeIn_13 (by decide)
theorem iX4_takeIn_16 : mn_ins 39 16 = some (4, false, .aload_n 0, 1) := by decide +kernel
theorem eX4_takeIn_16 : Ev 39 16 (some (.ref a) :: ls) (st) h r ↔ Ev 39 17 (some (.ref a) :: ls) (.ref a :: st) h r := ev_aload_n iX4_takeIn_16 rfl rfl
theorem iX4_takeIn_17 : mn_ins 39 17 = some (4, false, .iload_n 2, 1) := by decide +kernel
theorem eX4_takeIn_17 : Ev 39 17 (a0 :: a1 :: some (.int x) :: ls) (st) h r ↔ Ev 39 18 (a0 :: a1 :: some (.int x) :: ls) (.int x :: st) h r := ev_iload_n iX4_takeIn_17 rfl
theorem iX4_takeIn_18 : mn_ins 39 18 = some (4, false, .invokevirtual 31, 3) := by decide +kernel
theorem eX4_takeIn_18 : Ev 39 18 (ls) (.int x0 :: .ref b :: st) h r ↔ Evr true (decide (mn_cats st ≤ 8) && mn_isc h b 4) 39 18 ls st h.2.2.1 h.2.2.2 (Cl 34 (.ref b :: [.int x0]) h.1 h.2.1) r := Ev_V (As := [.int x0]) iX4_takeIn_18 (by decide +kernel) (x := mnI_X4_takeIn) (x2 := mnI_X4_hasWritten) rfl rfl rfl (by decide +kernel) (Nat.le_of_ble_eq_true rfl) rfl
theorem iX4_takeIn_21 : mn_ins 39 21 = some (4, false, .ifCond .ne 27, 3) := by decide +kernel
theorem eX4_takeIn_21 : Ev 39 21 (ls) (.int x :: st) h r ↔ if x = nI 0 then Ev 39 24 (ls) (st) h r else Ev 39 48 (ls) (st) h r := ev_ifne iX4_takeIn_21 (by decide)
theorem iX4_takeIn_24 : mn_ins 39 24 = some (4, false, .aload_n 0, 1) := by decide +kernel
theorem eX4_takeIn_24 : Ev 39 24 (some (.ref a) :: ls) (st) h r ↔ Ev 39 25 (some (.ref a) :: ls) (.ref a :: st) h r := ev_aload_n iX4_takeIn_24 rfl rfl
theorem iX4_takeIn_25 : mn_ins 39 25 = some (4, false, .getfield 9, 3) := by decide +kernel
theorem eX4_takeIn_25 : Ev 39 25 (ls) (.ref a :: st) h r ↔ Evk 39 28 ls (mn_gf h a 4 0) st h r := ev_getf iX4_takeIn_25 (by decide +kernel)
theorem iX4_takeIn_28 : mn_ins 39 28 = some (4, false, .iload_n 2, 1) := by decide +kernel
theorem eX4_takeIn_28 : Ev 39 28 (a0 :: a1 :: some (.int x) :: ls) (st) h r ↔ Ev 39 29 (a0 :: a1 :: some (.int x) :: ls) (.int x :: st) h r := ev_iload_n iX4_takeIn_28 rfl
theorem iX4_takeIn_29 : mn_ins 39 29 = some (4, false, .aload_n 1, 1) := by decide +kernel
theorem eX4_takeIn_29 : Ev 39 29 (a0 :: some (.ref a) :: ls) (st) h r ↔ Ev 39 30 (a0 :: some (.ref a) :: ls) (.ref a :: st) h r := ev_aload_n iX4_takeIn_29 rfl rfl
theorem eX4_takeIn_29n : Ev 39 29 (a0 :: some (.null) :: ls) (st) h r ↔ Ev 39 30 (a0 :: some (.null) :: ls) (.null :: st) h r := ev_aload_n iX4_takeIn_29 rfl rfl
theorem eX4_takeIn_29t : Ev 39 29 (a0 :: some (tkv o1) :: ls) (st) h r ↔ Ev 39 30 (a0 :: some (tkv o1) :: ls) (tkv o1 :: st) h r := ev_aload_n iX4_takeIn_29 rfl tkv_r
theorem eX4_takeIn_29s : Ev 39 29 (a0 :: some (sgv o1) :: ls) (st) h r ↔ Ev 39 30 (a0 :: some (sgv o1) :: ls) (sgv o1 :: st) h r := ev_aload_n iX4_takeIn_29 rfl sgv_r
theorem eX4_takeIn_29c : Ev 39 29 (a0 :: some (cdv o1) :: ls) (st) h r ↔ Ev 39 30 (a0 :: some (cdv o1) :: ls) (cdv o1 :: st) h r := ev_aload_n iX4_takeIn_29 rfl cdv_r
theorem iX4_takeIn_30 : mn_ins 39 30 = some (4, false, .getfield 9, 3) := by decide +kernel
theorem eX4_takeIn_30 : Ev 39 30 (ls) (.ref a :: st) h r ↔ Evk 39 33 ls (mn_gf h a 4 0) st h r := ev_getf iX4_takeIn_30 (by decide +kernel)
theorem iX4_takeIn_33 : mn_ins 39 33 = some (4, false, .iload_n 2, 1) := by decide +kernel
theorem eX4_takeIn_33 : Ev 39 33 (a0 :: a1 :: some (.int x) :: ls) (st) h r ↔ Ev 39 34 (a0 :: a1 :: some (.int x) :: ls) (.int x :: st) h r := ev_iload_n iX4_takeIn_33 rfl
theorem iX4_takeIn_34 : mn_ins 39 34 = some (4, false, .laload, 1) := by decide +kernel
theorem eX4_takeIn_34 : Ev 39 34 (ls) (.int x :: .ref a :: st) h r ↔ Evk 39 35 ls (mn_al h a 1 x) st h r := ev_lald iX4_takeIn_34
theorem iX4_takeIn_35 : mn_ins 39 35 = some (4, false, .lastore, 1) := by decide +kernel
theorem eX4_takeIn_35 : Ev 39 35 (ls) (.long u :: .int x :: .ref a :: st) h r ↔ Evh 39 36 ls st (mn_asl h a x u) r := ev_last iX4_takeIn_35
theorem iX4_takeIn_36 : mn_ins 39 36 = some (4, false, .aload_n 0, 1) := by decide +kernel
theorem eX4_takeIn_36 : Ev 39 36 (some (.ref a) :: ls) (st) h r ↔ Ev 39 37 (some (.ref a) :: ls) (.ref a :: st) h r := ev_aload_n iX4_takeIn_36 rfl rfl
theorem iX4_takeIn_37 : mn_ins 39 37 = some (4, false, .dup, 1) := by decide +kernel
theorem eX4_takeIn_37 : Ev 39 37 (ls) (.ref a :: st) h r ↔ Ev 39 38 (ls) (.ref a :: .ref a :: st) h r := ev_dup iX4_takeIn_37 rfl
theorem iX4_takeIn_38 : mn_ins 39 38 = some (4, false, .getfield 19, 3) := by decide +kernel
theorem eX4_takeIn_38 : Ev 39 38 (ls) (.ref a :: st) h r ↔ Evk 39 41 ls (mn_gf h a 4 1) st h r := ev_getf iX4_takeIn_38 (by decide +kernel)
theorem iX4_takeIn_41 : mn_ins 39 41 = some (4, false, .iconst 1, 1) := by decide +kernel
theorem eX4_takeIn_41 : Ev 39 41 (ls) (st) h r ↔ Ev 39 42 (ls) (.int (nI 1) :: st) h r := ev_iconst iX4_takeIn_41 (by decide)
theorem iX4_takeIn_42 : mn_ins 39 42 = some (4, false, .iload_n 2, 1) := by decide +kernel
theorem eX4_takeIn_42 : Ev 39 42 (a0 :: a1 :: some (.int x) :: ls) (st) h r ↔ Ev 39 43 (a0 :: a1 :: some (.int x) :: ls) (.int x :: st) h r := ev_iload_n iX4_takeIn_42 rfl
theorem iX4_takeIn_43 : mn_ins 39 43 = some (4, false, .ishl, 1) := by decide +kernel
theorem eX4_takeIn_43 : Ev 39 43 (ls) (.int y :: .int x :: st) h r ↔ Ev 39 44 (ls) (.int (x <<< (y &&& 31)) :: st) h r := ev_ishl iX4_takeIn_43
theorem iX4_takeIn_44 : mn_ins 39 44 = some (4, false, .ior, 1) := by decide +kernel
theorem eX4_takeIn_44 : Ev 39 44 (ls) (.int y :: .int x :: st) h r ↔ Ev 39 45 (ls) (.int (x ||| y) :: st) h r := ev_ior iX4_takeIn_44
theorem iX4_takeIn_45 : mn_ins 39 45 = some (4, false, .putfield 19, 3) := by decide +kernel
theorem eX4_takeIn_45 : Ev 39 45 (ls) (w :: .ref a :: st) h r ↔ Evh 39 48 ls st (mn_pf h a 4 1 w) r := ev_putf iX4_takeIn_45 (by decide +kernel) (by decide +kernel)
theorem iX4_takeIn_48 : mn_ins 39 48 = some (4, false, .iinc 2 1, 3) := by decide +kernel
theorem eX4_takeIn_48 : Ev 39 48 (a0 :: a1 :: some (.int x) :: ls) (st) h r ↔ Ev 39 51 (a0 :: mn_k a1 :: some (.int (x + (nI 1))) :: ls) (st) h r := ev_iinc iX4_takeIn_48 rfl (by decide)
theorem iX4_takeIn_51 : mn_ins 39 51 = some (4, false, .goto (-49), 3) := by decide +kernel
theorem eX4_takeIn_51 : Ev 39 51 (ls) (st) h r ↔ Ev 39 2 (ls) (st) h r := ev_goto iX4_takeIn_51 (by decide)
theorem iX4_takeIn_54 : mn_ins 39 54 = some (4, false, .aload_n 0, 1) := by decide +kernel
theorem eX4_takeIn_54 : Ev 39 54 (some (.ref a) :: ls) (st) h r ↔ Ev 39 55 (some (.ref a) :: ls) (.ref a :: st) h r := ev_aload_n iX4_takeIn_54 rfl rfl
theorem iX4_takeIn_55 : mn_ins 39 55 = some (4, false, .aload_n 1, 1) := by decide +kernel
theorem eX4_takeIn_55 : Ev 39 55 (a0 :: some (.ref a) :: ls) (st) h r ↔ Ev 39 56 (a0 :: some (.ref a) :: ls) (.ref a :: st) h r := ev_aload_n iX4_takeIn_55 rfl rfl
theorem eX4_takeIn_55n : Ev 39 55 (a0 :: some (.null) :: ls) (st) h r ↔ Ev 39 56 (a0 :: some (.null) :: ls) (.null :: st) h r := ev_aload_n iX4_takeIn_55 rfl rfl
theorem eX4_takeIn_55t : Ev 39 55 (a0 :: some (tkv o1) :: ls) (st) h r ↔ Ev 39 56 (a0 :: some (tkv o1) :: ls) (tkv o1 :: st) h r := ev_aload_n iX4_takeIn_55 rfl tkv_r
theorem eX4_takeIn_55s : Ev 39 55 (a0 :: some (sgv o1) :: ls) (st) h r ↔ Ev 39 56 (a0 :: some (sgv o1) :: ls) (sgv o1 :: st) h r := ev_aload_n iX4_takeIn_55 rfl sgv_r
theorem eX4_takeIn_55c : Ev 39 55 (a0 :: some (cdv o1) :: ls) (st) h r ↔ Ev 39 56 (a0 :: some (cdv o1) :: ls) (cdv o1 :: st) h r := ev_aload_n iX4_takeIn_55 rfl cdv_r
theorem iX4_takeIn_56 : mn_ins 39 56 = some (4, false, .getfield 15, 3) := by decide +kernel
theorem eX4_takeIn_56 : Ev 39 56 (ls) (.ref a :: st) h r ↔ Evk 39 59 ls (mn_gf h a 4 2) st h r := ev_getf iX4_takeIn_56 (by decide +kernel)
theorem iX4_takeIn_59 : mn_ins 39 59 = some (4, false, .putfield 15, 3) := by decide +kernel
theorem eX4_takeIn_59 : Ev 39 59 (ls) (w :: .ref a :: st) h r ↔ Evh 39 62 ls st (mn_pf h a 4 2 w) r := ev_putf iX4_takeIn_59 (by decide +kernel) (by decide +kernel)
theorem iX4_takeIn_62 : mn_ins 39 62 = some (4, false, .aload_n 1, 1) := by decide +kernel
theorem eX4_takeIn_62 : Ev 39 62 (a0 :: some (.ref a) :: ls) (st) h r ↔ Ev 39 63 (a0 :: some (.ref a) :: ls) (.ref a :: st) h r := ev_aload_n iX4_takeIn_62 rfl rfl
theorem eX4_takeIn_62n : Ev 39 62 (a0 :: some (.null) :: ls) (st) h r ↔ Ev 39 63 (a0 :: some (.null) :: ls) (.null :: st) h r := ev_aload_n iX4_takeIn_62 rfl rfl
theorem eX4_takeIn_62t : Ev 39 62 (a0 :: some (tkv o1) :: ls) (st) h r ↔ Ev 39 63 (a0 :: some (tkv o1) :: ls) (tkv o1 :: st) h r := ev_aload_n iX4_takeIn_62 rfl tkv_r
theorem eX4_takeIn_62s : Ev 39 62 (a0 :: some (sgv o1) :: ls) (st) h r ↔ Ev 39 63 (a0 :: some (sgv o1) :: ls) (sgv o1 :: st) h r := ev_aload_n iX4_takeIn_62 rfl sgv_r
theorem eX4_takeIn_62c : Ev 39 62 (a0 :: some (cdv o1) :: ls) (st) h r ↔ Ev 39 63 (a0 :: some (cdv o1) :: ls) (cdv o1 :: st) h r := ev_aload_n iX4_takeIn_62 rfl cdv_r
theorem iX4_takeIn_63 : mn_ins 39 63 = some (4, false, .iconst 0, 1) := by decide +kernel
theorem eX4_takeIn_63 : Ev 39 63 (ls) (st) h r ↔ Ev 39 64 (ls) (.int (nI 0) :: st) h r := ev_iconst iX4_takeIn_63 (by decide)
theorem iX4_takeIn_64 : mn_ins 39 64 = some (4, false, .putfield 23, 3) := by decide +kernel
theorem eX4_takeIn_64 : Ev 39 64 (ls) (w :: .ref a :: st) h r ↔ Evh 39 67 ls st (mn_pf h a 4 3 w) r := ev_putf iX4_takeIn_64 (by decide +kernel) (by decide +kernel)
theorem iX4_takeIn_67 : mn_ins 39 67 = some (4, false, .return_, 1) := by decide +kernel
theorem eX4_takeIn_67 : Ev 39 67 (ls) [] h r ↔ r = (h, .inl none) := ev_vret iX4_takeIn_67 (X := mnI_X4_takeIn) rfl rfl
theorem iX5_init_0 : mn_ins 40 0 = some (5, true, .aload_n 0, 1) := by decide +kernel
theorem eX5_init_0 : Ev 40 0 (some (.ref a) :: ls) (st) h r ↔ Ev 40 1 (some (.ref a) :: ls) (.ref a :: st) h r := ev_aload_n iX5_init_0 rfl rfl
theorem iX5_init_1 : mn_ins 40 1 = some (5, true, .invokespecial 3, 3) := by decide +kernel
theorem eX5_init_1 (hc : mn_cats st ≤ 8) : Ev 40 1 (ls) (.ref a :: st) h r ↔ Ev 40 4 (ls) (st) h r := Ev_obj iX5_init_1 (q := 0) (by decide +kernel) (x := mnI_X5_init) rfl (by decide) hc
theorem iX5_init_4 : mn_ins 40 4 = some (5, true, .aload_n 0, 1) := by decide +kernel
theorem eX5_init_4 : Ev 40 4 (some (.ref a) :: ls) (st) h r ↔ Ev 40 5 (some (.ref a) :: ls) (.ref a :: st) h r := ev_aload_n iX5_init_4 rfl rfl
theorem iX5_init_5 : mn_ins 40 5 = some (5, true, .new 9, 3) := by decide +kernel
theorem eX5_init_5 (hs : (mn_new h 2).isSome = true) : Ev 40 5 (ls) (st) h r ↔ Evn 40 8 ls st (mn_new h 2) r := ev_new iX5_init_5 (by decide +kernel) hs
theorem iX5_init_8 : mn_ins 40 8 = some (5, true, .dup, 1) := by decide +kernel
theorem eX5_init_8 : Ev 40 8 (ls) (.ref a :: st) h r ↔ Ev 40 9 (ls) (.ref a :: .ref a :: st) h r := ev_dup iX5_init_8 rfl
theorem iX5_init_9 : mn_ins 40 9 = some (5, true, .invokespecial 11, 3) := by decide +kernel
theorem eX5_init_9 : Ev 40 9 (ls) (.ref b :: st) h r ↔ Evr false (decide (mn_cats st ≤ 8)) 40 9 ls st h.2.2.1 h.2.2.2 (Cl 11 (.ref b :: []) h.1 h.2.1) r := Ev_N (As := []) (q := 4) iX5_init_9 (by decide +kernel) (by decide) (x := mnI_X5_init) (x2 := mnI_X2_init) rfl rfl rfl (by decide +kernel) (Nat.le_of_ble_eq_true rfl) rfl
theorem iX5_init_12 : mn_ins 40 12 = some (5, true, .putfield 12, 3) := by decide +kernel
theorem eX5_init_12 : Ev 40 12 (ls) (w :: .ref a :: st) h r ↔ Evh 40 15 ls st (mn_pf h a 5 1 w) r := ev_putf iX5_init_12 (by decide +kernel) (by decide +kernel)
theorem iX5_init_15 : mn_ins 40 15 = some (5, true, .aload_n 0, 1) := by decide +kernel
theorem eX5_init_15 : Ev 40 15 (some (.ref a) :: ls) (st) h r ↔ Ev 40 16 (some (.ref a) :: ls) (.ref a :: st) h r := ev_aload_n iX5_init_15 rfl rfl
theorem iX5_init_16 : mn_ins 40 16 = some (5, true, .bipush 30, 2) := by decide +kernel
theorem eX5_init_16 : Ev 40 16 (ls) (st) h r ↔ Ev 40 18 (ls) (.int (nI 30) :: st) h r := ev_bipush iX5_init_16 (by decide)
theorem iX5_init_18 : mn_ins 40 18 = some (5, true, .newarray .long, 2) := by decide +kernel
theorem eX5_init_18 : Ev 40 18 (ls) (.int x :: st) h r ↔ Evn 40 20 ls st (mn_na h 1 x) r := ev_newl iX5_init_18
theorem iX5_init_20 : mn_ins 40 20 = some (5, true, .putfield 18, 3) := by decide +kernel
theorem eX5_init_20 : Ev 40 20 (ls) (w :: .ref a :: st) h r ↔ Evh 40 23 ls st (mn_pf h a 5 2 w) r := ev_putf iX5_init_20 (by decide +kernel) (by decide +kernel)
theorem iX5_init_23 : mn_ins 40 23 = some (5, true, .aload_n 0, 1) := by decide +kernel
theorem eX5_init_23 : Ev 40 23 (some (.ref a) :: ls) (st) h r ↔ Ev 40 24 (some (.ref a) :: ls) (.ref a :: st) h r := ev_aload_n iX5_init_23 rfl rfl
theorem iX5_init_24 : mn_ins 40 24 = some (5, true, .iload_n 1, 1) := by decide +kernel
theorem eX5_init_24 : Ev 40 24 (a0 :: some (.int x) :: ls) (st) h r ↔ Ev 40 25 (a0 :: some (.int x) :: ls) (.int x :: st) h r := ev_iload_n iX5_init_24 rfl
theorem iX5_init_25 : mn_ins 40 25 = some (5, true, .putfield 22, 3) := by decide +kernel
theorem eX5_init_25 : Ev 40 25 (ls) (w :: .ref a :: st) h r ↔ Evh 40 28 ls st (mn_pf h a 5 0 w) r := ev_putf iX5_init_25 (by decide +kernel) (by decide +kernel)
theorem iX5_init_28 : mn_ins 40 28 = some (5, true, .return_, 1) := by decide +kernel
theorem eX5_init_28 : Ev 40 28 (ls) [] h r ↔ r = (h, .inl none) := ev_vret iX5_init_28 (X := mnI_X5_init) rfl rfl
theorem iX5_begin_0 : mn_ins 41 0 = some (5, false, .aload_n 0, 1) := by decide +kernel
theorem eX5_begin_0 : Ev 41 0 (some (.ref a) :: ls) (st) h r ↔ Ev 41 1 (some (.ref a) :: ls) (.ref a :: st) h r := ev_aload_n iX5_begin_0 rfl rfl
theorem iX5_begin_1 : mn_ins 41 1 = some (5, false, .aload_n 1, 1) := by decide +kernel
theorem eX5_begin_1 : Ev 41 1 (a0 :: some (.ref a) :: ls) (st) h r ↔ Ev 41 2 (a0 :: some (.ref a) :: ls) (.ref a :: st) h r := ev_aload_n iX5_begin_1 rfl rfl
theorem eX5_begin_1n : Ev 41 1 (a0 :: some (.null) :: ls) (st) h r ↔ Ev 41 2 (a0 :: some (.null) :: ls) (.null :: st) h r := ev_aload_n iX5_begin_1 rfl rfl
theorem eX5_begin_1t : Ev 41 1 (a0 :: some (tkv o1) :: ls) (st) h r ↔ Ev 41 2 (a0 :: some (tkv o1) :: ls) (tkv o1 :: st) h r := ev_aload_n iX5_begin_1 rfl tkv_r
theorem eX5_begin_1s : Ev 41 1 (a0 :: some (sgv o1) :: ls) (st) h r ↔ Ev 41 2 (a0 :: some (sgv o1) :: ls) (sgv o1 :: st) h r := ev_aload_n iX5_begin_1 rfl sgv_r
theorem eX5_begin_1c : Ev 41 1 (a0 :: some (cdv o1) :: ls) (st) h r ↔ Ev 41 2 (a0 :: some (cdv o1) :: ls) (cdv o1 :: st) h r := ev_aload_n iX5_begin_1 rfl cdv_r
theorem iX5_begin_2 : mn_ins 41 2 = some (5, false, .putfield 26, 3) := by decide +kernel
theorem eX5_begin_2 : Ev 41 2 (ls) (w :: .ref a :: st) h r ↔ Evh 41 5 ls st (mn_pf h a 5 8 w) r := ev_putf iX5_begin_2 (by decide +kernel) (by decide +kernel)
theorem iX5_begin_5 : mn_ins 41 5 = some (5, false, .aload_n 0, 1) := by decide +kernel
theorem eX5_begin_5 : Ev 41 5 (some (.ref a) :: ls) (st) h r ↔ Ev 41 6 (some (.ref a) :: ls) (.ref a :: st) h r := ev_aload_n iX5_begin_5 rfl rfl
theorem iX5_begin_6 : mn_ins 41 6 = some (5, false, .aload_n 2, 1) := by decide +kernel
theorem eX5_begin_6 : Ev 41 6 (a0 :: a1 :: some (.ref a) :: ls) (st) h r ↔ Ev 41 7 (a0 :: a1 :: some (.ref a) :: ls) (.ref a :: st) h r := ev_aload_n iX5_begin_6 rfl rfl
theorem eX5_begin_6n : Ev 41 6 (a0 :: a1 :: some (.null) :: ls) (st) h r ↔ Ev 41 7 (a0 :: a1 :: some (.null) :: ls) (.null :: st) h r := ev_aload_n iX5_begin_6 rfl rfl
theorem eX5_begin_6t : Ev 41 6 (a0 :: a1 :: some (tkv o1) :: ls) (st) h r ↔ Ev 41 7 (a0 :: a1 :: some (tkv o1) :: ls) (tkv o1 :: st) h r := ev_aload_n iX5_begin_6 rfl tkv_r
theorem eX5_begin_6s : Ev 41 6 (a0 :: a1 :: some (sgv o1) :: ls) (st) h r ↔ Ev 41 7 (a0 :: a1 :: some (sgv o1) :: ls) (sgv o1 :: st) h r := ev_aload_n iX5_begin_6 rfl sgv_r
theorem eX5_begin_6c : Ev 41 6 (a0 :: a1 :: some (cdv o1) :: ls) (st) h r ↔ Ev 41 7 (a0 :: a1 :: some (cdv o1) :: ls) (cdv o1 :: st) h r := ev_aload_n iX5_begin_6 rfl cdv_r
theorem iX5_begin_7 : mn_ins 41 7 = some (5, false, .putfield 30, 3) := by decide +kernel
theorem eX5_begin_7 : Ev 41 7 (ls) (w :: .ref a :: st) h r ↔ Evh 41 10 ls st (mn_pf h a 5 10 w) r := ev_putf iX5_begin_7 (by decide +kernel) (by decide +kernel)
theorem iX5_begin_10 : mn_ins 41 10 = some (5, false, .aload_n 0, 1) := by decide +kernel
theorem eX5_begin_10 : Ev 41 10 (some (.ref a) :: ls) (st) h r ↔ Ev 41 11 (some (.ref a) :: ls) (.ref a :: st) h r := ev_aload_n iX5_begin_10 rfl rfl
theorem iX5_begin_11 : mn_ins 41 11 = some (5, false, .aload_n 3, 1) := by decide +kernel
theorem eX5_begin_11 : Ev 41 11 (a0 :: a1 :: a2 :: some (.ref a) :: ls) (st) h r ↔ Ev 41 12 (a0 :: a1 :: a2 :: some (.ref a) :: ls) (.ref a :: st) h r := ev_aload_n iX5_begin_11 rfl rfl
theorem eX5_begin_11n : Ev 41 11 (a0 :: a1 :: a2 :: some (.null) :: ls) (st) h r ↔ Ev 41 12 (a0 :: a1 :: a2 :: some (.null) :: ls) (.null :: st) h r := ev_aload_n iX5_begin_11 rfl rfl
theorem eX5_begin_11t : Ev 41 11 (a0 :: a1 :: a2 :: some (tkv o1) :: ls) (st) h r ↔ Ev 41 12 (a0 :: a1 :: a2 :: some (tkv o1) :: ls) (tkv o1 :: st) h r := ev_aload_n iX5_begin_11 rfl tkv_r
theorem eX5_begin_11s : Ev 41 11 (a0 :: a1 :: a2 :: some (sgv o1) :: ls) (st) h r ↔ Ev 41 12 (a0 :: a1 :: a2 :: some (sgv o1) :: ls) (sgv o1 :: st) h r := ev_aload_n iX5_begin_11 rfl sgv_r
theorem eX5_begin_11c : Ev 41 11 (a0 :: a1 :: a2 :: some (cdv o1) :: ls) (st) h r ↔ Ev 41 12 (a0 :: a1 :: a2 :: some (cdv o1) :: ls) (cdv o1 :: st) h r := ev_aload_n iX5_begin_11 rfl cdv_r
theorem iX5_begin_12 : mn_ins 41 12 = some (5, false, .putfield 34, 3) := by decide +kernel
theorem eX5_begin_12 : Ev 41 12 (ls) (w :: .ref a :: st) h r ↔ Evh 41 15 ls st (mn_pf h a 5 11 w) r := ev_putf iX5_begin_12 (by decide +kernel) (by decide +kernel)
theorem iX5_begin_15 : mn_ins 41 15 = some (5, false, .aload_n 0, 1) := by decide +kernel
theorem eX5_begin_15 : Ev 41 15 (some (.ref a) :: ls) (st) h r ↔ Ev 41 16 (some (.ref a) :: ls) (.ref a :: st) h r := ev_aload_n iX5_begin_15 rfl rfl
theorem iX5_begin_16 : mn_ins 41 16 = some (5, false, .aconst_null, 1) := by decide +kernel
theorem eX5_begin_16 : Ev 41 16 (ls) (st) h r ↔ Ev 41 17 (ls) (.null :: st) h r := ev_null iX5_begin_16
theorem iX5_begin_17 : mn_ins 41 17 = some (5, false, .putfield 37, 3) := by decide +kernel
theorem eX5_begin_17 : Ev 41 17 (ls) (w :: .ref a :: st) h r ↔ Evh 41 20 ls st (mn_pf h a 5 9 w) r := ev_putf iX5_begin_17 (by decide +kernel) (by decide +kernel)
theorem iX5_begin_20 : mn_ins 41 20 = some (5, false, .aload_n 0, 1) := by decide +kernel
theorem eX5_begin_20 : Ev 41 20 (some (.ref a) :: ls) (st) h r ↔ Ev 41 21 (some (.ref a) :: ls) (.ref a :: st) h r := ev_aload_n iX5_begin_20 rfl rfl
theorem iX5_begin_21 : mn_ins 41 21 = some (5, false, .iconst 0, 1) := by decide +kernel
theorem eX5_begin_21 : Ev 41 21 (ls) (st) h r ↔ Ev 41 22 (ls) (.int (nI 0) :: st) h r := ev_iconst iX5_begin_21 (by decide)
theorem iX5_begin_22 : mn_ins 41 22 = some (5, false, .putfield 40, 3) := by decide +kernel
theorem eX5_begin_22 : Ev 41 22 (ls) (w :: .ref a :: st) h r ↔ Evh 41 25 ls st (mn_pf h a 5 3 w) r := ev_putf iX5_begin_22 (by decide +kernel) (by decide +kernel)
theorem iX5_begin_25 : mn_ins 41 25 = some (5, false, .aload_n 0, 1) := by decide +kernel
theorem eX5_begin_25 : Ev 41 25 (some (.ref a) :: ls) (st) h r ↔ Ev 41 26 (some (.ref a) :: ls) (.ref a :: st) h r := ev_aload_n iX5_begin_25 rfl rfl
theorem iX5_begin_26 : mn_ins 41 26 = some (5, false, .iconst 0, 1) := by decide +kernel
theorem eX5_begin_26 : Ev 41 26 (ls) (st) h r ↔ Ev 41 27 (ls) (.int (nI 0) :: st) h r := ev_iconst iX5_begin_26 (by decide)
theorem iX5_begin_27 : mn_ins 41 27 = some (5, false, .putfield 43, 3) := by decide +kernel
theorem eX5_begin_27 : Ev 41 27 (ls) (w :: .ref a :: st) h r ↔ Evh 41 30 ls st (mn_pf h a 5 4 w) r := ev_putf iX5_begin_27 (by decide +kernel) (by decide +kernel)
theorem iX5_begin_30 : mn_ins 41 30 = some (5, false, .aload_n 0, 1) := by decide +kernel
theorem eX5_begin_30 : Ev 41 30 (some (.ref a) :: ls) (st) h r ↔ Ev 41 31 (some (.ref a) :: ls) (.ref a :: st) h r := ev_aload_n iX5_begin_30 rfl rfl
theorem iX5_begin_31 : mn_ins 41 31 = some (5, false, .iconst 0, 1) := by decide +kernel
theorem eX5_begin_31 : Ev 41 31 (ls) (st) h r ↔ Ev 41 32 (ls) (.int (nI 0) :: st) h r := ev_iconst iX5_begin_31 (by decide)
theorem iX5_begin_32 : mn_ins 41 32 = some (5, false, .putfield 46, 3) := by decide +kernel
theorem eX5_begin_32 : Ev 41 32 (ls) (w :: .ref a :: st) h r ↔ Evh 41 35 ls st (mn_pf h a 5 5 w) r := ev_putf iX5_begin_32 (by decide +kernel) (by decide +kernel)
theorem iX5_begin_35 : mn_ins 41 35 = some (5, false, .aload_n 0, 1) := by decide +kernel
theorem eX5_begin_35 : Ev 41 35 (some (.ref a) :: ls) (st) h r ↔ Ev 41 36 (some (.ref a) :: ls) (.ref a :: st) h r := ev_aload_n iX5_begin_35 rfl rfl
theorem iX5_begin_36 : mn_ins 41 36 = some (5, false, .iconst 0, 1) := by decide +kernel
theorem eX5_begin_36 : Ev 41 36 (ls) (st) h r ↔ Ev 41 37 (ls) (.int (nI 0) :: st) h r := ev_iconst iX5_begin_36 (by decide)
theorem iX5_begin_37 : mn_ins 41 37 = some (5, false, .putfield 49, 3) := by decide +kernel
theorem eX5_begin_37 : Ev 41 37 (ls) (w :: .ref a :: st) h r ↔ Evh 41 40 ls st (mn_pf h a 5 6 w) r := ev_putf iX5_begin_37 (by decide +kernel) (by decide +kernel)
theorem iX5_begin_40 : mn_ins 41 40 = some (5, false, .aload_n 0, 1) := by decide +kernel
theorem eX5_begin_40 : Ev 41 40 (some (.ref a) :: ls) (st) h r ↔ Ev 41 41 (some (.ref a) :: ls) (.ref a :: st) h r := ev_aload_n iX5_begin_40 rfl rfl
theorem iX5_begin_41 : mn_ins 41 41 = some (5, false, .lconst 0, 1) := by decide +kernel
theorem eX5_begin_41 : Ev 41 41 (ls) (st) h r ↔ Ev 41 42 (ls) (.long 0 :: st) h r := ev_lconst iX5_begin_41 (by decide)
theorem iX5_begin_42 : mn_ins 41 42 = some (5, false, .putfield 52, 3) := by decide +kernel
theorem eX5_begin_42 : Ev 41 42 (ls) (w :: .ref a :: st) h r ↔ Evh 41 45 ls st (mn_pf h a 5 7 w) r := ev_putf iX5_begin_42 (by decide +kernel) (by decide +kernel)
theorem iX5_begin_45 : mn_ins 41 45 = some (5, false, .return_, 1) := by decide +kernel
theorem eX5_begin_45 : Ev 41 45 (ls) [] h r ↔ r = (h, .inl none) := ev_vret iX5_begin_45 (X := mnI_X5_begin) rfl rfl
theorem iX5_fail_0 : mn_ins 42 0 = some (5, false, .aload_n 0, 1) := by decide +kernel
theorem eX5_fail_0 : Ev 42 0 (some (.ref a) :: ls) (st) h r ↔ Ev 42 1 (some (.ref a) :: ls) (.ref a :: st) h r := ev_aload_n iX5_fail_0 rfl rfl
theorem iX5_fail_1 : mn_ins 42 1 = some (5, false, .iload_n 1, 1) := by decide +kernel
theorem eX5_fail_1 : Ev 42 1 (a0 :: some (.int x) :: ls) (st) h r ↔ Ev 42 2 (a0 :: some (.int x) :: ls) (.int x :: st) h r := ev_iload_n iX5_fail_1 rfl
theorem iX5_fail_2 : mn_ins 42 2 = some (5, false, .putfield 46, 3) := by decide +kernel
theorem eX5_fail_2 : Ev 42 2 (ls) (w :: .ref a :: st) h r ↔ Evh 42 5 ls st (mn_pf h a 5 5 w) r := ev_putf iX5_fail_2 (by decide +kernel) (by decide +kernel)
theorem iX5_fail_5 : mn_ins 42 5 = some (5, false, .aload_n 0, 1) := by decide +kernel
theorem eX5_fail_5 : Ev 42 5 (some (.ref a) :: ls) (st) h r ↔ Ev 42 6 (some (.ref a) :: ls) (.ref a :: st) h r := ev_aload_n iX5_fail_5 rfl rfl
theorem iX5_fail_6 : mn_ins 42 6 = some (5, false, .iconst 2, 1) := by decide +kernel
theorem eX5_fail_6 : Ev 42 6 (ls) (st) h r ↔ Ev 42 7 (ls) (.int (nI 2) :: st) h r := ev_iconst iX5_fail_6 (by decide)
theorem iX5_fail_7 : mn_ins 42 7 = some (5, false, .putfield 43, 3) := by decide +kernel
theorem eX5_fail_7 : Ev 42 7 (ls) (w :: .ref a :: st) h r ↔ Evh 42 10 ls st (mn_pf h a 5 4 w) r := ev_putf iX5_fail_7 (by decide +kernel) (by decide +kernel)
theorem iX5_fail_10 : mn_ins 42 10 = some (5, false, .return_, 1) := by decide +kernel
theorem eX5_fail_10 : Ev 42 10 (ls) [] h r ↔ r = (h, .inl none) := ev_vret iX5_fail_10 (X := mnI_X5_fail) rfl rfl
theorem iX5_canPrint_0 : mn_ins 43 0 = some (5, false, .aload_n 0, 1) := by decide +kernel
theorem eX5_canPrint_0 : Ev 43 0 (some (.ref a) :: ls) (st) h r ↔ Ev 43 1 (some (.ref a) :: ls) (.ref a :: st) h r := ev_aload_n iX5_canPrint_0 rfl rfl
theorem iX5_canPrint_1 : mn_ins 43 1 = some (5, false, .getfield 40, 3) := by decide +kernel
theorem eX5_canPrint_1 : Ev 43 1 (ls) (.ref a :: st) h r ↔ Evk 43 4 ls (mn_gf h a 5 3) st h r := ev_getf iX5_canPrint_1 (by decide +kernel)
theorem iX5_canPrint_4 : mn_ins 43 4 = some (5, false, .iload_n 1, 1) := by decide +kernel
theorem eX5_canPrint_4 : Ev 43 4 (a0 :: some (.int x) :: ls) (st) h r ↔ Ev 43 5 (a0 :: some (.int x) :: ls) (.int x :: st) h r := ev_iload_n iX5_canPrint_4 rfl
theorem iX5_canPrint_5 : mn_ins 43 5 = some (5, false, .iadd, 1) := by decide +kernel
theorem eX5_canPrint_5 : Ev 43 5 (ls) (.int y :: .int x :: st) h r ↔ Ev 43 6 (ls) (.int (x + y) :: st) h r := ev_iadd iX5_canPrint_5
theorem iX5_canPrint_6 : mn_ins 43 6 = some (5, false, .bipush 30, 2) := by decide +kernel
theorem eX5_canPrint_6 : Ev 43 6 (ls) (st) h r ↔ Ev 43 8 (ls) (.int (nI 30) :: st) h r := ev_bipush iX5_canPrint_6 (by decide)
theorem iX5_canPrint_8 : mn_ins 43 8 = some (5, false, .if_icmp .gt 7, 3) := by decide +kernel
theorem eX5_canPrint_8 : Ev 43 8 (ls) (.int y :: .int x :: st) h r ↔ if y < x then Ev 43 15 (ls) (st) h r else Ev 43 11 (ls) (st) h r := ev_cmpgt iX5_canPrint_8 (by decide)
theorem iX5_canPrint_11 : mn_ins 43 11 = some (5, false, .iconst 1, 1) := by decide +kernel
theorem eX5_canPrint_11 : Ev 43 11 (ls) (st) h r ↔ Ev 43 12 (ls) (.int (nI 1) :: st) h r := ev_iconst iX5_canPrint_11 (by decide)
theorem iX5_canPrint_12 : mn_ins 43 12 = some (5, false, .goto 4, 3) := by decide +kernel
theorem eX5_canPrint_12 : Ev 43 12 (ls) (st) h r ↔ Ev 43 16 (ls) (st) h r := ev_goto iX5_canPrint_12 (by decide)
theorem iX5_canPrint_15 : mn_ins 43 15 = some (5, false, .iconst 0, 1) := by decide +kernel
theorem eX5_canPrint_15 : Ev 43 15 (ls) (st) h r ↔ Ev 43 16 (ls) (.int (nI 0) :: st) h r := ev_iconst iX5_canPrint_15 (by decide)
theorem iX5_canPrint_16 : mn_ins 43 16 = some (5, false, .ireturn, 1) := by decide +kernel
theorem eX5_canPrint_16 (hx : x = 0 ∨ x = 1) : Ev 43 16 (ls) [.int x] h r ↔ r = (h, .inl (some (.int x))) := ev_zret iX5_canPrint_16 (X := mnI_X5_canPrint) rfl rfl hx
theorem iX5_appendPrint_0 : mn_ins 44 0 = some (5, false, .aload_n 0, 1) := by decide +kernel
theorem eX5_appendPrint_0 : Ev 44 0 (some (.ref a) :: ls) (st) h r ↔ Ev 44 1 (some (.ref a) :: ls) (.ref a :: st) h r := ev_aload_n iX5_appendPrint_0 rfl rfl
theorem iX5_appendPrint_1 : mn_ins 44 1 = some (5, false, .iconst 1, 1) := by decide +kernel
theorem eX5_appendPrint_1 : Ev 44 1 (ls) (st) h r ↔ Ev 44 2 (ls) (.int (nI 1) :: st) h r := ev_iconst iX5_appendPrint_1 (by decide)
theorem iX5_appendPrint_2 : mn_ins 44 2 = some (5, false, .invokevirtual 56, 3) := by decide +kernel
theorem eX5_appendPrint_2 : Ev 44 2 (ls) (.int x0 :: .ref b :: st) h r ↔ Evr true (decide (mn_cats st ≤ 8) && mn_isc h b 5) 44 2 ls st h.2.2.1 h.2.2.2 (Cl 43 (.ref b :: [.int x0]) h.1 h.2.1) r := Ev_V (As := [.int x0]) iX5_appendPrint_2 (by decide +kernel) (x := mnI_X5_appendPrint) (x2 := mnI_X5_canPrint) rfl rfl rfl (by decide +kernel) (Nat.le_of_ble_eq_true rfl) rfl
theorem iX5_appendPrint_5 : mn_ins 44 5 = some (5, false, .ifCond .eq 23, 3) := by decide +kernel
theorem eX5_appendPrint_5 : Ev 44 5 (ls) (.int x :: st) h r ↔ if x = nI 0 then Ev 44 28 (ls) (st) h r else Ev 44 8 (ls) (st) h r := ev_ifeq iX5_appendPrint_5 (by decide)
theorem iX5_appendPrint_8 : mn_ins 44 8 = some (5, false, .aload_n 0, 1) := by decide +kernel
theorem eX5_appendPrint_8 : Ev 44 8 (some (.ref a) :: ls) (st) h r ↔ Ev 44 9 (some (.ref a) :: ls) (.ref a :: st) h r := ev_aload_n iX5_appendPrint_8 rfl rfl
theorem iX5_appendPrint_9 : mn_ins 44 9 = some (5, false, .getfield 18, 3) := by decide +kernel
theorem eX5_appendPrint_9 : Ev 44 9 (ls) (.ref a :: st) h r ↔ Evk 44 12 ls (mn_gf h a 5 2) st h r := ev_getf iX5_appendPrint_9 (by decide +kernel)
theorem iX5_appendPrint_12 : mn_ins 44 12 = some (5, false, .aload_n 0, 1) := by decide +kernel
theorem eX5_appendPrint_12 : Ev 44 12 (some (.ref a) :: ls) (st) h r ↔ Ev 44 13 (some (.ref a) :: ls) (.ref a :: st) h r := ev_aload_n iX5_appendPrint_12 rfl rfl
theorem iX5_appendPrint_13 : mn_ins 44 13 = some (5, false, .getfield 40, 3) := by decide +kernel
theorem eX5_appendPrint_13 : Ev 44 13 (ls) (.ref a :: st) h r ↔ Evk 44 16 ls (mn_gf h a 5 3) st h r := ev_getf iX5_appendPrint_13 (by decide +kernel)
theorem iX5_appendPrint_16 : mn_ins 44 16 = some (5, false, .lload_n 1, 1) := by decide +kernel
theorem eX5_appendPrint_16 : Ev 44 16 (a0 :: some (.long u) :: ls) (st) h r ↔ Ev 44 17 (a0 :: some (.long u) :: ls) (.long u :: st) h r := ev_lload_n iX5_appendPrint_16 rfl
theorem iX5_appendPrint_17 : mn_ins 44 17 = some (5, false, .lastore, 1) := by decide +kernel
theorem eX5_appendPrint_17 : Ev 44 17 (ls) (.long u :: .int x :: .ref a :: st) h r ↔ Evh 44 18 ls st (mn_asl h a x u) r := ev_last iX5_appendPrint_17
theorem iX5_appendPrint_18 : mn_ins 44 18 = some (5, false, .aload_n 0, 1) := by decide +kernel
theorem eX5_appendPrint_18 : Ev 44 18 (some (.ref a) :: ls) (st) h r ↔ Ev 44 19 (some (.ref a) :: ls) (.ref a :: st) h r := ev_aload_n iX5_appendPrint_18 rfl rfl
theorem iX5_appendPrint_19 : mn_ins 44 19 = some (5, false, .dup, 1) := by decide +kernel
theorem eX5_appendPrint_19 : Ev 44 19 (ls) (.ref a :: st) h r ↔ Ev 44 20 (ls) (.ref a :: .ref a :: st) h r := ev_dup iX5_appendPrint_19 rfl
theorem iX5_appendPrint_20 : mn_ins 44 20 = some (5, false, .getfield 40, 3) := by decide +kernel
theorem eX5_appendPrint_20 : Ev 44 20 (ls) (.ref a :: st) h r ↔ Evk 44 23 ls (mn_gf h a 5 3) st h r := ev_getf iX5_appendPrint_20 (by decide +kernel)
theorem iX5_appendPrint_23 : mn_ins 44 23 = some (5, false, .iconst 1, 1) := by decide +kernel
theorem eX5_appendPrint_23 : Ev 44 23 (ls) (st) h r ↔ Ev 44 24 (ls) (.int (nI 1) :: st) h r := ev_iconst iX5_appendPrint_23 (by decide)
theorem iX5_appendPrint_24 : mn_ins 44 24 = some (5, false, .iadd, 1) := by decide +kernel
theorem eX5_appendPrint_24 : Ev 44 24 (ls) (.int y :: .int x :: st) h r ↔ Ev 44 25 (ls) (.int (x + y) :: st) h r := ev_iadd iX5_appendPrint_24
theorem iX5_appendPrint_25 : mn_ins 44 25 = some (5, false, .putfield 40, 3) := by decide +kernel
theorem eX5_appendPrint_25 : Ev 44 25 (ls) (w :: .ref a :: st) h r ↔ Evh 44 28 ls st (mn_pf h a 5 3 w) r := ev_putf iX5_appendPrint_25 (by decide +kernel) (by decide +kernel)
theorem iX5_appendPrint_28 : mn_ins 44 28 = some (5, false, .return_, 1) := by decide +kernel
theorem eX5_appendPrint_28 : Ev 44 28 (ls) [] h r ↔ r = (h, .inl none) := ev_vret iX5_appendPrint_28 (X := mnI_X5_appendPrint) rfl rfl
end E_61a_rows
