section E_41b_rows
variable {ls : List (Option Value)} {st : List Value} {h : mn_S} {r : mn_Res} {a0 a1 a2 a3 a4 a5 a6 a7 a8 a9 a10 a11 a12 a13 : Option Value} {x y : Int32} {u v : Int64} {w w2 w3 w4 w5 w6 w7 w8 : Value} {x0 x1 x2 x3 x4 x5 x6 x7 x8 : Int32} {u0 u1 u2 u3 u4 u5 u6 u7 u8 : Int64} {a b : Nat} {o1 o2 : Option Nat}
theorem iX8_open_0 : mn_ins 103 0 = some (8, false, .iconst 0, 1) := by decide +kernel
theorem eX8_open_0 : Ev 103 0 (ls) (st) h r ↔ Ev 103 1 (ls) (.int (nI 0) :: st) h r := ev_iconst iX8_open_0 (by decide)
theorem iX8_open_1 : mn_ins 103 1 = some (8, false, .istore_n 2, 1) := by decide +kernel
theorem eX8_open_1 : Ev 103 1 (a0 :: a1 :: a2 :: ls) (.int x :: st) h r ↔ Ev 103 2 (a0 :: mn_k a1 :: some (.int x) :: ls) (st) h r := ev_istore_n iX8_open_1 (by show 2 < _; simp only [List.length_cons]; omega)
theorem iX8_open_2 : mn_ins 103 2 = some (8, false, .aload_n 0, 1) := by decide +kernel
theorem eX8_open_2 : Ev 103 2 (some (.ref a) :: ls) (st) h r ↔ Ev 103 3 (some (.ref a) :: ls) (.ref a :: st) h r := ev_aload_n iX8_open_2 rfl rfl
theorem iX8_open_3 : mn_ins 103 3 = some (8, false, .getfield 79, 3) := by decide +kernel
theorem eX8_open_3 : Ev 103 3 (ls) (.ref a :: st) h r ↔ Evk 103 6 ls (mn_gf h a 8 29) st h r := ev_getf iX8_open_3 (by decide +kernel)
theorem iX8_open_6 : mn_ins 103 6 = some (8, false, .iload_n 2, 1) := by decide +kernel
theorem eX8_open_6 : Ev 103 6 (a0 :: a1 :: some (.int x) :: ls) (st) h r ↔ Ev 103 7 (a0 :: a1 :: some (.int x) :: ls) (.int x :: st) h r := ev_iload_n iX8_open_6 rfl
theorem iX8_open_7 : mn_ins 103 7 = some (8, false, .baload, 1) := by decide +kernel
theorem eX8_open_7 : Ev 103 7 (ls) (.int x :: .ref a :: st) h r ↔ Evk 103 8 ls (mn_al h a 2 x) st h r := ev_bald iX8_open_7
theorem iX8_open_8 : mn_ins 103 8 = some (8, false, .ifCond .eq 9, 3) := by decide +kernel
theorem eX8_open_8 : Ev 103 8 (ls) (.int x :: st) h r ↔ if x = nI 0 then Ev 103 17 (ls) (st) h r else Ev 103 11 (ls) (st) h r := ev_ifeq iX8_open_8 (by decide)
theorem iX8_open_11 : mn_ins 103 11 = some (8, false, .iinc 2 1, 3) := by decide +kernel
theorem eX8_open_11 : Ev 103 11 (a0 :: a1 :: some (.int x) :: ls) (st) h r ↔ Ev 103 14 (a0 :: mn_k a1 :: some (.int (x + (nI 1))) :: ls) (st) h r := ev_iinc iX8_open_11 rfl (by decide)
theorem iX8_open_14 : mn_ins 103 14 = some (8, false, .goto (-12), 3) := by decide +kernel
theorem eX8_open_14 : Ev 103 14 (ls) (st) h r ↔ Ev 103 2 (ls) (st) h r := ev_goto iX8_open_14 (by decide)
theorem iX8_open_17 : mn_ins 103 17 = some (8, false, .aload_n 0, 1) := by decide +kernel
theorem eX8_open_17 : Ev 103 17 (some (.ref a) :: ls) (st) h r ↔ Ev 103 18 (some (.ref a) :: ls) (.ref a :: st) h r := ev_aload_n iX8_open_17 rfl rfl
theorem iX8_open_18 : mn_ins 103 18 = some (8, false, .getfield 79, 3) := by decide +kernel
theorem eX8_open_18 : Ev 103 18 (ls) (.ref a :: st) h r ↔ Evk 103 21 ls (mn_gf h a 8 29) st h r := ev_getf iX8_open_18 (by decide +kernel)
theorem iX8_open_21 : mn_ins 103 21 = some (8, false, .iload_n 2, 1) := by decide +kernel
theorem eX8_open_21 : Ev 103 21 (a0 :: a1 :: some (.int x) :: ls) (st) h r ↔ Ev 103 22 (a0 :: a1 :: some (.int x) :: ls) (.int x :: st) h r := ev_iload_n iX8_open_21 rfl
theorem iX8_open_22 : mn_ins 103 22 = some (8, false, .iconst 1, 1) := by decide +kernel
theorem eX8_open_22 : Ev 103 22 (ls) (st) h r ↔ Ev 103 23 (ls) (.int (nI 1) :: st) h r := ev_iconst iX8_open_22 (by decide)
theorem iX8_open_23 : mn_ins 103 23 = some (8, false, .bastore, 1) := by decide +kernel
theorem eX8_open_23 : Ev 103 23 (ls) (.int y :: .int x :: .ref a :: st) h r ↔ Evh 103 24 ls st (mn_asz h a x y) r := ev_bast iX8_open_23
theorem iX8_open_24 : mn_ins 103 24 = some (8, false, .aload_n 0, 1) := by decide +kernel
theorem eX8_open_24 : Ev 103 24 (some (.ref a) :: ls) (st) h r ↔ Ev 103 25 (some (.ref a) :: ls) (.ref a :: st) h r := ev_aload_n iX8_open_24 rfl rfl
theorem iX8_open_25 : mn_ins 103 25 = some (8, false, .getfield 82, 3) := by decide +kernel
theorem eX8_open_25 : Ev 103 25 (ls) (.ref a :: st) h r ↔ Evk 103 28 ls (mn_gf h a 8 30) st h r := ev_getf iX8_open_25 (by decide +kernel)
theorem iX8_open_28 : mn_ins 103 28 = some (8, false, .iload_n 2, 1) := by decide +kernel
theorem eX8_open_28 : Ev 103 28 (a0 :: a1 :: some (.int x) :: ls) (st) h r ↔ Ev 103 29 (a0 :: a1 :: some (.int x) :: ls) (.int x :: st) h r := ev_iload_n iX8_open_28 rfl
theorem iX8_open_29 : mn_ins 103 29 = some (8, false, .iload_n 1, 1) := by decide +kernel
theorem eX8_open_29 : Ev 103 29 (a0 :: some (.int x) :: ls) (st) h r ↔ Ev 103 30 (a0 :: some (.int x) :: ls) (.int x :: st) h r := ev_iload_n iX8_open_29 rfl
theorem iX8_open_30 : mn_ins 103 30 = some (8, false, .iastore, 1) := by decide +kernel
theorem eX8_open_30 : Ev 103 30 (ls) (.int y :: .int x :: .ref a :: st) h r ↔ Evh 103 31 ls st (mn_asi h a x y) r := ev_iast iX8_open_30
theorem iX8_open_31 : mn_ins 103 31 = some (8, false, .aload_n 0, 1) := by decide +kernel
theorem eX8_open_31 : Ev 103 31 (some (.ref a) :: ls) (st) h r ↔ Ev 103 32 (some (.ref a) :: ls) (.ref a :: st) h r := ev_aload_n iX8_open_31 rfl rfl
theorem iX8_open_32 : mn_ins 103 32 = some (8, false, .getfield 85, 3) := by decide +kernel
theorem eX8_open_32 : Ev 103 32 (ls) (.ref a :: st) h r ↔ Evk 103 35 ls (mn_gf h a 8 31) st h r := ev_getf iX8_open_32 (by decide +kernel)
theorem iX8_open_35 : mn_ins 103 35 = some (8, false, .iload_n 2, 1) := by decide +kernel
theorem eX8_open_35 : Ev 103 35 (a0 :: a1 :: some (.int x) :: ls) (st) h r ↔ Ev 103 36 (a0 :: a1 :: some (.int x) :: ls) (.int x :: st) h r := ev_iload_n iX8_open_35 rfl
theorem iX8_open_36 : mn_ins 103 36 = some (8, false, .iconst 0, 1) := by decide +kernel
theorem eX8_open_36 : Ev 103 36 (ls) (st) h r ↔ Ev 103 37 (ls) (.int (nI 0) :: st) h r := ev_iconst iX8_open_36 (by decide)
theorem iX8_open_37 : mn_ins 103 37 = some (8, false, .iastore, 1) := by decide +kernel
theorem eX8_open_37 : Ev 103 37 (ls) (.int y :: .int x :: .ref a :: st) h r ↔ Evh 103 38 ls st (mn_asi h a x y) r := ev_iast iX8_open_37
theorem iX8_open_38 : mn_ins 103 38 = some (8, false, .iload_n 2, 1) := by decide +kernel
theorem eX8_open_38 : Ev 103 38 (a0 :: a1 :: some (.int x) :: ls) (st) h r ↔ Ev 103 39 (a0 :: a1 :: some (.int x) :: ls) (.int x :: st) h r := ev_iload_n iX8_open_38 rfl
theorem iX8_open_39 : mn_ins 103 39 = some (8, false, .ireturn, 1) := by decide +kernel
theorem eX8_open_39 : Ev 103 39 (ls) [.int x] h r ↔ r = (h, .inl (some (.int x))) := ev_iret iX8_open_39 (X := mnI_X8_open) rfl rfl
theorem iX8_readAt_0 : mn_ins 104 0 = some (8, false, .iload_n 1, 1) := by decide +kernel
theorem eX8_readAt_0 : Ev 104 0 (a0 :: some (.int x) :: ls) (st) h r ↔ Ev 104 1 (a0 :: some (.int x) :: ls) (.int x :: st) h r := ev_iload_n iX8_readAt_0 rfl
theorem iX8_readAt_1 : mn_ins 104 1 = some (8, false, .istore_n 3, 1) := by decide +kernel
theorem eX8_readAt_1 : Ev 104 1 (a0 :: a1 :: a2 :: a3 :: ls) (.int x :: st) h r ↔ Ev 104 2 (a0 :: a1 :: mn_k a2 :: some (.int x) :: ls) (st) h r := ev_istore_n iX8_readAt_1 (by show 3 < _; simp only [List.length_cons]; omega)
theorem iX8_readAt_2 : mn_ins 104 2 = some (8, false, .iload_n 3, 1) := by decide +kernel
theorem eX8_readAt_2 : Ev 104 2 (a0 :: a1 :: a2 :: some (.int x) :: ls) (st) h r ↔ Ev 104 3 (a0 :: a1 :: a2 :: some (.int x) :: ls) (.int x :: st) h r := ev_iload_n iX8_readAt_2 rfl
theorem iX8_readAt_3 : mn_ins 104 3 = some (8, false, .iconst (-1), 1) := by decide +kernel
theorem eX8_readAt_3 : Ev 104 3 (ls) (st) h r ↔ Ev 104 4 (ls) (.int (-1) :: st) h r := ev_iconst iX8_readAt_3 (by decide)
theorem iX8_readAt_4 : mn_ins 104 4 = some (8, false, .if_icmp .eq 26, 3) := by decide +kernel
theorem eX8_readAt_4 : Ev 104 4 (ls) (.int y :: .int x :: st) h r ↔ if x = y then Ev 104 30 (ls) (st) h r else Ev 104 7 (ls) (st) h r := ev_cmpeq iX8_readAt_4 (by decide)
theorem iX8_readAt_7 : mn_ins 104 7 = some (8, false, .aload_n 0, 1) := by decide +kernel
theorem eX8_readAt_7 : Ev 104 7 (some (.ref a) :: ls) (st) h r ↔ Ev 104 8 (some (.ref a) :: ls) (.ref a :: st) h r := ev_aload_n iX8_readAt_7 rfl rfl
theorem iX8_readAt_8 : mn_ins 104 8 = some (8, false, .getfield 85, 3) := by decide +kernel
theorem eX8_readAt_8 : Ev 104 8 (ls) (.ref a :: st) h r ↔ Evk 104 11 ls (mn_gf h a 8 31) st h r := ev_getf iX8_readAt_8 (by decide +kernel)
theorem iX8_readAt_11 : mn_ins 104 11 = some (8, false, .iload_n 3, 1) := by decide +kernel
theorem eX8_readAt_11 : Ev 104 11 (a0 :: a1 :: a2 :: some (.int x) :: ls) (st) h r ↔ Ev 104 12 (a0 :: a1 :: a2 :: some (.int x) :: ls) (.int x :: st) h r := ev_iload_n iX8_readAt_11 rfl
theorem iX8_readAt_12 : mn_ins 104 12 = some (8, false, .iaload, 1) := by decide +kernel
theorem eX8_readAt_12 : Ev 104 12 (ls) (.int x :: .ref a :: st) h r ↔ Evk 104 13 ls (mn_al h a 0 x) st h r := ev_iald iX8_readAt_12
theorem iX8_readAt_13 : mn_ins 104 13 = some (8, false, .iload_n 2, 1) := by decide +kernel
theorem eX8_readAt_13 : Ev 104 13 (a0 :: a1 :: some (.int x) :: ls) (st) h r ↔ Ev 104 14 (a0 :: a1 :: some (.int x) :: ls) (.int x :: st) h r := ev_iload_n iX8_readAt_13 rfl
theorem iX8_readAt_14 : mn_ins 104 14 = some (8, false, .ishr, 1) := by decide +kernel
theorem eX8_readAt_14 : Ev 104 14 (ls) (.int y :: .int x :: st) h r ↔ Ev 104 15 (ls) (.int (x >>> (y &&& 31)) :: st) h r := ev_ishr iX8_readAt_14
theorem iX8_readAt_15 : mn_ins 104 15 = some (8, false, .iconst 1, 1) := by decide +kernel
theorem eX8_readAt_15 : Ev 104 15 (ls) (st) h r ↔ Ev 104 16 (ls) (.int (nI 1) :: st) h r := ev_iconst iX8_readAt_15 (by decide)
theorem iX8_readAt_16 : mn_ins 104 16 = some (8, false, .iand, 1) := by decide +kernel
theorem eX8_readAt_16 : Ev 104 16 (ls) (.int y :: .int x :: st) h r ↔ Ev 104 17 (ls) (.int (x &&& y) :: st) h r := ev_iand iX8_readAt_16
theorem iX8_readAt_17 : mn_ins 104 17 = some (8, false, .ifCond .ne 13, 3) := by decide +kernel
theorem eX8_readAt_17 : Ev 104 17 (ls) (.int x :: st) h r ↔ if x = nI 0 then Ev 104 20 (ls) (st) h r else Ev 104 30 (ls) (st) h r := ev_ifne iX8_readAt_17 (by decide)
theorem iX8_readAt_20 : mn_ins 104 20 = some (8, false, .aload_n 0, 1) := by decide +kernel
theorem eX8_readAt_20 : Ev 104 20 (some (.ref a) :: ls) (st) h r ↔ Ev 104 21 (some (.ref a) :: ls) (.ref a :: st) h r := ev_aload_n iX8_readAt_20 rfl rfl
theorem iX8_readAt_21 : mn_ins 104 21 = some (8, false, .getfield 82, 3) := by decide +kernel
theorem eX8_readAt_21 : Ev 104 21 (ls) (.ref a :: st) h r ↔ Evk 104 24 ls (mn_gf h a 8 30) st h r := ev_getf iX8_readAt_21 (by decide +kernel)
theorem iX8_readAt_24 : mn_ins 104 24 = some (8, false, .iload_n 3, 1) := by decide +kernel
theorem eX8_readAt_24 : Ev 104 24 (a0 :: a1 :: a2 :: some (.int x) :: ls) (st) h r ↔ Ev 104 25 (a0 :: a1 :: a2 :: some (.int x) :: ls) (.int x :: st) h r := ev_iload_n iX8_readAt_24 rfl
theorem iX8_readAt_25 : mn_ins 104 25 = some (8, false, .iaload, 1) := by decide +kernel
theorem eX8_readAt_25 : Ev 104 25 (ls) (.int x :: .ref a :: st) h r ↔ Evk 104 26 ls (mn_al h a 0 x) st h r := ev_iald iX8_readAt_25
theorem iX8_readAt_26 : mn_ins 104 26 = some (8, false, .istore_n 3, 1) := by decide +kernel
theorem eX8_readAt_26 : Ev 104 26 (a0 :: a1 :: a2 :: a3 :: ls) (.int x :: st) h r ↔ Ev 104 27 (a0 :: a1 :: mn_k a2 :: some (.int x) :: ls) (st) h r := ev_istore_n iX8_readAt_26 (by show 3 < _; simp only [List.length_cons]; omega)
theorem iX8_readAt_27 : mn_ins 104 27 = some (8, false, .goto (-25), 3) := by decide +kernel
theorem eX8_readAt_27 : Ev 104 27 (ls) (st) h r ↔ Ev 104 2 (ls) (st) h r := ev_goto iX8_readAt_27 (by decide)
theorem iX8_readAt_30 : mn_ins 104 30 = some (8, false, .iload_n 3, 1) := by decide +kernel
theorem eX8_readAt_30 : Ev 104 30 (a0 :: a1 :: a2 :: some (.int x) :: ls) (st) h r ↔ Ev 104 31 (a0 :: a1 :: a2 :: some (.int x) :: ls) (.int x :: st) h r := ev_iload_n iX8_readAt_30 rfl
theorem iX8_readAt_31 : mn_ins 104 31 = some (8, false, .iconst (-1), 1) := by decide +kernel
theorem eX8_readAt_31 : Ev 104 31 (ls) (st) h r ↔ Ev 104 32 (ls) (.int (-1) :: st) h r := ev_iconst iX8_readAt_31 (by decide)
theorem iX8_readAt_32 : mn_ins 104 32 = some (8, false, .if_icmp .ne 7, 3) := by decide +kernel
theorem eX8_readAt_32 : Ev 104 32 (ls) (.int y :: .int x :: st) h r ↔ if x = y then Ev 104 35 (ls) (st) h r else Ev 104 39 (ls) (st) h r := ev_cmpne iX8_readAt_32 (by decide)
theorem iX8_readAt_35 : mn_ins 104 35 = some (8, false, .lconst 0, 1) := by decide +kernel
theorem eX8_readAt_35 : Ev 104 35 (ls) (st) h r ↔ Ev 104 36 (ls) (.long 0 :: st) h r := ev_lconst iX8_readAt_35 (by decide)
theorem iX8_readAt_36 : mn_ins 104 36 = some (8, false, .goto 14, 3) := by decide +kernel
theorem eX8_readAt_36 : Ev 104 36 (ls) (st) h r ↔ Ev 104 50 (ls) (st) h r := ev_goto iX8_readAt_36 (by decide)
theorem iX8_readAt_39 : mn_ins 104 39 = some (8, false, .aload_n 0, 1) := by decide +kernel
theorem eX8_readAt_39 : Ev 104 39 (some (.ref a) :: ls) (st) h r ↔ Ev 104 40 (some (.ref a) :: ls) (.ref a :: st) h r := ev_aload_n iX8_readAt_39 rfl rfl
theorem iX8_readAt_40 : mn_ins 104 40 = some (8, false, .getfield 88, 3) := by decide +kernel
theorem eX8_readAt_40 : Ev 104 40 (ls) (.ref a :: st) h r ↔ Evk 104 43 ls (mn_gf h a 8 32) st h r := ev_getf iX8_readAt_40 (by decide +kernel)
theorem iX8_readAt_43 : mn_ins 104 43 = some (8, false, .bipush 12, 2) := by decide +kernel
theorem eX8_readAt_43 : Ev 104 43 (ls) (st) h r ↔ Ev 104 45 (ls) (.int (nI 12) :: st) h r := ev_bipush iX8_readAt_43 (by decide)
theorem iX8_readAt_45 : mn_ins 104 45 = some (8, false, .iload_n 3, 1) := by decide +kernel
theorem eX8_readAt_45 : Ev 104 45 (a0 :: a1 :: a2 :: some (.int x) :: ls) (st) h r ↔ Ev 104 46 (a0 :: a1 :: a2 :: some (.int x) :: ls) (.int x :: st) h r := ev_iload_n iX8_readAt_45 rfl
theorem iX8_readAt_46 : mn_ins 104 46 = some (8, false, .imul, 1) := by decide +kernel
theorem eX8_readAt_46 : Ev 104 46 (ls) (.int y :: .int x :: st) h r ↔ Ev 104 47 (ls) (.int (x * y) :: st) h r := ev_imul iX8_readAt_46
theorem iX8_readAt_47 : mn_ins 104 47 = some (8, false, .iload_n 2, 1) := by decide +kernel
theorem eX8_readAt_47 : Ev 104 47 (a0 :: a1 :: some (.int x) :: ls) (st) h r ↔ Ev 104 48 (a0 :: a1 :: some (.int x) :: ls) (.int x :: st) h r := ev_iload_n iX8_readAt_47 rfl
theorem iX8_readAt_48 : mn_ins 104 48 = some (8, false, .iadd, 1) := by decide +kernel
theorem eX8_readAt_48 : Ev 104 48 (ls) (.int y :: .int x :: st) h r ↔ Ev 104 49 (ls) (.int (x + y) :: st) h r := ev_iadd iX8_readAt_48
theorem iX8_readAt_49 : mn_ins 104 49 = some (8, false, .laload, 1) := by decide +kernel
theorem eX8_readAt_49 : Ev 104 49 (ls) (.int x :: .ref a :: st) h r ↔ Evk 104 50 ls (mn_al h a 1 x) st h r := ev_lald iX8_readAt_49
theorem iX8_readAt_50 : mn_ins 104 50 = some (8, false, .lreturn, 1) := by decide +kernel
theorem eX8_readAt_50 : Ev 104 50 (ls) [.long u] h r ↔ r = (h, .inl (some (.long u))) := ev_lret iX8_readAt_50 (X := mnI_X8_readAt) rfl rfl
theorem iX8_writeAt_0 : mn_ins 105 0 = some (8, false, .aload_n 0, 1) := by decide +kernel
theorem eX8_writeAt_0 : Ev 105 0 (some (.ref a) :: ls) (st) h r ↔ Ev 105 1 (some (.ref a) :: ls) (.ref a :: st) h r := ev_aload_n iX8_writeAt_0 rfl rfl
theorem iX8_writeAt_1 : mn_ins 105 1 = some (8, false, .getfield 85, 3) := by decide +kernel
theorem eX8_writeAt_1 : Ev 105 1 (ls) (.ref a :: st) h r ↔ Evk 105 4 ls (mn_gf h a 8 31) st h r := ev_getf iX8_writeAt_1 (by decide +kernel)
theorem iX8_writeAt_4 : mn_ins 105 4 = some (8, false, .iload_n 1, 1) := by decide +kernel
theorem eX8_writeAt_4 : Ev 105 4 (a0 :: some (.int x) :: ls) (st) h r ↔ Ev 105 5 (a0 :: some (.int x) :: ls) (.int x :: st) h r := ev_iload_n iX8_writeAt_4 rfl
theorem iX8_writeAt_5 : mn_ins 105 5 = some (8, false, .dup2, 1) := by decide +kernel
theorem eX8_writeAt_5 : Ev 105 5 (ls) (.int x :: .ref a :: st) h r ↔ Ev 105 6 (ls) (.int x :: .ref a :: .int x :: .ref a :: st) h r := ev_dup2 iX8_writeAt_5 rfl rfl
theorem iX8_writeAt_6 : mn_ins 105 6 = some (8, false, .iaload, 1) := by decide +kernel
theorem eX8_writeAt_6 : Ev 105 6 (ls) (.int x :: .ref a :: st) h r ↔ Evk 105 7 ls (mn_al h a 0 x) st h r := ev_iald iX8_writeAt_6
theorem iX8_writeAt_7 : mn_ins 105 7 = some (8, false, .iconst 1, 1) := by decide +kernel
theorem eX8_writeAt_7 : Ev 105 7 (ls) (st) h r ↔ Ev 105 8 (ls) (.int (nI 1) :: st) h r := ev_iconst iX8_writeAt_7 (by decide)
theorem iX8_writeAt_8 : mn_ins 105 8 = some (8, false, .iload_n 2, 1) := by decide +kernel
theorem eX8_writeAt_8 : Ev 105 8 (a0 :: a1 :: some (.int x) :: ls) (st) h r ↔ Ev 105 9 (a0 :: a1 :: some (.int x) :: ls) (.int x :: st) h r := ev_iload_n iX8_writeAt_8 rfl
theorem iX8_writeAt_9 : mn_ins 105 9 = some (8, false, .ishl, 1) := by decide +kernel
theorem eX8_writeAt_9 : Ev 105 9 (ls) (.int y :: .int x :: st) h r ↔ Ev 105 10 (ls) (.int (x <<< (y &&& 31)) :: st) h r := ev_ishl iX8_writeAt_9
theorem iX8_writeAt_10 : mn_ins 105 10 = some (8, false, .ior, 1) := by decide +kernel
theorem eX8_writeAt_10 : Ev 105 10 (ls) (.int y :: .int x :: st) h r ↔ Ev 105 11 (ls) (.int (x ||| y) :: st) h r := ev_ior iX8_writeAt_10
theorem iX8_writeAt_11 : mn_ins 105 11 = some (8, false, .iastore, 1) := by decide +kernel
theorem eX8_writeAt_11 : Ev 105 11 (ls) (.int y :: .int x :: .ref a :: st) h r ↔ Evh 105 12 ls st (mn_asi h a x y) r := ev_iast iX8_writeAt_11
theorem iX8_writeAt_12 : mn_ins 105 12 = some (8, false, .aload_n 0, 1) := by decide +kernel
theorem eX8_writeAt_12 : Ev 105 12 (some (.ref a) :: ls) (st) h r ↔ Ev 105 13 (some (.ref a) :: ls) (.ref a :: st) h r := ev_aload_n iX8_writeAt_12 rfl rfl
theorem iX8_writeAt_13 : mn_ins 105 13 = some (8, false, .getfield 88, 3) := by decide +kernel
theorem eX8_writeAt_13 : Ev 105 13 (ls) (.ref a :: st) h r ↔ Evk 105 16 ls (mn_gf h a 8 32) st h r := ev_getf iX8_writeAt_13 (by decide +kernel)
theorem iX8_writeAt_16 : mn_ins 105 16 = some (8, false, .bipush 12, 2) := by decide +kernel
theorem eX8_writeAt_16 : Ev 105 16 (ls) (st) h r ↔ Ev 105 18 (ls) (.int (nI 12) :: st) h r := ev_bipush iX8_writeAt_16 (by decide)
theorem iX8_writeAt_18 : mn_ins 105 18 = some (8, false, .iload_n 1, 1) := by decide +kernel
theorem eX8_writeAt_18 : Ev 105 18 (a0 :: some (.int x) :: ls) (st) h r ↔ Ev 105 19 (a0 :: some (.int x) :: ls) (.int x :: st) h r := ev_iload_n iX8_writeAt_18 rfl
theorem iX8_writeAt_19 : mn_ins 105 19 = some (8, false, .imul, 1) := by decide +kernel
theorem eX8_writeAt_19 : Ev 105 19 (ls) (.int y :: .int x :: st) h r ↔ Ev 105 20 (ls) (.int (x * y) :: st) h r := ev_imul iX8_writeAt_19
theorem iX8_writeAt_20 : mn_ins 105 20 = some (8, false, .iload_n 2, 1) := by decide +kernel
theorem eX8_writeAt_20 : Ev 105 20 (a0 :: a1 :: some (.int x) :: ls) (st) h r ↔ Ev 105 21 (a0 :: a1 :: some (.int x) :: ls) (.int x :: st) h r := ev_iload_n iX8_writeAt_20 rfl
theorem iX8_writeAt_21 : mn_ins 105 21 = some (8, false, .iadd, 1) := by decide +kernel
theorem eX8_writeAt_21 : Ev 105 21 (ls) (.int y :: .int x :: st) h r ↔ Ev 105 22 (ls) (.int (x + y) :: st) h r := ev_iadd iX8_writeAt_21
theorem iX8_writeAt_22 : mn_ins 105 22 = some (8, false, .lload_n 3, 1) := by decide +kernel
theorem eX8_writeAt_22 : Ev 105 22 (a0 :: a1 :: a2 :: some (.long u) :: ls) (st) h r ↔ Ev 105 23 (a0 :: a1 :: a2 :: some (.long u) :: ls) (.long u :: st) h r := ev_lload_n iX8_writeAt_22 rfl
theorem iX8_writeAt_23 : mn_ins 105 23 = some (8, false, .lastore, 1) := by decide +kernel
theorem eX8_writeAt_23 : Ev 105 23 (ls) (.long u :: .int x :: .ref a :: st) h r ↔ Evh 105 24 ls st (mn_asl h a x u) r := ev_last iX8_writeAt_23
theorem iX8_writeAt_24 : mn_ins 105 24 = some (8, false, .return_, 1) := by decide +kernel
theorem eX8_writeAt_24 : Ev 105 24 (ls) [] h r ↔ r = (h, .inl none) := ev_vret iX8_writeAt_24 (X := mnI_X8_writeAt) rfl rfl
theorem iX8_isNeeded_0 : mn_ins 106 0 = some (8, false, .iconst 0, 1) := by decide +kernel
theorem eX8_isNeeded_0 : Ev 106 0 (ls) (st) h r ↔ Ev 106 1 (ls) (.int (nI 0) :: st) h r := ev_iconst iX8_isNeeded_0 (by decide)
theorem iX8_isNeeded_1 : mn_ins 106 1 = some (8, false, .istore_n 2, 1) := by decide +kernel
theorem eX8_isNeeded_1 : Ev 106 1 (a0 :: a1 :: a2 :: ls) (.int x :: st) h r ↔ Ev 106 2 (a0 :: mn_k a1 :: some (.int x) :: ls) (st) h r := ev_istore_n iX8_isNeeded_1 (by show 2 < _; simp only [List.length_cons]; omega)
theorem iX8_isNeeded_2 : mn_ins 106 2 = some (8, false, .iconst 0, 1) := by decide +kernel
theorem eX8_isNeeded_2 : Ev 106 2 (ls) (st) h r ↔ Ev 106 3 (ls) (.int (nI 0) :: st) h r := ev_iconst iX8_isNeeded_2 (by decide)
theorem iX8_isNeeded_3 : mn_ins 106 3 = some (8, false, .istore_n 3, 1) := by decide +kernel
theorem eX8_isNeeded_3 : Ev 106 3 (a0 :: a1 :: a2 :: a3 :: ls) (.int x :: st) h r ↔ Ev 106 4 (a0 :: a1 :: mn_k a2 :: some (.int x) :: ls) (st) h r := ev_istore_n iX8_isNeeded_3 (by show 3 < _; simp only [List.length_cons]; omega)
theorem iX8_isNeeded_4 : mn_ins 106 4 = some (8, false, .iload_n 3, 1) := by decide +kernel
theorem eX8_isNeeded_4 : Ev 106 4 (a0 :: a1 :: a2 :: some (.int x) :: ls) (st) h r ↔ Ev 106 5 (a0 :: a1 :: a2 :: some (.int x) :: ls) (.int x :: st) h r := ev_iload_n iX8_isNeeded_4 rfl
theorem iX8_isNeeded_5 : mn_ins 106 5 = some (8, false, .aload_n 0, 1) := by decide +kernel
theorem eX8_isNeeded_5 : Ev 106 5 (some (.ref a) :: ls) (st) h r ↔ Ev 106 6 (some (.ref a) :: ls) (.ref a :: st) h r := ev_aload_n iX8_isNeeded_5 rfl rfl
theorem iX8_isNeeded_6 : mn_ins 106 6 = some (8, false, .getfield 144, 3) := by decide +kernel
theorem eX8_isNeeded_6 : Ev 106 6 (ls) (.ref a :: st) h r ↔ Evk 106 9 ls (mn_gf h a 8 11) st h r := ev_getf iX8_isNeeded_6 (by decide +kernel)
theorem iX8_isNeeded_9 : mn_ins 106 9 = some (8, false, .if_icmp .ge 49, 3) := by decide +kernel
theorem eX8_isNeeded_9 : Ev 106 9 (ls) (.int y :: .int x :: st) h r ↔ if y ≤ x then Ev 106 58 (ls) (st) h r else Ev 106 12 (ls) (st) h r := ev_cmpge iX8_isNeeded_9 (by decide)
theorem iX8_isNeeded_12 : mn_ins 106 12 = some (8, false, .iload_n 2, 1) := by decide +kernel
theorem eX8_isNeeded_12 : Ev 106 12 (a0 :: a1 :: some (.int x) :: ls) (st) h r ↔ Ev 106 13 (a0 :: a1 :: some (.int x) :: ls) (.int x :: st) h r := ev_iload_n iX8_isNeeded_12 rfl
theorem iX8_isNeeded_13 : mn_ins 106 13 = some (8, false, .ifCond .ne 33, 3) := by decide +kernel
theorem eX8_isNeeded_13 : Ev 106 13 (ls) (.int x :: st) h r ↔ if x = nI 0 then Ev 106 16 (ls) (st) h r else Ev 106 46 (ls) (st) h r := ev_ifne iX8_isNeeded_13 (by decide)
theorem iX8_isNeeded_16 : mn_ins 106 16 = some (8, false, .aload_n 0, 1) := by decide +kernel
theorem eX8_isNeeded_16 : Ev 106 16 (some (.ref a) :: ls) (st) h r ↔ Ev 106 17 (some (.ref a) :: ls) (.ref a :: st) h r := ev_aload_n iX8_isNeeded_16 rfl rfl
theorem iX8_isNeeded_17 : mn_ins 106 17 = some (8, false, .getfield 39, 3) := by decide +kernel
theorem eX8_isNeeded_17 : Ev 106 17 (ls) (.ref a :: st) h r ↔ Evk 106 20 ls (mn_gf h a 8 16) st h r := ev_getf iX8_isNeeded_17 (by decide +kernel)
theorem iX8_isNeeded_20 : mn_ins 106 20 = some (8, false, .iload_n 3, 1) := by decide +kernel
theorem eX8_isNeeded_20 : Ev 106 20 (a0 :: a1 :: a2 :: some (.int x) :: ls) (st) h r ↔ Ev 106 21 (a0 :: a1 :: a2 :: some (.int x) :: ls) (.int x :: st) h r := ev_iload_n iX8_isNeeded_20 rfl
theorem iX8_isNeeded_21 : mn_ins 106 21 = some (8, false, .iaload, 1) := by decide +kernel
theorem eX8_isNeeded_21 : Ev 106 21 (ls) (.int x :: .ref a :: st) h r ↔ Evk 106 22 ls (mn_al h a 0 x) st h r := ev_iald iX8_isNeeded_21
theorem iX8_isNeeded_22 : mn_ins 106 22 = some (8, false, .iconst 3, 1) := by decide +kernel
theorem eX8_isNeeded_22 : Ev 106 22 (ls) (st) h r ↔ Ev 106 23 (ls) (.int (nI 3) :: st) h r := ev_iconst iX8_isNeeded_22 (by decide)
theorem iX8_isNeeded_23 : mn_ins 106 23 = some (8, false, .if_icmp .eq 27, 3) := by decide +kernel
theorem eX8_isNeeded_23 : Ev 106 23 (ls) (.int y :: .int x :: st) h r ↔ if x = y then Ev 106 50 (ls) (st) h r else Ev 106 26 (ls) (st) h r := ev_cmpeq iX8_isNeeded_23 (by decide)
theorem iX8_isNeeded_26 : mn_ins 106 26 = some (8, false, .aload_n 0, 1) := by decide +kernel
theorem eX8_isNeeded_26 : Ev 106 26 (some (.ref a) :: ls) (st) h r ↔ Ev 106 27 (some (.ref a) :: ls) (.ref a :: st) h r := ev_aload_n iX8_isNeeded_26 rfl rfl
theorem iX8_isNeeded_27 : mn_ins 106 27 = some (8, false, .getfield 73, 3) := by decide +kernel
theorem eX8_isNeeded_27 : Ev 106 27 (ls) (.ref a :: st) h r ↔ Evk 106 30 ls (mn_gf h a 8 27) st h r := ev_getf iX8_isNeeded_27 (by decide +kernel)
theorem iX8_isNeeded_30 : mn_ins 106 30 = some (8, false, .iload_n 3, 1) := by decide +kernel
theorem eX8_isNeeded_30 : Ev 106 30 (a0 :: a1 :: a2 :: some (.int x) :: ls) (st) h r ↔ Ev 106 31 (a0 :: a1 :: a2 :: some (.int x) :: ls) (.int x :: st) h r := ev_iload_n iX8_isNeeded_30 rfl
theorem iX8_isNeeded_31 : mn_ins 106 31 = some (8, false, .iaload, 1) := by decide +kernel
theorem eX8_isNeeded_31 : Ev 106 31 (ls) (.int x :: .ref a :: st) h r ↔ Evk 106 32 ls (mn_al h a 0 x) st h r := ev_iald iX8_isNeeded_31
theorem iX8_isNeeded_32 : mn_ins 106 32 = some (8, false, .iload_n 1, 1) := by decide +kernel
theorem eX8_isNeeded_32 : Ev 106 32 (a0 :: some (.int x) :: ls) (st) h r ↔ Ev 106 33 (a0 :: some (.int x) :: ls) (.int x :: st) h r := ev_iload_n iX8_isNeeded_32 rfl
theorem iX8_isNeeded_33 : mn_ins 106 33 = some (8, false, .if_icmp .eq 13, 3) := by decide +kernel
theorem eX8_isNeeded_33 : Ev 106 33 (ls) (.int y :: .int x :: st) h r ↔ if x = y then Ev 106 46 (ls) (st) h r else Ev 106 36 (ls) (st) h r := ev_cmpeq iX8_isNeeded_33 (by decide)
theorem iX8_isNeeded_36 : mn_ins 106 36 = some (8, false, .aload_n 0, 1) := by decide +kernel
theorem eX8_isNeeded_36 : Ev 106 36 (some (.ref a) :: ls) (st) h r ↔ Ev 106 37 (some (.ref a) :: ls) (.ref a :: st) h r := ev_aload_n iX8_isNeeded_36 rfl rfl
theorem iX8_isNeeded_37 : mn_ins 106 37 = some (8, false, .getfield 76, 3) := by decide +kernel
theorem eX8_isNeeded_37 : Ev 106 37 (ls) (.ref a :: st) h r ↔ Evk 106 40 ls (mn_gf h a 8 28) st h r := ev_getf iX8_isNeeded_37 (by decide +kernel)
theorem iX8_isNeeded_40 : mn_ins 106 40 = some (8, false, .iload_n 3, 1) := by decide +kernel
theorem eX8_isNeeded_40 : Ev 106 40 (a0 :: a1 :: a2 :: some (.int x) :: ls) (st) h r ↔ Ev 106 41 (a0 :: a1 :: a2 :: some (.int x) :: ls) (.int x :: st) h r := ev_iload_n iX8_isNeeded_40 rfl
theorem iX8_isNeeded_41 : mn_ins 106 41 = some (8, false, .iaload, 1) := by decide +kernel
theorem eX8_isNeeded_41 : Ev 106 41 (ls) (.int x :: .ref a :: st) h r ↔ Evk 106 42 ls (mn_al h a 0 x) st h r := ev_iald iX8_isNeeded_41
theorem iX8_isNeeded_42 : mn_ins 106 42 = some (8, false, .iload_n 1, 1) := by decide +kernel
theorem eX8_isNeeded_42 : Ev 106 42 (a0 :: some (.int x) :: ls) (st) h r ↔ Ev 106 43 (a0 :: some (.int x) :: ls) (.int x :: st) h r := ev_iload_n iX8_isNeeded_42 rfl
theorem iX8_isNeeded_43 : mn_ins 106 43 = some (8, false, .if_icmp .ne 7, 3) := by decide +kernel
theorem eX8_isNeeded_43 : Ev 106 43 (ls) (.int y :: .int x :: st) h r ↔ if x = y then Ev 106 46 (ls) (st) h r else Ev 106 50 (ls) (st) h r := ev_cmpne iX8_isNeeded_43 (by decide)
theorem iX8_isNeeded_46 : mn_ins 106 46 = some (8, false, .iconst 1, 1) := by decide +kernel
theorem eX8_isNeeded_46 : Ev 106 46 (ls) (st) h r ↔ Ev 106 47 (ls) (.int (nI 1) :: st) h r := ev_iconst iX8_isNeeded_46 (by decide)
theorem iX8_isNeeded_47 : mn_ins 106 47 = some (8, false, .goto 4, 3) := by decide +kernel
theorem eX8_isNeeded_47 : Ev 106 47 (ls) (st) h r ↔ Ev 106 51 (ls) (st) h r := ev_goto iX8_isNeeded_47 (by decide)
theorem iX8_isNeeded_50 : mn_ins 106 50 = some (8, false, .iconst 0, 1) := by decide +kernel
theorem eX8_isNeeded_50 : Ev 106 50 (ls) (st) h r ↔ Ev 106 51 (ls) (.int (nI 0) :: st) h r := ev_iconst iX8_isNeeded_50 (by decide)
theorem iX8_isNeeded_51 : mn_ins 106 51 = some (8, false, .istore_n 2, 1) := by decide +kernel
theorem eX8_isNeeded_51 : Ev 106 51 (a0 :: a1 :: a2 :: ls) (.int x :: st) h r ↔ Ev 106 52 (a0 :: mn_k a1 :: some (.int x) :: ls) (st) h r := ev_istore_n iX8_isNeeded_51 (by show 2 < _; simp only [List.length_cons]; omega)
theorem iX8_isNeeded_52 : mn_ins 106 52 = some (8, false, .iinc 3 1, 3) := by decide +kernel
theorem eX8_isNeeded_52 : Ev 106 52 (a0 :: a1 :: a2 :: some (.int x) :: ls) (st) h r ↔ Ev 106 55 (a0 :: a1 :: mn_k a2 :: some (.int (x + (nI 1))) :: ls) (st) h r := ev_iinc iX8_isNeeded_52 rfl (by decide)
theorem iX8_isNeeded_55 : mn_ins 106 55 = some (8, false, .goto (-51), 3) := by decide +kernel
theorem eX8_isNeeded_55 : Ev 106 55 (ls) (st) h r ↔ Ev 106 4 (ls) (st) h r := ev_goto iX8_isNeeded_55 (by decide)
theorem iX8_isNeeded_58 : mn_ins 106 58 = some (8, false, .iload_n 2, 1) := by decide +kernel
theorem eX8_isNeeded_58 : Ev 106 58 (a0 :: a1 :: some (.int x) :: ls) (st) h r ↔ Ev 106 59 (a0 :: a1 :: some (.int x) :: ls) (.int x :: st) h r := ev_iload_n iX8_isNeeded_58 rfl
theorem iX8_isNeeded_59 : mn_ins 106 59 = some (8, false, .ireturn, 1) := by decide +kernel
theorem eX8_isNeeded_59 (hx : x = 0 ∨ x = 1) : Ev 106 59 (ls) [.int x] h r ↔ r = (h, .inl (some (.int x))) := ev_zret iX8_isNeeded_59 (X := mnI_X8_isNeeded) rfl rfl hx
theorem iX8_tidy_0 : mn_ins 107 0 = some (8, false, .iconst 1, 1) := by decide +kernel
theorem eX8_tidy_0 : Ev 107 0 (ls) (st) h r ↔ Ev 107 1 (ls) (.int (nI 1) :: st) h r := ev_iconst iX8_tidy_0 (by decide)
theorem iX8_tidy_1 : mn_ins 107 1 = some (8, false, .istore_n 1, 1) := by decide +kernel
theorem eX8_tidy_1 : Ev 107 1 (a0 :: a1 :: ls) (.int x :: st) h r ↔ Ev 107 2 (mn_k a0 :: some (.int x) :: ls) (st) h r := ev_istore_n iX8_tidy_1 (by show 1 < _; simp only [List.length_cons]; omega)
theorem iX8_tidy_2 : mn_ins 107 2 = some (8, false, .iload_n 1, 1) := by decide +kernel
theorem eX8_tidy_2 : Ev 107 2 (a0 :: some (.int x) :: ls) (st) h r ↔ Ev 107 3 (a0 :: some (.int x) :: ls) (.int x :: st) h r := ev_iload_n iX8_tidy_2 rfl
theorem iX8_tidy_3 : mn_ins 107 3 = some (8, false, .ifCond .eq 199, 3) := by decide +kernel
theorem eX8_tidy_3 : Ev 107 3 (ls) (.int x :: st) h r ↔ if x = nI 0 then Ev 107 202 (ls) (st) h r else Ev 107 6 (ls) (st) h r := ev_ifeq iX8_tidy_3 (by decide)
theorem iX8_tidy_6 : mn_ins 107 6 = some (8, false, .iconst 0, 1) := by decide +kernel
theorem eX8_tidy_6 : Ev 107 6 (ls) (st) h r ↔ Ev 107 7 (ls) (.int (nI 0) :: st) h r := ev_iconst iX8_tidy_6 (by decide)
theorem iX8_tidy_7 : mn_ins 107 7 = some (8, false, .istore_n 1, 1) := by decide +kernel
theorem eX8_tidy_7 : Ev 107 7 (a0 :: a1 :: ls) (.int x :: st) h r ↔ Ev 107 8 (mn_k a0 :: some (.int x) :: ls) (st) h r := ev_istore_n iX8_tidy_7 (by show 1 < _; simp only [List.length_cons]; omega)
theorem iX8_tidy_8 : mn_ins 107 8 = some (8, false, .iconst 0, 1) := by decide +kernel
theorem eX8_tidy_8 : Ev 107 8 (ls) (st) h r ↔ Ev 107 9 (ls) (.int (nI 0) :: st) h r := ev_iconst iX8_tidy_8 (by decide)
theorem iX8_tidy_9 : mn_ins 107 9 = some (8, false, .istore_n 2, 1) := by decide +kernel
theorem eX8_tidy_9 : Ev 107 9 (a0 :: a1 :: a2 :: ls) (.int x :: st) h r ↔ Ev 107 10 (a0 :: mn_k a1 :: some (.int x) :: ls) (st) h r := ev_istore_n iX8_tidy_9 (by show 2 < _; simp only [List.length_cons]; omega)
theorem iX8_tidy_10 : mn_ins 107 10 = some (8, false, .iload_n 2, 1) := by decide +kernel
theorem eX8_tidy_10 : Ev 107 10 (a0 :: a1 :: some (.int x) :: ls) (st) h r ↔ Ev 107 11 (a0 :: a1 :: some (.int x) :: ls) (.int x :: st) h r := ev_iload_n iX8_tidy_10 rfl
theorem iX8_tidy_11 : mn_ins 107 11 = some (8, false, .bipush 40, 2) := by decide +kernel
theorem eX8_tidy_11 : Ev 107 11 (ls) (st) h r ↔ Ev 107 13 (ls) (.int (nI 40) :: st) h r := ev_bipush iX8_tidy_11 (by decide)
theorem iX8_tidy_13 : mn_ins 107 13 = some (8, false, .if_icmp .ge 186, 3) := by decide +kernel
theorem eX8_tidy_13 : Ev 107 13 (ls) (.int y :: .int x :: st) h r ↔ if y ≤ x then Ev 107 199 (ls) (st) h r else Ev 107 16 (ls) (st) h r := ev_cmpge iX8_tidy_13 (by decide)
theorem iX8_tidy_16 : mn_ins 107 16 = some (8, false, .aload_n 0, 1) := by decide +kernel
theorem eX8_tidy_16 : Ev 107 16 (some (.ref a) :: ls) (st) h r ↔ Ev 107 17 (some (.ref a) :: ls) (.ref a :: st) h r := ev_aload_n iX8_tidy_16 rfl rfl
theorem iX8_tidy_17 : mn_ins 107 17 = some (8, false, .getfield 79, 3) := by decide +kernel
theorem eX8_tidy_17 : Ev 107 17 (ls) (.ref a :: st) h r ↔ Evk 107 20 ls (mn_gf h a 8 29) st h r := ev_getf iX8_tidy_17 (by decide +kernel)
theorem iX8_tidy_20 : mn_ins 107 20 = some (8, false, .iload_n 2, 1) := by decide +kernel
theorem eX8_tidy_20 : Ev 107 20 (a0 :: a1 :: some (.int x) :: ls) (st) h r ↔ Ev 107 21 (a0 :: a1 :: some (.int x) :: ls) (.int x :: st) h r := ev_iload_n iX8_tidy_20 rfl
theorem iX8_tidy_21 : mn_ins 107 21 = some (8, false, .baload, 1) := by decide +kernel
theorem eX8_tidy_21 : Ev 107 21 (ls) (.int x :: .ref a :: st) h r ↔ Evk 107 22 ls (mn_al h a 2 x) st h r := ev_bald iX8_tidy_21
theorem iX8_tidy_22 : mn_ins 107 22 = some (8, false, .ifCond .eq 171, 3) := by decide +kernel
theorem eX8_tidy_22 : Ev 107 22 (ls) (.int x :: st) h r ↔ if x = nI 0 then Ev 107 193 (ls) (st) h r else Ev 107 25 (ls) (st) h r := ev_ifeq iX8_tidy_22 (by decide)
theorem iX8_tidy_25 : mn_ins 107 25 = some (8, false, .aload_n 0, 1) := by decide +kernel
theorem eX8_tidy_25 : Ev 107 25 (some (.ref a) :: ls) (st) h r ↔ Ev 107 26 (some (.ref a) :: ls) (.ref a :: st) h r := ev_aload_n iX8_tidy_25 rfl rfl
theorem iX8_tidy_26 : mn_ins 107 26 = some (8, false, .iload_n 2, 1) := by decide +kernel
theorem eX8_tidy_26 : Ev 107 26 (a0 :: a1 :: some (.int x) :: ls) (st) h r ↔ Ev 107 27 (a0 :: a1 :: some (.int x) :: ls) (.int x :: st) h r := ev_iload_n iX8_tidy_26 rfl
theorem iX8_tidy_27 : mn_ins 107 27 = some (8, false, .invokevirtual 160, 3) := by decide +kernel
theorem eX8_tidy_27 : Ev 107 27 (ls) (.int x0 :: .ref b :: st) h r ↔ Evr true (decide (mn_cats st ≤ 8) && mn_isc h b 8) 107 27 ls st h.2.2.1 h.2.2.2 (Cl 106 (.ref b :: [.int x0]) h.1 h.2.1) r := Ev_V (As := [.int x0]) iX8_tidy_27 (by decide +kernel) (x := mnI_X8_tidy) (x2 := mnI_X8_isNeeded) rfl rfl rfl (by decide +kernel) (Nat.le_of_ble_eq_true rfl) rfl
theorem iX8_tidy_30 : mn_ins 107 30 = some (8, false, .ifCond .eq 6, 3) := by decide +kernel
theorem eX8_tidy_30 : Ev 107 30 (ls) (.int x :: st) h r ↔ if x = nI 0 then Ev 107 36 (ls) (st) h r else Ev 107 33 (ls) (st) h r := ev_ifeq iX8_tidy_30 (by decide)
theorem iX8_tidy_33 : mn_ins 107 33 = some (8, false, .goto 160, 3) := by decide +kernel
theorem eX8_tidy_33 : Ev 107 33 (ls) (st) h r ↔ Ev 107 193 (ls) (st) h r := ev_goto iX8_tidy_33 (by decide)
theorem iX8_tidy_36 : mn_ins 107 36 = some (8, false, .iconst (-1), 1) := by decide +kernel
theorem eX8_tidy_36 : Ev 107 36 (ls) (st) h r ↔ Ev 107 37 (ls) (.int (-1) :: st) h r := ev_iconst iX8_tidy_36 (by decide)
theorem iX8_tidy_37 : mn_ins 107 37 = some (8, false, .istore_n 3, 1) := by decide +kernel
theorem eX8_tidy_37 : Ev 107 37 (a0 :: a1 :: a2 :: a3 :: ls) (.int x :: st) h r ↔ Ev 107 38 (a0 :: a1 :: mn_k a2 :: some (.int x) :: ls) (st) h r := ev_istore_n iX8_tidy_37 (by show 3 < _; simp only [List.length_cons]; omega)
theorem iX8_tidy_38 : mn_ins 107 38 = some (8, false, .iconst 0, 1) := by decide +kernel
theorem eX8_tidy_38 : Ev 107 38 (ls) (st) h r ↔ Ev 107 39 (ls) (.int (nI 0) :: st) h r := ev_iconst iX8_tidy_38 (by decide)
theorem iX8_tidy_39 : mn_ins 107 39 = some (8, false, .istore 4, 2) := by decide +kernel
theorem eX8_tidy_39 : Ev 107 39 (a0 :: a1 :: a2 :: a3 :: a4 :: ls) (.int x :: st) h r ↔ Ev 107 41 (a0 :: a1 :: a2 :: mn_k a3 :: some (.int x) :: ls) (st) h r := ev_istore iX8_tidy_39 (by show 4 < _; simp only [List.length_cons]; omega)
theorem iX8_tidy_41 : mn_ins 107 41 = some (8, false, .iconst 0, 1) := by decide +kernel
theorem eX8_tidy_41 : Ev 107 41 (ls) (st) h r ↔ Ev 107 42 (ls) (.int (nI 0) :: st) h r := ev_iconst iX8_tidy_41 (by decide)
theorem iX8_tidy_42 : mn_ins 107 42 = some (8, false, .istore 5, 2) := by decide +kernel
theorem eX8_tidy_42 : Ev 107 42 (a0 :: a1 :: a2 :: a3 :: a4 :: a5 :: ls) (.int x :: st) h r ↔ Ev 107 44 (a0 :: a1 :: a2 :: a3 :: mn_k a4 :: some (.int x) :: ls) (st) h r := ev_istore iX8_tidy_42 (by show 5 < _; simp only [List.length_cons]; omega)
theorem iX8_tidy_44 : mn_ins 107 44 = some (8, false, .iload 5, 2) := by decide +kernel
theorem eX8_tidy_44 : Ev 107 44 (a0 :: a1 :: a2 :: a3 :: a4 :: some (.int x) :: ls) (st) h r ↔ Ev 107 46 (a0 :: a1 :: a2 :: a3 :: a4 :: some (.int x) :: ls) (.int x :: st) h r := ev_iload iX8_tidy_44 rfl
theorem iX8_tidy_46 : mn_ins 107 46 = some (8, false, .bipush 40, 2) := by decide +kernel
theorem eX8_tidy_46 : Ev 107 46 (ls) (st) h r ↔ Ev 107 48 (ls) (.int (nI 40) :: st) h r := ev_bipush iX8_tidy_46 (by decide)
theorem iX8_tidy_48 : mn_ins 107 48 = some (8, false, .if_icmp .ge 39, 3) := by decide +kernel
theorem eX8_tidy_48 : Ev 107 48 (ls) (.int y :: .int x :: st) h r ↔ if y ≤ x then Ev 107 87 (ls) (st) h r else Ev 107 51 (ls) (st) h r := ev_cmpge iX8_tidy_48 (by decide)
theorem iX8_tidy_51 : mn_ins 107 51 = some (8, false, .aload_n 0, 1) := by decide +kernel
theorem eX8_tidy_51 : Ev 107 51 (some (.ref a) :: ls) (st) h r ↔ Ev 107 52 (some (.ref a) :: ls) (.ref a :: st) h r := ev_aload_n iX8_tidy_51 rfl rfl
theorem iX8_tidy_52 : mn_ins 107 52 = some (8, false, .getfield 79, 3) := by decide +kernel
theorem eX8_tidy_52 : Ev 107 52 (ls) (.ref a :: st) h r ↔ Evk 107 55 ls (mn_gf h a 8 29) st h r := ev_getf iX8_tidy_52 (by decide +kernel)
theorem iX8_tidy_55 : mn_ins 107 55 = some (8, false, .iload 5, 2) := by decide +kernel
theorem eX8_tidy_55 : Ev 107 55 (a0 :: a1 :: a2 :: a3 :: a4 :: some (.int x) :: ls) (st) h r ↔ Ev 107 57 (a0 :: a1 :: a2 :: a3 :: a4 :: some (.int x) :: ls) (.int x :: st) h r := ev_iload iX8_tidy_55 rfl
theorem iX8_tidy_57 : mn_ins 107 57 = some (8, false, .baload, 1) := by decide +kernel
theorem eX8_tidy_57 : Ev 107 57 (ls) (.int x :: .ref a :: st) h r ↔ Evk 107 58 ls (mn_al h a 2 x) st h r := ev_bald iX8_tidy_57
theorem iX8_tidy_58 : mn_ins 107 58 = some (8, false, .ifCond .eq 23, 3) := by decide +kernel
theorem eX8_tidy_58 : Ev 107 58 (ls) (.int x :: st) h r ↔ if x = nI 0 then Ev 107 81 (ls) (st) h r else Ev 107 61 (ls) (st) h r := ev_ifeq iX8_tidy_58 (by decide)
theorem iX8_tidy_61 : mn_ins 107 61 = some (8, false, .aload_n 0, 1) := by decide +kernel
theorem eX8_tidy_61 : Ev 107 61 (some (.ref a) :: ls) (st) h r ↔ Ev 107 62 (some (.ref a) :: ls) (.ref a :: st) h r := ev_aload_n iX8_tidy_61 rfl rfl
theorem iX8_tidy_62 : mn_ins 107 62 = some (8, false, .getfield 82, 3) := by decide +kernel
theorem eX8_tidy_62 : Ev 107 62 (ls) (.ref a :: st) h r ↔ Evk 107 65 ls (mn_gf h a 8 30) st h r := ev_getf iX8_tidy_62 (by decide +kernel)
theorem iX8_tidy_65 : mn_ins 107 65 = some (8, false, .iload 5, 2) := by decide +kernel
theorem eX8_tidy_65 : Ev 107 65 (a0 :: a1 :: a2 :: a3 :: a4 :: some (.int x) :: ls) (st) h r ↔ Ev 107 67 (a0 :: a1 :: a2 :: a3 :: a4 :: some (.int x) :: ls) (.int x :: st) h r := ev_iload iX8_tidy_65 rfl
theorem iX8_tidy_67 : mn_ins 107 67 = some (8, false, .iaload, 1) := by decide +kernel
theorem eX8_tidy_67 : Ev 107 67 (ls) (.int x :: .ref a :: st) h r ↔ Evk 107 68 ls (mn_al h a 0 x) st h r := ev_iald iX8_tidy_67
theorem iX8_tidy_68 : mn_ins 107 68 = some (8, false, .iload_n 2, 1) := by decide +kernel
theorem eX8_tidy_68 : Ev 107 68 (a0 :: a1 :: some (.int x) :: ls) (st) h r ↔ Ev 107 69 (a0 :: a1 :: some (.int x) :: ls) (.int x :: st) h r := ev_iload_n iX8_tidy_68 rfl
theorem iX8_tidy_69 : mn_ins 107 69 = some (8, false, .if_icmp .eq 6, 3) := by decide +kernel
theorem eX8_tidy_69 : Ev 107 69 (ls) (.int y :: .int x :: st) h r ↔ if x = y then Ev 107 75 (ls) (st) h r else Ev 107 72 (ls) (st) h r := ev_cmpeq iX8_tidy_69 (by decide)
theorem iX8_tidy_72 : mn_ins 107 72 = some (8, false, .goto 9, 3) := by decide +kernel
theorem eX8_tidy_72 : Ev 107 72 (ls) (st) h r ↔ Ev 107 81 (ls) (st) h r := ev_goto iX8_tidy_72 (by decide)
theorem iX8_tidy_75 : mn_ins 107 75 = some (8, false, .iload 5, 2) := by decide +kernel
theorem eX8_tidy_75 : Ev 107 75 (a0 :: a1 :: a2 :: a3 :: a4 :: some (.int x) :: ls) (st) h r ↔ Ev 107 77 (a0 :: a1 :: a2 :: a3 :: a4 :: some (.int x) :: ls) (.int x :: st) h r := ev_iload iX8_tidy_75 rfl
theorem iX8_tidy_77 : mn_ins 107 77 = some (8, false, .istore_n 3, 1) := by decide +kernel
theorem eX8_tidy_77 : Ev 107 77 (a0 :: a1 :: a2 :: a3 :: ls) (.int x :: st) h r ↔ Ev 107 78 (a0 :: a1 :: mn_k a2 :: some (.int x) :: ls) (st) h r := ev_istore_n iX8_tidy_77 (by show 3 < _; simp only [List.length_cons]; omega)
theorem iX8_tidy_78 : mn_ins 107 78 = some (8, false, .iinc 4 1, 3) := by decide +kernel
theorem eX8_tidy_78 : Ev 107 78 (a0 :: a1 :: a2 :: a3 :: some (.int x) :: ls) (st) h r ↔ Ev 107 81 (a0 :: a1 :: a2 :: mn_k a3 :: some (.int (x + (nI 1))) :: ls) (st) h r := ev_iinc iX8_tidy_78 rfl (by decide)
theorem iX8_tidy_81 : mn_ins 107 81 = some (8, false, .iinc 5 1, 3) := by decide +kernel
theorem eX8_tidy_81 : Ev 107 81 (a0 :: a1 :: a2 :: a3 :: a4 :: some (.int x) :: ls) (st) h r ↔ Ev 107 84 (a0 :: a1 :: a2 :: a3 :: mn_k a4 :: some (.int (x + (nI 1))) :: ls) (st) h r := ev_iinc iX8_tidy_81 rfl (by decide)
theorem iX8_tidy_84 : mn_ins 107 84 = some (8, false, .goto (-40), 3) := by decide +kernel
theorem eX8_tidy_84 : Ev 107 84 (ls) (st) h r ↔ Ev 107 44 (ls) (st) h r := ev_goto iX8_tidy_84 (by decide)
theorem iX8_tidy_87 : mn_ins 107 87 = some (8, false, .iload 4, 2) := by decide +kernel
theorem eX8_tidy_87 : Ev 107 87 (a0 :: a1 :: a2 :: a3 :: some (.int x) :: ls) (st) h r ↔ Ev 107 89 (a0 :: a1 :: a2 :: a3 :: some (.int x) :: ls) (.int x :: st) h r := ev_iload iX8_tidy_87 rfl
theorem iX8_tidy_89 : mn_ins 107 89 = some (8, false, .iconst 1, 1) := by decide +kernel
theorem eX8_tidy_89 : Ev 107 89 (ls) (st) h r ↔ Ev 107 90 (ls) (.int (nI 1) :: st) h r := ev_iconst iX8_tidy_89 (by decide)
theorem iX8_tidy_90 : mn_ins 107 90 = some (8, false, .if_icmp .le 6, 3) := by decide +kernel
theorem eX8_tidy_90 : Ev 107 90 (ls) (.int y :: .int x :: st) h r ↔ if x ≤ y then Ev 107 96 (ls) (st) h r else Ev 107 93 (ls) (st) h r := ev_cmple iX8_tidy_90 (by decide)
theorem iX8_tidy_93 : mn_ins 107 93 = some (8, false, .goto 100, 3) := by decide +kernel
theorem eX8_tidy_93 : Ev 107 93 (ls) (st) h r ↔ Ev 107 193 (ls) (st) h r := ev_goto iX8_tidy_93 (by decide)
theorem iX8_tidy_96 : mn_ins 107 96 = some (8, false, .iconst 0, 1) := by decide +kernel
theorem eX8_tidy_96 : Ev 107 96 (ls) (st) h r ↔ Ev 107 97 (ls) (.int (nI 0) :: st) h r := ev_iconst iX8_tidy_96 (by decide)
theorem iX8_tidy_97 : mn_ins 107 97 = some (8, false, .istore 5, 2) := by decide +kernel
theorem eX8_tidy_97 : Ev 107 97 (a0 :: a1 :: a2 :: a3 :: a4 :: a5 :: ls) (.int x :: st) h r ↔ Ev 107 99 (a0 :: a1 :: a2 :: a3 :: mn_k a4 :: some (.int x) :: ls) (st) h r := ev_istore iX8_tidy_97 (by show 5 < _; simp only [List.length_cons]; omega)
theorem iX8_tidy_99 : mn_ins 107 99 = some (8, false, .iload 5, 2) := by decide +kernel
theorem eX8_tidy_99 : Ev 107 99 (a0 :: a1 :: a2 :: a3 :: a4 :: some (.int x) :: ls) (st) h r ↔ Ev 107 101 (a0 :: a1 :: a2 :: a3 :: a4 :: some (.int x) :: ls) (.int x :: st) h r := ev_iload iX8_tidy_99 rfl
theorem iX8_tidy_101 : mn_ins 107 101 = some (8, false, .bipush 12, 2) := by decide +kernel
theorem eX8_tidy_101 : Ev 107 101 (ls) (st) h r ↔ Ev 107 103 (ls) (.int (nI 12) :: st) h r := ev_bipush iX8_tidy_101 (by decide)
theorem iX8_tidy_103 : mn_ins 107 103 = some (8, false, .if_icmp .ge 63, 3) := by decide +kernel
theorem eX8_tidy_103 : Ev 107 103 (ls) (.int y :: .int x :: st) h r ↔ if y ≤ x then Ev 107 166 (ls) (st) h r else Ev 107 106 (ls) (st) h r := ev_cmpge iX8_tidy_103 (by decide)
theorem iX8_tidy_106 : mn_ins 107 106 = some (8, false, .iload 4, 2) := by decide +kernel
theorem eX8_tidy_106 : Ev 107 106 (a0 :: a1 :: a2 :: a3 :: some (.int x) :: ls) (st) h r ↔ Ev 107 108 (a0 :: a1 :: a2 :: a3 :: some (.int x) :: ls) (.int x :: st) h r := ev_iload iX8_tidy_106 rfl
theorem iX8_tidy_108 : mn_ins 107 108 = some (8, false, .iconst 1, 1) := by decide +kernel
theorem eX8_tidy_108 : Ev 107 108 (ls) (st) h r ↔ Ev 107 109 (ls) (.int (nI 1) :: st) h r := ev_iconst iX8_tidy_108 (by decide)
theorem iX8_tidy_109 : mn_ins 107 109 = some (8, false, .if_icmp .ne 57, 3) := by decide +kernel
theorem eX8_tidy_109 : Ev 107 109 (ls) (.int y :: .int x :: st) h r ↔ if x = y then Ev 107 112 (ls) (st) h r else Ev 107 166 (ls) (st) h r := ev_cmpne iX8_tidy_109 (by decide)
theorem iX8_tidy_112 : mn_ins 107 112 = some (8, false, .aload_n 0, 1) := by decide +kernel
theorem eX8_tidy_112 : Ev 107 112 (some (.ref a) :: ls) (st) h r ↔ Ev 107 113 (some (.ref a) :: ls) (.ref a :: st) h r := ev_aload_n iX8_tidy_112 rfl rfl
theorem iX8_tidy_113 : mn_ins 107 113 = some (8, false, .getfield 85, 3) := by decide +kernel
theorem eX8_tidy_113 : Ev 107 113 (ls) (.ref a :: st) h r ↔ Evk 107 116 ls (mn_gf h a 8 31) st h r := ev_getf iX8_tidy_113 (by decide +kernel)
theorem iX8_tidy_116 : mn_ins 107 116 = some (8, false, .iload_n 2, 1) := by decide +kernel
theorem eX8_tidy_116 : Ev 107 116 (a0 :: a1 :: some (.int x) :: ls) (st) h r ↔ Ev 107 117 (a0 :: a1 :: some (.int x) :: ls) (.int x :: st) h r := ev_iload_n iX8_tidy_116 rfl
theorem iX8_tidy_117 : mn_ins 107 117 = some (8, false, .iaload, 1) := by decide +kernel
theorem eX8_tidy_117 : Ev 107 117 (ls) (.int x :: .ref a :: st) h r ↔ Evk 107 118 ls (mn_al h a 0 x) st h r := ev_iald iX8_tidy_117
theorem iX8_tidy_118 : mn_ins 107 118 = some (8, false, .iload 5, 2) := by decide +kernel
theorem eX8_tidy_118 : Ev 107 118 (a0 :: a1 :: a2 :: a3 :: a4 :: some (.int x) :: ls) (st) h r ↔ Ev 107 120 (a0 :: a1 :: a2 :: a3 :: a4 :: some (.int x) :: ls) (.int x :: st) h r := ev_iload iX8_tidy_118 rfl
theorem iX8_tidy_120 : mn_ins 107 120 = some (8, false, .ishr, 1) := by decide +kernel
theorem eX8_tidy_120 : Ev 107 120 (ls) (.int y :: .int x :: st) h r ↔ Ev 107 121 (ls) (.int (x >>> (y &&& 31)) :: st) h r := ev_ishr iX8_tidy_120
theorem iX8_tidy_121 : mn_ins 107 121 = some (8, false, .iconst 1, 1) := by decide +kernel
theorem eX8_tidy_121 : Ev 107 121 (ls) (st) h r ↔ Ev 107 122 (ls) (.int (nI 1) :: st) h r := ev_iconst iX8_tidy_121 (by decide)
theorem iX8_tidy_122 : mn_ins 107 122 = some (8, false, .iand, 1) := by decide +kernel
theorem eX8_tidy_122 : Ev 107 122 (ls) (.int y :: .int x :: st) h r ↔ Ev 107 123 (ls) (.int (x &&& y) :: st) h r := ev_iand iX8_tidy_122
theorem iX8_tidy_123 : mn_ins 107 123 = some (8, false, .iconst 1, 1) := by decide +kernel
theorem eX8_tidy_123 : Ev 107 123 (ls) (st) h r ↔ Ev 107 124 (ls) (.int (nI 1) :: st) h r := ev_iconst iX8_tidy_123 (by decide)
theorem iX8_tidy_124 : mn_ins 107 124 = some (8, false, .if_icmp .ne 36, 3) := by decide +kernel
theorem eX8_tidy_124 : Ev 107 124 (ls) (.int y :: .int x :: st) h r ↔ if x = y then Ev 107 127 (ls) (st) h r else Ev 107 160 (ls) (st) h r := ev_cmpne iX8_tidy_124 (by decide)
theorem iX8_tidy_127 : mn_ins 107 127 = some (8, false, .aload_n 0, 1) := by decide +kernel
theorem eX8_tidy_127 : Ev 107 127 (some (.ref a) :: ls) (st) h r ↔ Ev 107 128 (some (.ref a) :: ls) (.ref a :: st) h r := ev_aload_n iX8_tidy_127 rfl rfl
theorem iX8_tidy_128 : mn_ins 107 128 = some (8, false, .getfield 85, 3) := by decide +kernel
theorem eX8_tidy_128 : Ev 107 128 (ls) (.ref a :: st) h r ↔ Evk 107 131 ls (mn_gf h a 8 31) st h r := ev_getf iX8_tidy_128 (by decide +kernel)
theorem iX8_tidy_131 : mn_ins 107 131 = some (8, false, .iload_n 3, 1) := by decide +kernel
theorem eX8_tidy_131 : Ev 107 131 (a0 :: a1 :: a2 :: some (.int x) :: ls) (st) h r ↔ Ev 107 132 (a0 :: a1 :: a2 :: some (.int x) :: ls) (.int x :: st) h r := ev_iload_n iX8_tidy_131 rfl
theorem iX8_tidy_132 : mn_ins 107 132 = some (8, false, .iaload, 1) := by decide +kernel
theorem eX8_tidy_132 : Ev 107 132 (ls) (.int x :: .ref a :: st) h r ↔ Evk 107 133 ls (mn_al h a 0 x) st h r := ev_iald iX8_tidy_132
theorem iX8_tidy_133 : mn_ins 107 133 = some (8, false, .iload 5, 2) := by decide +kernel
theorem eX8_tidy_133 : Ev 107 133 (a0 :: a1 :: a2 :: a3 :: a4 :: some (.int x) :: ls) (st) h r ↔ Ev 107 135 (a0 :: a1 :: a2 :: a3 :: a4 :: some (.int x) :: ls) (.int x :: st) h r := ev_iload iX8_tidy_133 rfl
theorem iX8_tidy_135 : mn_ins 107 135 = some (8, false, .ishr, 1) := by decide +kernel
theorem eX8_tidy_135 : Ev 107 135 (ls) (.int y :: .int x :: st) h r ↔ Ev 107 136 (ls) (.int (x >>> (y &&& 31)) :: st) h r := ev_ishr iX8_tidy_135
theorem iX8_tidy_136 : mn_ins 107 136 = some (8, false, .iconst 1, 1) := by decide +kernel
theorem eX8_tidy_136 : Ev 107 136 (ls) (st) h r ↔ Ev 107 137 (ls) (.int (nI 1) :: st) h r := ev_iconst iX8_tidy_136 (by decide)
theorem iX8_tidy_137 : mn_ins 107 137 = some (8, false, .iand, 1) := by decide +kernel
theorem eX8_tidy_137 : Ev 107 137 (ls) (.int y :: .int x :: st) h r ↔ Ev 107 138 (ls) (.int (x &&& y) :: st) h r := ev_iand iX8_tidy_137
theorem iX8_tidy_138 : mn_ins 107 138 = some (8, false, .ifCond .ne 22, 3) := by decide +kernel
theorem eX8_tidy_138 : Ev 107 138 (ls) (.int x :: st) h r ↔ if x = nI 0 then Ev 107 141 (ls) (st) h r else Ev 107 160 (ls) (st) h r := ev_ifne iX8_tidy_138 (by decide)
theorem iX8_tidy_141 : mn_ins 107 141 = some (8, false, .aload_n 0, 1) := by decide +kernel
theorem eX8_tidy_141 : Ev 107 141 (some (.ref a) :: ls) (st) h r ↔ Ev 107 142 (some (.ref a) :: ls) (.ref a :: st) h r := ev_aload_n iX8_tidy_141 rfl rfl
theorem iX8_tidy_142 : mn_ins 107 142 = some (8, false, .iload_n 3, 1) := by decide +kernel
theorem eX8_tidy_142 : Ev 107 142 (a0 :: a1 :: a2 :: some (.int x) :: ls) (st) h r ↔ Ev 107 143 (a0 :: a1 :: a2 :: some (.int x) :: ls) (.int x :: st) h r := ev_iload_n iX8_tidy_142 rfl
theorem iX8_tidy_143 : mn_ins 107 143 = some (8, false, .iload 5, 2) := by decide +kernel
theorem eX8_tidy_143 : Ev 107 143 (a0 :: a1 :: a2 :: a3 :: a4 :: some (.int x) :: ls) (st) h r ↔ Ev 107 145 (a0 :: a1 :: a2 :: a3 :: a4 :: some (.int x) :: ls) (.int x :: st) h r := ev_iload iX8_tidy_143 rfl
theorem iX8_tidy_145 : mn_ins 107 145 = some (8, false, .aload_n 0, 1) := by decide +kernel
theorem eX8_tidy_145 : Ev 107 145 (some (.ref a) :: ls) (st) h r ↔ Ev 107 146 (some (.ref a) :: ls) (.ref a :: st) h r := ev_aload_n iX8_tidy_145 rfl rfl
theorem iX8_tidy_146 : mn_ins 107 146 = some (8, false, .getfield 88, 3) := by decide +kernel
theorem eX8_tidy_146 : Ev 107 146 (ls) (.ref a :: st) h r ↔ Evk 107 149 ls (mn_gf h a 8 32) st h r := ev_getf iX8_tidy_146 (by decide +kernel)
theorem iX8_tidy_149 : mn_ins 107 149 = some (8, false, .bipush 12, 2) := by decide +kernel
theorem eX8_tidy_149 : Ev 107 149 (ls) (st) h r ↔ Ev 107 151 (ls) (.int (nI 12) :: st) h r := ev_bipush iX8_tidy_149 (by decide)
theorem iX8_tidy_151 : mn_ins 107 151 = some (8, false, .iload_n 2, 1) := by decide +kernel
theorem eX8_tidy_151 : Ev 107 151 (a0 :: a1 :: some (.int x) :: ls) (st) h r ↔ Ev 107 152 (a0 :: a1 :: some (.int x) :: ls) (.int x :: st) h r := ev_iload_n iX8_tidy_151 rfl
theorem iX8_tidy_152 : mn_ins 107 152 = some (8, false, .imul, 1) := by decide +kernel
theorem eX8_tidy_152 : Ev 107 152 (ls) (.int y :: .int x :: st) h r ↔ Ev 107 153 (ls) (.int (x * y) :: st) h r := ev_imul iX8_tidy_152
theorem iX8_tidy_153 : mn_ins 107 153 = some (8, false, .iload 5, 2) := by decide +kernel
theorem eX8_tidy_153 : Ev 107 153 (a0 :: a1 :: a2 :: a3 :: a4 :: some (.int x) :: ls) (st) h r ↔ Ev 107 155 (a0 :: a1 :: a2 :: a3 :: a4 :: some (.int x) :: ls) (.int x :: st) h r := ev_iload iX8_tidy_153 rfl
theorem iX8_tidy_155 : mn_ins 107 155 = some (8, false, .iadd, 1) := by decide +kernel
theorem eX8_tidy_155 : Ev 107 155 (ls) (.int y :: .int x :: st) h r ↔ Ev 107 156 (ls) (.int (x + y) :: st) h r := ev_iadd iX8_tidy_155
theorem iX8_tidy_156 : mn_ins 107 156 = some (8, false, .laload, 1) := by decide +kernel
theorem eX8_tidy_156 : Ev 107 156 (ls) (.int x :: .ref a :: st) h r ↔ Evk 107 157 ls (mn_al h a 1 x) st h r := ev_lald iX8_tidy_156
theorem iX8_tidy_157 : mn_ins 107 157 = some (8, false, .invokevirtual 163, 3) := by decide +kernel
theorem eX8_tidy_157 : Ev 107 157 (ls) (.long u2 :: .int x1 :: .int x0 :: .ref b :: st) h r ↔ Evr true (decide (mn_cats st ≤ 8) && mn_isc h b 8) 107 157 ls st h.2.2.1 h.2.2.2 (Cl 105 (.ref b :: [.int x0, .int x1, .long u2]) h.1 h.2.1) r := Ev_V (As := [.int x0, .int x1, .long u2]) iX8_tidy_157 (by decide +kernel) (x := mnI_X8_tidy) (x2 := mnI_X8_writeAt) rfl rfl rfl (by decide +kernel) (Nat.le_of_ble_eq_true rfl) rfl
theorem iX8_tidy_160 : mn_ins 107 160 = some (8, false, .iinc 5 1, 3) := by decide +kernel
theorem eX8_tidy_160 : Ev 107 160 (a0 :: a1 :: a2 :: a3 :: a4 :: some (.int x) :: ls) (st) h r ↔ Ev 107 163 (a0 :: a1 :: a2 :: a3 :: mn_k a4 :: some (.int (x + (nI 1))) :: ls) (st) h r := ev_iinc iX8_tidy_160 rfl (by decide)
theorem iX8_tidy_163 : mn_ins 107 163 = some (8, false, .goto (-64), 3) := by decide +kernel
theorem eX8_tidy_163 : Ev 107 163 (ls) (st) h r ↔ Ev 107 99 (ls) (st) h r := ev_goto iX8_tidy_163 (by decide)
theorem iX8_tidy_166 : mn_ins 107 166 = some (8, false, .iload 4, 2) := by decide +kernel
theorem eX8_tidy_166 : Ev 107 166 (a0 :: a1 :: a2 :: a3 :: some (.int x) :: ls) (st) h r ↔ Ev 107 168 (a0 :: a1 :: a2 :: a3 :: some (.int x) :: ls) (.int x :: st) h r := ev_iload iX8_tidy_166 rfl
theorem iX8_tidy_168 : mn_ins 107 168 = some (8, false, .iconst 1, 1) := by decide +kernel
theorem eX8_tidy_168 : Ev 107 168 (ls) (st) h r ↔ Ev 107 169 (ls) (.int (nI 1) :: st) h r := ev_iconst iX8_tidy_168 (by decide)
theorem iX8_tidy_169 : mn_ins 107 169 = some (8, false, .if_icmp .ne 15, 3) := by decide +kernel
theorem eX8_tidy_169 : Ev 107 169 (ls) (.int y :: .int x :: st) h r ↔ if x = y then Ev 107 172 (ls) (st) h r else Ev 107 184 (ls) (st) h r := ev_cmpne iX8_tidy_169 (by decide)
theorem iX8_tidy_172 : mn_ins 107 172 = some (8, false, .aload_n 0, 1) := by decide +kernel
theorem eX8_tidy_172 : Ev 107 172 (some (.ref a) :: ls) (st) h r ↔ Ev 107 173 (some (.ref a) :: ls) (.ref a :: st) h r := ev_aload_n iX8_tidy_172 rfl rfl
theorem iX8_tidy_173 : mn_ins 107 173 = some (8, false, .getfield 82, 3) := by decide +kernel
theorem eX8_tidy_173 : Ev 107 173 (ls) (.ref a :: st) h r ↔ Evk 107 176 ls (mn_gf h a 8 30) st h r := ev_getf iX8_tidy_173 (by decide +kernel)
theorem iX8_tidy_176 : mn_ins 107 176 = some (8, false, .iload_n 3, 1) := by decide +kernel
theorem eX8_tidy_176 : Ev 107 176 (a0 :: a1 :: a2 :: some (.int x) :: ls) (st) h r ↔ Ev 107 177 (a0 :: a1 :: a2 :: some (.int x) :: ls) (.int x :: st) h r := ev_iload_n iX8_tidy_176 rfl
theorem iX8_tidy_177 : mn_ins 107 177 = some (8, false, .aload_n 0, 1) := by decide +kernel
theorem eX8_tidy_177 : Ev 107 177 (some (.ref a) :: ls) (st) h r ↔ Ev 107 178 (some (.ref a) :: ls) (.ref a :: st) h r := ev_aload_n iX8_tidy_177 rfl rfl
theorem iX8_tidy_178 : mn_ins 107 178 = some (8, false, .getfield 82, 3) := by decide +kernel
theorem eX8_tidy_178 : Ev 107 178 (ls) (.ref a :: st) h r ↔ Evk 107 181 ls (mn_gf h a 8 30) st h r := ev_getf iX8_tidy_178 (by decide +kernel)
theorem iX8_tidy_181 : mn_ins 107 181 = some (8, false, .iload_n 2, 1) := by decide +kernel
theorem eX8_tidy_181 : Ev 107 181 (a0 :: a1 :: some (.int x) :: ls) (st) h r ↔ Ev 107 182 (a0 :: a1 :: some (.int x) :: ls) (.int x :: st) h r := ev_iload_n iX8_tidy_181 rfl
theorem iX8_tidy_182 : mn_ins 107 182 = some (8, false, .iaload, 1) := by decide +kernel
theorem eX8_tidy_182 : Ev 107 182 (ls) (.int x :: .ref a :: st) h r ↔ Evk 107 183 ls (mn_al h a 0 x) st h r := ev_iald iX8_tidy_182
theorem iX8_tidy_183 : mn_ins 107 183 = some (8, false, .iastore, 1) := by decide +kernel
theorem eX8_tidy_183 : Ev 107 183 (ls) (.int y :: .int x :: .ref a :: st) h r ↔ Evh 107 184 ls st (mn_asi h a x y) r := ev_iast iX8_tidy_183
theorem iX8_tidy_184 : mn_ins 107 184 = some (8, false, .aload_n 0, 1) := by decide +kernel
theorem eX8_tidy_184 : Ev 107 184 (some (.ref a) :: ls) (st) h r ↔ Ev 107 185 (some (.ref a) :: ls) (.ref a :: st) h r := ev_aload_n iX8_tidy_184 rfl rfl
theorem iX8_tidy_185 : mn_ins 107 185 = some (8, false, .getfield 79, 3) := by decide +kernel
theorem eX8_tidy_185 : Ev 107 185 (ls) (.ref a :: st) h r ↔ Evk 107 188 ls (mn_gf h a 8 29) st h r := ev_getf iX8_tidy_185 (by decide +kernel)
theorem iX8_tidy_188 : mn_ins 107 188 = some (8, false, .iload_n 2, 1) := by decide +kernel
theorem eX8_tidy_188 : Ev 107 188 (a0 :: a1 :: some (.int x) :: ls) (st) h r ↔ Ev 107 189 (a0 :: a1 :: some (.int x) :: ls) (.int x :: st) h r := ev_iload_n iX8_tidy_188 rfl
theorem iX8_tidy_189 : mn_ins 107 189 = some (8, false, .iconst 0, 1) := by decide +kernel
theorem eX8_tidy_189 : Ev 107 189 (ls) (st) h r ↔ Ev 107 190 (ls) (.int (nI 0) :: st) h r := ev_iconst iX8_tidy_189 (by decide)
theorem iX8_tidy_190 : mn_ins 107 190 = some (8, false, .bastore, 1) := by decide +kernel
theorem eX8_tidy_190 : Ev 107 190 (ls) (.int y :: .int x :: .ref a :: st) h r ↔ Evh 107 191 ls st (mn_asz h a x y) r := ev_bast iX8_tidy_190
theorem iX8_tidy_191 : mn_ins 107 191 = some (8, false, .iconst 1, 1) := by decide +kernel
theorem eX8_tidy_191 : Ev 107 191 (ls) (st) h r ↔ Ev 107 192 (ls) (.int (nI 1) :: st) h r := ev_iconst iX8_tidy_191 (by decide)
theorem iX8_tidy_192 : mn_ins 107 192 = some (8, false, .istore_n 1, 1) := by decide +kernel
theorem eX8_tidy_192 : Ev 107 192 (a0 :: a1 :: ls) (.int x :: st) h r ↔ Ev 107 193 (mn_k a0 :: some (.int x) :: ls) (st) h r := ev_istore_n iX8_tidy_192 (by show 1 < _; simp only [List.length_cons]; omega)
theorem iX8_tidy_193 : mn_ins 107 193 = some (8, false, .iinc 2 1, 3) := by decide +kernel
theorem eX8_tidy_193 : Ev 107 193 (a0 :: a1 :: some (.int x) :: ls) (st) h r ↔ Ev 107 196 (a0 :: mn_k a1 :: some (.int (x + (nI 1))) :: ls) (st) h r := ev_iinc iX8_tidy_193 rfl (by decide)
theorem iX8_tidy_196 : mn_ins 107 196 = some (8, false, .goto (-186), 3) := by decide +kernel
theorem eX8_tidy_196 : Ev 107 196 (ls) (st) h r ↔ Ev 107 10 (ls) (st) h r := ev_goto iX8_tidy_196 (by decide)
theorem iX8_tidy_199 : mn_ins 107 199 = some (8, false, .goto (-197), 3) := by decide +kernel
theorem eX8_tidy_199 : Ev 107 199 (ls) (st) h r ↔ Ev 107 2 (ls) (st) h r := ev_goto iX8_tidy_199 (by decide)
theorem iX8_tidy_202 : mn_ins 107 202 = some (8, false, .return_, 1) := by decide +kernel
theorem eX8_tidy_202 : Ev 107 202 (ls) [] h r ↔ r = (h, .inl none) := ev_vret iX8_tidy_202 (X := mnI_X8_tidy) rfl rfl
theorem iX8_beginTask_0 : mn_ins 108 0 = some (8, false, .aload_n 0, 1) := by decide +kernel
theorem eX8_beginTask_0 : Ev 108 0 (some (.ref a) :: ls) (st) h r ↔ Ev 108 1 (some (.ref a) :: ls) (.ref a :: st) h r := ev_aload_n iX8_beginTask_0 rfl rfl
theorem iX8_beginTask_1 : mn_ins 108 1 = some (8, false, .getfield 144, 3) := by decide +kernel
theorem eX8_beginTask_1 : Ev 108 1 (ls) (.ref a :: st) h r ↔ Evk 108 4 ls (mn_gf h a 8 11) st h r := ev_getf iX8_beginTask_1 (by decide +kernel)
theorem iX8_beginTask_4 : mn_ins 108 4 = some (8, false, .istore 7, 2) := by decide +kernel
theorem eX8_beginTask_4 : Ev 108 4 (a0 :: a1 :: a2 :: a3 :: a4 :: a5 :: a6 :: a7 :: ls) (.int x :: st) h r ↔ Ev 108 6 (a0 :: a1 :: a2 :: a3 :: a4 :: a5 :: mn_k a6 :: some (.int x) :: ls) (st) h r := ev_istore iX8_beginTask_4 (by show 7 < _; simp only [List.length_cons]; omega)
theorem iX8_beginTask_6 : mn_ins 108 6 = some (8, false, .aload_n 0, 1) := by decide +kernel
theorem eX8_beginTask_6 : Ev 108 6 (some (.ref a) :: ls) (st) h r ↔ Ev 108 7 (some (.ref a) :: ls) (.ref a :: st) h r := ev_aload_n iX8_beginTask_6 rfl rfl
theorem iX8_beginTask_7 : mn_ins 108 7 = some (8, false, .dup, 1) := by decide +kernel
theorem eX8_beginTask_7 : Ev 108 7 (ls) (.ref a :: st) h r ↔ Ev 108 8 (ls) (.ref a :: .ref a :: st) h r := ev_dup iX8_beginTask_7 rfl
theorem iX8_beginTask_8 : mn_ins 108 8 = some (8, false, .getfield 144, 3) := by decide +kernel
theorem eX8_beginTask_8 : Ev 108 8 (ls) (.ref a :: st) h r ↔ Evk 108 11 ls (mn_gf h a 8 11) st h r := ev_getf iX8_beginTask_8 (by decide +kernel)
theorem iX8_beginTask_11 : mn_ins 108 11 = some (8, false, .iconst 1, 1) := by decide +kernel
theorem eX8_beginTask_11 : Ev 108 11 (ls) (st) h r ↔ Ev 108 12 (ls) (.int (nI 1) :: st) h r := ev_iconst iX8_beginTask_11 (by decide)
theorem iX8_beginTask_12 : mn_ins 108 12 = some (8, false, .iadd, 1) := by decide +kernel
theorem eX8_beginTask_12 : Ev 108 12 (ls) (.int y :: .int x :: st) h r ↔ Ev 108 13 (ls) (.int (x + y) :: st) h r := ev_iadd iX8_beginTask_12
theorem iX8_beginTask_13 : mn_ins 108 13 = some (8, false, .putfield 144, 3) := by decide +kernel
theorem eX8_beginTask_13 : Ev 108 13 (ls) (w :: .ref a :: st) h r ↔ Evh 108 16 ls st (mn_pf h a 8 11 w) r := ev_putf iX8_beginTask_13 (by decide +kernel) (by decide +kernel)
theorem iX8_beginTask_16 : mn_ins 108 16 = some (8, false, .aload_n 0, 1) := by decide +kernel
theorem eX8_beginTask_16 : Ev 108 16 (some (.ref a) :: ls) (st) h r ↔ Ev 108 17 (some (.ref a) :: ls) (.ref a :: st) h r := ev_aload_n iX8_beginTask_16 rfl rfl
theorem iX8_beginTask_17 : mn_ins 108 17 = some (8, false, .getfield 33, 3) := by decide +kernel
theorem eX8_beginTask_17 : Ev 108 17 (ls) (.ref a :: st) h r ↔ Evk 108 20 ls (mn_gf h a 8 14) st h r := ev_getf iX8_beginTask_17 (by decide +kernel)
theorem iX8_beginTask_20 : mn_ins 108 20 = some (8, false, .iload 7, 2) := by decide +kernel
theorem eX8_beginTask_20 : Ev 108 20 (a0 :: a1 :: a2 :: a3 :: a4 :: a5 :: a6 :: some (.int x) :: ls) (st) h r ↔ Ev 108 22 (a0 :: a1 :: a2 :: a3 :: a4 :: a5 :: a6 :: some (.int x) :: ls) (.int x :: st) h r := ev_iload iX8_beginTask_20 rfl
theorem iX8_beginTask_22 : mn_ins 108 22 = some (8, false, .iload_n 1, 1) := by decide +kernel
theorem eX8_beginTask_22 : Ev 108 22 (a0 :: some (.int x) :: ls) (st) h r ↔ Ev 108 23 (a0 :: some (.int x) :: ls) (.int x :: st) h r := ev_iload_n iX8_beginTask_22 rfl
theorem iX8_beginTask_23 : mn_ins 108 23 = some (8, false, .iastore, 1) := by decide +kernel
theorem eX8_beginTask_23 : Ev 108 23 (ls) (.int y :: .int x :: .ref a :: st) h r ↔ Evh 108 24 ls st (mn_asi h a x y) r := ev_iast iX8_beginTask_23
theorem iX8_beginTask_24 : mn_ins 108 24 = some (8, false, .aload_n 0, 1) := by decide +kernel
theorem eX8_beginTask_24 : Ev 108 24 (some (.ref a) :: ls) (st) h r ↔ Ev 108 25 (some (.ref a) :: ls) (.ref a :: st) h r := ev_aload_n iX8_beginTask_24 rfl rfl
theorem iX8_beginTask_25 : mn_ins 108 25 = some (8, false, .getfield 36, 3) := by decide +kernel
theorem eX8_beginTask_25 : Ev 108 25 (ls) (.ref a :: st) h r ↔ Evk 108 28 ls (mn_gf h a 8 15) st h r := ev_getf iX8_beginTask_25 (by decide +kernel)
theorem iX8_beginTask_28 : mn_ins 108 28 = some (8, false, .iload 7, 2) := by decide +kernel
theorem eX8_beginTask_28 : Ev 108 28 (a0 :: a1 :: a2 :: a3 :: a4 :: a5 :: a6 :: some (.int x) :: ls) (st) h r ↔ Ev 108 30 (a0 :: a1 :: a2 :: a3 :: a4 :: a5 :: a6 :: some (.int x) :: ls) (.int x :: st) h r := ev_iload iX8_beginTask_28 rfl
theorem iX8_beginTask_30 : mn_ins 108 30 = some (8, false, .iconst 0, 1) := by decide +kernel
theorem eX8_beginTask_30 : Ev 108 30 (ls) (st) h r ↔ Ev 108 31 (ls) (.int (nI 0) :: st) h r := ev_iconst iX8_beginTask_30 (by decide)
theorem iX8_beginTask_31 : mn_ins 108 31 = some (8, false, .iastore, 1) := by decide +kernel
theorem eX8_beginTask_31 : Ev 108 31 (ls) (.int y :: .int x :: .ref a :: st) h r ↔ Evh 108 32 ls st (mn_asi h a x y) r := ev_iast iX8_beginTask_31
theorem iX8_beginTask_32 : mn_ins 108 32 = some (8, false, .aload_n 0, 1) := by decide +kernel
theorem eX8_beginTask_32 : Ev 108 32 (some (.ref a) :: ls) (st) h r ↔ Ev 108 33 (some (.ref a) :: ls) (.ref a :: st) h r := ev_aload_n iX8_beginTask_32 rfl rfl
theorem iX8_beginTask_33 : mn_ins 108 33 = some (8, false, .getfield 39, 3) := by decide +kernel
theorem eX8_beginTask_33 : Ev 108 33 (ls) (.ref a :: st) h r ↔ Evk 108 36 ls (mn_gf h a 8 16) st h r := ev_getf iX8_beginTask_33 (by decide +kernel)
theorem iX8_beginTask_36 : mn_ins 108 36 = some (8, false, .iload 7, 2) := by decide +kernel
theorem eX8_beginTask_36 : Ev 108 36 (a0 :: a1 :: a2 :: a3 :: a4 :: a5 :: a6 :: some (.int x) :: ls) (st) h r ↔ Ev 108 38 (a0 :: a1 :: a2 :: a3 :: a4 :: a5 :: a6 :: some (.int x) :: ls) (.int x :: st) h r := ev_iload iX8_beginTask_36 rfl
theorem iX8_beginTask_38 : mn_ins 108 38 = some (8, false, .iconst 0, 1) := by decide +kernel
theorem eX8_beginTask_38 : Ev 108 38 (ls) (st) h r ↔ Ev 108 39 (ls) (.int (nI 0) :: st) h r := ev_iconst iX8_beginTask_38 (by decide)
theorem iX8_beginTask_39 : mn_ins 108 39 = some (8, false, .iastore, 1) := by decide +kernel
theorem eX8_beginTask_39 : Ev 108 39 (ls) (.int y :: .int x :: .ref a :: st) h r ↔ Evh 108 40 ls st (mn_asi h a x y) r := ev_iast iX8_beginTask_39
theorem iX8_beginTask_40 : mn_ins 108 40 = some (8, false, .aload_n 0, 1) := by decide +kernel
theorem eX8_beginTask_40 : Ev 108 40 (some (.ref a) :: ls) (st) h r ↔ Ev 108 41 (some (.ref a) :: ls) (.ref a :: st) h r := ev_aload_n iX8_beginTask_40 rfl rfl
theorem iX8_beginTask_41 : mn_ins 108 41 = some (8, false, .getfield 42, 3) := by decide +kernel
theorem eX8_beginTask_41 : Ev 108 41 (ls) (.ref a :: st) h r ↔ Evk 108 44 ls (mn_gf h a 8 17) st h r := ev_getf iX8_beginTask_41 (by decide +kernel)
theorem iX8_beginTask_44 : mn_ins 108 44 = some (8, false, .iload 7, 2) := by decide +kernel
theorem eX8_beginTask_44 : Ev 108 44 (a0 :: a1 :: a2 :: a3 :: a4 :: a5 :: a6 :: some (.int x) :: ls) (st) h r ↔ Ev 108 46 (a0 :: a1 :: a2 :: a3 :: a4 :: a5 :: a6 :: some (.int x) :: ls) (.int x :: st) h r := ev_iload iX8_beginTask_44 rfl
theorem iX8_beginTask_46 : mn_ins 108 46 = some (8, false, .iconst 0, 1) := by decide +kernel
theorem eX8_beginTask_46 : Ev 108 46 (ls) (st) h r ↔ Ev 108 47 (ls) (.int (nI 0) :: st) h r := ev_iconst iX8_beginTask_46 (by decide)
theorem iX8_beginTask_47 : mn_ins 108 47 = some (8, false, .iastore, 1) := by decide +kernel
theorem eX8_beginTask_47 : Ev 108 47 (ls) (.int y :: .int x :: .ref a :: st) h r ↔ Evh 108 48 ls st (mn_asi h a x y) r := ev_iast iX8_beginTask_47
theorem iX8_beginTask_48 : mn_ins 108 48 = some (8, false, .aload_n 0, 1) := by decide +kernel
theorem eX8_beginTask_48 : Ev 108 48 (some (.ref a) :: ls) (st) h r ↔ Ev 108 49 (some (.ref a) :: ls) (.ref a :: st) h r := ev_aload_n iX8_beginTask_48 rfl rfl
theorem iX8_beginTask_49 : mn_ins 108 49 = some (8, false, .getfield 45, 3) := by decide +kernel
theorem eX8_beginTask_49 : Ev 108 49 (ls) (.ref a :: st) h r ↔ Evk 108 52 ls (mn_gf h a 8 18) st h r := ev_getf iX8_beginTask_49 (by decide +kernel)
theorem iX8_beginTask_52 : mn_ins 108 52 = some (8, false, .iload 7, 2) := by decide +kernel
theorem eX8_beginTask_52 : Ev 108 52 (a0 :: a1 :: a2 :: a3 :: a4 :: a5 :: a6 :: some (.int x) :: ls) (st) h r ↔ Ev 108 54 (a0 :: a1 :: a2 :: a3 :: a4 :: a5 :: a6 :: some (.int x) :: ls) (.int x :: st) h r := ev_iload iX8_beginTask_52 rfl
theorem iX8_beginTask_54 : mn_ins 108 54 = some (8, false, .iload_n 2, 1) := by decide +kernel
theorem eX8_beginTask_54 : Ev 108 54 (a0 :: a1 :: some (.int x) :: ls) (st) h r ↔ Ev 108 55 (a0 :: a1 :: some (.int x) :: ls) (.int x :: st) h r := ev_iload_n iX8_beginTask_54 rfl
theorem iX8_beginTask_55 : mn_ins 108 55 = some (8, false, .iastore, 1) := by decide +kernel
theorem eX8_beginTask_55 : Ev 108 55 (ls) (.int y :: .int x :: .ref a :: st) h r ↔ Evh 108 56 ls st (mn_asi h a x y) r := ev_iast iX8_beginTask_55
theorem iX8_beginTask_56 : mn_ins 108 56 = some (8, false, .aload_n 0, 1) := by decide +kernel
theorem eX8_beginTask_56 : Ev 108 56 (some (.ref a) :: ls) (st) h r ↔ Ev 108 57 (some (.ref a) :: ls) (.ref a :: st) h r := ev_aload_n iX8_beginTask_56 rfl rfl
theorem iX8_beginTask_57 : mn_ins 108 57 = some (8, false, .getfield 48, 3) := by decide +kernel
theorem eX8_beginTask_57 : Ev 108 57 (ls) (.ref a :: st) h r ↔ Evk 108 60 ls (mn_gf h a 8 19) st h r := ev_getf iX8_beginTask_57 (by decide +kernel)
theorem iX8_beginTask_60 : mn_ins 108 60 = some (8, false, .iload 7, 2) := by decide +kernel
theorem eX8_beginTask_60 : Ev 108 60 (a0 :: a1 :: a2 :: a3 :: a4 :: a5 :: a6 :: some (.int x) :: ls) (st) h r ↔ Ev 108 62 (a0 :: a1 :: a2 :: a3 :: a4 :: a5 :: a6 :: some (.int x) :: ls) (.int x :: st) h r := ev_iload iX8_beginTask_60 rfl
theorem iX8_beginTask_62 : mn_ins 108 62 = some (8, false, .iconst (-1), 1) := by decide +kernel
theorem eX8_beginTask_62 : Ev 108 62 (ls) (st) h r ↔ Ev 108 63 (ls) (.int (-1) :: st) h r := ev_iconst iX8_beginTask_62 (by decide)
theorem iX8_beginTask_63 : mn_ins 108 63 = some (8, false, .iastore, 1) := by decide +kernel
theorem eX8_beginTask_63 : Ev 108 63 (ls) (.int y :: .int x :: .ref a :: st) h r ↔ Evh 108 64 ls st (mn_asi h a x y) r := ev_iast iX8_beginTask_63
theorem iX8_beginTask_64 : mn_ins 108 64 = some (8, false, .aload_n 0, 1) := by decide +kernel
theorem eX8_beginTask_64 : Ev 108 64 (some (.ref a) :: ls) (st) h r ↔ Ev 108 65 (some (.ref a) :: ls) (.ref a :: st) h r := ev_aload_n iX8_beginTask_64 rfl rfl
theorem iX8_beginTask_65 : mn_ins 108 65 = some (8, false, .getfield 51, 3) := by decide +kernel
theorem eX8_beginTask_65 : Ev 108 65 (ls) (.ref a :: st) h r ↔ Evk 108 68 ls (mn_gf h a 8 20) st h r := ev_getf iX8_beginTask_65 (by decide +kernel)
theorem iX8_beginTask_68 : mn_ins 108 68 = some (8, false, .iload 7, 2) := by decide +kernel
theorem eX8_beginTask_68 : Ev 108 68 (a0 :: a1 :: a2 :: a3 :: a4 :: a5 :: a6 :: some (.int x) :: ls) (st) h r ↔ Ev 108 70 (a0 :: a1 :: a2 :: a3 :: a4 :: a5 :: a6 :: some (.int x) :: ls) (.int x :: st) h r := ev_iload iX8_beginTask_68 rfl
theorem iX8_beginTask_70 : mn_ins 108 70 = some (8, false, .iconst 0, 1) := by decide +kernel
theorem eX8_beginTask_70 : Ev 108 70 (ls) (st) h r ↔ Ev 108 71 (ls) (.int (nI 0) :: st) h r := ev_iconst iX8_beginTask_70 (by decide)
theorem iX8_beginTask_71 : mn_ins 108 71 = some (8, false, .iastore, 1) := by decide +kernel
theorem eX8_beginTask_71 : Ev 108 71 (ls) (.int y :: .int x :: .ref a :: st) h r ↔ Evh 108 72 ls st (mn_asi h a x y) r := ev_iast iX8_beginTask_71
theorem iX8_beginTask_72 : mn_ins 108 72 = some (8, false, .aload_n 0, 1) := by decide +kernel
theorem eX8_beginTask_72 : Ev 108 72 (some (.ref a) :: ls) (st) h r ↔ Ev 108 73 (some (.ref a) :: ls) (.ref a :: st) h r := ev_aload_n iX8_beginTask_72 rfl rfl
theorem iX8_beginTask_73 : mn_ins 108 73 = some (8, false, .getfield 54, 3) := by decide +kernel
theorem eX8_beginTask_73 : Ev 108 73 (ls) (.ref a :: st) h r ↔ Evk 108 76 ls (mn_gf h a 8 21) st h r := ev_getf iX8_beginTask_73 (by decide +kernel)
theorem iX8_beginTask_76 : mn_ins 108 76 = some (8, false, .iload 7, 2) := by decide +kernel
theorem eX8_beginTask_76 : Ev 108 76 (a0 :: a1 :: a2 :: a3 :: a4 :: a5 :: a6 :: some (.int x) :: ls) (st) h r ↔ Ev 108 78 (a0 :: a1 :: a2 :: a3 :: a4 :: a5 :: a6 :: some (.int x) :: ls) (.int x :: st) h r := ev_iload iX8_beginTask_76 rfl
theorem iX8_beginTask_78 : mn_ins 108 78 = some (8, false, .iconst 0, 1) := by decide +kernel
theorem eX8_beginTask_78 : Ev 108 78 (ls) (st) h r ↔ Ev 108 79 (ls) (.int (nI 0) :: st) h r := ev_iconst iX8_beginTask_78 (by decide)
theorem iX8_beginTask_79 : mn_ins 108 79 = some (8, false, .iastore, 1) := by decide +kernel
theorem eX8_beginTask_79 : Ev 108 79 (ls) (.int y :: .int x :: .ref a :: st) h r ↔ Evh 108 80 ls st (mn_asi h a x y) r := ev_iast iX8_beginTask_79
theorem iX8_beginTask_80 : mn_ins 108 80 = some (8, false, .aload_n 0, 1) := by decide +kernel
theorem eX8_beginTask_80 : Ev 108 80 (some (.ref a) :: ls) (st) h r ↔ Ev 108 81 (some (.ref a) :: ls) (.ref a :: st) h r := ev_aload_n iX8_beginTask_80 rfl rfl
theorem iX8_beginTask_81 : mn_ins 108 81 = some (8, false, .getfield 64, 3) := by decide +kernel
theorem eX8_beginTask_81 : Ev 108 81 (ls) (.ref a :: st) h r ↔ Evk 108 84 ls (mn_gf h a 8 24) st h r := ev_getf iX8_beginTask_81 (by decide +kernel)
theorem iX8_beginTask_84 : mn_ins 108 84 = some (8, false, .iload 7, 2) := by decide +kernel
theorem eX8_beginTask_84 : Ev 108 84 (a0 :: a1 :: a2 :: a3 :: a4 :: a5 :: a6 :: some (.int x) :: ls) (st) h r ↔ Ev 108 86 (a0 :: a1 :: a2 :: a3 :: a4 :: a5 :: a6 :: some (.int x) :: ls) (.int x :: st) h r := ev_iload iX8_beginTask_84 rfl
theorem iX8_beginTask_86 : mn_ins 108 86 = some (8, false, .iconst 0, 1) := by decide +kernel
theorem eX8_beginTask_86 : Ev 108 86 (ls) (st) h r ↔ Ev 108 87 (ls) (.int (nI 0) :: st) h r := ev_iconst iX8_beginTask_86 (by decide)
theorem iX8_beginTask_87 : mn_ins 108 87 = some (8, false, .iastore, 1) := by decide +kernel
theorem eX8_beginTask_87 : Ev 108 87 (ls) (.int y :: .int x :: .ref a :: st) h r ↔ Evh 108 88 ls st (mn_asi h a x y) r := ev_iast iX8_beginTask_87
theorem iX8_beginTask_88 : mn_ins 108 88 = some (8, false, .aload_n 0, 1) := by decide +kernel
theorem eX8_beginTask_88 : Ev 108 88 (some (.ref a) :: ls) (st) h r ↔ Ev 108 89 (some (.ref a) :: ls) (.ref a :: st) h r := ev_aload_n iX8_beginTask_88 rfl rfl
theorem iX8_beginTask_89 : mn_ins 108 89 = some (8, false, .getfield 70, 3) := by decide +kernel
theorem eX8_beginTask_89 : Ev 108 89 (ls) (.ref a :: st) h r ↔ Evk 108 92 ls (mn_gf h a 8 26) st h r := ev_getf iX8_beginTask_89 (by decide +kernel)
theorem iX8_beginTask_92 : mn_ins 108 92 = some (8, false, .iload 7, 2) := by decide +kernel
theorem eX8_beginTask_92 : Ev 108 92 (a0 :: a1 :: a2 :: a3 :: a4 :: a5 :: a6 :: some (.int x) :: ls) (st) h r ↔ Ev 108 94 (a0 :: a1 :: a2 :: a3 :: a4 :: a5 :: a6 :: some (.int x) :: ls) (.int x :: st) h r := ev_iload iX8_beginTask_92 rfl
theorem iX8_beginTask_94 : mn_ins 108 94 = some (8, false, .lconst 0, 1) := by decide +kernel
theorem eX8_beginTask_94 : Ev 108 94 (ls) (st) h r ↔ Ev 108 95 (ls) (.long 0 :: st) h r := ev_lconst iX8_beginTask_94 (by decide)
theorem iX8_beginTask_95 : mn_ins 108 95 = some (8, false, .lastore, 1) := by decide +kernel
theorem eX8_beginTask_95 : Ev 108 95 (ls) (.long u :: .int x :: .ref a :: st) h r ↔ Evh 108 96 ls st (mn_asl h a x u) r := ev_last iX8_beginTask_95
theorem iX8_beginTask_96 : mn_ins 108 96 = some (8, false, .aload_n 0, 1) := by decide +kernel
theorem eX8_beginTask_96 : Ev 108 96 (some (.ref a) :: ls) (st) h r ↔ Ev 108 97 (some (.ref a) :: ls) (.ref a :: st) h r := ev_aload_n iX8_beginTask_96 rfl rfl
theorem iX8_beginTask_97 : mn_ins 108 97 = some (8, false, .getfield 73, 3) := by decide +kernel
theorem eX8_beginTask_97 : Ev 108 97 (ls) (.ref a :: st) h r ↔ Evk 108 100 ls (mn_gf h a 8 27) st h r := ev_getf iX8_beginTask_97 (by decide +kernel)
theorem iX8_beginTask_100 : mn_ins 108 100 = some (8, false, .iload 7, 2) := by decide +kernel
theorem eX8_beginTask_100 : Ev 108 100 (a0 :: a1 :: a2 :: a3 :: a4 :: a5 :: a6 :: some (.int x) :: ls) (st) h r ↔ Ev 108 102 (a0 :: a1 :: a2 :: a3 :: a4 :: a5 :: a6 :: some (.int x) :: ls) (.int x :: st) h r := ev_iload iX8_beginTask_100 rfl
theorem iX8_beginTask_102 : mn_ins 108 102 = some (8, false, .iload 5, 2) := by decide +kernel
theorem eX8_beginTask_102 : Ev 108 102 (a0 :: a1 :: a2 :: a3 :: a4 :: some (.int x) :: ls) (st) h r ↔ Ev 108 104 (a0 :: a1 :: a2 :: a3 :: a4 :: some (.int x) :: ls) (.int x :: st) h r := ev_iload iX8_beginTask_102 rfl
theorem iX8_beginTask_104 : mn_ins 108 104 = some (8, false, .iastore, 1) := by decide +kernel
theorem eX8_beginTask_104 : Ev 108 104 (ls) (.int y :: .int x :: .ref a :: st) h r ↔ Evh 108 105 ls st (mn_asi h a x y) r := ev_iast iX8_beginTask_104
theorem iX8_beginTask_105 : mn_ins 108 105 = some (8, false, .aload_n 0, 1) := by decide +kernel
theorem eX8_beginTask_105 : Ev 108 105 (some (.ref a) :: ls) (st) h r ↔ Ev 108 106 (some (.ref a) :: ls) (.ref a :: st) h r := ev_aload_n iX8_beginTask_105 rfl rfl
theorem iX8_beginTask_106 : mn_ins 108 106 = some (8, false, .getfield 76, 3) := by decide +kernel
theorem eX8_beginTask_106 : Ev 108 106 (ls) (.ref a :: st) h r ↔ Evk 108 109 ls (mn_gf h a 8 28) st h r := ev_getf iX8_beginTask_106 (by decide +kernel)
theorem iX8_beginTask_109 : mn_ins 108 109 = some (8, false, .iload 7, 2) := by decide +kernel
theorem eX8_beginTask_109 : Ev 108 109 (a0 :: a1 :: a2 :: a3 :: a4 :: a5 :: a6 :: some (.int x) :: ls) (st) h r ↔ Ev 108 111 (a0 :: a1 :: a2 :: a3 :: a4 :: a5 :: a6 :: some (.int x) :: ls) (.int x :: st) h r := ev_iload iX8_beginTask_109 rfl
theorem iX8_beginTask_111 : mn_ins 108 111 = some (8, false, .iload 6, 2) := by decide +kernel
theorem eX8_beginTask_111 : Ev 108 111 (a0 :: a1 :: a2 :: a3 :: a4 :: a5 :: some (.int x) :: ls) (st) h r ↔ Ev 108 113 (a0 :: a1 :: a2 :: a3 :: a4 :: a5 :: some (.int x) :: ls) (.int x :: st) h r := ev_iload iX8_beginTask_111 rfl
theorem iX8_beginTask_113 : mn_ins 108 113 = some (8, false, .iastore, 1) := by decide +kernel
theorem eX8_beginTask_113 : Ev 108 113 (ls) (.int y :: .int x :: .ref a :: st) h r ↔ Evh 108 114 ls st (mn_asi h a x y) r := ev_iast iX8_beginTask_113
theorem iX8_beginTask_114 : mn_ins 108 114 = some (8, false, .iconst 0, 1) := by decide +kernel
theorem eX8_beginTask_114 : Ev 108 114 (ls) (st) h r ↔ Ev 108 115 (ls) (.int (nI 0) :: st) h r := ev_iconst iX8_beginTask_114 (by decide)
theorem iX8_beginTask_115 : mn_ins 108 115 = some (8, false, .istore 8, 2) := by decide +kernel
theorem eX8_beginTask_115 : Ev 108 115 (a0 :: a1 :: a2 :: a3 :: a4 :: a5 :: a6 :: a7 :: a8 :: ls) (.int x :: st) h r ↔ Ev 108 117 (a0 :: a1 :: a2 :: a3 :: a4 :: a5 :: a6 :: mn_k a7 :: some (.int x) :: ls) (st) h r := ev_istore iX8_beginTask_115 (by show 8 < _; simp only [List.length_cons]; omega)
theorem iX8_beginTask_117 : mn_ins 108 117 = some (8, false, .iload 8, 2) := by decide +kernel
theorem eX8_beginTask_117 : Ev 108 117 (a0 :: a1 :: a2 :: a3 :: a4 :: a5 :: a6 :: a7 :: some (.int x) :: ls) (st) h r ↔ Ev 108 119 (a0 :: a1 :: a2 :: a3 :: a4 :: a5 :: a6 :: a7 :: some (.int x) :: ls) (.int x :: st) h r := ev_iload iX8_beginTask_117 rfl
theorem iX8_beginTask_119 : mn_ins 108 119 = some (8, false, .iconst 4, 1) := by decide +kernel
theorem eX8_beginTask_119 : Ev 108 119 (ls) (st) h r ↔ Ev 108 120 (ls) (.int (nI 4) :: st) h r := ev_iconst iX8_beginTask_119 (by decide)
theorem iX8_beginTask_120 : mn_ins 108 120 = some (8, false, .if_icmp .ge 31, 3) := by decide +kernel
theorem eX8_beginTask_120 : Ev 108 120 (ls) (.int y :: .int x :: st) h r ↔ if y ≤ x then Ev 108 151 (ls) (st) h r else Ev 108 123 (ls) (st) h r := ev_cmpge iX8_beginTask_120 (by decide)
theorem iX8_beginTask_123 : mn_ins 108 123 = some (8, false, .aload_n 0, 1) := by decide +kernel
theorem eX8_beginTask_123 : Ev 108 123 (some (.ref a) :: ls) (st) h r ↔ Ev 108 124 (some (.ref a) :: ls) (.ref a :: st) h r := ev_aload_n iX8_beginTask_123 rfl rfl
theorem iX8_beginTask_124 : mn_ins 108 124 = some (8, false, .getfield 61, 3) := by decide +kernel
theorem eX8_beginTask_124 : Ev 108 124 (ls) (.ref a :: st) h r ↔ Evk 108 127 ls (mn_gf h a 8 23) st h r := ev_getf iX8_beginTask_124 (by decide +kernel)
theorem iX8_beginTask_127 : mn_ins 108 127 = some (8, false, .iconst 4, 1) := by decide +kernel
theorem eX8_beginTask_127 : Ev 108 127 (ls) (st) h r ↔ Ev 108 128 (ls) (.int (nI 4) :: st) h r := ev_iconst iX8_beginTask_127 (by decide)
theorem iX8_beginTask_128 : mn_ins 108 128 = some (8, false, .iload 7, 2) := by decide +kernel
theorem eX8_beginTask_128 : Ev 108 128 (a0 :: a1 :: a2 :: a3 :: a4 :: a5 :: a6 :: some (.int x) :: ls) (st) h r ↔ Ev 108 130 (a0 :: a1 :: a2 :: a3 :: a4 :: a5 :: a6 :: some (.int x) :: ls) (.int x :: st) h r := ev_iload iX8_beginTask_128 rfl
theorem iX8_beginTask_130 : mn_ins 108 130 = some (8, false, .imul, 1) := by decide +kernel
theorem eX8_beginTask_130 : Ev 108 130 (ls) (.int y :: .int x :: st) h r ↔ Ev 108 131 (ls) (.int (x * y) :: st) h r := ev_imul iX8_beginTask_130
theorem iX8_beginTask_131 : mn_ins 108 131 = some (8, false, .iload 8, 2) := by decide +kernel
theorem eX8_beginTask_131 : Ev 108 131 (a0 :: a1 :: a2 :: a3 :: a4 :: a5 :: a6 :: a7 :: some (.int x) :: ls) (st) h r ↔ Ev 108 133 (a0 :: a1 :: a2 :: a3 :: a4 :: a5 :: a6 :: a7 :: some (.int x) :: ls) (.int x :: st) h r := ev_iload iX8_beginTask_131 rfl
theorem iX8_beginTask_133 : mn_ins 108 133 = some (8, false, .iadd, 1) := by decide +kernel
theorem eX8_beginTask_133 : Ev 108 133 (ls) (.int y :: .int x :: st) h r ↔ Ev 108 134 (ls) (.int (x + y) :: st) h r := ev_iadd iX8_beginTask_133
theorem iX8_beginTask_134 : mn_ins 108 134 = some (8, false, .iload 8, 2) := by decide +kernel
theorem eX8_beginTask_134 : Ev 108 134 (a0 :: a1 :: a2 :: a3 :: a4 :: a5 :: a6 :: a7 :: some (.int x) :: ls) (st) h r ↔ Ev 108 136 (a0 :: a1 :: a2 :: a3 :: a4 :: a5 :: a6 :: a7 :: some (.int x) :: ls) (.int x :: st) h r := ev_iload iX8_beginTask_134 rfl
theorem iX8_beginTask_136 : mn_ins 108 136 = some (8, false, .ifCond .ne 7, 3) := by decide +kernel
theorem eX8_beginTask_136 : Ev 108 136 (ls) (.int x :: st) h r ↔ if x = nI 0 then Ev 108 139 (ls) (st) h r else Ev 108 143 (ls) (st) h r := ev_ifne iX8_beginTask_136 (by decide)
theorem iX8_beginTask_139 : mn_ins 108 139 = some (8, false, .lload_n 3, 1) := by decide +kernel
theorem eX8_beginTask_139 : Ev 108 139 (a0 :: a1 :: a2 :: some (.long u) :: ls) (st) h r ↔ Ev 108 140 (a0 :: a1 :: a2 :: some (.long u) :: ls) (.long u :: st) h r := ev_lload_n iX8_beginTask_139 rfl
theorem iX8_beginTask_140 : mn_ins 108 140 = some (8, false, .goto 4, 3) := by decide +kernel
theorem eX8_beginTask_140 : Ev 108 140 (ls) (st) h r ↔ Ev 108 144 (ls) (st) h r := ev_goto iX8_beginTask_140 (by decide)
theorem iX8_beginTask_143 : mn_ins 108 143 = some (8, false, .lconst 0, 1) := by decide +kernel
theorem eX8_beginTask_143 : Ev 108 143 (ls) (st) h r ↔ Ev 108 144 (ls) (.long 0 :: st) h r := ev_lconst iX8_beginTask_143 (by decide)
theorem iX8_beginTask_144 : mn_ins 108 144 = some (8, false, .lastore, 1) := by decide +kernel
theorem eX8_beginTask_144 : Ev 108 144 (ls) (.long u :: .int x :: .ref a :: st) h r ↔ Evh 108 145 ls st (mn_asl h a x u) r := ev_last iX8_beginTask_144
theorem iX8_beginTask_145 : mn_ins 108 145 = some (8, false, .iinc 8 1, 3) := by decide +kernel
theorem eX8_beginTask_145 : Ev 108 145 (a0 :: a1 :: a2 :: a3 :: a4 :: a5 :: a6 :: a7 :: some (.int x) :: ls) (st) h r ↔ Ev 108 148 (a0 :: a1 :: a2 :: a3 :: a4 :: a5 :: a6 :: mn_k a7 :: some (.int (x + (nI 1))) :: ls) (st) h r := ev_iinc iX8_beginTask_145 rfl (by decide)
theorem iX8_beginTask_148 : mn_ins 108 148 = some (8, false, .goto (-31), 3) := by decide +kernel
theorem eX8_beginTask_148 : Ev 108 148 (ls) (st) h r ↔ Ev 108 117 (ls) (st) h r := ev_goto iX8_beginTask_148 (by decide)
theorem iX8_beginTask_151 : mn_ins 108 151 = some (8, false, .iload 7, 2) := by decide +kernel
theorem eX8_beginTask_151 : Ev 108 151 (a0 :: a1 :: a2 :: a3 :: a4 :: a5 :: a6 :: some (.int x) :: ls) (st) h r ↔ Ev 108 153 (a0 :: a1 :: a2 :: a3 :: a4 :: a5 :: a6 :: some (.int x) :: ls) (.int x :: st) h r := ev_iload iX8_beginTask_151 rfl
theorem iX8_beginTask_153 : mn_ins 108 153 = some (8, false, .ireturn, 1) := by decide +kernel
theorem eX8_beginTask_153 : Ev 108 153 (ls) [.int x] h r ↔ r = (h, .inl (some (.int x))) := ev_iret iX8_beginTask_153 (X := mnI_X8_beginTask) rfl rfl
theorem iX8_fail_0 : mn_ins 109 0 = some (8, false, .aload_n 0, 1) := by decide +kernel
theorem eX8_fail_0 : Ev 109 0 (some (.ref a) :: ls) (st) h r ↔ Ev 109 1 (some (.ref a) :: ls) (.ref a :: st) h r := ev_aload_n iX8_fail_0 rfl rfl
theorem iX8_fail_1 : mn_ins 109 1 = some (8, false, .getfield 39, 3) := by decide +kernel
theorem eX8_fail_1 : Ev 109 1 (ls) (.ref a :: st) h r ↔ Evk 109 4 ls (mn_gf h a 8 16) st h r := ev_getf iX8_fail_1 (by decide +kernel)
theorem iX8_fail_4 : mn_ins 109 4 = some (8, false, .iload_n 1, 1) := by decide +kernel
theorem eX8_fail_4 : Ev 109 4 (a0 :: some (.int x) :: ls) (st) h r ↔ Ev 109 5 (a0 :: some (.int x) :: ls) (.int x :: st) h r := ev_iload_n iX8_fail_4 rfl
theorem iX8_fail_5 : mn_ins 109 5 = some (8, false, .iconst 2, 1) := by decide +kernel
theorem eX8_fail_5 : Ev 109 5 (ls) (st) h r ↔ Ev 109 6 (ls) (.int (nI 2) :: st) h r := ev_iconst iX8_fail_5 (by decide)
theorem iX8_fail_6 : mn_ins 109 6 = some (8, false, .iastore, 1) := by decide +kernel
theorem eX8_fail_6 : Ev 109 6 (ls) (.int y :: .int x :: .ref a :: st) h r ↔ Evh 109 7 ls st (mn_asi h a x y) r := ev_iast iX8_fail_6
theorem iX8_fail_7 : mn_ins 109 7 = some (8, false, .aload_n 0, 1) := by decide +kernel
theorem eX8_fail_7 : Ev 109 7 (some (.ref a) :: ls) (st) h r ↔ Ev 109 8 (some (.ref a) :: ls) (.ref a :: st) h r := ev_aload_n iX8_fail_7 rfl rfl
theorem iX8_fail_8 : mn_ins 109 8 = some (8, false, .getfield 42, 3) := by decide +kernel
theorem eX8_fail_8 : Ev 109 8 (ls) (.ref a :: st) h r ↔ Evk 109 11 ls (mn_gf h a 8 17) st h r := ev_getf iX8_fail_8 (by decide +kernel)
theorem iX8_fail_11 : mn_ins 109 11 = some (8, false, .iload_n 1, 1) := by decide +kernel
theorem eX8_fail_11 : Ev 109 11 (a0 :: some (.int x) :: ls) (st) h r ↔ Ev 109 12 (a0 :: some (.int x) :: ls) (.int x :: st) h r := ev_iload_n iX8_fail_11 rfl
theorem iX8_fail_12 : mn_ins 109 12 = some (8, false, .iload_n 2, 1) := by decide +kernel
theorem eX8_fail_12 : Ev 109 12 (a0 :: a1 :: some (.int x) :: ls) (st) h r ↔ Ev 109 13 (a0 :: a1 :: some (.int x) :: ls) (.int x :: st) h r := ev_iload_n iX8_fail_12 rfl
theorem iX8_fail_13 : mn_ins 109 13 = some (8, false, .iastore, 1) := by decide +kernel
theorem eX8_fail_13 : Ev 109 13 (ls) (.int y :: .int x :: .ref a :: st) h r ↔ Evh 109 14 ls st (mn_asi h a x y) r := ev_iast iX8_fail_13
theorem iX8_fail_14 : mn_ins 109 14 = some (8, false, .return_, 1) := by decide +kernel
theorem eX8_fail_14 : Ev 109 14 (ls) [] h r ↔ r = (h, .inl none) := ev_vret iX8_fail_14 (X := mnI_X8_fail) rfl rfl
theorem iX8_top_0 : mn_ins 110 0 = some (8, false, .aload_n 0, 1) := by decide +kernel
theorem eX8_top_0 : Ev 110 0 (some (.ref a) :: ls) (st) h r ↔ Ev 110 1 (some (.ref a) :: ls) (.ref a :: st) h r := ev_aload_n iX8_top_0 rfl rfl
theorem iX8_top_1 : mn_ins 110 1 = some (8, false, .getfield 57, 3) := by decide +kernel
theorem eX8_top_1 : Ev 110 1 (ls) (.ref a :: st) h r ↔ Evk 110 4 ls (mn_gf h a 8 22) st h r := ev_getf iX8_top_1 (by decide +kernel)
theorem iX8_top_4 : mn_ins 110 4 = some (8, false, .bipush 8, 2) := by decide +kernel
theorem eX8_top_4 : Ev 110 4 (ls) (st) h r ↔ Ev 110 6 (ls) (.int (nI 8) :: st) h r := ev_bipush iX8_top_4 (by decide)
theorem iX8_top_6 : mn_ins 110 6 = some (8, false, .iload_n 1, 1) := by decide +kernel
theorem eX8_top_6 : Ev 110 6 (a0 :: some (.int x) :: ls) (st) h r ↔ Ev 110 7 (a0 :: some (.int x) :: ls) (.int x :: st) h r := ev_iload_n iX8_top_6 rfl
theorem iX8_top_7 : mn_ins 110 7 = some (8, false, .imul, 1) := by decide +kernel
theorem eX8_top_7 : Ev 110 7 (ls) (.int y :: .int x :: st) h r ↔ Ev 110 8 (ls) (.int (x * y) :: st) h r := ev_imul iX8_top_7
theorem iX8_top_8 : mn_ins 110 8 = some (8, false, .aload_n 0, 1) := by decide +kernel
theorem eX8_top_8 : Ev 110 8 (some (.ref a) :: ls) (st) h r ↔ Ev 110 9 (some (.ref a) :: ls) (.ref a :: st) h r := ev_aload_n iX8_top_8 rfl rfl
theorem iX8_top_9 : mn_ins 110 9 = some (8, false, .getfield 54, 3) := by decide +kernel
theorem eX8_top_9 : Ev 110 9 (ls) (.ref a :: st) h r ↔ Evk 110 12 ls (mn_gf h a 8 21) st h r := ev_getf iX8_top_9 (by decide +kernel)
theorem iX8_top_12 : mn_ins 110 12 = some (8, false, .iload_n 1, 1) := by decide +kernel
theorem eX8_top_12 : Ev 110 12 (a0 :: some (.int x) :: ls) (st) h r ↔ Ev 110 13 (a0 :: some (.int x) :: ls) (.int x :: st) h r := ev_iload_n iX8_top_12 rfl
theorem iX8_top_13 : mn_ins 110 13 = some (8, false, .iaload, 1) := by decide +kernel
theorem eX8_top_13 : Ev 110 13 (ls) (.int x :: .ref a :: st) h r ↔ Evk 110 14 ls (mn_al h a 0 x) st h r := ev_iald iX8_top_13
theorem iX8_top_14 : mn_ins 110 14 = some (8, false, .iadd, 1) := by decide +kernel
theorem eX8_top_14 : Ev 110 14 (ls) (.int y :: .int x :: st) h r ↔ Ev 110 15 (ls) (.int (x + y) :: st) h r := ev_iadd iX8_top_14
theorem iX8_top_15 : mn_ins 110 15 = some (8, false, .iconst 1, 1) := by decide +kernel
theorem eX8_top_15 : Ev 110 15 (ls) (st) h r ↔ Ev 110 16 (ls) (.int (nI 1) :: st) h r := ev_iconst iX8_top_15 (by decide)
theorem iX8_top_16 : mn_ins 110 16 = some (8, false, .isub, 1) := by decide +kernel
theorem eX8_top_16 : Ev 110 16 (ls) (.int y :: .int x :: st) h r ↔ Ev 110 17 (ls) (.int (x - y) :: st) h r := ev_isub iX8_top_16
theorem iX8_top_17 : mn_ins 110 17 = some (8, false, .laload, 1) := by decide +kernel
theorem eX8_top_17 : Ev 110 17 (ls) (.int x :: .ref a :: st) h r ↔ Evk 110 18 ls (mn_al h a 1 x) st h r := ev_lald iX8_top_17
theorem iX8_top_18 : mn_ins 110 18 = some (8, false, .lreturn, 1) := by decide +kernel
theorem eX8_top_18 : Ev 110 18 (ls) [.long u] h r ↔ r = (h, .inl (some (.long u))) := ev_lret iX8_top_18 (X := mnI_X8_top) rfl rfl
theorem iX8_pop_0 : mn_ins 111 0 = some (8, false, .aload_n 0, 1) := by decide +kernel
theorem eX8_pop_0 : Ev 111 0 (some (.ref a) :: ls) (st) h r ↔ Ev 111 1 (some (.ref a) :: ls) (.ref a :: st) h r := ev_aload_n iX8_pop_0 rfl rfl
theorem iX8_pop_1 : mn_ins 111 1 = some (8, false, .getfield 54, 3) := by decide +kernel
theorem eX8_pop_1 : Ev 111 1 (ls) (.ref a :: st) h r ↔ Evk 111 4 ls (mn_gf h a 8 21) st h r := ev_getf iX8_pop_1 (by decide +kernel)
theorem iX8_pop_4 : mn_ins 111 4 = some (8, false, .iload_n 1, 1) := by decide +kernel
theorem eX8_pop_4 : Ev 111 4 (a0 :: some (.int x) :: ls) (st) h r ↔ Ev 111 5 (a0 :: some (.int x) :: ls) (.int x :: st) h r := ev_iload_n iX8_pop_4 rfl
theorem iX8_pop_5 : mn_ins 111 5 = some (8, false, .dup2, 1) := by decide +kernel
theorem eX8_pop_5 : Ev 111 5 (ls) (.int x :: .ref a :: st) h r ↔ Ev 111 6 (ls) (.int x :: .ref a :: .int x :: .ref a :: st) h r := ev_dup2 iX8_pop_5 rfl rfl
theorem iX8_pop_6 : mn_ins 111 6 = some (8, false, .iaload, 1) := by decide +kernel
theorem eX8_pop_6 : Ev 111 6 (ls) (.int x :: .ref a :: st) h r ↔ Evk 111 7 ls (mn_al h a 0 x) st h r := ev_iald iX8_pop_6
theorem iX8_pop_7 : mn_ins 111 7 = some (8, false, .iconst 1, 1) := by decide +kernel
theorem eX8_pop_7 : Ev 111 7 (ls) (st) h r ↔ Ev 111 8 (ls) (.int (nI 1) :: st) h r := ev_iconst iX8_pop_7 (by decide)
theorem iX8_pop_8 : mn_ins 111 8 = some (8, false, .isub, 1) := by decide +kernel
theorem eX8_pop_8 : Ev 111 8 (ls) (.int y :: .int x :: st) h r ↔ Ev 111 9 (ls) (.int (x - y) :: st) h r := ev_isub iX8_pop_8
theorem iX8_pop_9 : mn_ins 111 9 = some (8, false, .iastore, 1) := by decide +kernel
theorem eX8_pop_9 : Ev 111 9 (ls) (.int y :: .int x :: .ref a :: st) h r ↔ Evh 111 10 ls st (mn_asi h a x y) r := ev_iast iX8_pop_9
theorem iX8_pop_10 : mn_ins 111 10 = some (8, false, .aload_n 0, 1) := by decide +kernel
theorem eX8_pop_10 : Ev 111 10 (some (.ref a) :: ls) (st) h r ↔ Ev 111 11 (some (.ref a) :: ls) (.ref a :: st) h r := ev_aload_n iX8_pop_10 rfl rfl
theorem iX8_pop_11 : mn_ins 111 11 = some (8, false, .getfield 57, 3) := by decide +kernel
theorem eX8_pop_11 : Ev 111 11 (ls) (.ref a :: st) h r ↔ Evk 111 14 ls (mn_gf h a 8 22) st h r := ev_getf iX8_pop_11 (by decide +kernel)
theorem iX8_pop_14 : mn_ins 111 14 = some (8, false, .bipush 8, 2) := by decide +kernel
theorem eX8_pop_14 : Ev 111 14 (ls) (st) h r ↔ Ev 111 16 (ls) (.int (nI 8) :: st) h r := ev_bipush iX8_pop_14 (by decide)
theorem iX8_pop_16 : mn_ins 111 16 = some (8, false, .iload_n 1, 1) := by decide +kernel
theorem eX8_pop_16 : Ev 111 16 (a0 :: some (.int x) :: ls) (st) h r ↔ Ev 111 17 (a0 :: some (.int x) :: ls) (.int x :: st) h r := ev_iload_n iX8_pop_16 rfl
theorem iX8_pop_17 : mn_ins 111 17 = some (8, false, .imul, 1) := by decide +kernel
theorem eX8_pop_17 : Ev 111 17 (ls) (.int y :: .int x :: st) h r ↔ Ev 111 18 (ls) (.int (x * y) :: st) h r := ev_imul iX8_pop_17
theorem iX8_pop_18 : mn_ins 111 18 = some (8, false, .aload_n 0, 1) := by decide +kernel
theorem eX8_pop_18 : Ev 111 18 (some (.ref a) :: ls) (st) h r ↔ Ev 111 19 (some (.ref a) :: ls) (.ref a :: st) h r := ev_aload_n iX8_pop_18 rfl rfl
theorem iX8_pop_19 : mn_ins 111 19 = some (8, false, .getfield 54, 3) := by decide +kernel
theorem eX8_pop_19 : Ev 111 19 (ls) (.ref a :: st) h r ↔ Evk 111 22 ls (mn_gf h a 8 21) st h r := ev_getf iX8_pop_19 (by decide +kernel)
theorem iX8_pop_22 : mn_ins 111 22 = some (8, false, .iload_n 1, 1) := by decide +kernel
theorem eX8_pop_22 : Ev 111 22 (a0 :: some (.int x) :: ls) (st) h r ↔ Ev 111 23 (a0 :: some (.int x) :: ls) (.int x :: st) h r := ev_iload_n iX8_pop_22 rfl
theorem iX8_pop_23 : mn_ins 111 23 = some (8, false, .iaload, 1) := by decide +kernel
theorem eX8_pop_23 : Ev 111 23 (ls) (.int x :: .ref a :: st) h r ↔ Evk 111 24 ls (mn_al h a 0 x) st h r := ev_iald iX8_pop_23
theorem iX8_pop_24 : mn_ins 111 24 = some (8, false, .iadd, 1) := by decide +kernel
theorem eX8_pop_24 : Ev 111 24 (ls) (.int y :: .int x :: st) h r ↔ Ev 111 25 (ls) (.int (x + y) :: st) h r := ev_iadd iX8_pop_24
theorem iX8_pop_25 : mn_ins 111 25 = some (8, false, .laload, 1) := by decide +kernel
theorem eX8_pop_25 : Ev 111 25 (ls) (.int x :: .ref a :: st) h r ↔ Evk 111 26 ls (mn_al h a 1 x) st h r := ev_lald iX8_pop_25
theorem iX8_pop_26 : mn_ins 111 26 = some (8, false, .lreturn, 1) := by decide +kernel
theorem eX8_pop_26 : Ev 111 26 (ls) [.long u] h r ↔ r = (h, .inl (some (.long u))) := ev_lret iX8_pop_26 (X := mnI_X8_pop) rfl rfl
theorem iX8_push_0 : mn_ins 112 0 = some (8, false, .aload_n 0, 1) := by decide +kernel
theorem eX8_push_0 : Ev 112 0 (some (.ref a) :: ls) (st) h r ↔ Ev 112 1 (some (.ref a) :: ls) (.ref a :: st) h r := ev_aload_n iX8_push_0 rfl rfl
theorem iX8_push_1 : mn_ins 112 1 = some (8, false, .getfield 57, 3) := by decide +kernel
theorem eX8_push_1 : Ev 112 1 (ls) (.ref a :: st) h r ↔ Evk 112 4 ls (mn_gf h a 8 22) st h r := ev_getf iX8_push_1 (by decide +kernel)
theorem iX8_push_4 : mn_ins 112 4 = some (8, false, .bipush 8, 2) := by decide +kernel
theorem eX8_push_4 : Ev 112 4 (ls) (st) h r ↔ Ev 112 6 (ls) (.int (nI 8) :: st) h r := ev_bipush iX8_push_4 (by decide)
theorem iX8_push_6 : mn_ins 112 6 = some (8, false, .iload_n 1, 1) := by decide +kernel
theorem eX8_push_6 : Ev 112 6 (a0 :: some (.int x) :: ls) (st) h r ↔ Ev 112 7 (a0 :: some (.int x) :: ls) (.int x :: st) h r := ev_iload_n iX8_push_6 rfl
theorem iX8_push_7 : mn_ins 112 7 = some (8, false, .imul, 1) := by decide +kernel
theorem eX8_push_7 : Ev 112 7 (ls) (.int y :: .int x :: st) h r ↔ Ev 112 8 (ls) (.int (x * y) :: st) h r := ev_imul iX8_push_7
theorem iX8_push_8 : mn_ins 112 8 = some (8, false, .aload_n 0, 1) := by decide +kernel
theorem eX8_push_8 : Ev 112 8 (some (.ref a) :: ls) (st) h r ↔ Ev 112 9 (some (.ref a) :: ls) (.ref a :: st) h r := ev_aload_n iX8_push_8 rfl rfl
theorem iX8_push_9 : mn_ins 112 9 = some (8, false, .getfield 54, 3) := by decide +kernel
theorem eX8_push_9 : Ev 112 9 (ls) (.ref a :: st) h r ↔ Evk 112 12 ls (mn_gf h a 8 21) st h r := ev_getf iX8_push_9 (by decide +kernel)
theorem iX8_push_12 : mn_ins 112 12 = some (8, false, .iload_n 1, 1) := by decide +kernel
theorem eX8_push_12 : Ev 112 12 (a0 :: some (.int x) :: ls) (st) h r ↔ Ev 112 13 (a0 :: some (.int x) :: ls) (.int x :: st) h r := ev_iload_n iX8_push_12 rfl
theorem iX8_push_13 : mn_ins 112 13 = some (8, false, .iaload, 1) := by decide +kernel
theorem eX8_push_13 : Ev 112 13 (ls) (.int x :: .ref a :: st) h r ↔ Evk 112 14 ls (mn_al h a 0 x) st h r := ev_iald iX8_push_13
theorem iX8_push_14 : mn_ins 112 14 = some (8, false, .iadd, 1) := by decide +kernel
theorem eX8_push_14 : Ev 112 14 (ls) (.int y :: .int x :: st) h r ↔ Ev 112 15 (ls) (.int (x + y) :: st) h r := ev_iadd iX8_push_14
theorem iX8_push_15 : mn_ins 112 15 = some (8, false, .lload_n 2, 1) := by decide +kernel
theorem eX8_push_15 : Ev 112 15 (a0 :: a1 :: some (.long u) :: ls) (st) h r ↔ Ev 112 16 (a0 :: a1 :: some (.long u) :: ls) (.long u :: st) h r := ev_lload_n iX8_push_15 rfl
theorem iX8_push_16 : mn_ins 112 16 = some (8, false, .lastore, 1) := by decide +kernel
theorem eX8_push_16 : Ev 112 16 (ls) (.long u :: .int x :: .ref a :: st) h r ↔ Evh 112 17 ls st (mn_asl h a x u) r := ev_last iX8_push_16
theorem iX8_push_17 : mn_ins 112 17 = some (8, false, .aload_n 0, 1) := by decide +kernel
theorem eX8_push_17 : Ev 112 17 (some (.ref a) :: ls) (st) h r ↔ Ev 112 18 (some (.ref a) :: ls) (.ref a :: st) h r := ev_aload_n iX8_push_17 rfl rfl
theorem iX8_push_18 : mn_ins 112 18 = some (8, false, .getfield 54, 3) := by decide +kernel
theorem eX8_push_18 : Ev 112 18 (ls) (.ref a :: st) h r ↔ Evk 112 21 ls (mn_gf h a 8 21) st h r := ev_getf iX8_push_18 (by decide +kernel)
theorem iX8_push_21 : mn_ins 112 21 = some (8, false, .iload_n 1, 1) := by decide +kernel
theorem eX8_push_21 : Ev 112 21 (a0 :: some (.int x) :: ls) (st) h r ↔ Ev 112 22 (a0 :: some (.int x) :: ls) (.int x :: st) h r := ev_iload_n iX8_push_21 rfl
theorem iX8_push_22 : mn_ins 112 22 = some (8, false, .dup2, 1) := by decide +kernel
theorem eX8_push_22 : Ev 112 22 (ls) (.int x :: .ref a :: st) h r ↔ Ev 112 23 (ls) (.int x :: .ref a :: .int x :: .ref a :: st) h r := ev_dup2 iX8_push_22 rfl rfl
theorem iX8_push_23 : mn_ins 112 23 = some (8, false, .iaload, 1) := by decide +kernel
theorem eX8_push_23 : Ev 112 23 (ls) (.int x :: .ref a :: st) h r ↔ Evk 112 24 ls (mn_al h a 0 x) st h r := ev_iald iX8_push_23
theorem iX8_push_24 : mn_ins 112 24 = some (8, false, .iconst 1, 1) := by decide +kernel
theorem eX8_push_24 : Ev 112 24 (ls) (st) h r ↔ Ev 112 25 (ls) (.int (nI 1) :: st) h r := ev_iconst iX8_push_24 (by decide)
theorem iX8_push_25 : mn_ins 112 25 = some (8, false, .iadd, 1) := by decide +kernel
theorem eX8_push_25 : Ev 112 25 (ls) (.int y :: .int x :: st) h r ↔ Ev 112 26 (ls) (.int (x + y) :: st) h r := ev_iadd iX8_push_25
theorem iX8_push_26 : mn_ins 112 26 = some (8, false, .iastore, 1) := by decide +kernel
theorem eX8_push_26 : Ev 112 26 (ls) (.int y :: .int x :: .ref a :: st) h r ↔ Evh 112 27 ls st (mn_asi h a x y) r := ev_iast iX8_push_26
theorem iX8_push_27 : mn_ins 112 27 = some (8, false, .return_, 1) := by decide +kernel
theorem eX8_push_27 : Ev 112 27 (ls) [] h r ↔ r = (h, .inl none) := ev_vret iX8_push_27 (X := mnI_X8_push) rfl rfl
theorem iX8_reckon_0 : mn_ins 113 0 = some (8, false, .iload_n 0, 1) := by decide +kernel
theorem eX8_reckon_0 : Ev 113 0 (some (.int x) :: ls) (st) h r ↔ Ev 113 1 (some (.int x) :: ls) (.int x :: st) h r := ev_iload_n iX8_reckon_0 rfl
theorem iX8_reckon_1 : mn_ins 113 1 = some (8, false, .iconst 5, 1) := by decide +kernel
theorem eX8_reckon_1 : Ev 113 1 (ls) (st) h r ↔ Ev 113 2 (ls) (.int (nI 5) :: st) h r := ev_iconst iX8_reckon_1 (by decide)
theorem iX8_reckon_2 : mn_ins 113 2 = some (8, false, .if_icmp .ne 7, 3) := by decide +kernel
theorem eX8_reckon_2 : Ev 113 2 (ls) (.int y :: .int x :: st) h r ↔ if x = y then Ev 113 5 (ls) (st) h r else Ev 113 9 (ls) (st) h r := ev_cmpne iX8_reckon_2 (by decide)
theorem iX8_reckon_5 : mn_ins 113 5 = some (8, false, .lload_n 1, 1) := by decide +kernel
theorem eX8_reckon_5 : Ev 113 5 (a0 :: some (.long u) :: ls) (st) h r ↔ Ev 113 6 (a0 :: some (.long u) :: ls) (.long u :: st) h r := ev_lload_n iX8_reckon_5 rfl
theorem iX8_reckon_6 : mn_ins 113 6 = some (8, false, .lload_n 3, 1) := by decide +kernel
theorem eX8_reckon_6 : Ev 113 6 (a0 :: a1 :: a2 :: some (.long u) :: ls) (st) h r ↔ Ev 113 7 (a0 :: a1 :: a2 :: some (.long u) :: ls) (.long u :: st) h r := ev_lload_n iX8_reckon_6 rfl
theorem iX8_reckon_7 : mn_ins 113 7 = some (8, false, .ladd, 1) := by decide +kernel
theorem eX8_reckon_7 : Ev 113 7 (ls) (.long v :: .long u :: st) h r ↔ Ev 113 8 (ls) (.long (u + v) :: st) h r := ev_ladd iX8_reckon_7
theorem iX8_reckon_8 : mn_ins 113 8 = some (8, false, .lreturn, 1) := by decide +kernel
theorem eX8_reckon_8 : Ev 113 8 (ls) [.long u] h r ↔ r = (h, .inl (some (.long u))) := ev_lret iX8_reckon_8 (X := mnI_X8_reckon) rfl rfl
theorem iX8_reckon_9 : mn_ins 113 9 = some (8, false, .iload_n 0, 1) := by decide +kernel
theorem eX8_reckon_9 : Ev 113 9 (some (.int x) :: ls) (st) h r ↔ Ev 113 10 (some (.int x) :: ls) (.int x :: st) h r := ev_iload_n iX8_reckon_9 rfl
theorem iX8_reckon_10 : mn_ins 113 10 = some (8, false, .bipush 6, 2) := by decide +kernel
theorem eX8_reckon_10 : Ev 113 10 (ls) (st) h r ↔ Ev 113 12 (ls) (.int (nI 6) :: st) h r := ev_bipush iX8_reckon_10 (by decide)
theorem iX8_reckon_12 : mn_ins 113 12 = some (8, false, .if_icmp .ne 7, 3) := by decide +kernel
theorem eX8_reckon_12 : Ev 113 12 (ls) (.int y :: .int x :: st) h r ↔ if x = y then Ev 113 15 (ls) (st) h r else Ev 113 19 (ls) (st) h r := ev_cmpne iX8_reckon_12 (by decide)
theorem iX8_reckon_15 : mn_ins 113 15 = some (8, false, .lload_n 1, 1) := by decide +kernel
theorem eX8_reckon_15 : Ev 113 15 (a0 :: some (.long u) :: ls) (st) h r ↔ Ev 113 16 (a0 :: some (.long u) :: ls) (.long u :: st) h r := ev_lload_n iX8_reckon_15 rfl
theorem iX8_reckon_16 : mn_ins 113 16 = some (8, false, .lload_n 3, 1) := by decide +kernel
theorem eX8_reckon_16 : Ev 113 16 (a0 :: a1 :: a2 :: some (.long u) :: ls) (st) h r ↔ Ev 113 17 (a0 :: a1 :: a2 :: some (.long u) :: ls) (.long u :: st) h r := ev_lload_n iX8_reckon_16 rfl
theorem iX8_reckon_17 : mn_ins 113 17 = some (8, false, .lsub, 1) := by decide +kernel
theorem eX8_reckon_17 : Ev 113 17 (ls) (.long v :: .long u :: st) h r ↔ Ev 113 18 (ls) (.long (u - v) :: st) h r := ev_lsub iX8_reckon_17
theorem iX8_reckon_18 : mn_ins 113 18 = some (8, false, .lreturn, 1) := by decide +kernel
theorem eX8_reckon_18 : Ev 113 18 (ls) [.long u] h r ↔ r = (h, .inl (some (.long u))) := ev_lret iX8_reckon_18 (X := mnI_X8_reckon) rfl rfl
theorem iX8_reckon_19 : mn_ins 113 19 = some (8, false, .iload_n 0, 1) := by decide +kernel
theorem eX8_reckon_19 : Ev 113 19 (some (.int x) :: ls) (st) h r ↔ Ev 113 20 (some (.int x) :: ls) (.int x :: st) h r := ev_iload_n iX8_reckon_19 rfl
theorem iX8_reckon_20 : mn_ins 113 20 = some (8, false, .bipush 7, 2) := by decide +kernel
theorem eX8_reckon_20 : Ev 113 20 (ls) (st) h r ↔ Ev 113 22 (ls) (.int (nI 7) :: st) h r := ev_bipush iX8_reckon_20 (by decide)
theorem iX8_reckon_22 : mn_ins 113 22 = some (8, false, .if_icmp .ne 7, 3) := by decide +kernel
theorem eX8_reckon_22 : Ev 113 22 (ls) (.int y :: .int x :: st) h r ↔ if x = y then Ev 113 25 (ls) (st) h r else Ev 113 29 (ls) (st) h r := ev_cmpne iX8_reckon_22 (by decide)
theorem iX8_reckon_25 : mn_ins 113 25 = some (8, false, .lload_n 1, 1) := by decide +kernel
theorem eX8_reckon_25 : Ev 113 25 (a0 :: some (.long u) :: ls) (st) h r ↔ Ev 113 26 (a0 :: some (.long u) :: ls) (.long u :: st) h r := ev_lload_n iX8_reckon_25 rfl
theorem iX8_reckon_26 : mn_ins 113 26 = some (8, false, .lload_n 3, 1) := by decide +kernel
theorem eX8_reckon_26 : Ev 113 26 (a0 :: a1 :: a2 :: some (.long u) :: ls) (st) h r ↔ Ev 113 27 (a0 :: a1 :: a2 :: some (.long u) :: ls) (.long u :: st) h r := ev_lload_n iX8_reckon_26 rfl
theorem iX8_reckon_27 : mn_ins 113 27 = some (8, false, .lmul, 1) := by decide +kernel
theorem eX8_reckon_27 : Ev 113 27 (ls) (.long v :: .long u :: st) h r ↔ Ev 113 28 (ls) (.long (u * v) :: st) h r := ev_lmul iX8_reckon_27
theorem iX8_reckon_28 : mn_ins 113 28 = some (8, false, .lreturn, 1) := by decide +kernel
theorem eX8_reckon_28 : Ev 113 28 (ls) [.long u] h r ↔ r = (h, .inl (some (.long u))) := ev_lret iX8_reckon_28 (X := mnI_X8_reckon) rfl rfl
theorem iX8_reckon_29 : mn_ins 113 29 = some (8, false, .iload_n 0, 1) := by decide +kernel
theorem eX8_reckon_29 : Ev 113 29 (some (.int x) :: ls) (st) h r ↔ Ev 113 30 (some (.int x) :: ls) (.int x :: st) h r := ev_iload_n iX8_reckon_29 rfl
theorem iX8_reckon_30 : mn_ins 113 30 = some (8, false, .bipush 8, 2) := by decide +kernel
theorem eX8_reckon_30 : Ev 113 30 (ls) (st) h r ↔ Ev 113 32 (ls) (.int (nI 8) :: st) h r := ev_bipush iX8_reckon_30 (by decide)
theorem iX8_reckon_32 : mn_ins 113 32 = some (8, false, .if_icmp .ne 7, 3) := by decide +kernel
theorem eX8_reckon_32 : Ev 113 32 (ls) (.int y :: .int x :: st) h r ↔ if x = y then Ev 113 35 (ls) (st) h r else Ev 113 39 (ls) (st) h r := ev_cmpne iX8_reckon_32 (by decide)
theorem iX8_reckon_35 : mn_ins 113 35 = some (8, false, .lload_n 1, 1) := by decide +kernel
theorem eX8_reckon_35 : Ev 113 35 (a0 :: some (.long u) :: ls) (st) h r ↔ Ev 113 36 (a0 :: some (.long u) :: ls) (.long u :: st) h r := ev_lload_n iX8_reckon_35 rfl
theorem iX8_reckon_36 : mn_ins 113 36 = some (8, false, .lload_n 3, 1) := by decide +kernel
theorem eX8_reckon_36 : Ev 113 36 (a0 :: a1 :: a2 :: some (.long u) :: ls) (st) h r ↔ Ev 113 37 (a0 :: a1 :: a2 :: some (.long u) :: ls) (.long u :: st) h r := ev_lload_n iX8_reckon_36 rfl
theorem iX8_reckon_37 : mn_ins 113 37 = some (8, false, .land, 1) := by decide +kernel
theorem eX8_reckon_37 : Ev 113 37 (ls) (.long v :: .long u :: st) h r ↔ Ev 113 38 (ls) (.long (u &&& v) :: st) h r := ev_land iX8_reckon_37
theorem iX8_reckon_38 : mn_ins 113 38 = some (8, false, .lreturn, 1) := by decide +kernel
theorem eX8_reckon_38 : Ev 113 38 (ls) [.long u] h r ↔ r = (h, .inl (some (.long u))) := ev_lret iX8_reckon_38 (X := mnI_X8_reckon) rfl rfl
theorem iX8_reckon_39 : mn_ins 113 39 = some (8, false, .iload_n 0, 1) := by decide +kernel
theorem eX8_reckon_39 : Ev 113 39 (some (.int x) :: ls) (st) h r ↔ Ev 113 40 (some (.int x) :: ls) (.int x :: st) h r := ev_iload_n iX8_reckon_39 rfl
theorem iX8_reckon_40 : mn_ins 113 40 = some (8, false, .bipush 9, 2) := by decide +kernel
theorem eX8_reckon_40 : Ev 113 40 (ls) (st) h r ↔ Ev 113 42 (ls) (.int (nI 9) :: st) h r := ev_bipush iX8_reckon_40 (by decide)
theorem iX8_reckon_42 : mn_ins 113 42 = some (8, false, .if_icmp .ne 7, 3) := by decide +kernel
theorem eX8_reckon_42 : Ev 113 42 (ls) (.int y :: .int x :: st) h r ↔ if x = y then Ev 113 45 (ls) (st) h r else Ev 113 49 (ls) (st) h r := ev_cmpne iX8_reckon_42 (by decide)
theorem iX8_reckon_45 : mn_ins 113 45 = some (8, false, .lload_n 1, 1) := by decide +kernel
theorem eX8_reckon_45 : Ev 113 45 (a0 :: some (.long u) :: ls) (st) h r ↔ Ev 113 46 (a0 :: some (.long u) :: ls) (.long u :: st) h r := ev_lload_n iX8_reckon_45 rfl
theorem iX8_reckon_46 : mn_ins 113 46 = some (8, false, .lload_n 3, 1) := by decide +kernel
theorem eX8_reckon_46 : Ev 113 46 (a0 :: a1 :: a2 :: some (.long u) :: ls) (st) h r ↔ Ev 113 47 (a0 :: a1 :: a2 :: some (.long u) :: ls) (.long u :: st) h r := ev_lload_n iX8_reckon_46 rfl
theorem iX8_reckon_47 : mn_ins 113 47 = some (8, false, .lor, 1) := by decide +kernel
theorem eX8_reckon_47 : Ev 113 47 (ls) (.long v :: .long u :: st) h r ↔ Ev 113 48 (ls) (.long (u ||| v) :: st) h r := ev_lor iX8_reckon_47
theorem iX8_reckon_48 : mn_ins 113 48 = some (8, false, .lreturn, 1) := by decide +kernel
theorem eX8_reckon_48 : Ev 113 48 (ls) [.long u] h r ↔ r = (h, .inl (some (.long u))) := ev_lret iX8_reckon_48 (X := mnI_X8_reckon) rfl rfl
theorem iX8_reckon_49 : mn_ins 113 49 = some (8, false, .lload_n 1, 1) := by decide +kernel
theorem eX8_reckon_49 : Ev 113 49 (a0 :: some (.long u) :: ls) (st) h r ↔ Ev 113 50 (a0 :: some (.long u) :: ls) (.long u :: st) h r := ev_lload_n iX8_reckon_49 rfl
theorem iX8_reckon_50 : mn_ins 113 50 = some (8, false, .lload_n 3, 1) := by decide +kernel
theorem eX8_reckon_50 : Ev 113 50 (a0 :: a1 :: a2 :: some (.long u) :: ls) (st) h r ↔ Ev 113 51 (a0 :: a1 :: a2 :: some (.long u) :: ls) (.long u :: st) h r := ev_lload_n iX8_reckon_50 rfl
theorem iX8_reckon_51 : mn_ins 113 51 = some (8, false, .lcmp, 1) := by decide +kernel
theorem eX8_reckon_51 : Ev 113 51 (ls) (.long v :: .long u :: st) h r ↔ Ev 113 52 (ls) (.int (lg_cmp u v) :: st) h r := ev_lcmp iX8_reckon_51
theorem iX8_reckon_52 : mn_ins 113 52 = some (8, false, .ifCond .ge 7, 3) := by decide +kernel
theorem eX8_reckon_52 : Ev 113 52 (ls) (.int x :: st) h r ↔ if nI 0 ≤ x then Ev 113 59 (ls) (st) h r else Ev 113 55 (ls) (st) h r := ev_ifge iX8_reckon_52 (by decide)
theorem iX8_reckon_55 : mn_ins 113 55 = some (8, false, .lconst 1, 1) := by decide +kernel
theorem eX8_reckon_55 : Ev 113 55 (ls) (st) h r ↔ Ev 113 56 (ls) (.long 1 :: st) h r := ev_lconst iX8_reckon_55 (by decide)
theorem iX8_reckon_56 : mn_ins 113 56 = some (8, false, .goto 4, 3) := by decide +kernel
theorem eX8_reckon_56 : Ev 113 56 (ls) (st) h r ↔ Ev 113 60 (ls) (st) h r := ev_goto iX8_reckon_56 (by decide)
theorem iX8_reckon_59 : mn_ins 113 59 = some (8, false, .lconst 0, 1) := by decide +kernel
theorem eX8_reckon_59 : Ev 113 59 (ls) (st) h r ↔ Ev 113 60 (ls) (.long 0 :: st) h r := ev_lconst iX8_reckon_59 (by decide)
theorem iX8_reckon_60 : mn_ins 113 60 = some (8, false, .lreturn, 1) := by decide +kernel
theorem eX8_reckon_60 : Ev 113 60 (ls) [.long u] h r ↔ r = (h, .inl (some (.long u))) := ev_lret iX8_reckon_60 (X := mnI_X8_reckon) rfl rfl
theorem iX8_holder_0 : mn_ins 114 0 = some (8, false, .aload_n 0, 1) := by decide +kernel
theorem eX8_holder_0 : Ev 114 0 (some (.ref a) :: ls) (st) h r ↔ Ev 114 1 (some (.ref a) :: ls) (.ref a :: st) h r := ev_aload_n iX8_holder_0 rfl rfl
theorem iX8_holder_1 : mn_ins 114 1 = some (8, false, .getfield 45, 3) := by decide +kernel
theorem eX8_holder_1 : Ev 114 1 (ls) (.ref a :: st) h r ↔ Evk 114 4 ls (mn_gf h a 8 18) st h r := ev_getf iX8_holder_1 (by decide +kernel)
theorem iX8_holder_4 : mn_ins 114 4 = some (8, false, .iload_n 1, 1) := by decide +kernel
theorem eX8_holder_4 : Ev 114 4 (a0 :: some (.int x) :: ls) (st) h r ↔ Ev 114 5 (a0 :: some (.int x) :: ls) (.int x :: st) h r := ev_iload_n iX8_holder_4 rfl
theorem iX8_holder_5 : mn_ins 114 5 = some (8, false, .iaload, 1) := by decide +kernel
theorem eX8_holder_5 : Ev 114 5 (ls) (.int x :: .ref a :: st) h r ↔ Evk 114 6 ls (mn_al h a 0 x) st h r := ev_iald iX8_holder_5
theorem iX8_holder_6 : mn_ins 114 6 = some (8, false, .istore_n 2, 1) := by decide +kernel
theorem eX8_holder_6 : Ev 114 6 (a0 :: a1 :: a2 :: ls) (.int x :: st) h r ↔ Ev 114 7 (a0 :: mn_k a1 :: some (.int x) :: ls) (st) h r := ev_istore_n iX8_holder_6 (by show 2 < _; simp only [List.length_cons]; omega)
theorem iX8_holder_7 : mn_ins 114 7 = some (8, false, .iload_n 2, 1) := by decide +kernel
theorem eX8_holder_7 : Ev 114 7 (a0 :: a1 :: some (.int x) :: ls) (st) h r ↔ Ev 114 8 (a0 :: a1 :: some (.int x) :: ls) (.int x :: st) h r := ev_iload_n iX8_holder_7 rfl
theorem iX8_holder_8 : mn_ins 114 8 = some (8, false, .iconst (-1), 1) := by decide +kernel
theorem eX8_holder_8 : Ev 114 8 (ls) (st) h r ↔ Ev 114 9 (ls) (.int (-1) :: st) h r := ev_iconst iX8_holder_8 (by decide)
theorem iX8_holder_9 : mn_ins 114 9 = some (8, false, .if_icmp .eq 23, 3) := by decide +kernel
theorem eX8_holder_9 : Ev 114 9 (ls) (.int y :: .int x :: st) h r ↔ if x = y then Ev 114 32 (ls) (st) h r else Ev 114 12 (ls) (st) h r := ev_cmpeq iX8_holder_9 (by decide)
theorem iX8_holder_12 : mn_ins 114 12 = some (8, false, .aload_n 0, 1) := by decide +kernel
theorem eX8_holder_12 : Ev 114 12 (some (.ref a) :: ls) (st) h r ↔ Ev 114 13 (some (.ref a) :: ls) (.ref a :: st) h r := ev_aload_n iX8_holder_12 rfl rfl
theorem iX8_holder_13 : mn_ins 114 13 = some (8, false, .getfield 39, 3) := by decide +kernel
theorem eX8_holder_13 : Ev 114 13 (ls) (.ref a :: st) h r ↔ Evk 114 16 ls (mn_gf h a 8 16) st h r := ev_getf iX8_holder_13 (by decide +kernel)
theorem iX8_holder_16 : mn_ins 114 16 = some (8, false, .iload_n 2, 1) := by decide +kernel
theorem eX8_holder_16 : Ev 114 16 (a0 :: a1 :: some (.int x) :: ls) (st) h r ↔ Ev 114 17 (a0 :: a1 :: some (.int x) :: ls) (.int x :: st) h r := ev_iload_n iX8_holder_16 rfl
theorem iX8_holder_17 : mn_ins 114 17 = some (8, false, .iaload, 1) := by decide +kernel
theorem eX8_holder_17 : Ev 114 17 (ls) (.int x :: .ref a :: st) h r ↔ Evk 114 18 ls (mn_al h a 0 x) st h r := ev_iald iX8_holder_17
theorem iX8_holder_18 : mn_ins 114 18 = some (8, false, .iconst 3, 1) := by decide +kernel
theorem eX8_holder_18 : Ev 114 18 (ls) (st) h r ↔ Ev 114 19 (ls) (.int (nI 3) :: st) h r := ev_iconst iX8_holder_18 (by decide)
theorem iX8_holder_19 : mn_ins 114 19 = some (8, false, .if_icmp .ne 13, 3) := by decide +kernel
theorem eX8_holder_19 : Ev 114 19 (ls) (.int y :: .int x :: st) h r ↔ if x = y then Ev 114 22 (ls) (st) h r else Ev 114 32 (ls) (st) h r := ev_cmpne iX8_holder_19 (by decide)
theorem iX8_holder_22 : mn_ins 114 22 = some (8, false, .aload_n 0, 1) := by decide +kernel
theorem eX8_holder_22 : Ev 114 22 (some (.ref a) :: ls) (st) h r ↔ Ev 114 23 (some (.ref a) :: ls) (.ref a :: st) h r := ev_aload_n iX8_holder_22 rfl rfl
theorem iX8_holder_23 : mn_ins 114 23 = some (8, false, .getfield 48, 3) := by decide +kernel
theorem eX8_holder_23 : Ev 114 23 (ls) (.ref a :: st) h r ↔ Evk 114 26 ls (mn_gf h a 8 19) st h r := ev_getf iX8_holder_23 (by decide +kernel)
theorem iX8_holder_26 : mn_ins 114 26 = some (8, false, .iload_n 2, 1) := by decide +kernel
theorem eX8_holder_26 : Ev 114 26 (a0 :: a1 :: some (.int x) :: ls) (st) h r ↔ Ev 114 27 (a0 :: a1 :: some (.int x) :: ls) (.int x :: st) h r := ev_iload_n iX8_holder_26 rfl
theorem iX8_holder_27 : mn_ins 114 27 = some (8, false, .iaload, 1) := by decide +kernel
theorem eX8_holder_27 : Ev 114 27 (ls) (.int x :: .ref a :: st) h r ↔ Evk 114 28 ls (mn_al h a 0 x) st h r := ev_iald iX8_holder_27
theorem iX8_holder_28 : mn_ins 114 28 = some (8, false, .istore_n 2, 1) := by decide +kernel
theorem eX8_holder_28 : Ev 114 28 (a0 :: a1 :: a2 :: ls) (.int x :: st) h r ↔ Ev 114 29 (a0 :: mn_k a1 :: some (.int x) :: ls) (st) h r := ev_istore_n iX8_holder_28 (by show 2 < _; simp only [List.length_cons]; omega)
theorem iX8_holder_29 : mn_ins 114 29 = some (8, false, .goto (-22), 3) := by decide +kernel
theorem eX8_holder_29 : Ev 114 29 (ls) (st) h r ↔ Ev 114 7 (ls) (st) h r := ev_goto iX8_holder_29 (by decide)
theorem iX8_holder_32 : mn_ins 114 32 = some (8, false, .iload_n 2, 1) := by decide +kernel
theorem eX8_holder_32 : Ev 114 32 (a0 :: a1 :: some (.int x) :: ls) (st) h r ↔ Ev 114 33 (a0 :: a1 :: some (.int x) :: ls) (.int x :: st) h r := ev_iload_n iX8_holder_32 rfl
theorem iX8_holder_33 : mn_ins 114 33 = some (8, false, .ireturn, 1) := by decide +kernel
theorem eX8_holder_33 : Ev 114 33 (ls) [.int x] h r ↔ r = (h, .inl (some (.int x))) := ev_iret iX8_holder_33 (X := mnI_X8_holder) rfl rfl
theorem iX8_isJoin_0 : mn_ins 115 0 = some (8, false, .aload_n 0, 1) := by decide +kernel
theorem eX8_isJoin_0 : Ev 115 0 (some (.ref a) :: ls) (st) h r ↔ Ev 115 1 (some (.ref a) :: ls) (.ref a :: st) h r := ev_aload_n iX8_isJoin_0 rfl rfl
theorem iX8_isJoin_1 : mn_ins 115 1 = some (8, false, .getfield 17, 3) := by decide +kernel
theorem eX8_isJoin_1 : Ev 115 1 (ls) (.ref a :: st) h r ↔ Evk 115 4 ls (mn_gf h a 8 5) st h r := ev_getf iX8_isJoin_1 (by decide +kernel)
theorem iX8_isJoin_4 : mn_ins 115 4 = some (8, false, .bipush 24, 2) := by decide +kernel
theorem eX8_isJoin_4 : Ev 115 4 (ls) (st) h r ↔ Ev 115 6 (ls) (.int (nI 24) :: st) h r := ev_bipush iX8_isJoin_4 (by decide)
theorem iX8_isJoin_6 : mn_ins 115 6 = some (8, false, .aload_n 0, 1) := by decide +kernel
theorem eX8_isJoin_6 : Ev 115 6 (some (.ref a) :: ls) (st) h r ↔ Ev 115 7 (some (.ref a) :: ls) (.ref a :: st) h r := ev_aload_n iX8_isJoin_6 rfl rfl
theorem iX8_isJoin_7 : mn_ins 115 7 = some (8, false, .getfield 33, 3) := by decide +kernel
theorem eX8_isJoin_7 : Ev 115 7 (ls) (.ref a :: st) h r ↔ Evk 115 10 ls (mn_gf h a 8 14) st h r := ev_getf iX8_isJoin_7 (by decide +kernel)
theorem iX8_isJoin_10 : mn_ins 115 10 = some (8, false, .iload_n 1, 1) := by decide +kernel
theorem eX8_isJoin_10 : Ev 115 10 (a0 :: some (.int x) :: ls) (st) h r ↔ Ev 115 11 (a0 :: some (.int x) :: ls) (.int x :: st) h r := ev_iload_n iX8_isJoin_10 rfl
theorem iX8_isJoin_11 : mn_ins 115 11 = some (8, false, .iaload, 1) := by decide +kernel
theorem eX8_isJoin_11 : Ev 115 11 (ls) (.int x :: .ref a :: st) h r ↔ Evk 115 12 ls (mn_al h a 0 x) st h r := ev_iald iX8_isJoin_11
theorem iX8_isJoin_12 : mn_ins 115 12 = some (8, false, .imul, 1) := by decide +kernel
theorem eX8_isJoin_12 : Ev 115 12 (ls) (.int y :: .int x :: st) h r ↔ Ev 115 13 (ls) (.int (x * y) :: st) h r := ev_imul iX8_isJoin_12
theorem iX8_isJoin_13 : mn_ins 115 13 = some (8, false, .aload_n 0, 1) := by decide +kernel
theorem eX8_isJoin_13 : Ev 115 13 (some (.ref a) :: ls) (st) h r ↔ Ev 115 14 (some (.ref a) :: ls) (.ref a :: st) h r := ev_aload_n iX8_isJoin_13 rfl rfl
theorem iX8_isJoin_14 : mn_ins 115 14 = some (8, false, .getfield 36, 3) := by decide +kernel
theorem eX8_isJoin_14 : Ev 115 14 (ls) (.ref a :: st) h r ↔ Evk 115 17 ls (mn_gf h a 8 15) st h r := ev_getf iX8_isJoin_14 (by decide +kernel)
theorem iX8_isJoin_17 : mn_ins 115 17 = some (8, false, .iload_n 1, 1) := by decide +kernel
theorem eX8_isJoin_17 : Ev 115 17 (a0 :: some (.int x) :: ls) (st) h r ↔ Ev 115 18 (a0 :: some (.int x) :: ls) (.int x :: st) h r := ev_iload_n iX8_isJoin_17 rfl
theorem iX8_isJoin_18 : mn_ins 115 18 = some (8, false, .iaload, 1) := by decide +kernel
theorem eX8_isJoin_18 : Ev 115 18 (ls) (.int x :: .ref a :: st) h r ↔ Evk 115 19 ls (mn_al h a 0 x) st h r := ev_iald iX8_isJoin_18
theorem iX8_isJoin_19 : mn_ins 115 19 = some (8, false, .iadd, 1) := by decide +kernel
theorem eX8_isJoin_19 : Ev 115 19 (ls) (.int y :: .int x :: st) h r ↔ Ev 115 20 (ls) (.int (x + y) :: st) h r := ev_iadd iX8_isJoin_19
theorem iX8_isJoin_20 : mn_ins 115 20 = some (8, false, .iaload, 1) := by decide +kernel
theorem eX8_isJoin_20 : Ev 115 20 (ls) (.int x :: .ref a :: st) h r ↔ Evk 115 21 ls (mn_al h a 0 x) st h r := ev_iald iX8_isJoin_20
theorem iX8_isJoin_21 : mn_ins 115 21 = some (8, false, .bipush 14, 2) := by decide +kernel
theorem eX8_isJoin_21 : Ev 115 21 (ls) (st) h r ↔ Ev 115 23 (ls) (.int (nI 14) :: st) h r := ev_bipush iX8_isJoin_21 (by decide)
theorem iX8_isJoin_23 : mn_ins 115 23 = some (8, false, .if_icmp .ne 7, 3) := by decide +kernel
theorem eX8_isJoin_23 : Ev 115 23 (ls) (.int y :: .int x :: st) h r ↔ if x = y then Ev 115 26 (ls) (st) h r else Ev 115 30 (ls) (st) h r := ev_cmpne iX8_isJoin_23 (by decide)
theorem iX8_isJoin_26 : mn_ins 115 26 = some (8, false, .iconst 1, 1) := by decide +kernel
theorem eX8_isJoin_26 : Ev 115 26 (ls) (st) h r ↔ Ev 115 27 (ls) (.int (nI 1) :: st) h r := ev_iconst iX8_isJoin_26 (by decide)
theorem iX8_isJoin_27 : mn_ins 115 27 = some (8, false, .goto 4, 3) := by decide +kernel
theorem eX8_isJoin_27 : Ev 115 27 (ls) (st) h r ↔ Ev 115 31 (ls) (st) h r := ev_goto iX8_isJoin_27 (by decide)
theorem iX8_isJoin_30 : mn_ins 115 30 = some (8, false, .iconst 0, 1) := by decide +kernel
theorem eX8_isJoin_30 : Ev 115 30 (ls) (st) h r ↔ Ev 115 31 (ls) (.int (nI 0) :: st) h r := ev_iconst iX8_isJoin_30 (by decide)
theorem iX8_isJoin_31 : mn_ins 115 31 = some (8, false, .ireturn, 1) := by decide +kernel
theorem eX8_isJoin_31 (hx : x = 0 ∨ x = 1) : Ev 115 31 (ls) [.int x] h r ↔ r = (h, .inl (some (.int x))) := ev_zret iX8_isJoin_31 (X := mnI_X8_isJoin) rfl rfl hx
theorem iX8_waits_0 : mn_ins 116 0 = some (8, false, .aload_n 0, 1) := by decide +kernel
theorem eX8_waits_0 : Ev 116 0 (some (.ref a) :: ls) (st) h r ↔ Ev 116 1 (some (.ref a) :: ls) (.ref a :: st) h r := ev_aload_n iX8_waits_0 rfl rfl
theorem iX8_waits_1 : mn_ins 116 1 = some (8, false, .iload_n 1, 1) := by decide +kernel
theorem eX8_waits_1 : Ev 116 1 (a0 :: some (.int x) :: ls) (st) h r ↔ Ev 116 2 (a0 :: some (.int x) :: ls) (.int x :: st) h r := ev_iload_n iX8_waits_1 rfl
theorem iX8_waits_2 : mn_ins 116 2 = some (8, false, .invokevirtual 167, 3) := by decide +kernel
theorem eX8_waits_2 : Ev 116 2 (ls) (.int x0 :: .ref b :: st) h r ↔ Evr true (decide (mn_cats st ≤ 8) && mn_isc h b 8) 116 2 ls st h.2.2.1 h.2.2.2 (Cl 115 (.ref b :: [.int x0]) h.1 h.2.1) r := Ev_V (As := [.int x0]) iX8_waits_2 (by decide +kernel) (x := mnI_X8_waits) (x2 := mnI_X8_isJoin) rfl rfl rfl (by decide +kernel) (Nat.le_of_ble_eq_true rfl) rfl
theorem iX8_waits_5 : mn_ins 116 5 = some (8, false, .ifCond .ne 5, 3) := by decide +kernel
theorem eX8_waits_5 : Ev 116 5 (ls) (.int x :: st) h r ↔ if x = nI 0 then Ev 116 8 (ls) (st) h r else Ev 116 10 (ls) (st) h r := ev_ifne iX8_waits_5 (by decide)
theorem iX8_waits_8 : mn_ins 116 8 = some (8, false, .iconst 0, 1) := by decide +kernel
theorem eX8_waits_8 : Ev 116 8 (ls) (st) h r ↔ Ev 116 9 (ls) (.int (nI 0) :: st) h r := ev_iconst iX8_waits_8 (by decide)
theorem iX8_waits_9 : mn_ins 116 9 = some (8, false, .ireturn, 1) := by decide +kernel
theorem eX8_waits_9 (hx : x = 0 ∨ x = 1) : Ev 116 9 (ls) [.int x] h r ↔ r = (h, .inl (some (.int x))) := ev_zret iX8_waits_9 (X := mnI_X8_waits) rfl rfl hx
theorem iX8_waits_10 : mn_ins 116 10 = some (8, false, .aload_n 0, 1) := by decide +kernel
theorem eX8_waits_10 : Ev 116 10 (some (.ref a) :: ls) (st) h r ↔ Ev 116 11 (some (.ref a) :: ls) (.ref a :: st) h r := ev_aload_n iX8_waits_10 rfl rfl
theorem iX8_waits_11 : mn_ins 116 11 = some (8, false, .iload_n 1, 1) := by decide +kernel
theorem eX8_waits_11 : Ev 116 11 (a0 :: some (.int x) :: ls) (st) h r ↔ Ev 116 12 (a0 :: some (.int x) :: ls) (.int x :: st) h r := ev_iload_n iX8_waits_11 rfl
theorem iX8_waits_12 : mn_ins 116 12 = some (8, false, .invokevirtual 170, 3) := by decide +kernel
theorem eX8_waits_12 : Ev 116 12 (ls) (.int x0 :: .ref b :: st) h r ↔ Evr true (decide (mn_cats st ≤ 8) && mn_isc h b 8) 116 12 ls st h.2.2.1 h.2.2.2 (Cl 110 (.ref b :: [.int x0]) h.1 h.2.1) r := Ev_V (As := [.int x0]) iX8_waits_12 (by decide +kernel) (x := mnI_X8_waits) (x2 := mnI_X8_top) rfl rfl rfl (by decide +kernel) (Nat.le_of_ble_eq_true rfl) rfl
theorem iX8_waits_15 : mn_ins 116 15 = some (8, false, .lstore_n 2, 1) := by decide +kernel
theorem eX8_waits_15 : Ev 116 15 (a0 :: a1 :: a2 :: a3 :: ls) (.long u :: st) h r ↔ Ev 116 16 (a0 :: mn_k a1 :: some (.long u) :: none :: ls) (st) h r := ev_lstore_n iX8_waits_15 (by show 3 < _; simp only [List.length_cons]; omega)
theorem iX8_waits_16 : mn_ins 116 16 = some (8, false, .lload_n 2, 1) := by decide +kernel
theorem eX8_waits_16 : Ev 116 16 (a0 :: a1 :: some (.long u) :: ls) (st) h r ↔ Ev 116 17 (a0 :: a1 :: some (.long u) :: ls) (.long u :: st) h r := ev_lload_n iX8_waits_16 rfl
theorem iX8_waits_17 : mn_ins 116 17 = some (8, false, .iconst 0, 1) := by decide +kernel
theorem eX8_waits_17 : Ev 116 17 (ls) (st) h r ↔ Ev 116 18 (ls) (.int (nI 0) :: st) h r := ev_iconst iX8_waits_17 (by decide)
theorem iX8_waits_18 : mn_ins 116 18 = some (8, false, .aload_n 0, 1) := by decide +kernel
theorem eX8_waits_18 : Ev 116 18 (some (.ref a) :: ls) (st) h r ↔ Ev 116 19 (some (.ref a) :: ls) (.ref a :: st) h r := ev_aload_n iX8_waits_18 rfl rfl
theorem iX8_waits_19 : mn_ins 116 19 = some (8, false, .getfield 144, 3) := by decide +kernel
theorem eX8_waits_19 : Ev 116 19 (ls) (.ref a :: st) h r ↔ Evk 116 22 ls (mn_gf h a 8 11) st h r := ev_getf iX8_waits_19 (by decide +kernel)
theorem iX8_waits_22 : mn_ins 116 22 = some (8, false, .iconst 1, 1) := by decide +kernel
theorem eX8_waits_22 : Ev 116 22 (ls) (st) h r ↔ Ev 116 23 (ls) (.int (nI 1) :: st) h r := ev_iconst iX8_waits_22 (by decide)
theorem iX8_waits_23 : mn_ins 116 23 = some (8, false, .isub, 1) := by decide +kernel
theorem eX8_waits_23 : Ev 116 23 (ls) (.int y :: .int x :: st) h r ↔ Ev 116 24 (ls) (.int (x - y) :: st) h r := ev_isub iX8_waits_23
theorem iX8_waits_24 : mn_ins 116 24 = some (8, false, .invokestatic 111, 3) := by decide +kernel
theorem eX8_waits_24 : Ev 116 24 (ls) (.int x2 :: .int x1 :: .long u0 :: st) h r ↔ Evr false (decide (mn_cats st ≤ 8)) 116 24 ls st h.2.2.1 h.2.2.2 (Cl 86 [.long u0, .int x1, .int x2] h.1 h.2.1) r := Ev_T (As := [.long u0, .int x1, .int x2]) (q := 1) iX8_waits_24 (by decide +kernel) (by decide) (x := mnI_X8_waits) (x2 := mnI_X8_in) rfl rfl rfl (by decide +kernel) (Nat.le_of_ble_eq_true rfl) rfl
theorem iX8_waits_27 : mn_ins 116 27 = some (8, false, .ifCond .eq 27, 3) := by decide +kernel
theorem eX8_waits_27 : Ev 116 27 (ls) (.int x :: st) h r ↔ if x = nI 0 then Ev 116 54 (ls) (st) h r else Ev 116 30 (ls) (st) h r := ev_ifeq iX8_waits_27 (by decide)
theorem iX8_waits_30 : mn_ins 116 30 = some (8, false, .aload_n 0, 1) := by decide +kernel
theorem eX8_waits_30 : Ev 116 30 (some (.ref a) :: ls) (st) h r ↔ Ev 116 31 (some (.ref a) :: ls) (.ref a :: st) h r := ev_aload_n iX8_waits_30 rfl rfl
theorem iX8_waits_31 : mn_ins 116 31 = some (8, false, .lload_n 2, 1) := by decide +kernel
theorem eX8_waits_31 : Ev 116 31 (a0 :: a1 :: some (.long u) :: ls) (st) h r ↔ Ev 116 32 (a0 :: a1 :: some (.long u) :: ls) (.long u :: st) h r := ev_lload_n iX8_waits_31 rfl
theorem iX8_waits_32 : mn_ins 116 32 = some (8, false, .l2i, 1) := by decide +kernel
theorem eX8_waits_32 : Ev 116 32 (ls) (.long u :: st) h r ↔ Ev 116 33 (ls) (.int u.toInt32 :: st) h r := ev_l2i iX8_waits_32
theorem iX8_waits_33 : mn_ins 116 33 = some (8, false, .invokevirtual 174, 3) := by decide +kernel
theorem eX8_waits_33 : Ev 116 33 (ls) (.int x0 :: .ref b :: st) h r ↔ Evr true (decide (mn_cats st ≤ 8) && mn_isc h b 8) 116 33 ls st h.2.2.1 h.2.2.2 (Cl 114 (.ref b :: [.int x0]) h.1 h.2.1) r := Ev_V (As := [.int x0]) iX8_waits_33 (by decide +kernel) (x := mnI_X8_waits) (x2 := mnI_X8_holder) rfl rfl rfl (by decide +kernel) (Nat.le_of_ble_eq_true rfl) rfl
theorem iX8_waits_36 : mn_ins 116 36 = some (8, false, .iload_n 1, 1) := by decide +kernel
theorem eX8_waits_36 : Ev 116 36 (a0 :: some (.int x) :: ls) (st) h r ↔ Ev 116 37 (a0 :: some (.int x) :: ls) (.int x :: st) h r := ev_iload_n iX8_waits_36 rfl
theorem iX8_waits_37 : mn_ins 116 37 = some (8, false, .if_icmp .ne 17, 3) := by decide +kernel
theorem eX8_waits_37 : Ev 116 37 (ls) (.int y :: .int x :: st) h r ↔ if x = y then Ev 116 40 (ls) (st) h r else Ev 116 54 (ls) (st) h r := ev_cmpne iX8_waits_37 (by decide)
theorem iX8_waits_40 : mn_ins 116 40 = some (8, false, .aload_n 0, 1) := by decide +kernel
theorem eX8_waits_40 : Ev 116 40 (some (.ref a) :: ls) (st) h r ↔ Ev 116 41 (some (.ref a) :: ls) (.ref a :: st) h r := ev_aload_n iX8_waits_40 rfl rfl
theorem iX8_waits_41 : mn_ins 116 41 = some (8, false, .getfield 39, 3) := by decide +kernel
theorem eX8_waits_41 : Ev 116 41 (ls) (.ref a :: st) h r ↔ Evk 116 44 ls (mn_gf h a 8 16) st h r := ev_getf iX8_waits_41 (by decide +kernel)
theorem iX8_waits_44 : mn_ins 116 44 = some (8, false, .lload_n 2, 1) := by decide +kernel
theorem eX8_waits_44 : Ev 116 44 (a0 :: a1 :: some (.long u) :: ls) (st) h r ↔ Ev 116 45 (a0 :: a1 :: some (.long u) :: ls) (.long u :: st) h r := ev_lload_n iX8_waits_44 rfl
theorem iX8_waits_45 : mn_ins 116 45 = some (8, false, .l2i, 1) := by decide +kernel
theorem eX8_waits_45 : Ev 116 45 (ls) (.long u :: st) h r ↔ Ev 116 46 (ls) (.int u.toInt32 :: st) h r := ev_l2i iX8_waits_45
theorem iX8_waits_46 : mn_ins 116 46 = some (8, false, .iaload, 1) := by decide +kernel
theorem eX8_waits_46 : Ev 116 46 (ls) (.int x :: .ref a :: st) h r ↔ Evk 116 47 ls (mn_al h a 0 x) st h r := ev_iald iX8_waits_46
theorem iX8_waits_47 : mn_ins 116 47 = some (8, false, .ifCond .ne 7, 3) := by decide +kernel
theorem eX8_waits_47 : Ev 116 47 (ls) (.int x :: st) h r ↔ if x = nI 0 then Ev 116 50 (ls) (st) h r else Ev 116 54 (ls) (st) h r := ev_ifne iX8_waits_47 (by decide)
theorem iX8_waits_50 : mn_ins 116 50 = some (8, false, .iconst 1, 1) := by decide +kernel
theorem eX8_waits_50 : Ev 116 50 (ls) (st) h r ↔ Ev 116 51 (ls) (.int (nI 1) :: st) h r := ev_iconst iX8_waits_50 (by decide)
theorem iX8_waits_51 : mn_ins 116 51 = some (8, false, .goto 4, 3) := by decide +kernel
theorem eX8_waits_51 : Ev 116 51 (ls) (st) h r ↔ Ev 116 55 (ls) (st) h r := ev_goto iX8_waits_51 (by decide)
theorem iX8_waits_54 : mn_ins 116 54 = some (8, false, .iconst 0, 1) := by decide +kernel
theorem eX8_waits_54 : Ev 116 54 (ls) (st) h r ↔ Ev 116 55 (ls) (.int (nI 0) :: st) h r := ev_iconst iX8_waits_54 (by decide)
theorem iX8_waits_55 : mn_ins 116 55 = some (8, false, .ireturn, 1) := by decide +kernel
theorem eX8_waits_55 (hx : x = 0 ∨ x = 1) : Ev 116 55 (ls) [.int x] h r ↔ r = (h, .inl (some (.int x))) := ev_zret iX8_waits_55 (X := mnI_X8_waits) rfl rfl hx
theorem iX8_stepOne_0 : mn_ins 117 0 = some (8, false, .aload_n 0, 1) := by decide +kernel
theorem eX8_stepOne_0 : Ev 117 0 (some (.ref a) :: ls) (st) h r ↔ Ev 117 1 (some (.ref a) :: ls) (.ref a :: st) h r := ev_aload_n iX8_stepOne_0 rfl rfl
theorem iX8_stepOne_1 : mn_ins 117 1 = some (8, false, .dup, 1) := by decide +kernel
theorem eX8_stepOne_1 : Ev 117 1 (ls) (.ref a :: st) h r ↔ Ev 117 2 (ls) (.ref a :: .ref a :: st) h r := ev_dup iX8_stepOne_1 rfl
theorem iX8_stepOne_2 : mn_ins 117 2 = some (8, false, .getfield 147, 3) := by decide +kernel
theorem eX8_stepOne_2 : Ev 117 2 (ls) (.ref a :: st) h r ↔ Evk 117 5 ls (mn_gf h a 8 12) st h r := ev_getf iX8_stepOne_2 (by decide +kernel)
theorem iX8_stepOne_5 : mn_ins 117 5 = some (8, false, .iconst 1, 1) := by decide +kernel
theorem eX8_stepOne_5 : Ev 117 5 (ls) (st) h r ↔ Ev 117 6 (ls) (.int (nI 1) :: st) h r := ev_iconst iX8_stepOne_5 (by decide)
theorem iX8_stepOne_6 : mn_ins 117 6 = some (8, false, .iadd, 1) := by decide +kernel
theorem eX8_stepOne_6 : Ev 117 6 (ls) (.int y :: .int x :: st) h r ↔ Ev 117 7 (ls) (.int (x + y) :: st) h r := ev_iadd iX8_stepOne_6
theorem iX8_stepOne_7 : mn_ins 117 7 = some (8, false, .putfield 147, 3) := by decide +kernel
theorem eX8_stepOne_7 : Ev 117 7 (ls) (w :: .ref a :: st) h r ↔ Evh 117 10 ls st (mn_pf h a 8 12 w) r := ev_putf iX8_stepOne_7 (by decide +kernel) (by decide +kernel)
theorem iX8_stepOne_10 : mn_ins 117 10 = some (8, false, .aload_n 0, 1) := by decide +kernel
theorem eX8_stepOne_10 : Ev 117 10 (some (.ref a) :: ls) (st) h r ↔ Ev 117 11 (some (.ref a) :: ls) (.ref a :: st) h r := ev_aload_n iX8_stepOne_10 rfl rfl
theorem iX8_stepOne_11 : mn_ins 117 11 = some (8, false, .getfield 51, 3) := by decide +kernel
theorem eX8_stepOne_11 : Ev 117 11 (ls) (.ref a :: st) h r ↔ Evk 117 14 ls (mn_gf h a 8 20) st h r := ev_getf iX8_stepOne_11 (by decide +kernel)
theorem iX8_stepOne_14 : mn_ins 117 14 = some (8, false, .iload_n 1, 1) := by decide +kernel
theorem eX8_stepOne_14 : Ev 117 14 (a0 :: some (.int x) :: ls) (st) h r ↔ Ev 117 15 (a0 :: some (.int x) :: ls) (.int x :: st) h r := ev_iload_n iX8_stepOne_14 rfl
theorem iX8_stepOne_15 : mn_ins 117 15 = some (8, false, .dup2, 1) := by decide +kernel
theorem eX8_stepOne_15 : Ev 117 15 (ls) (.int x :: .ref a :: st) h r ↔ Ev 117 16 (ls) (.int x :: .ref a :: .int x :: .ref a :: st) h r := ev_dup2 iX8_stepOne_15 rfl rfl
theorem iX8_stepOne_16 : mn_ins 117 16 = some (8, false, .iaload, 1) := by decide +kernel
theorem eX8_stepOne_16 : Ev 117 16 (ls) (.int x :: .ref a :: st) h r ↔ Evk 117 17 ls (mn_al h a 0 x) st h r := ev_iald iX8_stepOne_16
theorem iX8_stepOne_17 : mn_ins 117 17 = some (8, false, .iconst 1, 1) := by decide +kernel
theorem eX8_stepOne_17 : Ev 117 17 (ls) (st) h r ↔ Ev 117 18 (ls) (.int (nI 1) :: st) h r := ev_iconst iX8_stepOne_17 (by decide)
theorem iX8_stepOne_18 : mn_ins 117 18 = some (8, false, .iadd, 1) := by decide +kernel
theorem eX8_stepOne_18 : Ev 117 18 (ls) (.int y :: .int x :: st) h r ↔ Ev 117 19 (ls) (.int (x + y) :: st) h r := ev_iadd iX8_stepOne_18
theorem iX8_stepOne_19 : mn_ins 117 19 = some (8, false, .iastore, 1) := by decide +kernel
theorem eX8_stepOne_19 : Ev 117 19 (ls) (.int y :: .int x :: .ref a :: st) h r ↔ Evh 117 20 ls st (mn_asi h a x y) r := ev_iast iX8_stepOne_19
theorem iX8_stepOne_20 : mn_ins 117 20 = some (8, false, .aload_n 0, 1) := by decide +kernel
theorem eX8_stepOne_20 : Ev 117 20 (some (.ref a) :: ls) (st) h r ↔ Ev 117 21 (some (.ref a) :: ls) (.ref a :: st) h r := ev_aload_n iX8_stepOne_20 rfl rfl
theorem iX8_stepOne_21 : mn_ins 117 21 = some (8, false, .getfield 17, 3) := by decide +kernel
theorem eX8_stepOne_21 : Ev 117 21 (ls) (.ref a :: st) h r ↔ Evk 117 24 ls (mn_gf h a 8 5) st h r := ev_getf iX8_stepOne_21 (by decide +kernel)
theorem iX8_stepOne_24 : mn_ins 117 24 = some (8, false, .bipush 24, 2) := by decide +kernel
theorem eX8_stepOne_24 : Ev 117 24 (ls) (st) h r ↔ Ev 117 26 (ls) (.int (nI 24) :: st) h r := ev_bipush iX8_stepOne_24 (by decide)
theorem iX8_stepOne_26 : mn_ins 117 26 = some (8, false, .aload_n 0, 1) := by decide +kernel
theorem eX8_stepOne_26 : Ev 117 26 (some (.ref a) :: ls) (st) h r ↔ Ev 117 27 (some (.ref a) :: ls) (.ref a :: st) h r := ev_aload_n iX8_stepOne_26 rfl rfl
theorem iX8_stepOne_27 : mn_ins 117 27 = some (8, false, .getfield 33, 3) := by decide +kernel
theorem eX8_stepOne_27 : Ev 117 27 (ls) (.ref a :: st) h r ↔ Evk 117 30 ls (mn_gf h a 8 14) st h r := ev_getf iX8_stepOne_27 (by decide +kernel)
theorem iX8_stepOne_30 : mn_ins 117 30 = some (8, false, .iload_n 1, 1) := by decide +kernel
theorem eX8_stepOne_30 : Ev 117 30 (a0 :: some (.int x) :: ls) (st) h r ↔ Ev 117 31 (a0 :: some (.int x) :: ls) (.int x :: st) h r := ev_iload_n iX8_stepOne_30 rfl
theorem iX8_stepOne_31 : mn_ins 117 31 = some (8, false, .iaload, 1) := by decide +kernel
theorem eX8_stepOne_31 : Ev 117 31 (ls) (.int x :: .ref a :: st) h r ↔ Evk 117 32 ls (mn_al h a 0 x) st h r := ev_iald iX8_stepOne_31
theorem iX8_stepOne_32 : mn_ins 117 32 = some (8, false, .imul, 1) := by decide +kernel
theorem eX8_stepOne_32 : Ev 117 32 (ls) (.int y :: .int x :: st) h r ↔ Ev 117 33 (ls) (.int (x * y) :: st) h r := ev_imul iX8_stepOne_32
theorem iX8_stepOne_33 : mn_ins 117 33 = some (8, false, .aload_n 0, 1) := by decide +kernel
theorem eX8_stepOne_33 : Ev 117 33 (some (.ref a) :: ls) (st) h r ↔ Ev 117 34 (some (.ref a) :: ls) (.ref a :: st) h r := ev_aload_n iX8_stepOne_33 rfl rfl
theorem iX8_stepOne_34 : mn_ins 117 34 = some (8, false, .getfield 36, 3) := by decide +kernel
theorem eX8_stepOne_34 : Ev 117 34 (ls) (.ref a :: st) h r ↔ Evk 117 37 ls (mn_gf h a 8 15) st h r := ev_getf iX8_stepOne_34 (by decide +kernel)
theorem iX8_stepOne_37 : mn_ins 117 37 = some (8, false, .iload_n 1, 1) := by decide +kernel
theorem eX8_stepOne_37 : Ev 117 37 (a0 :: some (.int x) :: ls) (st) h r ↔ Ev 117 38 (a0 :: some (.int x) :: ls) (.int x :: st) h r := ev_iload_n iX8_stepOne_37 rfl
theorem iX8_stepOne_38 : mn_ins 117 38 = some (8, false, .iaload, 1) := by decide +kernel
theorem eX8_stepOne_38 : Ev 117 38 (ls) (.int x :: .ref a :: st) h r ↔ Evk 117 39 ls (mn_al h a 0 x) st h r := ev_iald iX8_stepOne_38
theorem iX8_stepOne_39 : mn_ins 117 39 = some (8, false, .iadd, 1) := by decide +kernel
theorem eX8_stepOne_39 : Ev 117 39 (ls) (.int y :: .int x :: st) h r ↔ Ev 117 40 (ls) (.int (x + y) :: st) h r := ev_iadd iX8_stepOne_39
theorem iX8_stepOne_40 : mn_ins 117 40 = some (8, false, .iaload, 1) := by decide +kernel
theorem eX8_stepOne_40 : Ev 117 40 (ls) (.int x :: .ref a :: st) h r ↔ Evk 117 41 ls (mn_al h a 0 x) st h r := ev_iald iX8_stepOne_40
theorem iX8_stepOne_41 : mn_ins 117 41 = some (8, false, .istore_n 2, 1) := by decide +kernel
theorem eX8_stepOne_41 : Ev 117 41 (a0 :: a1 :: a2 :: ls) (.int x :: st) h r ↔ Ev 117 42 (a0 :: mn_k a1 :: some (.int x) :: ls) (st) h r := ev_istore_n iX8_stepOne_41 (by show 2 < _; simp only [List.length_cons]; omega)
theorem iX8_stepOne_42 : mn_ins 117 42 = some (8, false, .aload_n 0, 1) := by decide +kernel
theorem eX8_stepOne_42 : Ev 117 42 (some (.ref a) :: ls) (st) h r ↔ Ev 117 43 (some (.ref a) :: ls) (.ref a :: st) h r := ev_aload_n iX8_stepOne_42 rfl rfl
theorem iX8_stepOne_43 : mn_ins 117 43 = some (8, false, .getfield 20, 3) := by decide +kernel
theorem eX8_stepOne_43 : Ev 117 43 (ls) (.ref a :: st) h r ↔ Evk 117 46 ls (mn_gf h a 8 6) st h r := ev_getf iX8_stepOne_43 (by decide +kernel)
theorem iX8_stepOne_46 : mn_ins 117 46 = some (8, false, .bipush 24, 2) := by decide +kernel
theorem eX8_stepOne_46 : Ev 117 46 (ls) (st) h r ↔ Ev 117 48 (ls) (.int (nI 24) :: st) h r := ev_bipush iX8_stepOne_46 (by decide)
theorem iX8_stepOne_48 : mn_ins 117 48 = some (8, false, .aload_n 0, 1) := by decide +kernel
theorem eX8_stepOne_48 : Ev 117 48 (some (.ref a) :: ls) (st) h r ↔ Ev 117 49 (some (.ref a) :: ls) (.ref a :: st) h r := ev_aload_n iX8_stepOne_48 rfl rfl
theorem iX8_stepOne_49 : mn_ins 117 49 = some (8, false, .getfield 33, 3) := by decide +kernel
theorem eX8_stepOne_49 : Ev 117 49 (ls) (.ref a :: st) h r ↔ Evk 117 52 ls (mn_gf h a 8 14) st h r := ev_getf iX8_stepOne_49 (by decide +kernel)
theorem iX8_stepOne_52 : mn_ins 117 52 = some (8, false, .iload_n 1, 1) := by decide +kernel
theorem eX8_stepOne_52 : Ev 117 52 (a0 :: some (.int x) :: ls) (st) h r ↔ Ev 117 53 (a0 :: some (.int x) :: ls) (.int x :: st) h r := ev_iload_n iX8_stepOne_52 rfl
theorem iX8_stepOne_53 : mn_ins 117 53 = some (8, false, .iaload, 1) := by decide +kernel
theorem eX8_stepOne_53 : Ev 117 53 (ls) (.int x :: .ref a :: st) h r ↔ Evk 117 54 ls (mn_al h a 0 x) st h r := ev_iald iX8_stepOne_53
theorem iX8_stepOne_54 : mn_ins 117 54 = some (8, false, .imul, 1) := by decide +kernel
theorem eX8_stepOne_54 : Ev 117 54 (ls) (.int y :: .int x :: st) h r ↔ Ev 117 55 (ls) (.int (x * y) :: st) h r := ev_imul iX8_stepOne_54
theorem iX8_stepOne_55 : mn_ins 117 55 = some (8, false, .aload_n 0, 1) := by decide +kernel
theorem eX8_stepOne_55 : Ev 117 55 (some (.ref a) :: ls) (st) h r ↔ Ev 117 56 (some (.ref a) :: ls) (.ref a :: st) h r := ev_aload_n iX8_stepOne_55 rfl rfl
theorem iX8_stepOne_56 : mn_ins 117 56 = some (8, false, .getfield 36, 3) := by decide +kernel
theorem eX8_stepOne_56 : Ev 117 56 (ls) (.ref a :: st) h r ↔ Evk 117 59 ls (mn_gf h a 8 15) st h r := ev_getf iX8_stepOne_56 (by decide +kernel)
theorem iX8_stepOne_59 : mn_ins 117 59 = some (8, false, .iload_n 1, 1) := by decide +kernel
theorem eX8_stepOne_59 : Ev 117 59 (a0 :: some (.int x) :: ls) (st) h r ↔ Ev 117 60 (a0 :: some (.int x) :: ls) (.int x :: st) h r := ev_iload_n iX8_stepOne_59 rfl
theorem iX8_stepOne_60 : mn_ins 117 60 = some (8, false, .iaload, 1) := by decide +kernel
theorem eX8_stepOne_60 : Ev 117 60 (ls) (.int x :: .ref a :: st) h r ↔ Evk 117 61 ls (mn_al h a 0 x) st h r := ev_iald iX8_stepOne_60
theorem iX8_stepOne_61 : mn_ins 117 61 = some (8, false, .iadd, 1) := by decide +kernel
theorem eX8_stepOne_61 : Ev 117 61 (ls) (.int y :: .int x :: st) h r ↔ Ev 117 62 (ls) (.int (x + y) :: st) h r := ev_iadd iX8_stepOne_61
theorem iX8_stepOne_62 : mn_ins 117 62 = some (8, false, .iaload, 1) := by decide +kernel
theorem eX8_stepOne_62 : Ev 117 62 (ls) (.int x :: .ref a :: st) h r ↔ Evk 117 63 ls (mn_al h a 0 x) st h r := ev_iald iX8_stepOne_62
theorem iX8_stepOne_63 : mn_ins 117 63 = some (8, false, .istore_n 3, 1) := by decide +kernel
theorem eX8_stepOne_63 : Ev 117 63 (a0 :: a1 :: a2 :: a3 :: ls) (.int x :: st) h r ↔ Ev 117 64 (a0 :: a1 :: mn_k a2 :: some (.int x) :: ls) (st) h r := ev_istore_n iX8_stepOne_63 (by show 3 < _; simp only [List.length_cons]; omega)
theorem iX8_stepOne_64 : mn_ins 117 64 = some (8, false, .iload_n 2, 1) := by decide +kernel
theorem eX8_stepOne_64 : Ev 117 64 (a0 :: a1 :: some (.int x) :: ls) (st) h r ↔ Ev 117 65 (a0 :: a1 :: some (.int x) :: ls) (.int x :: st) h r := ev_iload_n iX8_stepOne_64 rfl
theorem iX8_stepOne_65 : mn_ins 117 65 = some (8, false, .bipush 14, 2) := by decide +kernel
theorem eX8_stepOne_65 : Ev 117 65 (ls) (st) h r ↔ Ev 117 67 (ls) (.int (nI 14) :: st) h r := ev_bipush iX8_stepOne_65 (by decide)
theorem iX8_stepOne_67 : mn_ins 117 67 = some (8, false, .if_icmp .ne 9, 3) := by decide +kernel
theorem eX8_stepOne_67 : Ev 117 67 (ls) (.int y :: .int x :: st) h r ↔ if x = y then Ev 117 70 (ls) (st) h r else Ev 117 76 (ls) (st) h r := ev_cmpne iX8_stepOne_67 (by decide)
theorem iX8_stepOne_70 : mn_ins 117 70 = some (8, false, .aload_n 0, 1) := by decide +kernel
theorem eX8_stepOne_70 : Ev 117 70 (some (.ref a) :: ls) (st) h r ↔ Ev 117 71 (some (.ref a) :: ls) (.ref a :: st) h r := ev_aload_n iX8_stepOne_70 rfl rfl
theorem iX8_stepOne_71 : mn_ins 117 71 = some (8, false, .iload_n 1, 1) := by decide +kernel
theorem eX8_stepOne_71 : Ev 117 71 (a0 :: some (.int x) :: ls) (st) h r ↔ Ev 117 72 (a0 :: some (.int x) :: ls) (.int x :: st) h r := ev_iload_n iX8_stepOne_71 rfl
theorem iX8_stepOne_72 : mn_ins 117 72 = some (8, false, .invokevirtual 177, 3) := by decide +kernel
theorem eX8_stepOne_72 : Ev 117 72 (ls) (.int x0 :: .ref b :: st) h r ↔ Evr true (decide (mn_cats st ≤ 8) && mn_isc h b 8) 117 72 ls st h.2.2.1 h.2.2.2 (Cl 120 (.ref b :: [.int x0]) h.1 h.2.1) r := Ev_V (As := [.int x0]) iX8_stepOne_72 (by decide +kernel) (x := mnI_X8_stepOne) (x2 := mnI_X8_join) rfl rfl rfl (by decide +kernel) (Nat.le_of_ble_eq_true rfl) rfl
theorem iX8_stepOne_75 : mn_ins 117 75 = some (8, false, .return_, 1) := by decide +kernel
theorem eX8_stepOne_75 : Ev 117 75 (ls) [] h r ↔ r = (h, .inl none) := ev_vret iX8_stepOne_75 (X := mnI_X8_stepOne) rfl rfl
theorem iX8_stepOne_76 : mn_ins 117 76 = some (8, false, .iload_n 2, 1) := by decide +kernel
theorem eX8_stepOne_76 : Ev 117 76 (a0 :: a1 :: some (.int x) :: ls) (st) h r ↔ Ev 117 77 (a0 :: a1 :: some (.int x) :: ls) (.int x :: st) h r := ev_iload_n iX8_stepOne_76 rfl
theorem iX8_stepOne_77 : mn_ins 117 77 = some (8, false, .bipush 13, 2) := by decide +kernel
theorem eX8_stepOne_77 : Ev 117 77 (ls) (st) h r ↔ Ev 117 79 (ls) (.int (nI 13) :: st) h r := ev_bipush iX8_stepOne_77 (by decide)
theorem iX8_stepOne_79 : mn_ins 117 79 = some (8, false, .if_icmp .ne 19, 3) := by decide +kernel
theorem eX8_stepOne_79 : Ev 117 79 (ls) (.int y :: .int x :: st) h r ↔ if x = y then Ev 117 82 (ls) (st) h r else Ev 117 98 (ls) (st) h r := ev_cmpne iX8_stepOne_79 (by decide)
theorem iX8_stepOne_82 : mn_ins 117 82 = some (8, false, .aload_n 0, 1) := by decide +kernel
theorem eX8_stepOne_82 : Ev 117 82 (some (.ref a) :: ls) (st) h r ↔ Ev 117 83 (some (.ref a) :: ls) (.ref a :: st) h r := ev_aload_n iX8_stepOne_82 rfl rfl
theorem iX8_stepOne_83 : mn_ins 117 83 = some (8, false, .getfield 144, 3) := by decide +kernel
theorem eX8_stepOne_83 : Ev 117 83 (ls) (.ref a :: st) h r ↔ Evk 117 86 ls (mn_gf h a 8 11) st h r := ev_getf iX8_stepOne_83 (by decide +kernel)
theorem iX8_stepOne_86 : mn_ins 117 86 = some (8, false, .bipush 12, 2) := by decide +kernel
theorem eX8_stepOne_86 : Ev 117 86 (ls) (st) h r ↔ Ev 117 88 (ls) (.int (nI 12) :: st) h r := ev_bipush iX8_stepOne_86 (by decide)
theorem iX8_stepOne_88 : mn_ins 117 88 = some (8, false, .if_icmp .ne 10, 3) := by decide +kernel
theorem eX8_stepOne_88 : Ev 117 88 (ls) (.int y :: .int x :: st) h r ↔ if x = y then Ev 117 91 (ls) (st) h r else Ev 117 98 (ls) (st) h r := ev_cmpne iX8_stepOne_88 (by decide)
theorem iX8_stepOne_91 : mn_ins 117 91 = some (8, false, .aload_n 0, 1) := by decide +kernel
theorem eX8_stepOne_91 : Ev 117 91 (some (.ref a) :: ls) (st) h r ↔ Ev 117 92 (some (.ref a) :: ls) (.ref a :: st) h r := ev_aload_n iX8_stepOne_91 rfl rfl
theorem iX8_stepOne_92 : mn_ins 117 92 = some (8, false, .iload_n 1, 1) := by decide +kernel
theorem eX8_stepOne_92 : Ev 117 92 (a0 :: some (.int x) :: ls) (st) h r ↔ Ev 117 93 (a0 :: some (.int x) :: ls) (.int x :: st) h r := ev_iload_n iX8_stepOne_92 rfl
theorem iX8_stepOne_93 : mn_ins 117 93 = some (8, false, .iconst 3, 1) := by decide +kernel
theorem eX8_stepOne_93 : Ev 117 93 (ls) (st) h r ↔ Ev 117 94 (ls) (.int (nI 3) :: st) h r := ev_iconst iX8_stepOne_93 (by decide)
theorem iX8_stepOne_94 : mn_ins 117 94 = some (8, false, .invokevirtual 180, 3) := by decide +kernel
theorem eX8_stepOne_94 : Ev 117 94 (ls) (.int x1 :: .int x0 :: .ref b :: st) h r ↔ Evr true (decide (mn_cats st ≤ 8) && mn_isc h b 8) 117 94 ls st h.2.2.1 h.2.2.2 (Cl 109 (.ref b :: [.int x0, .int x1]) h.1 h.2.1) r := Ev_V (As := [.int x0, .int x1]) iX8_stepOne_94 (by decide +kernel) (x := mnI_X8_stepOne) (x2 := mnI_X8_fail) rfl rfl rfl (by decide +kernel) (Nat.le_of_ble_eq_true rfl) rfl
theorem iX8_stepOne_97 : mn_ins 117 97 = some (8, false, .return_, 1) := by decide +kernel
theorem eX8_stepOne_97 : Ev 117 97 (ls) [] h r ↔ r = (h, .inl none) := ev_vret iX8_stepOne_97 (X := mnI_X8_stepOne) rfl rfl
theorem iX8_stepOne_98 : mn_ins 117 98 = some (8, false, .iload_n 2, 1) := by decide +kernel
theorem eX8_stepOne_98 : Ev 117 98 (a0 :: a1 :: some (.int x) :: ls) (st) h r ↔ Ev 117 99 (a0 :: a1 :: some (.int x) :: ls) (.int x :: st) h r := ev_iload_n iX8_stepOne_98 rfl
theorem iX8_stepOne_99 : mn_ins 117 99 = some (8, false, .bipush 15, 2) := by decide +kernel
theorem eX8_stepOne_99 : Ev 117 99 (ls) (st) h r ↔ Ev 117 101 (ls) (.int (nI 15) :: st) h r := ev_bipush iX8_stepOne_99 (by decide)
theorem iX8_stepOne_101 : mn_ins 117 101 = some (8, false, .if_icmp .ne 21, 3) := by decide +kernel
theorem eX8_stepOne_101 : Ev 117 101 (ls) (.int y :: .int x :: st) h r ↔ if x = y then Ev 117 104 (ls) (st) h r else Ev 117 122 (ls) (st) h r := ev_cmpne iX8_stepOne_101 (by decide)
theorem iX8_stepOne_104 : mn_ins 117 104 = some (8, false, .aload_n 0, 1) := by decide +kernel
theorem eX8_stepOne_104 : Ev 117 104 (some (.ref a) :: ls) (st) h r ↔ Ev 117 105 (some (.ref a) :: ls) (.ref a :: st) h r := ev_aload_n iX8_stepOne_104 rfl rfl
theorem iX8_stepOne_105 : mn_ins 117 105 = some (8, false, .getfield 64, 3) := by decide +kernel
theorem eX8_stepOne_105 : Ev 117 105 (ls) (.ref a :: st) h r ↔ Evk 117 108 ls (mn_gf h a 8 24) st h r := ev_getf iX8_stepOne_105 (by decide +kernel)
theorem iX8_stepOne_108 : mn_ins 117 108 = some (8, false, .iload_n 1, 1) := by decide +kernel
theorem eX8_stepOne_108 : Ev 117 108 (a0 :: some (.int x) :: ls) (st) h r ↔ Ev 117 109 (a0 :: some (.int x) :: ls) (.int x :: st) h r := ev_iload_n iX8_stepOne_108 rfl
theorem iX8_stepOne_109 : mn_ins 117 109 = some (8, false, .iaload, 1) := by decide +kernel
theorem eX8_stepOne_109 : Ev 117 109 (ls) (.int x :: .ref a :: st) h r ↔ Evk 117 110 ls (mn_al h a 0 x) st h r := ev_iald iX8_stepOne_109
theorem iX8_stepOne_110 : mn_ins 117 110 = some (8, false, .bipush 30, 2) := by decide +kernel
theorem eX8_stepOne_110 : Ev 117 110 (ls) (st) h r ↔ Ev 117 112 (ls) (.int (nI 30) :: st) h r := ev_bipush iX8_stepOne_110 (by decide)
theorem iX8_stepOne_112 : mn_ins 117 112 = some (8, false, .if_icmp .ne 10, 3) := by decide +kernel
theorem eX8_stepOne_112 : Ev 117 112 (ls) (.int y :: .int x :: st) h r ↔ if x = y then Ev 117 115 (ls) (st) h r else Ev 117 122 (ls) (st) h r := ev_cmpne iX8_stepOne_112 (by decide)
theorem iX8_stepOne_115 : mn_ins 117 115 = some (8, false, .aload_n 0, 1) := by decide +kernel
theorem eX8_stepOne_115 : Ev 117 115 (some (.ref a) :: ls) (st) h r ↔ Ev 117 116 (some (.ref a) :: ls) (.ref a :: st) h r := ev_aload_n iX8_stepOne_115 rfl rfl
theorem iX8_stepOne_116 : mn_ins 117 116 = some (8, false, .iload_n 1, 1) := by decide +kernel
theorem eX8_stepOne_116 : Ev 117 116 (a0 :: some (.int x) :: ls) (st) h r ↔ Ev 117 117 (a0 :: some (.int x) :: ls) (.int x :: st) h r := ev_iload_n iX8_stepOne_116 rfl
theorem iX8_stepOne_117 : mn_ins 117 117 = some (8, false, .iconst 4, 1) := by decide +kernel
theorem eX8_stepOne_117 : Ev 117 117 (ls) (st) h r ↔ Ev 117 118 (ls) (.int (nI 4) :: st) h r := ev_iconst iX8_stepOne_117 (by decide)
theorem iX8_stepOne_118 : mn_ins 117 118 = some (8, false, .invokevirtual 180, 3) := by decide +kernel
theorem eX8_stepOne_118 : Ev 117 118 (ls) (.int x1 :: .int x0 :: .ref b :: st) h r ↔ Evr true (decide (mn_cats st ≤ 8) && mn_isc h b 8) 117 118 ls st h.2.2.1 h.2.2.2 (Cl 109 (.ref b :: [.int x0, .int x1]) h.1 h.2.1) r := Ev_V (As := [.int x0, .int x1]) iX8_stepOne_118 (by decide +kernel) (x := mnI_X8_stepOne) (x2 := mnI_X8_fail) rfl rfl rfl (by decide +kernel) (Nat.le_of_ble_eq_true rfl) rfl
theorem iX8_stepOne_121 : mn_ins 117 121 = some (8, false, .return_, 1) := by decide +kernel
theorem eX8_stepOne_121 : Ev 117 121 (ls) [] h r ↔ r = (h, .inl none) := ev_vret iX8_stepOne_121 (X := mnI_X8_stepOne) rfl rfl
theorem iX8_stepOne_122 : mn_ins 117 122 = some (8, false, .aload_n 0, 1) := by decide +kernel
theorem eX8_stepOne_122 : Ev 117 122 (some (.ref a) :: ls) (st) h r ↔ Ev 117 123 (some (.ref a) :: ls) (.ref a :: st) h r := ev_aload_n iX8_stepOne_122 rfl rfl
theorem iX8_stepOne_123 : mn_ins 117 123 = some (8, false, .getfield 36, 3) := by decide +kernel
theorem eX8_stepOne_123 : Ev 117 123 (ls) (.ref a :: st) h r ↔ Evk 117 126 ls (mn_gf h a 8 15) st h r := ev_getf iX8_stepOne_123 (by decide +kernel)
theorem iX8_stepOne_126 : mn_ins 117 126 = some (8, false, .iload_n 1, 1) := by decide +kernel
theorem eX8_stepOne_126 : Ev 117 126 (a0 :: some (.int x) :: ls) (st) h r ↔ Ev 117 127 (a0 :: some (.int x) :: ls) (.int x :: st) h r := ev_iload_n iX8_stepOne_126 rfl
theorem iX8_stepOne_127 : mn_ins 117 127 = some (8, false, .dup2, 1) := by decide +kernel
theorem eX8_stepOne_127 : Ev 117 127 (ls) (.int x :: .ref a :: st) h r ↔ Ev 117 128 (ls) (.int x :: .ref a :: .int x :: .ref a :: st) h r := ev_dup2 iX8_stepOne_127 rfl rfl
theorem iX8_stepOne_128 : mn_ins 117 128 = some (8, false, .iaload, 1) := by decide +kernel
theorem eX8_stepOne_128 : Ev 117 128 (ls) (.int x :: .ref a :: st) h r ↔ Evk 117 129 ls (mn_al h a 0 x) st h r := ev_iald iX8_stepOne_128
theorem iX8_stepOne_129 : mn_ins 117 129 = some (8, false, .iconst 1, 1) := by decide +kernel
theorem eX8_stepOne_129 : Ev 117 129 (ls) (st) h r ↔ Ev 117 130 (ls) (.int (nI 1) :: st) h r := ev_iconst iX8_stepOne_129 (by decide)
theorem iX8_stepOne_130 : mn_ins 117 130 = some (8, false, .iadd, 1) := by decide +kernel
theorem eX8_stepOne_130 : Ev 117 130 (ls) (.int y :: .int x :: st) h r ↔ Ev 117 131 (ls) (.int (x + y) :: st) h r := ev_iadd iX8_stepOne_130
theorem iX8_stepOne_131 : mn_ins 117 131 = some (8, false, .iastore, 1) := by decide +kernel
theorem eX8_stepOne_131 : Ev 117 131 (ls) (.int y :: .int x :: .ref a :: st) h r ↔ Evh 117 132 ls st (mn_asi h a x y) r := ev_iast iX8_stepOne_131
theorem iX8_stepOne_132 : mn_ins 117 132 = some (8, false, .iload_n 2, 1) := by decide +kernel
theorem eX8_stepOne_132 : Ev 117 132 (a0 :: a1 :: some (.int x) :: ls) (st) h r ↔ Ev 117 133 (a0 :: a1 :: some (.int x) :: ls) (.int x :: st) h r := ev_iload_n iX8_stepOne_132 rfl
theorem iX8_stepOne_133 : mn_ins 117 133 = some (8, false, .iconst 5, 1) := by decide +kernel
theorem eX8_stepOne_133 : Ev 117 133 (ls) (st) h r ↔ Ev 117 134 (ls) (.int (nI 5) :: st) h r := ev_iconst iX8_stepOne_133 (by decide)
theorem iX8_stepOne_134 : mn_ins 117 134 = some (8, false, .if_icmp .lt 35, 3) := by decide +kernel
theorem eX8_stepOne_134 : Ev 117 134 (ls) (.int y :: .int x :: st) h r ↔ if x < y then Ev 117 169 (ls) (st) h r else Ev 117 137 (ls) (st) h r := ev_cmplt iX8_stepOne_134 (by decide)
theorem iX8_stepOne_137 : mn_ins 117 137 = some (8, false, .iload_n 2, 1) := by decide +kernel
theorem eX8_stepOne_137 : Ev 117 137 (a0 :: a1 :: some (.int x) :: ls) (st) h r ↔ Ev 117 138 (a0 :: a1 :: some (.int x) :: ls) (.int x :: st) h r := ev_iload_n iX8_stepOne_137 rfl
theorem iX8_stepOne_138 : mn_ins 117 138 = some (8, false, .bipush 10, 2) := by decide +kernel
theorem eX8_stepOne_138 : Ev 117 138 (ls) (st) h r ↔ Ev 117 140 (ls) (.int (nI 10) :: st) h r := ev_bipush iX8_stepOne_138 (by decide)
theorem iX8_stepOne_140 : mn_ins 117 140 = some (8, false, .if_icmp .gt 29, 3) := by decide +kernel
theorem eX8_stepOne_140 : Ev 117 140 (ls) (.int y :: .int x :: st) h r ↔ if y < x then Ev 117 169 (ls) (st) h r else Ev 117 143 (ls) (st) h r := ev_cmpgt iX8_stepOne_140 (by decide)
theorem iX8_stepOne_143 : mn_ins 117 143 = some (8, false, .aload_n 0, 1) := by decide +kernel
theorem eX8_stepOne_143 : Ev 117 143 (some (.ref a) :: ls) (st) h r ↔ Ev 117 144 (some (.ref a) :: ls) (.ref a :: st) h r := ev_aload_n iX8_stepOne_143 rfl rfl
theorem iX8_stepOne_144 : mn_ins 117 144 = some (8, false, .iload_n 1, 1) := by decide +kernel
theorem eX8_stepOne_144 : Ev 117 144 (a0 :: some (.int x) :: ls) (st) h r ↔ Ev 117 145 (a0 :: some (.int x) :: ls) (.int x :: st) h r := ev_iload_n iX8_stepOne_144 rfl
theorem iX8_stepOne_145 : mn_ins 117 145 = some (8, false, .invokevirtual 184, 3) := by decide +kernel
theorem eX8_stepOne_145 : Ev 117 145 (ls) (.int x0 :: .ref b :: st) h r ↔ Evr true (decide (mn_cats st ≤ 8) && mn_isc h b 8) 117 145 ls st h.2.2.1 h.2.2.2 (Cl 111 (.ref b :: [.int x0]) h.1 h.2.1) r := Ev_V (As := [.int x0]) iX8_stepOne_145 (by decide +kernel) (x := mnI_X8_stepOne) (x2 := mnI_X8_pop) rfl rfl rfl (by decide +kernel) (Nat.le_of_ble_eq_true rfl) rfl
theorem iX8_stepOne_148 : mn_ins 117 148 = some (8, false, .lstore 4, 2) := by decide +kernel
theorem eX8_stepOne_148 : Ev 117 148 (a0 :: a1 :: a2 :: a3 :: a4 :: a5 :: ls) (.long u :: st) h r ↔ Ev 117 150 (a0 :: a1 :: a2 :: mn_k a3 :: some (.long u) :: none :: ls) (st) h r := ev_lstore iX8_stepOne_148 (by show 5 < _; simp only [List.length_cons]; omega)
theorem iX8_stepOne_150 : mn_ins 117 150 = some (8, false, .aload_n 0, 1) := by decide +kernel
theorem eX8_stepOne_150 : Ev 117 150 (some (.ref a) :: ls) (st) h r ↔ Ev 117 151 (some (.ref a) :: ls) (.ref a :: st) h r := ev_aload_n iX8_stepOne_150 rfl rfl
theorem iX8_stepOne_151 : mn_ins 117 151 = some (8, false, .iload_n 1, 1) := by decide +kernel
theorem eX8_stepOne_151 : Ev 117 151 (a0 :: some (.int x) :: ls) (st) h r ↔ Ev 117 152 (a0 :: some (.int x) :: ls) (.int x :: st) h r := ev_iload_n iX8_stepOne_151 rfl
theorem iX8_stepOne_152 : mn_ins 117 152 = some (8, false, .iload_n 2, 1) := by decide +kernel
theorem eX8_stepOne_152 : Ev 117 152 (a0 :: a1 :: some (.int x) :: ls) (st) h r ↔ Ev 117 153 (a0 :: a1 :: some (.int x) :: ls) (.int x :: st) h r := ev_iload_n iX8_stepOne_152 rfl
theorem iX8_stepOne_153 : mn_ins 117 153 = some (8, false, .aload_n 0, 1) := by decide +kernel
theorem eX8_stepOne_153 : Ev 117 153 (some (.ref a) :: ls) (st) h r ↔ Ev 117 154 (some (.ref a) :: ls) (.ref a :: st) h r := ev_aload_n iX8_stepOne_153 rfl rfl
theorem iX8_stepOne_154 : mn_ins 117 154 = some (8, false, .iload_n 1, 1) := by decide +kernel
theorem eX8_stepOne_154 : Ev 117 154 (a0 :: some (.int x) :: ls) (st) h r ↔ Ev 117 155 (a0 :: some (.int x) :: ls) (.int x :: st) h r := ev_iload_n iX8_stepOne_154 rfl
theorem iX8_stepOne_155 : mn_ins 117 155 = some (8, false, .invokevirtual 184, 3) := by decide +kernel
theorem eX8_stepOne_155 : Ev 117 155 (ls) (.int x0 :: .ref b :: st) h r ↔ Evr true (decide (mn_cats st ≤ 8) && mn_isc h b 8) 117 155 ls st h.2.2.1 h.2.2.2 (Cl 111 (.ref b :: [.int x0]) h.1 h.2.1) r := Ev_V (As := [.int x0]) iX8_stepOne_155 (by decide +kernel) (x := mnI_X8_stepOne) (x2 := mnI_X8_pop) rfl rfl rfl (by decide +kernel) (Nat.le_of_ble_eq_true rfl) rfl
theorem iX8_stepOne_158 : mn_ins 117 158 = some (8, false, .lload 4, 2) := by decide +kernel
theorem eX8_stepOne_158 : Ev 117 158 (a0 :: a1 :: a2 :: a3 :: some (.long u) :: ls) (st) h r ↔ Ev 117 160 (a0 :: a1 :: a2 :: a3 :: some (.long u) :: ls) (.long u :: st) h r := ev_lload iX8_stepOne_158 rfl
theorem iX8_stepOne_160 : mn_ins 117 160 = some (8, false, .invokestatic 187, 3) := by decide +kernel
theorem eX8_stepOne_160 : Ev 117 160 (ls) (.long u2 :: .long u1 :: .int x0 :: st) h r ↔ Evr false (decide (mn_cats st ≤ 8)) 117 160 ls st h.2.2.1 h.2.2.2 (Cl 113 [.int x0, .long u1, .long u2] h.1 h.2.1) r := Ev_T (As := [.int x0, .long u1, .long u2]) (q := 1) iX8_stepOne_160 (by decide +kernel) (by decide) (x := mnI_X8_stepOne) (x2 := mnI_X8_reckon) rfl rfl rfl (by decide +kernel) (Nat.le_of_ble_eq_true rfl) rfl
theorem iX8_stepOne_163 : mn_ins 117 163 = some (8, false, .invokevirtual 191, 3) := by decide +kernel
theorem eX8_stepOne_163 : Ev 117 163 (ls) (.long u1 :: .int x0 :: .ref b :: st) h r ↔ Evr true (decide (mn_cats st ≤ 8) && mn_isc h b 8) 117 163 ls st h.2.2.1 h.2.2.2 (Cl 112 (.ref b :: [.int x0, .long u1]) h.1 h.2.1) r := Ev_V (As := [.int x0, .long u1]) iX8_stepOne_163 (by decide +kernel) (x := mnI_X8_stepOne) (x2 := mnI_X8_push) rfl rfl rfl (by decide +kernel) (Nat.le_of_ble_eq_true rfl) rfl
theorem iX8_stepOne_166 : mn_ins 117 166 = some (8, false, .goto 76, 3) := by decide +kernel
theorem eX8_stepOne_166 : Ev 117 166 (ls) (st) h r ↔ Ev 117 242 (ls) (st) h r := ev_goto iX8_stepOne_166 (by decide)
theorem iX8_stepOne_169 : mn_ins 117 169 = some (8, false, .iload_n 2, 1) := by decide +kernel
theorem eX8_stepOne_169 : Ev 117 169 (a0 :: a1 :: some (.int x) :: ls) (st) h r ↔ Ev 117 170 (a0 :: a1 :: some (.int x) :: ls) (.int x :: st) h r := ev_iload_n iX8_stepOne_169 rfl
theorem iX8_stepOne_170 : mn_ins 117 170 = some (8, false, .bipush 13, 2) := by decide +kernel
theorem eX8_stepOne_170 : Ev 117 170 (ls) (st) h r ↔ Ev 117 172 (ls) (.int (nI 13) :: st) h r := ev_bipush iX8_stepOne_170 (by decide)
theorem iX8_stepOne_172 : mn_ins 117 172 = some (8, false, .if_icmp .ne 12, 3) := by decide +kernel
theorem eX8_stepOne_172 : Ev 117 172 (ls) (.int y :: .int x :: st) h r ↔ if x = y then Ev 117 175 (ls) (st) h r else Ev 117 184 (ls) (st) h r := ev_cmpne iX8_stepOne_172 (by decide)
theorem iX8_stepOne_175 : mn_ins 117 175 = some (8, false, .aload_n 0, 1) := by decide +kernel
theorem eX8_stepOne_175 : Ev 117 175 (some (.ref a) :: ls) (st) h r ↔ Ev 117 176 (some (.ref a) :: ls) (.ref a :: st) h r := ev_aload_n iX8_stepOne_175 rfl rfl
theorem iX8_stepOne_176 : mn_ins 117 176 = some (8, false, .iload_n 1, 1) := by decide +kernel
theorem eX8_stepOne_176 : Ev 117 176 (a0 :: some (.int x) :: ls) (st) h r ↔ Ev 117 177 (a0 :: some (.int x) :: ls) (.int x :: st) h r := ev_iload_n iX8_stepOne_176 rfl
theorem iX8_stepOne_177 : mn_ins 117 177 = some (8, false, .iload_n 3, 1) := by decide +kernel
theorem eX8_stepOne_177 : Ev 117 177 (a0 :: a1 :: a2 :: some (.int x) :: ls) (st) h r ↔ Ev 117 178 (a0 :: a1 :: a2 :: some (.int x) :: ls) (.int x :: st) h r := ev_iload_n iX8_stepOne_177 rfl
theorem iX8_stepOne_178 : mn_ins 117 178 = some (8, false, .invokevirtual 195, 3) := by decide +kernel
theorem eX8_stepOne_178 : Ev 117 178 (ls) (.int x1 :: .int x0 :: .ref b :: st) h r ↔ Evr true (decide (mn_cats st ≤ 8) && mn_isc h b 8) 117 178 ls st h.2.2.1 h.2.2.2 (Cl 119 (.ref b :: [.int x0, .int x1]) h.1 h.2.1) r := Ev_V (As := [.int x0, .int x1]) iX8_stepOne_178 (by decide +kernel) (x := mnI_X8_stepOne) (x2 := mnI_X8_fork) rfl rfl rfl (by decide +kernel) (Nat.le_of_ble_eq_true rfl) rfl
theorem iX8_stepOne_181 : mn_ins 117 181 = some (8, false, .goto 61, 3) := by decide +kernel
theorem eX8_stepOne_181 : Ev 117 181 (ls) (st) h r ↔ Ev 117 242 (ls) (st) h r := ev_goto iX8_stepOne_181 (by decide)
theorem iX8_stepOne_184 : mn_ins 117 184 = some (8, false, .iload_n 2, 1) := by decide +kernel
theorem eX8_stepOne_184 : Ev 117 184 (a0 :: a1 :: some (.int x) :: ls) (st) h r ↔ Ev 117 185 (a0 :: a1 :: some (.int x) :: ls) (.int x :: st) h r := ev_iload_n iX8_stepOne_184 rfl
theorem iX8_stepOne_185 : mn_ins 117 185 = some (8, false, .bipush 12, 2) := by decide +kernel
theorem eX8_stepOne_185 : Ev 117 185 (ls) (st) h r ↔ Ev 117 187 (ls) (.int (nI 12) :: st) h r := ev_bipush iX8_stepOne_185 (by decide)
theorem iX8_stepOne_187 : mn_ins 117 187 = some (8, false, .if_icmp .ne 32, 3) := by decide +kernel
theorem eX8_stepOne_187 : Ev 117 187 (ls) (.int y :: .int x :: st) h r ↔ if x = y then Ev 117 190 (ls) (st) h r else Ev 117 219 (ls) (st) h r := ev_cmpne iX8_stepOne_187 (by decide)
theorem iX8_stepOne_190 : mn_ins 117 190 = some (8, false, .aload_n 0, 1) := by decide +kernel
theorem eX8_stepOne_190 : Ev 117 190 (some (.ref a) :: ls) (st) h r ↔ Ev 117 191 (some (.ref a) :: ls) (.ref a :: st) h r := ev_aload_n iX8_stepOne_190 rfl rfl
theorem iX8_stepOne_191 : mn_ins 117 191 = some (8, false, .getfield 36, 3) := by decide +kernel
theorem eX8_stepOne_191 : Ev 117 191 (ls) (.ref a :: st) h r ↔ Evk 117 194 ls (mn_gf h a 8 15) st h r := ev_getf iX8_stepOne_191 (by decide +kernel)
theorem iX8_stepOne_194 : mn_ins 117 194 = some (8, false, .iload_n 1, 1) := by decide +kernel
theorem eX8_stepOne_194 : Ev 117 194 (a0 :: some (.int x) :: ls) (st) h r ↔ Ev 117 195 (a0 :: some (.int x) :: ls) (.int x :: st) h r := ev_iload_n iX8_stepOne_194 rfl
theorem iX8_stepOne_195 : mn_ins 117 195 = some (8, false, .aload_n 0, 1) := by decide +kernel
theorem eX8_stepOne_195 : Ev 117 195 (some (.ref a) :: ls) (st) h r ↔ Ev 117 196 (some (.ref a) :: ls) (.ref a :: st) h r := ev_aload_n iX8_stepOne_195 rfl rfl
theorem iX8_stepOne_196 : mn_ins 117 196 = some (8, false, .iload_n 1, 1) := by decide +kernel
theorem eX8_stepOne_196 : Ev 117 196 (a0 :: some (.int x) :: ls) (st) h r ↔ Ev 117 197 (a0 :: some (.int x) :: ls) (.int x :: st) h r := ev_iload_n iX8_stepOne_196 rfl
theorem iX8_stepOne_197 : mn_ins 117 197 = some (8, false, .invokevirtual 184, 3) := by decide +kernel
theorem eX8_stepOne_197 : Ev 117 197 (ls) (.int x0 :: .ref b :: st) h r ↔ Evr true (decide (mn_cats st ≤ 8) && mn_isc h b 8) 117 197 ls st h.2.2.1 h.2.2.2 (Cl 111 (.ref b :: [.int x0]) h.1 h.2.1) r := Ev_V (As := [.int x0]) iX8_stepOne_197 (by decide +kernel) (x := mnI_X8_stepOne) (x2 := mnI_X8_pop) rfl rfl rfl (by decide +kernel) (Nat.le_of_ble_eq_true rfl) rfl
theorem iX8_stepOne_200 : mn_ins 117 200 = some (8, false, .lconst 0, 1) := by decide +kernel
theorem eX8_stepOne_200 : Ev 117 200 (ls) (st) h r ↔ Ev 117 201 (ls) (.long 0 :: st) h r := ev_lconst iX8_stepOne_200 (by decide)
theorem iX8_stepOne_201 : mn_ins 117 201 = some (8, false, .lcmp, 1) := by decide +kernel
theorem eX8_stepOne_201 : Ev 117 201 (ls) (.long v :: .long u :: st) h r ↔ Ev 117 202 (ls) (.int (lg_cmp u v) :: st) h r := ev_lcmp iX8_stepOne_201
theorem iX8_stepOne_202 : mn_ins 117 202 = some (8, false, .ifCond .ne 7, 3) := by decide +kernel
theorem eX8_stepOne_202 : Ev 117 202 (ls) (.int x :: st) h r ↔ if x = nI 0 then Ev 117 205 (ls) (st) h r else Ev 117 209 (ls) (st) h r := ev_ifne iX8_stepOne_202 (by decide)
theorem iX8_stepOne_205 : mn_ins 117 205 = some (8, false, .iload_n 3, 1) := by decide +kernel
theorem eX8_stepOne_205 : Ev 117 205 (a0 :: a1 :: a2 :: some (.int x) :: ls) (st) h r ↔ Ev 117 206 (a0 :: a1 :: a2 :: some (.int x) :: ls) (.int x :: st) h r := ev_iload_n iX8_stepOne_205 rfl
theorem iX8_stepOne_206 : mn_ins 117 206 = some (8, false, .goto 9, 3) := by decide +kernel
theorem eX8_stepOne_206 : Ev 117 206 (ls) (st) h r ↔ Ev 117 215 (ls) (st) h r := ev_goto iX8_stepOne_206 (by decide)
theorem iX8_stepOne_209 : mn_ins 117 209 = some (8, false, .aload_n 0, 1) := by decide +kernel
theorem eX8_stepOne_209 : Ev 117 209 (some (.ref a) :: ls) (st) h r ↔ Ev 117 210 (some (.ref a) :: ls) (.ref a :: st) h r := ev_aload_n iX8_stepOne_209 rfl rfl
theorem iX8_stepOne_210 : mn_ins 117 210 = some (8, false, .getfield 36, 3) := by decide +kernel
theorem eX8_stepOne_210 : Ev 117 210 (ls) (.ref a :: st) h r ↔ Evk 117 213 ls (mn_gf h a 8 15) st h r := ev_getf iX8_stepOne_210 (by decide +kernel)
theorem iX8_stepOne_213 : mn_ins 117 213 = some (8, false, .iload_n 1, 1) := by decide +kernel
theorem eX8_stepOne_213 : Ev 117 213 (a0 :: some (.int x) :: ls) (st) h r ↔ Ev 117 214 (a0 :: some (.int x) :: ls) (.int x :: st) h r := ev_iload_n iX8_stepOne_213 rfl
theorem iX8_stepOne_214 : mn_ins 117 214 = some (8, false, .iaload, 1) := by decide +kernel
theorem eX8_stepOne_214 : Ev 117 214 (ls) (.int x :: .ref a :: st) h r ↔ Evk 117 215 ls (mn_al h a 0 x) st h r := ev_iald iX8_stepOne_214
theorem iX8_stepOne_215 : mn_ins 117 215 = some (8, false, .iastore, 1) := by decide +kernel
theorem eX8_stepOne_215 : Ev 117 215 (ls) (.int y :: .int x :: .ref a :: st) h r ↔ Evh 117 216 ls st (mn_asi h a x y) r := ev_iast iX8_stepOne_215
theorem iX8_stepOne_216 : mn_ins 117 216 = some (8, false, .goto 26, 3) := by decide +kernel
theorem eX8_stepOne_216 : Ev 117 216 (ls) (st) h r ↔ Ev 117 242 (ls) (st) h r := ev_goto iX8_stepOne_216 (by decide)
theorem iX8_stepOne_219 : mn_ins 117 219 = some (8, false, .iload_n 2, 1) := by decide +kernel
theorem eX8_stepOne_219 : Ev 117 219 (a0 :: a1 :: some (.int x) :: ls) (st) h r ↔ Ev 117 220 (a0 :: a1 :: some (.int x) :: ls) (.int x :: st) h r := ev_iload_n iX8_stepOne_219 rfl
theorem iX8_stepOne_220 : mn_ins 117 220 = some (8, false, .bipush 11, 2) := by decide +kernel
theorem eX8_stepOne_220 : Ev 117 220 (ls) (st) h r ↔ Ev 117 222 (ls) (.int (nI 11) :: st) h r := ev_bipush iX8_stepOne_220 (by decide)
theorem iX8_stepOne_222 : mn_ins 117 222 = some (8, false, .if_icmp .ne 13, 3) := by decide +kernel
theorem eX8_stepOne_222 : Ev 117 222 (ls) (.int y :: .int x :: st) h r ↔ if x = y then Ev 117 225 (ls) (st) h r else Ev 117 235 (ls) (st) h r := ev_cmpne iX8_stepOne_222 (by decide)
theorem iX8_stepOne_225 : mn_ins 117 225 = some (8, false, .aload_n 0, 1) := by decide +kernel
theorem eX8_stepOne_225 : Ev 117 225 (some (.ref a) :: ls) (st) h r ↔ Ev 117 226 (some (.ref a) :: ls) (.ref a :: st) h r := ev_aload_n iX8_stepOne_225 rfl rfl
theorem iX8_stepOne_226 : mn_ins 117 226 = some (8, false, .getfield 36, 3) := by decide +kernel
theorem eX8_stepOne_226 : Ev 117 226 (ls) (.ref a :: st) h r ↔ Evk 117 229 ls (mn_gf h a 8 15) st h r := ev_getf iX8_stepOne_226 (by decide +kernel)
theorem iX8_stepOne_229 : mn_ins 117 229 = some (8, false, .iload_n 1, 1) := by decide +kernel
theorem eX8_stepOne_229 : Ev 117 229 (a0 :: some (.int x) :: ls) (st) h r ↔ Ev 117 230 (a0 :: some (.int x) :: ls) (.int x :: st) h r := ev_iload_n iX8_stepOne_229 rfl
theorem iX8_stepOne_230 : mn_ins 117 230 = some (8, false, .iload_n 3, 1) := by decide +kernel
theorem eX8_stepOne_230 : Ev 117 230 (a0 :: a1 :: a2 :: some (.int x) :: ls) (st) h r ↔ Ev 117 231 (a0 :: a1 :: a2 :: some (.int x) :: ls) (.int x :: st) h r := ev_iload_n iX8_stepOne_230 rfl
theorem iX8_stepOne_231 : mn_ins 117 231 = some (8, false, .iastore, 1) := by decide +kernel
theorem eX8_stepOne_231 : Ev 117 231 (ls) (.int y :: .int x :: .ref a :: st) h r ↔ Evh 117 232 ls st (mn_asi h a x y) r := ev_iast iX8_stepOne_231
theorem iX8_stepOne_232 : mn_ins 117 232 = some (8, false, .goto 10, 3) := by decide +kernel
theorem eX8_stepOne_232 : Ev 117 232 (ls) (st) h r ↔ Ev 117 242 (ls) (st) h r := ev_goto iX8_stepOne_232 (by decide)
theorem iX8_stepOne_235 : mn_ins 117 235 = some (8, false, .aload_n 0, 1) := by decide +kernel
theorem eX8_stepOne_235 : Ev 117 235 (some (.ref a) :: ls) (st) h r ↔ Ev 117 236 (some (.ref a) :: ls) (.ref a :: st) h r := ev_aload_n iX8_stepOne_235 rfl rfl
theorem iX8_stepOne_236 : mn_ins 117 236 = some (8, false, .iload_n 1, 1) := by decide +kernel
theorem eX8_stepOne_236 : Ev 117 236 (a0 :: some (.int x) :: ls) (st) h r ↔ Ev 117 237 (a0 :: some (.int x) :: ls) (.int x :: st) h r := ev_iload_n iX8_stepOne_236 rfl
theorem iX8_stepOne_237 : mn_ins 117 237 = some (8, false, .iload_n 2, 1) := by decide +kernel
theorem eX8_stepOne_237 : Ev 117 237 (a0 :: a1 :: some (.int x) :: ls) (st) h r ↔ Ev 117 238 (a0 :: a1 :: some (.int x) :: ls) (.int x :: st) h r := ev_iload_n iX8_stepOne_237 rfl
theorem iX8_stepOne_238 : mn_ins 117 238 = some (8, false, .iload_n 3, 1) := by decide +kernel
theorem eX8_stepOne_238 : Ev 117 238 (a0 :: a1 :: a2 :: some (.int x) :: ls) (st) h r ↔ Ev 117 239 (a0 :: a1 :: a2 :: some (.int x) :: ls) (.int x :: st) h r := ev_iload_n iX8_stepOne_238 rfl
theorem iX8_stepOne_239 : mn_ins 117 239 = some (8, false, .invokevirtual 198, 3) := by decide +kernel
theorem eX8_stepOne_239 : Ev 117 239 (ls) (.int x2 :: .int x1 :: .int x0 :: .ref b :: st) h r ↔ Evr true (decide (mn_cats st ≤ 8) && mn_isc h b 8) 117 239 ls st h.2.2.1 h.2.2.2 (Cl 118 (.ref b :: [.int x0, .int x1, .int x2]) h.1 h.2.1) r := Ev_V (As := [.int x0, .int x1, .int x2]) iX8_stepOne_239 (by decide +kernel) (x := mnI_X8_stepOne) (x2 := mnI_X8_simple) rfl rfl rfl (by decide +kernel) (Nat.le_of_ble_eq_true rfl) rfl
theorem iX8_stepOne_242 : mn_ins 117 242 = some (8, false, .return_, 1) := by decide +kernel
theorem eX8_stepOne_242 : Ev 117 242 (ls) [] h r ↔ r = (h, .inl none) := ev_vret iX8_stepOne_242 (X := mnI_X8_stepOne) rfl rfl
theorem iX8_simple_0 : mn_ins 118 0 = some (8, false, .iload_n 2, 1) := by decide +kernel
theorem eX8_simple_0 : Ev 118 0 (a0 :: a1 :: some (.int x) :: ls) (st) h r ↔ Ev 118 1 (a0 :: a1 :: some (.int x) :: ls) (.int x :: st) h r := ev_iload_n iX8_simple_0 rfl
theorem iX8_simple_1 : mn_ins 118 1 = some (8, false, .ifCond .ne 13, 3) := by decide +kernel
theorem eX8_simple_1 : Ev 118 1 (ls) (.int x :: st) h r ↔ if x = nI 0 then Ev 118 4 (ls) (st) h r else Ev 118 14 (ls) (st) h r := ev_ifne iX8_simple_1 (by decide)
theorem iX8_simple_4 : mn_ins 118 4 = some (8, false, .aload_n 0, 1) := by decide +kernel
theorem eX8_simple_4 : Ev 118 4 (some (.ref a) :: ls) (st) h r ↔ Ev 118 5 (some (.ref a) :: ls) (.ref a :: st) h r := ev_aload_n iX8_simple_4 rfl rfl
theorem iX8_simple_5 : mn_ins 118 5 = some (8, false, .iload_n 1, 1) := by decide +kernel
theorem eX8_simple_5 : Ev 118 5 (a0 :: some (.int x) :: ls) (st) h r ↔ Ev 118 6 (a0 :: some (.int x) :: ls) (.int x :: st) h r := ev_iload_n iX8_simple_5 rfl
theorem iX8_simple_6 : mn_ins 118 6 = some (8, false, .iload_n 3, 1) := by decide +kernel
theorem eX8_simple_6 : Ev 118 6 (a0 :: a1 :: a2 :: some (.int x) :: ls) (st) h r ↔ Ev 118 7 (a0 :: a1 :: a2 :: some (.int x) :: ls) (.int x :: st) h r := ev_iload_n iX8_simple_6 rfl
theorem iX8_simple_7 : mn_ins 118 7 = some (8, false, .i2l, 1) := by decide +kernel
theorem eX8_simple_7 : Ev 118 7 (ls) (.int x :: st) h r ↔ Ev 118 8 (ls) (.long x.toInt64 :: st) h r := ev_i2l iX8_simple_7
theorem iX8_simple_8 : mn_ins 118 8 = some (8, false, .invokevirtual 191, 3) := by decide +kernel
theorem eX8_simple_8 : Ev 118 8 (ls) (.long u1 :: .int x0 :: .ref b :: st) h r ↔ Evr true (decide (mn_cats st ≤ 8) && mn_isc h b 8) 118 8 ls st h.2.2.1 h.2.2.2 (Cl 112 (.ref b :: [.int x0, .long u1]) h.1 h.2.1) r := Ev_V (As := [.int x0, .long u1]) iX8_simple_8 (by decide +kernel) (x := mnI_X8_simple) (x2 := mnI_X8_push) rfl rfl rfl (by decide +kernel) (Nat.le_of_ble_eq_true rfl) rfl
theorem iX8_simple_11 : mn_ins 118 11 = some (8, false, .goto 189, 3) := by decide +kernel
theorem eX8_simple_11 : Ev 118 11 (ls) (st) h r ↔ Ev 118 200 (ls) (st) h r := ev_goto iX8_simple_11 (by decide)
theorem iX8_simple_14 : mn_ins 118 14 = some (8, false, .iload_n 2, 1) := by decide +kernel
theorem eX8_simple_14 : Ev 118 14 (a0 :: a1 :: some (.int x) :: ls) (st) h r ↔ Ev 118 15 (a0 :: a1 :: some (.int x) :: ls) (.int x :: st) h r := ev_iload_n iX8_simple_14 rfl
theorem iX8_simple_15 : mn_ins 118 15 = some (8, false, .iconst 1, 1) := by decide +kernel
theorem eX8_simple_15 : Ev 118 15 (ls) (st) h r ↔ Ev 118 16 (ls) (.int (nI 1) :: st) h r := ev_iconst iX8_simple_15 (by decide)
theorem iX8_simple_16 : mn_ins 118 16 = some (8, false, .if_icmp .ne 21, 3) := by decide +kernel
theorem eX8_simple_16 : Ev 118 16 (ls) (.int y :: .int x :: st) h r ↔ if x = y then Ev 118 19 (ls) (st) h r else Ev 118 37 (ls) (st) h r := ev_cmpne iX8_simple_16 (by decide)
theorem iX8_simple_19 : mn_ins 118 19 = some (8, false, .aload_n 0, 1) := by decide +kernel
theorem eX8_simple_19 : Ev 118 19 (some (.ref a) :: ls) (st) h r ↔ Ev 118 20 (some (.ref a) :: ls) (.ref a :: st) h r := ev_aload_n iX8_simple_19 rfl rfl
theorem iX8_simple_20 : mn_ins 118 20 = some (8, false, .iload_n 1, 1) := by decide +kernel
theorem eX8_simple_20 : Ev 118 20 (a0 :: some (.int x) :: ls) (st) h r ↔ Ev 118 21 (a0 :: some (.int x) :: ls) (.int x :: st) h r := ev_iload_n iX8_simple_20 rfl
theorem iX8_simple_21 : mn_ins 118 21 = some (8, false, .aload_n 0, 1) := by decide +kernel
theorem eX8_simple_21 : Ev 118 21 (some (.ref a) :: ls) (st) h r ↔ Ev 118 22 (some (.ref a) :: ls) (.ref a :: st) h r := ev_aload_n iX8_simple_21 rfl rfl
theorem iX8_simple_22 : mn_ins 118 22 = some (8, false, .getfield 61, 3) := by decide +kernel
theorem eX8_simple_22 : Ev 118 22 (ls) (.ref a :: st) h r ↔ Evk 118 25 ls (mn_gf h a 8 23) st h r := ev_getf iX8_simple_22 (by decide +kernel)
theorem iX8_simple_25 : mn_ins 118 25 = some (8, false, .iconst 4, 1) := by decide +kernel
theorem eX8_simple_25 : Ev 118 25 (ls) (st) h r ↔ Ev 118 26 (ls) (.int (nI 4) :: st) h r := ev_iconst iX8_simple_25 (by decide)
theorem iX8_simple_26 : mn_ins 118 26 = some (8, false, .iload_n 1, 1) := by decide +kernel
theorem eX8_simple_26 : Ev 118 26 (a0 :: some (.int x) :: ls) (st) h r ↔ Ev 118 27 (a0 :: some (.int x) :: ls) (.int x :: st) h r := ev_iload_n iX8_simple_26 rfl
theorem iX8_simple_27 : mn_ins 118 27 = some (8, false, .imul, 1) := by decide +kernel
theorem eX8_simple_27 : Ev 118 27 (ls) (.int y :: .int x :: st) h r ↔ Ev 118 28 (ls) (.int (x * y) :: st) h r := ev_imul iX8_simple_27
theorem iX8_simple_28 : mn_ins 118 28 = some (8, false, .iload_n 3, 1) := by decide +kernel
theorem eX8_simple_28 : Ev 118 28 (a0 :: a1 :: a2 :: some (.int x) :: ls) (st) h r ↔ Ev 118 29 (a0 :: a1 :: a2 :: some (.int x) :: ls) (.int x :: st) h r := ev_iload_n iX8_simple_28 rfl
theorem iX8_simple_29 : mn_ins 118 29 = some (8, false, .iadd, 1) := by decide +kernel
theorem eX8_simple_29 : Ev 118 29 (ls) (.int y :: .int x :: st) h r ↔ Ev 118 30 (ls) (.int (x + y) :: st) h r := ev_iadd iX8_simple_29
theorem iX8_simple_30 : mn_ins 118 30 = some (8, false, .laload, 1) := by decide +kernel
theorem eX8_simple_30 : Ev 118 30 (ls) (.int x :: .ref a :: st) h r ↔ Evk 118 31 ls (mn_al h a 1 x) st h r := ev_lald iX8_simple_30
theorem iX8_simple_31 : mn_ins 118 31 = some (8, false, .invokevirtual 191, 3) := by decide +kernel
theorem eX8_simple_31 : Ev 118 31 (ls) (.long u1 :: .int x0 :: .ref b :: st) h r ↔ Evr true (decide (mn_cats st ≤ 8) && mn_isc h b 8) 118 31 ls st h.2.2.1 h.2.2.2 (Cl 112 (.ref b :: [.int x0, .long u1]) h.1 h.2.1) r := Ev_V (As := [.int x0, .long u1]) iX8_simple_31 (by decide +kernel) (x := mnI_X8_simple) (x2 := mnI_X8_push) rfl rfl rfl (by decide +kernel) (Nat.le_of_ble_eq_true rfl) rfl
theorem iX8_simple_34 : mn_ins 118 34 = some (8, false, .goto 166, 3) := by decide +kernel
theorem eX8_simple_34 : Ev 118 34 (ls) (st) h r ↔ Ev 118 200 (ls) (st) h r := ev_goto iX8_simple_34 (by decide)
theorem iX8_simple_37 : mn_ins 118 37 = some (8, false, .iload_n 2, 1) := by decide +kernel
theorem eX8_simple_37 : Ev 118 37 (a0 :: a1 :: some (.int x) :: ls) (st) h r ↔ Ev 118 38 (a0 :: a1 :: some (.int x) :: ls) (.int x :: st) h r := ev_iload_n iX8_simple_37 rfl
theorem iX8_simple_38 : mn_ins 118 38 = some (8, false, .iconst 2, 1) := by decide +kernel
theorem eX8_simple_38 : Ev 118 38 (ls) (st) h r ↔ Ev 118 39 (ls) (.int (nI 2) :: st) h r := ev_iconst iX8_simple_38 (by decide)
theorem iX8_simple_39 : mn_ins 118 39 = some (8, false, .if_icmp .ne 21, 3) := by decide +kernel
theorem eX8_simple_39 : Ev 118 39 (ls) (.int y :: .int x :: st) h r ↔ if x = y then Ev 118 42 (ls) (st) h r else Ev 118 60 (ls) (st) h r := ev_cmpne iX8_simple_39 (by decide)
theorem iX8_simple_42 : mn_ins 118 42 = some (8, false, .aload_n 0, 1) := by decide +kernel
theorem eX8_simple_42 : Ev 118 42 (some (.ref a) :: ls) (st) h r ↔ Ev 118 43 (some (.ref a) :: ls) (.ref a :: st) h r := ev_aload_n iX8_simple_42 rfl rfl
theorem iX8_simple_43 : mn_ins 118 43 = some (8, false, .getfield 61, 3) := by decide +kernel
theorem eX8_simple_43 : Ev 118 43 (ls) (.ref a :: st) h r ↔ Evk 118 46 ls (mn_gf h a 8 23) st h r := ev_getf iX8_simple_43 (by decide +kernel)
theorem iX8_simple_46 : mn_ins 118 46 = some (8, false, .iconst 4, 1) := by decide +kernel
theorem eX8_simple_46 : Ev 118 46 (ls) (st) h r ↔ Ev 118 47 (ls) (.int (nI 4) :: st) h r := ev_iconst iX8_simple_46 (by decide)
theorem iX8_simple_47 : mn_ins 118 47 = some (8, false, .iload_n 1, 1) := by decide +kernel
theorem eX8_simple_47 : Ev 118 47 (a0 :: some (.int x) :: ls) (st) h r ↔ Ev 118 48 (a0 :: some (.int x) :: ls) (.int x :: st) h r := ev_iload_n iX8_simple_47 rfl
theorem iX8_simple_48 : mn_ins 118 48 = some (8, false, .imul, 1) := by decide +kernel
theorem eX8_simple_48 : Ev 118 48 (ls) (.int y :: .int x :: st) h r ↔ Ev 118 49 (ls) (.int (x * y) :: st) h r := ev_imul iX8_simple_48
theorem iX8_simple_49 : mn_ins 118 49 = some (8, false, .iload_n 3, 1) := by decide +kernel
theorem eX8_simple_49 : Ev 118 49 (a0 :: a1 :: a2 :: some (.int x) :: ls) (st) h r ↔ Ev 118 50 (a0 :: a1 :: a2 :: some (.int x) :: ls) (.int x :: st) h r := ev_iload_n iX8_simple_49 rfl
theorem iX8_simple_50 : mn_ins 118 50 = some (8, false, .iadd, 1) := by decide +kernel
theorem eX8_simple_50 : Ev 118 50 (ls) (.int y :: .int x :: st) h r ↔ Ev 118 51 (ls) (.int (x + y) :: st) h r := ev_iadd iX8_simple_50
theorem iX8_simple_51 : mn_ins 118 51 = some (8, false, .aload_n 0, 1) := by decide +kernel
theorem eX8_simple_51 : Ev 118 51 (some (.ref a) :: ls) (st) h r ↔ Ev 118 52 (some (.ref a) :: ls) (.ref a :: st) h r := ev_aload_n iX8_simple_51 rfl rfl
theorem iX8_simple_52 : mn_ins 118 52 = some (8, false, .iload_n 1, 1) := by decide +kernel
theorem eX8_simple_52 : Ev 118 52 (a0 :: some (.int x) :: ls) (st) h r ↔ Ev 118 53 (a0 :: some (.int x) :: ls) (.int x :: st) h r := ev_iload_n iX8_simple_52 rfl
theorem iX8_simple_53 : mn_ins 118 53 = some (8, false, .invokevirtual 184, 3) := by decide +kernel
theorem eX8_simple_53 : Ev 118 53 (ls) (.int x0 :: .ref b :: st) h r ↔ Evr true (decide (mn_cats st ≤ 8) && mn_isc h b 8) 118 53 ls st h.2.2.1 h.2.2.2 (Cl 111 (.ref b :: [.int x0]) h.1 h.2.1) r := Ev_V (As := [.int x0]) iX8_simple_53 (by decide +kernel) (x := mnI_X8_simple) (x2 := mnI_X8_pop) rfl rfl rfl (by decide +kernel) (Nat.le_of_ble_eq_true rfl) rfl
theorem iX8_simple_56 : mn_ins 118 56 = some (8, false, .lastore, 1) := by decide +kernel
theorem eX8_simple_56 : Ev 118 56 (ls) (.long u :: .int x :: .ref a :: st) h r ↔ Evh 118 57 ls st (mn_asl h a x u) r := ev_last iX8_simple_56
theorem iX8_simple_57 : mn_ins 118 57 = some (8, false, .goto 143, 3) := by decide +kernel
theorem eX8_simple_57 : Ev 118 57 (ls) (st) h r ↔ Ev 118 200 (ls) (st) h r := ev_goto iX8_simple_57 (by decide)
theorem iX8_simple_60 : mn_ins 118 60 = some (8, false, .iload_n 2, 1) := by decide +kernel
theorem eX8_simple_60 : Ev 118 60 (a0 :: a1 :: some (.int x) :: ls) (st) h r ↔ Ev 118 61 (a0 :: a1 :: some (.int x) :: ls) (.int x :: st) h r := ev_iload_n iX8_simple_60 rfl
theorem iX8_simple_61 : mn_ins 118 61 = some (8, false, .iconst 3, 1) := by decide +kernel
theorem eX8_simple_61 : Ev 118 61 (ls) (st) h r ↔ Ev 118 62 (ls) (.int (nI 3) :: st) h r := ev_iconst iX8_simple_61 (by decide)
theorem iX8_simple_62 : mn_ins 118 62 = some (8, false, .if_icmp .ne 22, 3) := by decide +kernel
theorem eX8_simple_62 : Ev 118 62 (ls) (.int y :: .int x :: st) h r ↔ if x = y then Ev 118 65 (ls) (st) h r else Ev 118 84 (ls) (st) h r := ev_cmpne iX8_simple_62 (by decide)
theorem iX8_simple_65 : mn_ins 118 65 = some (8, false, .aload_n 0, 1) := by decide +kernel
theorem eX8_simple_65 : Ev 118 65 (some (.ref a) :: ls) (st) h r ↔ Ev 118 66 (some (.ref a) :: ls) (.ref a :: st) h r := ev_aload_n iX8_simple_65 rfl rfl
theorem iX8_simple_66 : mn_ins 118 66 = some (8, false, .iload_n 1, 1) := by decide +kernel
theorem eX8_simple_66 : Ev 118 66 (a0 :: some (.int x) :: ls) (st) h r ↔ Ev 118 67 (a0 :: some (.int x) :: ls) (.int x :: st) h r := ev_iload_n iX8_simple_66 rfl
theorem iX8_simple_67 : mn_ins 118 67 = some (8, false, .aload_n 0, 1) := by decide +kernel
theorem eX8_simple_67 : Ev 118 67 (some (.ref a) :: ls) (st) h r ↔ Ev 118 68 (some (.ref a) :: ls) (.ref a :: st) h r := ev_aload_n iX8_simple_67 rfl rfl
theorem iX8_simple_68 : mn_ins 118 68 = some (8, false, .aload_n 0, 1) := by decide +kernel
theorem eX8_simple_68 : Ev 118 68 (some (.ref a) :: ls) (st) h r ↔ Ev 118 69 (some (.ref a) :: ls) (.ref a :: st) h r := ev_aload_n iX8_simple_68 rfl rfl
theorem iX8_simple_69 : mn_ins 118 69 = some (8, false, .getfield 73, 3) := by decide +kernel
theorem eX8_simple_69 : Ev 118 69 (ls) (.ref a :: st) h r ↔ Evk 118 72 ls (mn_gf h a 8 27) st h r := ev_getf iX8_simple_69 (by decide +kernel)
theorem iX8_simple_72 : mn_ins 118 72 = some (8, false, .iload_n 1, 1) := by decide +kernel
theorem eX8_simple_72 : Ev 118 72 (a0 :: some (.int x) :: ls) (st) h r ↔ Ev 118 73 (a0 :: some (.int x) :: ls) (.int x :: st) h r := ev_iload_n iX8_simple_72 rfl
theorem iX8_simple_73 : mn_ins 118 73 = some (8, false, .iaload, 1) := by decide +kernel
theorem eX8_simple_73 : Ev 118 73 (ls) (.int x :: .ref a :: st) h r ↔ Evk 118 74 ls (mn_al h a 0 x) st h r := ev_iald iX8_simple_73
theorem iX8_simple_74 : mn_ins 118 74 = some (8, false, .iload_n 3, 1) := by decide +kernel
theorem eX8_simple_74 : Ev 118 74 (a0 :: a1 :: a2 :: some (.int x) :: ls) (st) h r ↔ Ev 118 75 (a0 :: a1 :: a2 :: some (.int x) :: ls) (.int x :: st) h r := ev_iload_n iX8_simple_74 rfl
theorem iX8_simple_75 : mn_ins 118 75 = some (8, false, .invokevirtual 202, 3) := by decide +kernel
theorem eX8_simple_75 : Ev 118 75 (ls) (.int x1 :: .int x0 :: .ref b :: st) h r ↔ Evr true (decide (mn_cats st ≤ 8) && mn_isc h b 8) 118 75 ls st h.2.2.1 h.2.2.2 (Cl 104 (.ref b :: [.int x0, .int x1]) h.1 h.2.1) r := Ev_V (As := [.int x0, .int x1]) iX8_simple_75 (by decide +kernel) (x := mnI_X8_simple) (x2 := mnI_X8_readAt) rfl rfl rfl (by decide +kernel) (Nat.le_of_ble_eq_true rfl) rfl
theorem iX8_simple_78 : mn_ins 118 78 = some (8, false, .invokevirtual 191, 3) := by decide +kernel
theorem eX8_simple_78 : Ev 118 78 (ls) (.long u1 :: .int x0 :: .ref b :: st) h r ↔ Evr true (decide (mn_cats st ≤ 8) && mn_isc h b 8) 118 78 ls st h.2.2.1 h.2.2.2 (Cl 112 (.ref b :: [.int x0, .long u1]) h.1 h.2.1) r := Ev_V (As := [.int x0, .long u1]) iX8_simple_78 (by decide +kernel) (x := mnI_X8_simple) (x2 := mnI_X8_push) rfl rfl rfl (by decide +kernel) (Nat.le_of_ble_eq_true rfl) rfl
theorem iX8_simple_81 : mn_ins 118 81 = some (8, false, .goto 119, 3) := by decide +kernel
theorem eX8_simple_81 : Ev 118 81 (ls) (st) h r ↔ Ev 118 200 (ls) (st) h r := ev_goto iX8_simple_81 (by decide)
theorem iX8_simple_84 : mn_ins 118 84 = some (8, false, .iload_n 2, 1) := by decide +kernel
theorem eX8_simple_84 : Ev 118 84 (a0 :: a1 :: some (.int x) :: ls) (st) h r ↔ Ev 118 85 (a0 :: a1 :: some (.int x) :: ls) (.int x :: st) h r := ev_iload_n iX8_simple_84 rfl
theorem iX8_simple_85 : mn_ins 118 85 = some (8, false, .iconst 4, 1) := by decide +kernel
theorem eX8_simple_85 : Ev 118 85 (ls) (st) h r ↔ Ev 118 86 (ls) (.int (nI 4) :: st) h r := ev_iconst iX8_simple_85 (by decide)
theorem iX8_simple_86 : mn_ins 118 86 = some (8, false, .if_icmp .ne 22, 3) := by decide +kernel
theorem eX8_simple_86 : Ev 118 86 (ls) (.int y :: .int x :: st) h r ↔ if x = y then Ev 118 89 (ls) (st) h r else Ev 118 108 (ls) (st) h r := ev_cmpne iX8_simple_86 (by decide)
theorem iX8_simple_89 : mn_ins 118 89 = some (8, false, .aload_n 0, 1) := by decide +kernel
theorem eX8_simple_89 : Ev 118 89 (some (.ref a) :: ls) (st) h r ↔ Ev 118 90 (some (.ref a) :: ls) (.ref a :: st) h r := ev_aload_n iX8_simple_89 rfl rfl
theorem iX8_simple_90 : mn_ins 118 90 = some (8, false, .aload_n 0, 1) := by decide +kernel
theorem eX8_simple_90 : Ev 118 90 (some (.ref a) :: ls) (st) h r ↔ Ev 118 91 (some (.ref a) :: ls) (.ref a :: st) h r := ev_aload_n iX8_simple_90 rfl rfl
theorem iX8_simple_91 : mn_ins 118 91 = some (8, false, .getfield 73, 3) := by decide +kernel
theorem eX8_simple_91 : Ev 118 91 (ls) (.ref a :: st) h r ↔ Evk 118 94 ls (mn_gf h a 8 27) st h r := ev_getf iX8_simple_91 (by decide +kernel)
theorem iX8_simple_94 : mn_ins 118 94 = some (8, false, .iload_n 1, 1) := by decide +kernel
theorem eX8_simple_94 : Ev 118 94 (a0 :: some (.int x) :: ls) (st) h r ↔ Ev 118 95 (a0 :: some (.int x) :: ls) (.int x :: st) h r := ev_iload_n iX8_simple_94 rfl
theorem iX8_simple_95 : mn_ins 118 95 = some (8, false, .iaload, 1) := by decide +kernel
theorem eX8_simple_95 : Ev 118 95 (ls) (.int x :: .ref a :: st) h r ↔ Evk 118 96 ls (mn_al h a 0 x) st h r := ev_iald iX8_simple_95
theorem iX8_simple_96 : mn_ins 118 96 = some (8, false, .iload_n 3, 1) := by decide +kernel
theorem eX8_simple_96 : Ev 118 96 (a0 :: a1 :: a2 :: some (.int x) :: ls) (st) h r ↔ Ev 118 97 (a0 :: a1 :: a2 :: some (.int x) :: ls) (.int x :: st) h r := ev_iload_n iX8_simple_96 rfl
theorem iX8_simple_97 : mn_ins 118 97 = some (8, false, .aload_n 0, 1) := by decide +kernel
theorem eX8_simple_97 : Ev 118 97 (some (.ref a) :: ls) (st) h r ↔ Ev 118 98 (some (.ref a) :: ls) (.ref a :: st) h r := ev_aload_n iX8_simple_97 rfl rfl
theorem iX8_simple_98 : mn_ins 118 98 = some (8, false, .iload_n 1, 1) := by decide +kernel
theorem eX8_simple_98 : Ev 118 98 (a0 :: some (.int x) :: ls) (st) h r ↔ Ev 118 99 (a0 :: some (.int x) :: ls) (.int x :: st) h r := ev_iload_n iX8_simple_98 rfl
theorem iX8_simple_99 : mn_ins 118 99 = some (8, false, .invokevirtual 184, 3) := by decide +kernel
theorem eX8_simple_99 : Ev 118 99 (ls) (.int x0 :: .ref b :: st) h r ↔ Evr true (decide (mn_cats st ≤ 8) && mn_isc h b 8) 118 99 ls st h.2.2.1 h.2.2.2 (Cl 111 (.ref b :: [.int x0]) h.1 h.2.1) r := Ev_V (As := [.int x0]) iX8_simple_99 (by decide +kernel) (x := mnI_X8_simple) (x2 := mnI_X8_pop) rfl rfl rfl (by decide +kernel) (Nat.le_of_ble_eq_true rfl) rfl
theorem iX8_simple_102 : mn_ins 118 102 = some (8, false, .invokevirtual 163, 3) := by decide +kernel
theorem eX8_simple_102 : Ev 118 102 (ls) (.long u2 :: .int x1 :: .int x0 :: .ref b :: st) h r ↔ Evr true (decide (mn_cats st ≤ 8) && mn_isc h b 8) 118 102 ls st h.2.2.1 h.2.2.2 (Cl 105 (.ref b :: [.int x0, .int x1, .long u2]) h.1 h.2.1) r := Ev_V (As := [.int x0, .int x1, .long u2]) iX8_simple_102 (by decide +kernel) (x := mnI_X8_simple) (x2 := mnI_X8_writeAt) rfl rfl rfl (by decide +kernel) (Nat.le_of_ble_eq_true rfl) rfl
theorem iX8_simple_105 : mn_ins 118 105 = some (8, false, .goto 95, 3) := by decide +kernel
theorem eX8_simple_105 : Ev 118 105 (ls) (st) h r ↔ Ev 118 200 (ls) (st) h r := ev_goto iX8_simple_105 (by decide)
theorem iX8_simple_108 : mn_ins 118 108 = some (8, false, .iload_n 2, 1) := by decide +kernel
theorem eX8_simple_108 : Ev 118 108 (a0 :: a1 :: some (.int x) :: ls) (st) h r ↔ Ev 118 109 (a0 :: a1 :: some (.int x) :: ls) (.int x :: st) h r := ev_iload_n iX8_simple_108 rfl
theorem iX8_simple_109 : mn_ins 118 109 = some (8, false, .bipush 17, 2) := by decide +kernel
theorem eX8_simple_109 : Ev 118 109 (ls) (st) h r ↔ Ev 118 111 (ls) (.int (nI 17) :: st) h r := ev_bipush iX8_simple_109 (by decide)
theorem iX8_simple_111 : mn_ins 118 111 = some (8, false, .if_icmp .ne 16, 3) := by decide +kernel
theorem eX8_simple_111 : Ev 118 111 (ls) (.int y :: .int x :: st) h r ↔ if x = y then Ev 118 114 (ls) (st) h r else Ev 118 127 (ls) (st) h r := ev_cmpne iX8_simple_111 (by decide)
theorem iX8_simple_114 : mn_ins 118 114 = some (8, false, .aload_n 0, 1) := by decide +kernel
theorem eX8_simple_114 : Ev 118 114 (some (.ref a) :: ls) (st) h r ↔ Ev 118 115 (some (.ref a) :: ls) (.ref a :: st) h r := ev_aload_n iX8_simple_114 rfl rfl
theorem iX8_simple_115 : mn_ins 118 115 = some (8, false, .iload_n 1, 1) := by decide +kernel
theorem eX8_simple_115 : Ev 118 115 (a0 :: some (.int x) :: ls) (st) h r ↔ Ev 118 116 (a0 :: some (.int x) :: ls) (.int x :: st) h r := ev_iload_n iX8_simple_115 rfl
theorem iX8_simple_116 : mn_ins 118 116 = some (8, false, .aload_n 0, 1) := by decide +kernel
theorem eX8_simple_116 : Ev 118 116 (some (.ref a) :: ls) (st) h r ↔ Ev 118 117 (some (.ref a) :: ls) (.ref a :: st) h r := ev_aload_n iX8_simple_116 rfl rfl
theorem iX8_simple_117 : mn_ins 118 117 = some (8, false, .iload_n 1, 1) := by decide +kernel
theorem eX8_simple_117 : Ev 118 117 (a0 :: some (.int x) :: ls) (st) h r ↔ Ev 118 118 (a0 :: some (.int x) :: ls) (.int x :: st) h r := ev_iload_n iX8_simple_117 rfl
theorem iX8_simple_118 : mn_ins 118 118 = some (8, false, .invokevirtual 170, 3) := by decide +kernel
theorem eX8_simple_118 : Ev 118 118 (ls) (.int x0 :: .ref b :: st) h r ↔ Evr true (decide (mn_cats st ≤ 8) && mn_isc h b 8) 118 118 ls st h.2.2.1 h.2.2.2 (Cl 110 (.ref b :: [.int x0]) h.1 h.2.1) r := Ev_V (As := [.int x0]) iX8_simple_118 (by decide +kernel) (x := mnI_X8_simple) (x2 := mnI_X8_top) rfl rfl rfl (by decide +kernel) (Nat.le_of_ble_eq_true rfl) rfl
theorem iX8_simple_121 : mn_ins 118 121 = some (8, false, .invokevirtual 191, 3) := by decide +kernel
theorem eX8_simple_121 : Ev 118 121 (ls) (.long u1 :: .int x0 :: .ref b :: st) h r ↔ Evr true (decide (mn_cats st ≤ 8) && mn_isc h b 8) 118 121 ls st h.2.2.1 h.2.2.2 (Cl 112 (.ref b :: [.int x0, .long u1]) h.1 h.2.1) r := Ev_V (As := [.int x0, .long u1]) iX8_simple_121 (by decide +kernel) (x := mnI_X8_simple) (x2 := mnI_X8_push) rfl rfl rfl (by decide +kernel) (Nat.le_of_ble_eq_true rfl) rfl
theorem iX8_simple_124 : mn_ins 118 124 = some (8, false, .goto 76, 3) := by decide +kernel
theorem eX8_simple_124 : Ev 118 124 (ls) (st) h r ↔ Ev 118 200 (ls) (st) h r := ev_goto iX8_simple_124 (by decide)
theorem iX8_simple_127 : mn_ins 118 127 = some (8, false, .iload_n 2, 1) := by decide +kernel
theorem eX8_simple_127 : Ev 118 127 (a0 :: a1 :: some (.int x) :: ls) (st) h r ↔ Ev 118 128 (a0 :: a1 :: some (.int x) :: ls) (.int x :: st) h r := ev_iload_n iX8_simple_127 rfl
theorem iX8_simple_128 : mn_ins 118 128 = some (8, false, .bipush 18, 2) := by decide +kernel
theorem eX8_simple_128 : Ev 118 128 (ls) (st) h r ↔ Ev 118 130 (ls) (.int (nI 18) :: st) h r := ev_bipush iX8_simple_128 (by decide)
theorem iX8_simple_130 : mn_ins 118 130 = some (8, false, .if_icmp .ne 12, 3) := by decide +kernel
theorem eX8_simple_130 : Ev 118 130 (ls) (.int y :: .int x :: st) h r ↔ if x = y then Ev 118 133 (ls) (st) h r else Ev 118 142 (ls) (st) h r := ev_cmpne iX8_simple_130 (by decide)
theorem iX8_simple_133 : mn_ins 118 133 = some (8, false, .aload_n 0, 1) := by decide +kernel
theorem eX8_simple_133 : Ev 118 133 (some (.ref a) :: ls) (st) h r ↔ Ev 118 134 (some (.ref a) :: ls) (.ref a :: st) h r := ev_aload_n iX8_simple_133 rfl rfl
theorem iX8_simple_134 : mn_ins 118 134 = some (8, false, .iload_n 1, 1) := by decide +kernel
theorem eX8_simple_134 : Ev 118 134 (a0 :: some (.int x) :: ls) (st) h r ↔ Ev 118 135 (a0 :: some (.int x) :: ls) (.int x :: st) h r := ev_iload_n iX8_simple_134 rfl
theorem iX8_simple_135 : mn_ins 118 135 = some (8, false, .invokevirtual 184, 3) := by decide +kernel
theorem eX8_simple_135 : Ev 118 135 (ls) (.int x0 :: .ref b :: st) h r ↔ Evr true (decide (mn_cats st ≤ 8) && mn_isc h b 8) 118 135 ls st h.2.2.1 h.2.2.2 (Cl 111 (.ref b :: [.int x0]) h.1 h.2.1) r := Ev_V (As := [.int x0]) iX8_simple_135 (by decide +kernel) (x := mnI_X8_simple) (x2 := mnI_X8_pop) rfl rfl rfl (by decide +kernel) (Nat.le_of_ble_eq_true rfl) rfl
theorem iX8_simple_138 : mn_ins 118 138 = some (8, false, .pop2, 1) := by decide +kernel
theorem eX8_simple_138 : Ev 118 138 (ls) (.long u :: st) h r ↔ Ev 118 139 (ls) (st) h r := ev_pop2 iX8_simple_138
theorem iX8_simple_139 : mn_ins 118 139 = some (8, false, .goto 61, 3) := by decide +kernel
theorem eX8_simple_139 : Ev 118 139 (ls) (st) h r ↔ Ev 118 200 (ls) (st) h r := ev_goto iX8_simple_139 (by decide)
theorem iX8_simple_142 : mn_ins 118 142 = some (8, false, .iload_n 2, 1) := by decide +kernel
theorem eX8_simple_142 : Ev 118 142 (a0 :: a1 :: some (.int x) :: ls) (st) h r ↔ Ev 118 143 (a0 :: a1 :: some (.int x) :: ls) (.int x :: st) h r := ev_iload_n iX8_simple_142 rfl
theorem iX8_simple_143 : mn_ins 118 143 = some (8, false, .bipush 15, 2) := by decide +kernel
theorem eX8_simple_143 : Ev 118 143 (ls) (st) h r ↔ Ev 118 145 (ls) (.int (nI 15) :: st) h r := ev_bipush iX8_simple_143 (by decide)
theorem iX8_simple_145 : mn_ins 118 145 = some (8, false, .if_icmp .ne 37, 3) := by decide +kernel
theorem eX8_simple_145 : Ev 118 145 (ls) (.int y :: .int x :: st) h r ↔ if x = y then Ev 118 148 (ls) (st) h r else Ev 118 182 (ls) (st) h r := ev_cmpne iX8_simple_145 (by decide)
theorem iX8_simple_148 : mn_ins 118 148 = some (8, false, .aload_n 0, 1) := by decide +kernel
theorem eX8_simple_148 : Ev 118 148 (some (.ref a) :: ls) (st) h r ↔ Ev 118 149 (some (.ref a) :: ls) (.ref a :: st) h r := ev_aload_n iX8_simple_148 rfl rfl
theorem iX8_simple_149 : mn_ins 118 149 = some (8, false, .getfield 67, 3) := by decide +kernel
theorem eX8_simple_149 : Ev 118 149 (ls) (.ref a :: st) h r ↔ Evk 118 152 ls (mn_gf h a 8 25) st h r := ev_getf iX8_simple_149 (by decide +kernel)
theorem iX8_simple_152 : mn_ins 118 152 = some (8, false, .bipush 30, 2) := by decide +kernel
theorem eX8_simple_152 : Ev 118 152 (ls) (st) h r ↔ Ev 118 154 (ls) (.int (nI 30) :: st) h r := ev_bipush iX8_simple_152 (by decide)
theorem iX8_simple_154 : mn_ins 118 154 = some (8, false, .iload_n 1, 1) := by decide +kernel
theorem eX8_simple_154 : Ev 118 154 (a0 :: some (.int x) :: ls) (st) h r ↔ Ev 118 155 (a0 :: some (.int x) :: ls) (.int x :: st) h r := ev_iload_n iX8_simple_154 rfl
theorem iX8_simple_155 : mn_ins 118 155 = some (8, false, .imul, 1) := by decide +kernel
theorem eX8_simple_155 : Ev 118 155 (ls) (.int y :: .int x :: st) h r ↔ Ev 118 156 (ls) (.int (x * y) :: st) h r := ev_imul iX8_simple_155
theorem iX8_simple_156 : mn_ins 118 156 = some (8, false, .aload_n 0, 1) := by decide +kernel
theorem eX8_simple_156 : Ev 118 156 (some (.ref a) :: ls) (st) h r ↔ Ev 118 157 (some (.ref a) :: ls) (.ref a :: st) h r := ev_aload_n iX8_simple_156 rfl rfl
theorem iX8_simple_157 : mn_ins 118 157 = some (8, false, .getfield 64, 3) := by decide +kernel
theorem eX8_simple_157 : Ev 118 157 (ls) (.ref a :: st) h r ↔ Evk 118 160 ls (mn_gf h a 8 24) st h r := ev_getf iX8_simple_157 (by decide +kernel)
theorem iX8_simple_160 : mn_ins 118 160 = some (8, false, .iload_n 1, 1) := by decide +kernel
theorem eX8_simple_160 : Ev 118 160 (a0 :: some (.int x) :: ls) (st) h r ↔ Ev 118 161 (a0 :: some (.int x) :: ls) (.int x :: st) h r := ev_iload_n iX8_simple_160 rfl
theorem iX8_simple_161 : mn_ins 118 161 = some (8, false, .iaload, 1) := by decide +kernel
theorem eX8_simple_161 : Ev 118 161 (ls) (.int x :: .ref a :: st) h r ↔ Evk 118 162 ls (mn_al h a 0 x) st h r := ev_iald iX8_simple_161
theorem iX8_simple_162 : mn_ins 118 162 = some (8, false, .iadd, 1) := by decide +kernel
theorem eX8_simple_162 : Ev 118 162 (ls) (.int y :: .int x :: st) h r ↔ Ev 118 163 (ls) (.int (x + y) :: st) h r := ev_iadd iX8_simple_162
theorem iX8_simple_163 : mn_ins 118 163 = some (8, false, .aload_n 0, 1) := by decide +kernel
theorem eX8_simple_163 : Ev 118 163 (some (.ref a) :: ls) (st) h r ↔ Ev 118 164 (some (.ref a) :: ls) (.ref a :: st) h r := ev_aload_n iX8_simple_163 rfl rfl
theorem iX8_simple_164 : mn_ins 118 164 = some (8, false, .iload_n 1, 1) := by decide +kernel
theorem eX8_simple_164 : Ev 118 164 (a0 :: some (.int x) :: ls) (st) h r ↔ Ev 118 165 (a0 :: some (.int x) :: ls) (.int x :: st) h r := ev_iload_n iX8_simple_164 rfl
theorem iX8_simple_165 : mn_ins 118 165 = some (8, false, .invokevirtual 184, 3) := by decide +kernel
theorem eX8_simple_165 : Ev 118 165 (ls) (.int x0 :: .ref b :: st) h r ↔ Evr true (decide (mn_cats st ≤ 8) && mn_isc h b 8) 118 165 ls st h.2.2.1 h.2.2.2 (Cl 111 (.ref b :: [.int x0]) h.1 h.2.1) r := Ev_V (As := [.int x0]) iX8_simple_165 (by decide +kernel) (x := mnI_X8_simple) (x2 := mnI_X8_pop) rfl rfl rfl (by decide +kernel) (Nat.le_of_ble_eq_true rfl) rfl
theorem iX8_simple_168 : mn_ins 118 168 = some (8, false, .lastore, 1) := by decide +kernel
theorem eX8_simple_168 : Ev 118 168 (ls) (.long u :: .int x :: .ref a :: st) h r ↔ Evh 118 169 ls st (mn_asl h a x u) r := ev_last iX8_simple_168
theorem iX8_simple_169 : mn_ins 118 169 = some (8, false, .aload_n 0, 1) := by decide +kernel
theorem eX8_simple_169 : Ev 118 169 (some (.ref a) :: ls) (st) h r ↔ Ev 118 170 (some (.ref a) :: ls) (.ref a :: st) h r := ev_aload_n iX8_simple_169 rfl rfl
theorem iX8_simple_170 : mn_ins 118 170 = some (8, false, .getfield 64, 3) := by decide +kernel
theorem eX8_simple_170 : Ev 118 170 (ls) (.ref a :: st) h r ↔ Evk 118 173 ls (mn_gf h a 8 24) st h r := ev_getf iX8_simple_170 (by decide +kernel)
theorem iX8_simple_173 : mn_ins 118 173 = some (8, false, .iload_n 1, 1) := by decide +kernel
theorem eX8_simple_173 : Ev 118 173 (a0 :: some (.int x) :: ls) (st) h r ↔ Ev 118 174 (a0 :: some (.int x) :: ls) (.int x :: st) h r := ev_iload_n iX8_simple_173 rfl
theorem iX8_simple_174 : mn_ins 118 174 = some (8, false, .dup2, 1) := by decide +kernel
theorem eX8_simple_174 : Ev 118 174 (ls) (.int x :: .ref a :: st) h r ↔ Ev 118 175 (ls) (.int x :: .ref a :: .int x :: .ref a :: st) h r := ev_dup2 iX8_simple_174 rfl rfl
theorem iX8_simple_175 : mn_ins 118 175 = some (8, false, .iaload, 1) := by decide +kernel
theorem eX8_simple_175 : Ev 118 175 (ls) (.int x :: .ref a :: st) h r ↔ Evk 118 176 ls (mn_al h a 0 x) st h r := ev_iald iX8_simple_175
theorem iX8_simple_176 : mn_ins 118 176 = some (8, false, .iconst 1, 1) := by decide +kernel
theorem eX8_simple_176 : Ev 118 176 (ls) (st) h r ↔ Ev 118 177 (ls) (.int (nI 1) :: st) h r := ev_iconst iX8_simple_176 (by decide)
theorem iX8_simple_177 : mn_ins 118 177 = some (8, false, .iadd, 1) := by decide +kernel
theorem eX8_simple_177 : Ev 118 177 (ls) (.int y :: .int x :: st) h r ↔ Ev 118 178 (ls) (.int (x + y) :: st) h r := ev_iadd iX8_simple_177
theorem iX8_simple_178 : mn_ins 118 178 = some (8, false, .iastore, 1) := by decide +kernel
theorem eX8_simple_178 : Ev 118 178 (ls) (.int y :: .int x :: .ref a :: st) h r ↔ Evh 118 179 ls st (mn_asi h a x y) r := ev_iast iX8_simple_178
theorem iX8_simple_179 : mn_ins 118 179 = some (8, false, .goto 21, 3) := by decide +kernel
theorem eX8_simple_179 : Ev 118 179 (ls) (st) h r ↔ Ev 118 200 (ls) (st) h r := ev_goto iX8_simple_179 (by decide)
theorem iX8_simple_182 : mn_ins 118 182 = some (8, false, .aload_n 0, 1) := by decide +kernel
theorem eX8_simple_182 : Ev 118 182 (some (.ref a) :: ls) (st) h r ↔ Ev 118 183 (some (.ref a) :: ls) (.ref a :: st) h r := ev_aload_n iX8_simple_182 rfl rfl
theorem iX8_simple_183 : mn_ins 118 183 = some (8, false, .getfield 70, 3) := by decide +kernel
theorem eX8_simple_183 : Ev 118 183 (ls) (.ref a :: st) h r ↔ Evk 118 186 ls (mn_gf h a 8 26) st h r := ev_getf iX8_simple_183 (by decide +kernel)
theorem iX8_simple_186 : mn_ins 118 186 = some (8, false, .iload_n 1, 1) := by decide +kernel
theorem eX8_simple_186 : Ev 118 186 (a0 :: some (.int x) :: ls) (st) h r ↔ Ev 118 187 (a0 :: some (.int x) :: ls) (.int x :: st) h r := ev_iload_n iX8_simple_186 rfl
theorem iX8_simple_187 : mn_ins 118 187 = some (8, false, .aload_n 0, 1) := by decide +kernel
theorem eX8_simple_187 : Ev 118 187 (some (.ref a) :: ls) (st) h r ↔ Ev 118 188 (some (.ref a) :: ls) (.ref a :: st) h r := ev_aload_n iX8_simple_187 rfl rfl
theorem iX8_simple_188 : mn_ins 118 188 = some (8, false, .iload_n 1, 1) := by decide +kernel
theorem eX8_simple_188 : Ev 118 188 (a0 :: some (.int x) :: ls) (st) h r ↔ Ev 118 189 (a0 :: some (.int x) :: ls) (.int x :: st) h r := ev_iload_n iX8_simple_188 rfl
theorem iX8_simple_189 : mn_ins 118 189 = some (8, false, .invokevirtual 184, 3) := by decide +kernel
theorem eX8_simple_189 : Ev 118 189 (ls) (.int x0 :: .ref b :: st) h r ↔ Evr true (decide (mn_cats st ≤ 8) && mn_isc h b 8) 118 189 ls st h.2.2.1 h.2.2.2 (Cl 111 (.ref b :: [.int x0]) h.1 h.2.1) r := Ev_V (As := [.int x0]) iX8_simple_189 (by decide +kernel) (x := mnI_X8_simple) (x2 := mnI_X8_pop) rfl rfl rfl (by decide +kernel) (Nat.le_of_ble_eq_true rfl) rfl
theorem iX8_simple_192 : mn_ins 118 192 = some (8, false, .lastore, 1) := by decide +kernel
theorem eX8_simple_192 : Ev 118 192 (ls) (.long u :: .int x :: .ref a :: st) h r ↔ Evh 118 193 ls st (mn_asl h a x u) r := ev_last iX8_simple_192
theorem iX8_simple_193 : mn_ins 118 193 = some (8, false, .aload_n 0, 1) := by decide +kernel
theorem eX8_simple_193 : Ev 118 193 (some (.ref a) :: ls) (st) h r ↔ Ev 118 194 (some (.ref a) :: ls) (.ref a :: st) h r := ev_aload_n iX8_simple_193 rfl rfl
theorem iX8_simple_194 : mn_ins 118 194 = some (8, false, .getfield 39, 3) := by decide +kernel
theorem eX8_simple_194 : Ev 118 194 (ls) (.ref a :: st) h r ↔ Evk 118 197 ls (mn_gf h a 8 16) st h r := ev_getf iX8_simple_194 (by decide +kernel)
theorem iX8_simple_197 : mn_ins 118 197 = some (8, false, .iload_n 1, 1) := by decide +kernel
theorem eX8_simple_197 : Ev 118 197 (a0 :: some (.int x) :: ls) (st) h r ↔ Ev 118 198 (a0 :: some (.int x) :: ls) (.int x :: st) h r := ev_iload_n iX8_simple_197 rfl
theorem iX8_simple_198 : mn_ins 118 198 = some (8, false, .iconst 1, 1) := by decide +kernel
theorem eX8_simple_198 : Ev 118 198 (ls) (st) h r ↔ Ev 118 199 (ls) (.int (nI 1) :: st) h r := ev_iconst iX8_simple_198 (by decide)
theorem iX8_simple_199 : mn_ins 118 199 = some (8, false, .iastore, 1) := by decide +kernel
theorem eX8_simple_199 : Ev 118 199 (ls) (.int y :: .int x :: .ref a :: st) h r ↔ Evh 118 200 ls st (mn_asi h a x y) r := ev_iast iX8_simple_199
theorem iX8_simple_200 : mn_ins 118 200 = some (8, false, .return_, 1) := by decide +kernel
theorem eX8_simple_200 : Ev 118 200 (ls) [] h r ↔ r = (h, .inl none) := ev_vret iX8_simple_200 (X := mnI_X8_simple) rfl rfl
theorem iX8_fork_0 : mn_ins 119 0 = some (8, false, .aload_n 0, 1) := by decide +kernel
theorem eX8_fork_0 : Ev 119 0 (some (.ref a) :: ls) (st) h r ↔ Ev 119 1 (some (.ref a) :: ls) (.ref a :: st) h r := ev_aload_n iX8_fork_0 rfl rfl
theorem iX8_fork_1 : mn_ins 119 1 = some (8, false, .getfield 73, 3) := by decide +kernel
theorem eX8_fork_1 : Ev 119 1 (ls) (.ref a :: st) h r ↔ Evk 119 4 ls (mn_gf h a 8 27) st h r := ev_getf iX8_fork_1 (by decide +kernel)
theorem iX8_fork_4 : mn_ins 119 4 = some (8, false, .iload_n 1, 1) := by decide +kernel
theorem eX8_fork_4 : Ev 119 4 (a0 :: some (.int x) :: ls) (st) h r ↔ Ev 119 5 (a0 :: some (.int x) :: ls) (.int x :: st) h r := ev_iload_n iX8_fork_4 rfl
theorem iX8_fork_5 : mn_ins 119 5 = some (8, false, .iaload, 1) := by decide +kernel
theorem eX8_fork_5 : Ev 119 5 (ls) (.int x :: .ref a :: st) h r ↔ Evk 119 6 ls (mn_al h a 0 x) st h r := ev_iald iX8_fork_5
theorem iX8_fork_6 : mn_ins 119 6 = some (8, false, .istore_n 3, 1) := by decide +kernel
theorem eX8_fork_6 : Ev 119 6 (a0 :: a1 :: a2 :: a3 :: ls) (.int x :: st) h r ↔ Ev 119 7 (a0 :: a1 :: mn_k a2 :: some (.int x) :: ls) (st) h r := ev_istore_n iX8_fork_6 (by show 3 < _; simp only [List.length_cons]; omega)
theorem iX8_fork_7 : mn_ins 119 7 = some (8, false, .aload_n 0, 1) := by decide +kernel
theorem eX8_fork_7 : Ev 119 7 (some (.ref a) :: ls) (st) h r ↔ Ev 119 8 (some (.ref a) :: ls) (.ref a :: st) h r := ev_aload_n iX8_fork_7 rfl rfl
theorem iX8_fork_8 : mn_ins 119 8 = some (8, false, .iload_n 1, 1) := by decide +kernel
theorem eX8_fork_8 : Ev 119 8 (a0 :: some (.int x) :: ls) (st) h r ↔ Ev 119 9 (a0 :: some (.int x) :: ls) (.int x :: st) h r := ev_iload_n iX8_fork_8 rfl
theorem iX8_fork_9 : mn_ins 119 9 = some (8, false, .invokevirtual 184, 3) := by decide +kernel
theorem eX8_fork_9 : Ev 119 9 (ls) (.int x0 :: .ref b :: st) h r ↔ Evr true (decide (mn_cats st ≤ 8) && mn_isc h b 8) 119 9 ls st h.2.2.1 h.2.2.2 (Cl 111 (.ref b :: [.int x0]) h.1 h.2.1) r := Ev_V (As := [.int x0]) iX8_fork_9 (by decide +kernel) (x := mnI_X8_fork) (x2 := mnI_X8_pop) rfl rfl rfl (by decide +kernel) (Nat.le_of_ble_eq_true rfl) rfl
theorem iX8_fork_12 : mn_ins 119 12 = some (8, false, .lstore 4, 2) := by decide +kernel
theorem eX8_fork_12 : Ev 119 12 (a0 :: a1 :: a2 :: a3 :: a4 :: a5 :: ls) (.long u :: st) h r ↔ Ev 119 14 (a0 :: a1 :: a2 :: mn_k a3 :: some (.long u) :: none :: ls) (st) h r := ev_lstore iX8_fork_12 (by show 5 < _; simp only [List.length_cons]; omega)
theorem iX8_fork_14 : mn_ins 119 14 = some (8, false, .aload_n 0, 1) := by decide +kernel
theorem eX8_fork_14 : Ev 119 14 (some (.ref a) :: ls) (st) h r ↔ Ev 119 15 (some (.ref a) :: ls) (.ref a :: st) h r := ev_aload_n iX8_fork_14 rfl rfl
theorem iX8_fork_15 : mn_ins 119 15 = some (8, false, .iload_n 3, 1) := by decide +kernel
theorem eX8_fork_15 : Ev 119 15 (a0 :: a1 :: a2 :: some (.int x) :: ls) (st) h r ↔ Ev 119 16 (a0 :: a1 :: a2 :: some (.int x) :: ls) (.int x :: st) h r := ev_iload_n iX8_fork_15 rfl
theorem iX8_fork_16 : mn_ins 119 16 = some (8, false, .invokevirtual 153, 3) := by decide +kernel
theorem eX8_fork_16 : Ev 119 16 (ls) (.int x0 :: .ref b :: st) h r ↔ Evr true (decide (mn_cats st ≤ 8) && mn_isc h b 8) 119 16 ls st h.2.2.1 h.2.2.2 (Cl 103 (.ref b :: [.int x0]) h.1 h.2.1) r := Ev_V (As := [.int x0]) iX8_fork_16 (by decide +kernel) (x := mnI_X8_fork) (x2 := mnI_X8_open) rfl rfl rfl (by decide +kernel) (Nat.le_of_ble_eq_true rfl) rfl
theorem iX8_fork_19 : mn_ins 119 19 = some (8, false, .istore 6, 2) := by decide +kernel
theorem eX8_fork_19 : Ev 119 19 (a0 :: a1 :: a2 :: a3 :: a4 :: a5 :: a6 :: ls) (.int x :: st) h r ↔ Ev 119 21 (a0 :: a1 :: a2 :: a3 :: a4 :: mn_k a5 :: some (.int x) :: ls) (st) h r := ev_istore iX8_fork_19 (by show 6 < _; simp only [List.length_cons]; omega)
theorem iX8_fork_21 : mn_ins 119 21 = some (8, false, .aload_n 0, 1) := by decide +kernel
theorem eX8_fork_21 : Ev 119 21 (some (.ref a) :: ls) (st) h r ↔ Ev 119 22 (some (.ref a) :: ls) (.ref a :: st) h r := ev_aload_n iX8_fork_21 rfl rfl
theorem iX8_fork_22 : mn_ins 119 22 = some (8, false, .iload_n 1, 1) := by decide +kernel
theorem eX8_fork_22 : Ev 119 22 (a0 :: some (.int x) :: ls) (st) h r ↔ Ev 119 23 (a0 :: some (.int x) :: ls) (.int x :: st) h r := ev_iload_n iX8_fork_22 rfl
theorem iX8_fork_23 : mn_ins 119 23 = some (8, false, .aload_n 0, 1) := by decide +kernel
theorem eX8_fork_23 : Ev 119 23 (some (.ref a) :: ls) (st) h r ↔ Ev 119 24 (some (.ref a) :: ls) (.ref a :: st) h r := ev_aload_n iX8_fork_23 rfl rfl
theorem iX8_fork_24 : mn_ins 119 24 = some (8, false, .iload_n 2, 1) := by decide +kernel
theorem eX8_fork_24 : Ev 119 24 (a0 :: a1 :: some (.int x) :: ls) (st) h r ↔ Ev 119 25 (a0 :: a1 :: some (.int x) :: ls) (.int x :: st) h r := ev_iload_n iX8_fork_24 rfl
theorem iX8_fork_25 : mn_ins 119 25 = some (8, false, .iload_n 1, 1) := by decide +kernel
theorem eX8_fork_25 : Ev 119 25 (a0 :: some (.int x) :: ls) (st) h r ↔ Ev 119 26 (a0 :: some (.int x) :: ls) (.int x :: st) h r := ev_iload_n iX8_fork_25 rfl
theorem iX8_fork_26 : mn_ins 119 26 = some (8, false, .lload 4, 2) := by decide +kernel
theorem eX8_fork_26 : Ev 119 26 (a0 :: a1 :: a2 :: a3 :: some (.long u) :: ls) (st) h r ↔ Ev 119 28 (a0 :: a1 :: a2 :: a3 :: some (.long u) :: ls) (.long u :: st) h r := ev_lload iX8_fork_26 rfl
theorem iX8_fork_28 : mn_ins 119 28 = some (8, false, .iload 6, 2) := by decide +kernel
theorem eX8_fork_28 : Ev 119 28 (a0 :: a1 :: a2 :: a3 :: a4 :: a5 :: some (.int x) :: ls) (st) h r ↔ Ev 119 30 (a0 :: a1 :: a2 :: a3 :: a4 :: a5 :: some (.int x) :: ls) (.int x :: st) h r := ev_iload iX8_fork_28 rfl
theorem iX8_fork_30 : mn_ins 119 30 = some (8, false, .iload_n 3, 1) := by decide +kernel
theorem eX8_fork_30 : Ev 119 30 (a0 :: a1 :: a2 :: some (.int x) :: ls) (st) h r ↔ Ev 119 31 (a0 :: a1 :: a2 :: some (.int x) :: ls) (.int x :: st) h r := ev_iload_n iX8_fork_30 rfl
theorem iX8_fork_31 : mn_ins 119 31 = some (8, false, .invokevirtual 156, 3) := by decide +kernel
theorem eX8_fork_31 : Ev 119 31 (ls) (.int x4 :: .int x3 :: .long u2 :: .int x1 :: .int x0 :: .ref b :: st) h r ↔ Evr true (decide (mn_cats st ≤ 8) && mn_isc h b 8) 119 31 ls st h.2.2.1 h.2.2.2 (Cl 108 (.ref b :: [.int x0, .int x1, .long u2, .int x3, .int x4]) h.1 h.2.1) r := Ev_V (As := [.int x0, .int x1, .long u2, .int x3, .int x4]) iX8_fork_31 (by decide +kernel) (x := mnI_X8_fork) (x2 := mnI_X8_beginTask) rfl rfl rfl (by decide +kernel) (Nat.le_of_ble_eq_true rfl) rfl
theorem iX8_fork_34 : mn_ins 119 34 = some (8, false, .i2l, 1) := by decide +kernel
theorem eX8_fork_34 : Ev 119 34 (ls) (.int x :: st) h r ↔ Ev 119 35 (ls) (.long x.toInt64 :: st) h r := ev_i2l iX8_fork_34
theorem iX8_fork_35 : mn_ins 119 35 = some (8, false, .invokevirtual 191, 3) := by decide +kernel
theorem eX8_fork_35 : Ev 119 35 (ls) (.long u1 :: .int x0 :: .ref b :: st) h r ↔ Evr true (decide (mn_cats st ≤ 8) && mn_isc h b 8) 119 35 ls st h.2.2.1 h.2.2.2 (Cl 112 (.ref b :: [.int x0, .long u1]) h.1 h.2.1) r := Ev_V (As := [.int x0, .long u1]) iX8_fork_35 (by decide +kernel) (x := mnI_X8_fork) (x2 := mnI_X8_push) rfl rfl rfl (by decide +kernel) (Nat.le_of_ble_eq_true rfl) rfl
theorem iX8_fork_38 : mn_ins 119 38 = some (8, false, .aload_n 0, 1) := by decide +kernel
theorem eX8_fork_38 : Ev 119 38 (some (.ref a) :: ls) (st) h r ↔ Ev 119 39 (some (.ref a) :: ls) (.ref a :: st) h r := ev_aload_n iX8_fork_38 rfl rfl
theorem iX8_fork_39 : mn_ins 119 39 = some (8, false, .getfield 73, 3) := by decide +kernel
theorem eX8_fork_39 : Ev 119 39 (ls) (.ref a :: st) h r ↔ Evk 119 42 ls (mn_gf h a 8 27) st h r := ev_getf iX8_fork_39 (by decide +kernel)
theorem iX8_fork_42 : mn_ins 119 42 = some (8, false, .iload_n 1, 1) := by decide +kernel
theorem eX8_fork_42 : Ev 119 42 (a0 :: some (.int x) :: ls) (st) h r ↔ Ev 119 43 (a0 :: some (.int x) :: ls) (.int x :: st) h r := ev_iload_n iX8_fork_42 rfl
theorem iX8_fork_43 : mn_ins 119 43 = some (8, false, .aload_n 0, 1) := by decide +kernel
theorem eX8_fork_43 : Ev 119 43 (some (.ref a) :: ls) (st) h r ↔ Ev 119 44 (some (.ref a) :: ls) (.ref a :: st) h r := ev_aload_n iX8_fork_43 rfl rfl
theorem iX8_fork_44 : mn_ins 119 44 = some (8, false, .iload_n 3, 1) := by decide +kernel
theorem eX8_fork_44 : Ev 119 44 (a0 :: a1 :: a2 :: some (.int x) :: ls) (st) h r ↔ Ev 119 45 (a0 :: a1 :: a2 :: some (.int x) :: ls) (.int x :: st) h r := ev_iload_n iX8_fork_44 rfl
theorem iX8_fork_45 : mn_ins 119 45 = some (8, false, .invokevirtual 153, 3) := by decide +kernel
theorem eX8_fork_45 : Ev 119 45 (ls) (.int x0 :: .ref b :: st) h r ↔ Evr true (decide (mn_cats st ≤ 8) && mn_isc h b 8) 119 45 ls st h.2.2.1 h.2.2.2 (Cl 103 (.ref b :: [.int x0]) h.1 h.2.1) r := Ev_V (As := [.int x0]) iX8_fork_45 (by decide +kernel) (x := mnI_X8_fork) (x2 := mnI_X8_open) rfl rfl rfl (by decide +kernel) (Nat.le_of_ble_eq_true rfl) rfl
theorem iX8_fork_48 : mn_ins 119 48 = some (8, false, .iastore, 1) := by decide +kernel
theorem eX8_fork_48 : Ev 119 48 (ls) (.int y :: .int x :: .ref a :: st) h r ↔ Evh 119 49 ls st (mn_asi h a x y) r := ev_iast iX8_fork_48
theorem iX8_fork_49 : mn_ins 119 49 = some (8, false, .aload_n 0, 1) := by decide +kernel
theorem eX8_fork_49 : Ev 119 49 (some (.ref a) :: ls) (st) h r ↔ Ev 119 50 (some (.ref a) :: ls) (.ref a :: st) h r := ev_aload_n iX8_fork_49 rfl rfl
theorem iX8_fork_50 : mn_ins 119 50 = some (8, false, .invokevirtual 206, 3) := by decide +kernel
theorem eX8_fork_50 : Ev 119 50 (ls) (.ref b :: st) h r ↔ Evr true (decide (mn_cats st ≤ 8) && mn_isc h b 8) 119 50 ls st h.2.2.1 h.2.2.2 (Cl 107 (.ref b :: []) h.1 h.2.1) r := Ev_V (As := []) iX8_fork_50 (by decide +kernel) (x := mnI_X8_fork) (x2 := mnI_X8_tidy) rfl rfl rfl (by decide +kernel) (Nat.le_of_ble_eq_true rfl) rfl
theorem iX8_fork_53 : mn_ins 119 53 = some (8, false, .return_, 1) := by decide +kernel
theorem eX8_fork_53 : Ev 119 53 (ls) [] h r ↔ r = (h, .inl none) := ev_vret iX8_fork_53 (X := mnI_X8_fork) rfl rfl
theorem iX8_join_0 : mn_ins 120 0 = some (8, false, .aload_n 0, 1) := by decide +kernel
theorem eX8_join_0 : Ev 120 0 (some (.ref a) :: ls) (st) h r ↔ Ev 120 1 (some (.ref a) :: ls) (.ref a :: st) h r := ev_aload_n iX8_join_0 rfl rfl
theorem iX8_join_1 : mn_ins 120 1 = some (8, false, .iload_n 1, 1) := by decide +kernel
theorem eX8_join_1 : Ev 120 1 (a0 :: some (.int x) :: ls) (st) h r ↔ Ev 120 2 (a0 :: some (.int x) :: ls) (.int x :: st) h r := ev_iload_n iX8_join_1 rfl
theorem iX8_join_2 : mn_ins 120 2 = some (8, false, .invokevirtual 170, 3) := by decide +kernel
theorem eX8_join_2 : Ev 120 2 (ls) (.int x0 :: .ref b :: st) h r ↔ Evr true (decide (mn_cats st ≤ 8) && mn_isc h b 8) 120 2 ls st h.2.2.1 h.2.2.2 (Cl 110 (.ref b :: [.int x0]) h.1 h.2.1) r := Ev_V (As := [.int x0]) iX8_join_2 (by decide +kernel) (x := mnI_X8_join) (x2 := mnI_X8_top) rfl rfl rfl (by decide +kernel) (Nat.le_of_ble_eq_true rfl) rfl
theorem iX8_join_5 : mn_ins 120 5 = some (8, false, .lstore_n 2, 1) := by decide +kernel
theorem eX8_join_5 : Ev 120 5 (a0 :: a1 :: a2 :: a3 :: ls) (.long u :: st) h r ↔ Ev 120 6 (a0 :: mn_k a1 :: some (.long u) :: none :: ls) (st) h r := ev_lstore_n iX8_join_5 (by show 3 < _; simp only [List.length_cons]; omega)
theorem iX8_join_6 : mn_ins 120 6 = some (8, false, .lload_n 2, 1) := by decide +kernel
theorem eX8_join_6 : Ev 120 6 (a0 :: a1 :: some (.long u) :: ls) (st) h r ↔ Ev 120 7 (a0 :: a1 :: some (.long u) :: ls) (.long u :: st) h r := ev_lload_n iX8_join_6 rfl
theorem iX8_join_7 : mn_ins 120 7 = some (8, false, .iconst 0, 1) := by decide +kernel
theorem eX8_join_7 : Ev 120 7 (ls) (st) h r ↔ Ev 120 8 (ls) (.int (nI 0) :: st) h r := ev_iconst iX8_join_7 (by decide)
theorem iX8_join_8 : mn_ins 120 8 = some (8, false, .aload_n 0, 1) := by decide +kernel
theorem eX8_join_8 : Ev 120 8 (some (.ref a) :: ls) (st) h r ↔ Ev 120 9 (some (.ref a) :: ls) (.ref a :: st) h r := ev_aload_n iX8_join_8 rfl rfl
theorem iX8_join_9 : mn_ins 120 9 = some (8, false, .getfield 144, 3) := by decide +kernel
theorem eX8_join_9 : Ev 120 9 (ls) (.ref a :: st) h r ↔ Evk 120 12 ls (mn_gf h a 8 11) st h r := ev_getf iX8_join_9 (by decide +kernel)
theorem iX8_join_12 : mn_ins 120 12 = some (8, false, .iconst 1, 1) := by decide +kernel
theorem eX8_join_12 : Ev 120 12 (ls) (st) h r ↔ Ev 120 13 (ls) (.int (nI 1) :: st) h r := ev_iconst iX8_join_12 (by decide)
theorem iX8_join_13 : mn_ins 120 13 = some (8, false, .isub, 1) := by decide +kernel
theorem eX8_join_13 : Ev 120 13 (ls) (.int y :: .int x :: st) h r ↔ Ev 120 14 (ls) (.int (x - y) :: st) h r := ev_isub iX8_join_13
theorem iX8_join_14 : mn_ins 120 14 = some (8, false, .invokestatic 111, 3) := by decide +kernel
theorem eX8_join_14 : Ev 120 14 (ls) (.int x2 :: .int x1 :: .long u0 :: st) h r ↔ Evr false (decide (mn_cats st ≤ 8)) 120 14 ls st h.2.2.1 h.2.2.2 (Cl 86 [.long u0, .int x1, .int x2] h.1 h.2.1) r := Ev_T (As := [.long u0, .int x1, .int x2]) (q := 1) iX8_join_14 (by decide +kernel) (by decide) (x := mnI_X8_join) (x2 := mnI_X8_in) rfl rfl rfl (by decide +kernel) (Nat.le_of_ble_eq_true rfl) rfl
theorem iX8_join_17 : mn_ins 120 17 = some (8, false, .ifCond .eq 13, 3) := by decide +kernel
theorem eX8_join_17 : Ev 120 17 (ls) (.int x :: st) h r ↔ if x = nI 0 then Ev 120 30 (ls) (st) h r else Ev 120 20 (ls) (st) h r := ev_ifeq iX8_join_17 (by decide)
theorem iX8_join_20 : mn_ins 120 20 = some (8, false, .aload_n 0, 1) := by decide +kernel
theorem eX8_join_20 : Ev 120 20 (some (.ref a) :: ls) (st) h r ↔ Ev 120 21 (some (.ref a) :: ls) (.ref a :: st) h r := ev_aload_n iX8_join_20 rfl rfl
theorem iX8_join_21 : mn_ins 120 21 = some (8, false, .lload_n 2, 1) := by decide +kernel
theorem eX8_join_21 : Ev 120 21 (a0 :: a1 :: some (.long u) :: ls) (st) h r ↔ Ev 120 22 (a0 :: a1 :: some (.long u) :: ls) (.long u :: st) h r := ev_lload_n iX8_join_21 rfl
theorem iX8_join_22 : mn_ins 120 22 = some (8, false, .l2i, 1) := by decide +kernel
theorem eX8_join_22 : Ev 120 22 (ls) (.long u :: st) h r ↔ Ev 120 23 (ls) (.int u.toInt32 :: st) h r := ev_l2i iX8_join_22
theorem iX8_join_23 : mn_ins 120 23 = some (8, false, .invokevirtual 174, 3) := by decide +kernel
theorem eX8_join_23 : Ev 120 23 (ls) (.int x0 :: .ref b :: st) h r ↔ Evr true (decide (mn_cats st ≤ 8) && mn_isc h b 8) 120 23 ls st h.2.2.1 h.2.2.2 (Cl 114 (.ref b :: [.int x0]) h.1 h.2.1) r := Ev_V (As := [.int x0]) iX8_join_23 (by decide +kernel) (x := mnI_X8_join) (x2 := mnI_X8_holder) rfl rfl rfl (by decide +kernel) (Nat.le_of_ble_eq_true rfl) rfl
theorem iX8_join_26 : mn_ins 120 26 = some (8, false, .iload_n 1, 1) := by decide +kernel
theorem eX8_join_26 : Ev 120 26 (a0 :: some (.int x) :: ls) (st) h r ↔ Ev 120 27 (a0 :: some (.int x) :: ls) (.int x :: st) h r := ev_iload_n iX8_join_26 rfl
theorem iX8_join_27 : mn_ins 120 27 = some (8, false, .if_icmp .eq 10, 3) := by decide +kernel
theorem eX8_join_27 : Ev 120 27 (ls) (.int y :: .int x :: st) h r ↔ if x = y then Ev 120 37 (ls) (st) h r else Ev 120 30 (ls) (st) h r := ev_cmpeq iX8_join_27 (by decide)
theorem iX8_join_30 : mn_ins 120 30 = some (8, false, .aload_n 0, 1) := by decide +kernel
theorem eX8_join_30 : Ev 120 30 (some (.ref a) :: ls) (st) h r ↔ Ev 120 31 (some (.ref a) :: ls) (.ref a :: st) h r := ev_aload_n iX8_join_30 rfl rfl
theorem iX8_join_31 : mn_ins 120 31 = some (8, false, .iload_n 1, 1) := by decide +kernel
theorem eX8_join_31 : Ev 120 31 (a0 :: some (.int x) :: ls) (st) h r ↔ Ev 120 32 (a0 :: some (.int x) :: ls) (.int x :: st) h r := ev_iload_n iX8_join_31 rfl
theorem iX8_join_32 : mn_ins 120 32 = some (8, false, .iconst 1, 1) := by decide +kernel
theorem eX8_join_32 : Ev 120 32 (ls) (st) h r ↔ Ev 120 33 (ls) (.int (nI 1) :: st) h r := ev_iconst iX8_join_32 (by decide)
theorem iX8_join_33 : mn_ins 120 33 = some (8, false, .invokevirtual 180, 3) := by decide +kernel
theorem eX8_join_33 : Ev 120 33 (ls) (.int x1 :: .int x0 :: .ref b :: st) h r ↔ Evr true (decide (mn_cats st ≤ 8) && mn_isc h b 8) 120 33 ls st h.2.2.1 h.2.2.2 (Cl 109 (.ref b :: [.int x0, .int x1]) h.1 h.2.1) r := Ev_V (As := [.int x0, .int x1]) iX8_join_33 (by decide +kernel) (x := mnI_X8_join) (x2 := mnI_X8_fail) rfl rfl rfl (by decide +kernel) (Nat.le_of_ble_eq_true rfl) rfl
theorem iX8_join_36 : mn_ins 120 36 = some (8, false, .return_, 1) := by decide +kernel
theorem eX8_join_36 : Ev 120 36 (ls) [] h r ↔ r = (h, .inl none) := ev_vret iX8_join_36 (X := mnI_X8_join) rfl rfl
theorem iX8_join_37 : mn_ins 120 37 = some (8, false, .lload_n 2, 1) := by decide +kernel
theorem eX8_join_37 : Ev 120 37 (a0 :: a1 :: some (.long u) :: ls) (st) h r ↔ Ev 120 38 (a0 :: a1 :: some (.long u) :: ls) (.long u :: st) h r := ev_lload_n iX8_join_37 rfl
theorem iX8_join_38 : mn_ins 120 38 = some (8, false, .l2i, 1) := by decide +kernel
theorem eX8_join_38 : Ev 120 38 (ls) (.long u :: st) h r ↔ Ev 120 39 (ls) (.int u.toInt32 :: st) h r := ev_l2i iX8_join_38
theorem iX8_join_39 : mn_ins 120 39 = some (8, false, .istore 4, 2) := by decide +kernel
theorem eX8_join_39 : Ev 120 39 (a0 :: a1 :: a2 :: a3 :: a4 :: ls) (.int x :: st) h r ↔ Ev 120 41 (a0 :: a1 :: a2 :: mn_k a3 :: some (.int x) :: ls) (st) h r := ev_istore iX8_join_39 (by show 4 < _; simp only [List.length_cons]; omega)
theorem iX8_join_41 : mn_ins 120 41 = some (8, false, .aload_n 0, 1) := by decide +kernel
theorem eX8_join_41 : Ev 120 41 (some (.ref a) :: ls) (st) h r ↔ Ev 120 42 (some (.ref a) :: ls) (.ref a :: st) h r := ev_aload_n iX8_join_41 rfl rfl
theorem iX8_join_42 : mn_ins 120 42 = some (8, false, .getfield 39, 3) := by decide +kernel
theorem eX8_join_42 : Ev 120 42 (ls) (.ref a :: st) h r ↔ Evk 120 45 ls (mn_gf h a 8 16) st h r := ev_getf iX8_join_42 (by decide +kernel)
theorem iX8_join_45 : mn_ins 120 45 = some (8, false, .iload 4, 2) := by decide +kernel
theorem eX8_join_45 : Ev 120 45 (a0 :: a1 :: a2 :: a3 :: some (.int x) :: ls) (st) h r ↔ Ev 120 47 (a0 :: a1 :: a2 :: a3 :: some (.int x) :: ls) (.int x :: st) h r := ev_iload iX8_join_45 rfl
theorem iX8_join_47 : mn_ins 120 47 = some (8, false, .iaload, 1) := by decide +kernel
theorem eX8_join_47 : Ev 120 47 (ls) (.int x :: .ref a :: st) h r ↔ Evk 120 48 ls (mn_al h a 0 x) st h r := ev_iald iX8_join_47
theorem iX8_join_48 : mn_ins 120 48 = some (8, false, .iconst 3, 1) := by decide +kernel
theorem eX8_join_48 : Ev 120 48 (ls) (st) h r ↔ Ev 120 49 (ls) (.int (nI 3) :: st) h r := ev_iconst iX8_join_48 (by decide)
theorem iX8_join_49 : mn_ins 120 49 = some (8, false, .if_icmp .ne 12, 3) := by decide +kernel
theorem eX8_join_49 : Ev 120 49 (ls) (.int y :: .int x :: st) h r ↔ if x = y then Ev 120 52 (ls) (st) h r else Ev 120 61 (ls) (st) h r := ev_cmpne iX8_join_49 (by decide)
theorem iX8_join_52 : mn_ins 120 52 = some (8, false, .aload_n 0, 1) := by decide +kernel
theorem eX8_join_52 : Ev 120 52 (some (.ref a) :: ls) (st) h r ↔ Ev 120 53 (some (.ref a) :: ls) (.ref a :: st) h r := ev_aload_n iX8_join_52 rfl rfl
theorem iX8_join_53 : mn_ins 120 53 = some (8, false, .iload_n 1, 1) := by decide +kernel
theorem eX8_join_53 : Ev 120 53 (a0 :: some (.int x) :: ls) (st) h r ↔ Ev 120 54 (a0 :: some (.int x) :: ls) (.int x :: st) h r := ev_iload_n iX8_join_53 rfl
theorem iX8_join_54 : mn_ins 120 54 = some (8, false, .iconst 2, 1) := by decide +kernel
theorem eX8_join_54 : Ev 120 54 (ls) (st) h r ↔ Ev 120 55 (ls) (.int (nI 2) :: st) h r := ev_iconst iX8_join_54 (by decide)
theorem iX8_join_55 : mn_ins 120 55 = some (8, false, .invokevirtual 180, 3) := by decide +kernel
theorem eX8_join_55 : Ev 120 55 (ls) (.int x1 :: .int x0 :: .ref b :: st) h r ↔ Evr true (decide (mn_cats st ≤ 8) && mn_isc h b 8) 120 55 ls st h.2.2.1 h.2.2.2 (Cl 109 (.ref b :: [.int x0, .int x1]) h.1 h.2.1) r := Ev_V (As := [.int x0, .int x1]) iX8_join_55 (by decide +kernel) (x := mnI_X8_join) (x2 := mnI_X8_fail) rfl rfl rfl (by decide +kernel) (Nat.le_of_ble_eq_true rfl) rfl
theorem iX8_join_58 : mn_ins 120 58 = some (8, false, .goto 86, 3) := by decide +kernel
theorem eX8_join_58 : Ev 120 58 (ls) (st) h r ↔ Ev 120 144 (ls) (st) h r := ev_goto iX8_join_58 (by decide)
theorem iX8_join_61 : mn_ins 120 61 = some (8, false, .aload_n 0, 1) := by decide +kernel
theorem eX8_join_61 : Ev 120 61 (some (.ref a) :: ls) (st) h r ↔ Ev 120 62 (some (.ref a) :: ls) (.ref a :: st) h r := ev_aload_n iX8_join_61 rfl rfl
theorem iX8_join_62 : mn_ins 120 62 = some (8, false, .getfield 39, 3) := by decide +kernel
theorem eX8_join_62 : Ev 120 62 (ls) (.ref a :: st) h r ↔ Evk 120 65 ls (mn_gf h a 8 16) st h r := ev_getf iX8_join_62 (by decide +kernel)
theorem iX8_join_65 : mn_ins 120 65 = some (8, false, .iload 4, 2) := by decide +kernel
theorem eX8_join_65 : Ev 120 65 (a0 :: a1 :: a2 :: a3 :: some (.int x) :: ls) (st) h r ↔ Ev 120 67 (a0 :: a1 :: a2 :: a3 :: some (.int x) :: ls) (.int x :: st) h r := ev_iload iX8_join_65 rfl
theorem iX8_join_67 : mn_ins 120 67 = some (8, false, .iaload, 1) := by decide +kernel
theorem eX8_join_67 : Ev 120 67 (ls) (.int x :: .ref a :: st) h r ↔ Evk 120 68 ls (mn_al h a 0 x) st h r := ev_iald iX8_join_67
theorem iX8_join_68 : mn_ins 120 68 = some (8, false, .iconst 2, 1) := by decide +kernel
theorem eX8_join_68 : Ev 120 68 (ls) (st) h r ↔ Ev 120 69 (ls) (.int (nI 2) :: st) h r := ev_iconst iX8_join_68 (by decide)
theorem iX8_join_69 : mn_ins 120 69 = some (8, false, .if_icmp .ne 18, 3) := by decide +kernel
theorem eX8_join_69 : Ev 120 69 (ls) (.int y :: .int x :: st) h r ↔ if x = y then Ev 120 72 (ls) (st) h r else Ev 120 87 (ls) (st) h r := ev_cmpne iX8_join_69 (by decide)
theorem iX8_join_72 : mn_ins 120 72 = some (8, false, .aload_n 0, 1) := by decide +kernel
theorem eX8_join_72 : Ev 120 72 (some (.ref a) :: ls) (st) h r ↔ Ev 120 73 (some (.ref a) :: ls) (.ref a :: st) h r := ev_aload_n iX8_join_72 rfl rfl
theorem iX8_join_73 : mn_ins 120 73 = some (8, false, .iload_n 1, 1) := by decide +kernel
theorem eX8_join_73 : Ev 120 73 (a0 :: some (.int x) :: ls) (st) h r ↔ Ev 120 74 (a0 :: some (.int x) :: ls) (.int x :: st) h r := ev_iload_n iX8_join_73 rfl
theorem iX8_join_74 : mn_ins 120 74 = some (8, false, .aload_n 0, 1) := by decide +kernel
theorem eX8_join_74 : Ev 120 74 (some (.ref a) :: ls) (st) h r ↔ Ev 120 75 (some (.ref a) :: ls) (.ref a :: st) h r := ev_aload_n iX8_join_74 rfl rfl
theorem iX8_join_75 : mn_ins 120 75 = some (8, false, .getfield 42, 3) := by decide +kernel
theorem eX8_join_75 : Ev 120 75 (ls) (.ref a :: st) h r ↔ Evk 120 78 ls (mn_gf h a 8 17) st h r := ev_getf iX8_join_75 (by decide +kernel)
theorem iX8_join_78 : mn_ins 120 78 = some (8, false, .iload 4, 2) := by decide +kernel
theorem eX8_join_78 : Ev 120 78 (a0 :: a1 :: a2 :: a3 :: some (.int x) :: ls) (st) h r ↔ Ev 120 80 (a0 :: a1 :: a2 :: a3 :: some (.int x) :: ls) (.int x :: st) h r := ev_iload iX8_join_78 rfl
theorem iX8_join_80 : mn_ins 120 80 = some (8, false, .iaload, 1) := by decide +kernel
theorem eX8_join_80 : Ev 120 80 (ls) (.int x :: .ref a :: st) h r ↔ Evk 120 81 ls (mn_al h a 0 x) st h r := ev_iald iX8_join_80
theorem iX8_join_81 : mn_ins 120 81 = some (8, false, .invokevirtual 180, 3) := by decide +kernel
theorem eX8_join_81 : Ev 120 81 (ls) (.int x1 :: .int x0 :: .ref b :: st) h r ↔ Evr true (decide (mn_cats st ≤ 8) && mn_isc h b 8) 120 81 ls st h.2.2.1 h.2.2.2 (Cl 109 (.ref b :: [.int x0, .int x1]) h.1 h.2.1) r := Ev_V (As := [.int x0, .int x1]) iX8_join_81 (by decide +kernel) (x := mnI_X8_join) (x2 := mnI_X8_fail) rfl rfl rfl (by decide +kernel) (Nat.le_of_ble_eq_true rfl) rfl
theorem iX8_join_84 : mn_ins 120 84 = some (8, false, .goto 60, 3) := by decide +kernel
theorem eX8_join_84 : Ev 120 84 (ls) (st) h r ↔ Ev 120 144 (ls) (st) h r := ev_goto iX8_join_84 (by decide)
theorem iX8_join_87 : mn_ins 120 87 = some (8, false, .aload_n 0, 1) := by decide +kernel
theorem eX8_join_87 : Ev 120 87 (some (.ref a) :: ls) (st) h r ↔ Ev 120 88 (some (.ref a) :: ls) (.ref a :: st) h r := ev_aload_n iX8_join_87 rfl rfl
theorem iX8_join_88 : mn_ins 120 88 = some (8, false, .getfield 39, 3) := by decide +kernel
theorem eX8_join_88 : Ev 120 88 (ls) (.ref a :: st) h r ↔ Evk 120 91 ls (mn_gf h a 8 16) st h r := ev_getf iX8_join_88 (by decide +kernel)
theorem iX8_join_91 : mn_ins 120 91 = some (8, false, .iload 4, 2) := by decide +kernel
theorem eX8_join_91 : Ev 120 91 (a0 :: a1 :: a2 :: a3 :: some (.int x) :: ls) (st) h r ↔ Ev 120 93 (a0 :: a1 :: a2 :: a3 :: some (.int x) :: ls) (.int x :: st) h r := ev_iload iX8_join_91 rfl
theorem iX8_join_93 : mn_ins 120 93 = some (8, false, .iaload, 1) := by decide +kernel
theorem eX8_join_93 : Ev 120 93 (ls) (.int x :: .ref a :: st) h r ↔ Evk 120 94 ls (mn_al h a 0 x) st h r := ev_iald iX8_join_93
theorem iX8_join_94 : mn_ins 120 94 = some (8, false, .iconst 1, 1) := by decide +kernel
theorem eX8_join_94 : Ev 120 94 (ls) (st) h r ↔ Ev 120 95 (ls) (.int (nI 1) :: st) h r := ev_iconst iX8_join_94 (by decide)
theorem iX8_join_95 : mn_ins 120 95 = some (8, false, .if_icmp .ne 31, 3) := by decide +kernel
theorem eX8_join_95 : Ev 120 95 (ls) (.int y :: .int x :: st) h r ↔ if x = y then Ev 120 98 (ls) (st) h r else Ev 120 126 (ls) (st) h r := ev_cmpne iX8_join_95 (by decide)
theorem iX8_join_98 : mn_ins 120 98 = some (8, false, .aload_n 0, 1) := by decide +kernel
theorem eX8_join_98 : Ev 120 98 (some (.ref a) :: ls) (st) h r ↔ Ev 120 99 (some (.ref a) :: ls) (.ref a :: st) h r := ev_aload_n iX8_join_98 rfl rfl
theorem iX8_join_99 : mn_ins 120 99 = some (8, false, .getfield 64, 3) := by decide +kernel
theorem eX8_join_99 : Ev 120 99 (ls) (.ref a :: st) h r ↔ Evk 120 102 ls (mn_gf h a 8 24) st h r := ev_getf iX8_join_99 (by decide +kernel)
theorem iX8_join_102 : mn_ins 120 102 = some (8, false, .iload_n 1, 1) := by decide +kernel
theorem eX8_join_102 : Ev 120 102 (a0 :: some (.int x) :: ls) (st) h r ↔ Ev 120 103 (a0 :: some (.int x) :: ls) (.int x :: st) h r := ev_iload_n iX8_join_102 rfl
theorem iX8_join_103 : mn_ins 120 103 = some (8, false, .iaload, 1) := by decide +kernel
theorem eX8_join_103 : Ev 120 103 (ls) (.int x :: .ref a :: st) h r ↔ Evk 120 104 ls (mn_al h a 0 x) st h r := ev_iald iX8_join_103
theorem iX8_join_104 : mn_ins 120 104 = some (8, false, .aload_n 0, 1) := by decide +kernel
theorem eX8_join_104 : Ev 120 104 (some (.ref a) :: ls) (st) h r ↔ Ev 120 105 (some (.ref a) :: ls) (.ref a :: st) h r := ev_aload_n iX8_join_104 rfl rfl
theorem iX8_join_105 : mn_ins 120 105 = some (8, false, .getfield 64, 3) := by decide +kernel
theorem eX8_join_105 : Ev 120 105 (ls) (.ref a :: st) h r ↔ Evk 120 108 ls (mn_gf h a 8 24) st h r := ev_getf iX8_join_105 (by decide +kernel)
theorem iX8_join_108 : mn_ins 120 108 = some (8, false, .iload 4, 2) := by decide +kernel
theorem eX8_join_108 : Ev 120 108 (a0 :: a1 :: a2 :: a3 :: some (.int x) :: ls) (st) h r ↔ Ev 120 110 (a0 :: a1 :: a2 :: a3 :: some (.int x) :: ls) (.int x :: st) h r := ev_iload iX8_join_108 rfl
theorem iX8_join_110 : mn_ins 120 110 = some (8, false, .iaload, 1) := by decide +kernel
theorem eX8_join_110 : Ev 120 110 (ls) (.int x :: .ref a :: st) h r ↔ Evk 120 111 ls (mn_al h a 0 x) st h r := ev_iald iX8_join_110
theorem iX8_join_111 : mn_ins 120 111 = some (8, false, .iadd, 1) := by decide +kernel
theorem eX8_join_111 : Ev 120 111 (ls) (.int y :: .int x :: st) h r ↔ Ev 120 112 (ls) (.int (x + y) :: st) h r := ev_iadd iX8_join_111
theorem iX8_join_112 : mn_ins 120 112 = some (8, false, .bipush 30, 2) := by decide +kernel
theorem eX8_join_112 : Ev 120 112 (ls) (st) h r ↔ Ev 120 114 (ls) (.int (nI 30) :: st) h r := ev_bipush iX8_join_112 (by decide)
theorem iX8_join_114 : mn_ins 120 114 = some (8, false, .if_icmp .le 12, 3) := by decide +kernel
theorem eX8_join_114 : Ev 120 114 (ls) (.int y :: .int x :: st) h r ↔ if x ≤ y then Ev 120 126 (ls) (st) h r else Ev 120 117 (ls) (st) h r := ev_cmple iX8_join_114 (by decide)
theorem iX8_join_117 : mn_ins 120 117 = some (8, false, .aload_n 0, 1) := by decide +kernel
theorem eX8_join_117 : Ev 120 117 (some (.ref a) :: ls) (st) h r ↔ Ev 120 118 (some (.ref a) :: ls) (.ref a :: st) h r := ev_aload_n iX8_join_117 rfl rfl
theorem iX8_join_118 : mn_ins 120 118 = some (8, false, .iload_n 1, 1) := by decide +kernel
theorem eX8_join_118 : Ev 120 118 (a0 :: some (.int x) :: ls) (st) h r ↔ Ev 120 119 (a0 :: some (.int x) :: ls) (.int x :: st) h r := ev_iload_n iX8_join_118 rfl
theorem iX8_join_119 : mn_ins 120 119 = some (8, false, .iconst 4, 1) := by decide +kernel
theorem eX8_join_119 : Ev 120 119 (ls) (st) h r ↔ Ev 120 120 (ls) (.int (nI 4) :: st) h r := ev_iconst iX8_join_119 (by decide)
theorem iX8_join_120 : mn_ins 120 120 = some (8, false, .invokevirtual 180, 3) := by decide +kernel
theorem eX8_join_120 : Ev 120 120 (ls) (.int x1 :: .int x0 :: .ref b :: st) h r ↔ Evr true (decide (mn_cats st ≤ 8) && mn_isc h b 8) 120 120 ls st h.2.2.1 h.2.2.2 (Cl 109 (.ref b :: [.int x0, .int x1]) h.1 h.2.1) r := Ev_V (As := [.int x0, .int x1]) iX8_join_120 (by decide +kernel) (x := mnI_X8_join) (x2 := mnI_X8_fail) rfl rfl rfl (by decide +kernel) (Nat.le_of_ble_eq_true rfl) rfl
theorem iX8_join_123 : mn_ins 120 123 = some (8, false, .goto 21, 3) := by decide +kernel
theorem eX8_join_123 : Ev 120 123 (ls) (st) h r ↔ Ev 120 144 (ls) (st) h r := ev_goto iX8_join_123 (by decide)
theorem iX8_join_126 : mn_ins 120 126 = some (8, false, .aload_n 0, 1) := by decide +kernel
theorem eX8_join_126 : Ev 120 126 (some (.ref a) :: ls) (st) h r ↔ Ev 120 127 (some (.ref a) :: ls) (.ref a :: st) h r := ev_aload_n iX8_join_126 rfl rfl
theorem iX8_join_127 : mn_ins 120 127 = some (8, false, .getfield 39, 3) := by decide +kernel
theorem eX8_join_127 : Ev 120 127 (ls) (.ref a :: st) h r ↔ Evk 120 130 ls (mn_gf h a 8 16) st h r := ev_getf iX8_join_127 (by decide +kernel)
theorem iX8_join_130 : mn_ins 120 130 = some (8, false, .iload 4, 2) := by decide +kernel
theorem eX8_join_130 : Ev 120 130 (a0 :: a1 :: a2 :: a3 :: some (.int x) :: ls) (st) h r ↔ Ev 120 132 (a0 :: a1 :: a2 :: a3 :: some (.int x) :: ls) (.int x :: st) h r := ev_iload iX8_join_130 rfl
theorem iX8_join_132 : mn_ins 120 132 = some (8, false, .iaload, 1) := by decide +kernel
theorem eX8_join_132 : Ev 120 132 (ls) (.int x :: .ref a :: st) h r ↔ Evk 120 133 ls (mn_al h a 0 x) st h r := ev_iald iX8_join_132
theorem iX8_join_133 : mn_ins 120 133 = some (8, false, .iconst 1, 1) := by decide +kernel
theorem eX8_join_133 : Ev 120 133 (ls) (st) h r ↔ Ev 120 134 (ls) (.int (nI 1) :: st) h r := ev_iconst iX8_join_133 (by decide)
theorem iX8_join_134 : mn_ins 120 134 = some (8, false, .if_icmp .ne 10, 3) := by decide +kernel
theorem eX8_join_134 : Ev 120 134 (ls) (.int y :: .int x :: st) h r ↔ if x = y then Ev 120 137 (ls) (st) h r else Ev 120 144 (ls) (st) h r := ev_cmpne iX8_join_134 (by decide)
theorem iX8_join_137 : mn_ins 120 137 = some (8, false, .aload_n 0, 1) := by decide +kernel
theorem eX8_join_137 : Ev 120 137 (some (.ref a) :: ls) (st) h r ↔ Ev 120 138 (some (.ref a) :: ls) (.ref a :: st) h r := ev_aload_n iX8_join_137 rfl rfl
theorem iX8_join_138 : mn_ins 120 138 = some (8, false, .iload_n 1, 1) := by decide +kernel
theorem eX8_join_138 : Ev 120 138 (a0 :: some (.int x) :: ls) (st) h r ↔ Ev 120 139 (a0 :: some (.int x) :: ls) (.int x :: st) h r := ev_iload_n iX8_join_138 rfl
theorem iX8_join_139 : mn_ins 120 139 = some (8, false, .iload 4, 2) := by decide +kernel
theorem eX8_join_139 : Ev 120 139 (a0 :: a1 :: a2 :: a3 :: some (.int x) :: ls) (st) h r ↔ Ev 120 141 (a0 :: a1 :: a2 :: a3 :: some (.int x) :: ls) (.int x :: st) h r := ev_iload iX8_join_139 rfl
theorem iX8_join_141 : mn_ins 120 141 = some (8, false, .invokevirtual 209, 3) := by decide +kernel
theorem eX8_join_141 : Ev 120 141 (ls) (.int x1 :: .int x0 :: .ref b :: st) h r ↔ Evr true (decide (mn_cats st ≤ 8) && mn_isc h b 8) 120 141 ls st h.2.2.1 h.2.2.2 (Cl 121 (.ref b :: [.int x0, .int x1]) h.1 h.2.1) r := Ev_V (As := [.int x0, .int x1]) iX8_join_141 (by decide +kernel) (x := mnI_X8_join) (x2 := mnI_X8_bring) rfl rfl rfl (by decide +kernel) (Nat.le_of_ble_eq_true rfl) rfl
theorem iX8_join_144 : mn_ins 120 144 = some (8, false, .return_, 1) := by decide +kernel
theorem eX8_join_144 : Ev 120 144 (ls) [] h r ↔ r = (h, .inl none) := ev_vret iX8_join_144 (X := mnI_X8_join) rfl rfl
theorem iX8_bring_0 : mn_ins 121 0 = some (8, false, .iconst 0, 1) := by decide +kernel
theorem eX8_bring_0 : Ev 121 0 (ls) (st) h r ↔ Ev 121 1 (ls) (.int (nI 0) :: st) h r := ev_iconst iX8_bring_0 (by decide)
theorem iX8_bring_1 : mn_ins 121 1 = some (8, false, .istore_n 3, 1) := by decide +kernel
theorem eX8_bring_1 : Ev 121 1 (a0 :: a1 :: a2 :: a3 :: ls) (.int x :: st) h r ↔ Ev 121 2 (a0 :: a1 :: mn_k a2 :: some (.int x) :: ls) (st) h r := ev_istore_n iX8_bring_1 (by show 3 < _; simp only [List.length_cons]; omega)
theorem iX8_bring_2 : mn_ins 121 2 = some (8, false, .aload_n 0, 1) := by decide +kernel
theorem eX8_bring_2 : Ev 121 2 (some (.ref a) :: ls) (st) h r ↔ Ev 121 3 (some (.ref a) :: ls) (.ref a :: st) h r := ev_aload_n iX8_bring_2 rfl rfl
theorem iX8_bring_3 : mn_ins 121 3 = some (8, false, .getfield 73, 3) := by decide +kernel
theorem eX8_bring_3 : Ev 121 3 (ls) (.ref a :: st) h r ↔ Evk 121 6 ls (mn_gf h a 8 27) st h r := ev_getf iX8_bring_3 (by decide +kernel)
theorem iX8_bring_6 : mn_ins 121 6 = some (8, false, .iload_n 2, 1) := by decide +kernel
theorem eX8_bring_6 : Ev 121 6 (a0 :: a1 :: some (.int x) :: ls) (st) h r ↔ Ev 121 7 (a0 :: a1 :: some (.int x) :: ls) (.int x :: st) h r := ev_iload_n iX8_bring_6 rfl
theorem iX8_bring_7 : mn_ins 121 7 = some (8, false, .iaload, 1) := by decide +kernel
theorem eX8_bring_7 : Ev 121 7 (ls) (.int x :: .ref a :: st) h r ↔ Evk 121 8 ls (mn_al h a 0 x) st h r := ev_iald iX8_bring_7
theorem iX8_bring_8 : mn_ins 121 8 = some (8, false, .istore 4, 2) := by decide +kernel
theorem eX8_bring_8 : Ev 121 8 (a0 :: a1 :: a2 :: a3 :: a4 :: ls) (.int x :: st) h r ↔ Ev 121 10 (a0 :: a1 :: a2 :: mn_k a3 :: some (.int x) :: ls) (st) h r := ev_istore iX8_bring_8 (by show 4 < _; simp only [List.length_cons]; omega)
theorem iX8_bring_10 : mn_ins 121 10 = some (8, false, .iload 4, 2) := by decide +kernel
theorem eX8_bring_10 : Ev 121 10 (a0 :: a1 :: a2 :: a3 :: some (.int x) :: ls) (st) h r ↔ Ev 121 12 (a0 :: a1 :: a2 :: a3 :: some (.int x) :: ls) (.int x :: st) h r := ev_iload iX8_bring_10 rfl
theorem iX8_bring_12 : mn_ins 121 12 = some (8, false, .aload_n 0, 1) := by decide +kernel
theorem eX8_bring_12 : Ev 121 12 (some (.ref a) :: ls) (st) h r ↔ Ev 121 13 (some (.ref a) :: ls) (.ref a :: st) h r := ev_aload_n iX8_bring_12 rfl rfl
theorem iX8_bring_13 : mn_ins 121 13 = some (8, false, .getfield 76, 3) := by decide +kernel
theorem eX8_bring_13 : Ev 121 13 (ls) (.ref a :: st) h r ↔ Evk 121 16 ls (mn_gf h a 8 28) st h r := ev_getf iX8_bring_13 (by decide +kernel)
theorem iX8_bring_16 : mn_ins 121 16 = some (8, false, .iload_n 2, 1) := by decide +kernel
theorem eX8_bring_16 : Ev 121 16 (a0 :: a1 :: some (.int x) :: ls) (st) h r ↔ Ev 121 17 (a0 :: a1 :: some (.int x) :: ls) (.int x :: st) h r := ev_iload_n iX8_bring_16 rfl
theorem iX8_bring_17 : mn_ins 121 17 = some (8, false, .iaload, 1) := by decide +kernel
theorem eX8_bring_17 : Ev 121 17 (ls) (.int x :: .ref a :: st) h r ↔ Evk 121 18 ls (mn_al h a 0 x) st h r := ev_iald iX8_bring_17
theorem iX8_bring_18 : mn_ins 121 18 = some (8, false, .if_icmp .eq 25, 3) := by decide +kernel
theorem eX8_bring_18 : Ev 121 18 (ls) (.int y :: .int x :: st) h r ↔ if x = y then Ev 121 43 (ls) (st) h r else Ev 121 21 (ls) (st) h r := ev_cmpeq iX8_bring_18 (by decide)
theorem iX8_bring_21 : mn_ins 121 21 = some (8, false, .iload_n 3, 1) := by decide +kernel
theorem eX8_bring_21 : Ev 121 21 (a0 :: a1 :: a2 :: some (.int x) :: ls) (st) h r ↔ Ev 121 22 (a0 :: a1 :: a2 :: some (.int x) :: ls) (.int x :: st) h r := ev_iload_n iX8_bring_21 rfl
theorem iX8_bring_22 : mn_ins 121 22 = some (8, false, .aload_n 0, 1) := by decide +kernel
theorem eX8_bring_22 : Ev 121 22 (some (.ref a) :: ls) (st) h r ↔ Ev 121 23 (some (.ref a) :: ls) (.ref a :: st) h r := ev_aload_n iX8_bring_22 rfl rfl
theorem iX8_bring_23 : mn_ins 121 23 = some (8, false, .getfield 85, 3) := by decide +kernel
theorem eX8_bring_23 : Ev 121 23 (ls) (.ref a :: st) h r ↔ Evk 121 26 ls (mn_gf h a 8 31) st h r := ev_getf iX8_bring_23 (by decide +kernel)
theorem iX8_bring_26 : mn_ins 121 26 = some (8, false, .iload 4, 2) := by decide +kernel
theorem eX8_bring_26 : Ev 121 26 (a0 :: a1 :: a2 :: a3 :: some (.int x) :: ls) (st) h r ↔ Ev 121 28 (a0 :: a1 :: a2 :: a3 :: some (.int x) :: ls) (.int x :: st) h r := ev_iload iX8_bring_26 rfl
theorem iX8_bring_28 : mn_ins 121 28 = some (8, false, .iaload, 1) := by decide +kernel
theorem eX8_bring_28 : Ev 121 28 (ls) (.int x :: .ref a :: st) h r ↔ Evk 121 29 ls (mn_al h a 0 x) st h r := ev_iald iX8_bring_28
theorem iX8_bring_29 : mn_ins 121 29 = some (8, false, .ior, 1) := by decide +kernel
theorem eX8_bring_29 : Ev 121 29 (ls) (.int y :: .int x :: st) h r ↔ Ev 121 30 (ls) (.int (x ||| y) :: st) h r := ev_ior iX8_bring_29
theorem iX8_bring_30 : mn_ins 121 30 = some (8, false, .istore_n 3, 1) := by decide +kernel
theorem eX8_bring_30 : Ev 121 30 (a0 :: a1 :: a2 :: a3 :: ls) (.int x :: st) h r ↔ Ev 121 31 (a0 :: a1 :: mn_k a2 :: some (.int x) :: ls) (st) h r := ev_istore_n iX8_bring_30 (by show 3 < _; simp only [List.length_cons]; omega)
theorem iX8_bring_31 : mn_ins 121 31 = some (8, false, .aload_n 0, 1) := by decide +kernel
theorem eX8_bring_31 : Ev 121 31 (some (.ref a) :: ls) (st) h r ↔ Ev 121 32 (some (.ref a) :: ls) (.ref a :: st) h r := ev_aload_n iX8_bring_31 rfl rfl
theorem iX8_bring_32 : mn_ins 121 32 = some (8, false, .getfield 82, 3) := by decide +kernel
theorem eX8_bring_32 : Ev 121 32 (ls) (.ref a :: st) h r ↔ Evk 121 35 ls (mn_gf h a 8 30) st h r := ev_getf iX8_bring_32 (by decide +kernel)
theorem iX8_bring_35 : mn_ins 121 35 = some (8, false, .iload 4, 2) := by decide +kernel
theorem eX8_bring_35 : Ev 121 35 (a0 :: a1 :: a2 :: a3 :: some (.int x) :: ls) (st) h r ↔ Ev 121 37 (a0 :: a1 :: a2 :: a3 :: some (.int x) :: ls) (.int x :: st) h r := ev_iload iX8_bring_35 rfl
theorem iX8_bring_37 : mn_ins 121 37 = some (8, false, .iaload, 1) := by decide +kernel
theorem eX8_bring_37 : Ev 121 37 (ls) (.int x :: .ref a :: st) h r ↔ Evk 121 38 ls (mn_al h a 0 x) st h r := ev_iald iX8_bring_37
theorem iX8_bring_38 : mn_ins 121 38 = some (8, false, .istore 4, 2) := by decide +kernel
theorem eX8_bring_38 : Ev 121 38 (a0 :: a1 :: a2 :: a3 :: a4 :: ls) (.int x :: st) h r ↔ Ev 121 40 (a0 :: a1 :: a2 :: mn_k a3 :: some (.int x) :: ls) (st) h r := ev_istore iX8_bring_38 (by show 4 < _; simp only [List.length_cons]; omega)
theorem iX8_bring_40 : mn_ins 121 40 = some (8, false, .goto (-30), 3) := by decide +kernel
theorem eX8_bring_40 : Ev 121 40 (ls) (st) h r ↔ Ev 121 10 (ls) (st) h r := ev_goto iX8_bring_40 (by decide)
theorem iX8_bring_43 : mn_ins 121 43 = some (8, false, .iconst 0, 1) := by decide +kernel
theorem eX8_bring_43 : Ev 121 43 (ls) (st) h r ↔ Ev 121 44 (ls) (.int (nI 0) :: st) h r := ev_iconst iX8_bring_43 (by decide)
theorem iX8_bring_44 : mn_ins 121 44 = some (8, false, .istore 4, 2) := by decide +kernel
theorem eX8_bring_44 : Ev 121 44 (a0 :: a1 :: a2 :: a3 :: a4 :: ls) (.int x :: st) h r ↔ Ev 121 46 (a0 :: a1 :: a2 :: mn_k a3 :: some (.int x) :: ls) (st) h r := ev_istore iX8_bring_44 (by show 4 < _; simp only [List.length_cons]; omega)
theorem iX8_bring_46 : mn_ins 121 46 = some (8, false, .iload 4, 2) := by decide +kernel
theorem eX8_bring_46 : Ev 121 46 (a0 :: a1 :: a2 :: a3 :: some (.int x) :: ls) (st) h r ↔ Ev 121 48 (a0 :: a1 :: a2 :: a3 :: some (.int x) :: ls) (.int x :: st) h r := ev_iload iX8_bring_46 rfl
theorem iX8_bring_48 : mn_ins 121 48 = some (8, false, .bipush 12, 2) := by decide +kernel
theorem eX8_bring_48 : Ev 121 48 (ls) (st) h r ↔ Ev 121 50 (ls) (.int (nI 12) :: st) h r := ev_bipush iX8_bring_48 (by decide)
theorem iX8_bring_50 : mn_ins 121 50 = some (8, false, .if_icmp .ge 89, 3) := by decide +kernel
theorem eX8_bring_50 : Ev 121 50 (ls) (.int y :: .int x :: st) h r ↔ if y ≤ x then Ev 121 139 (ls) (st) h r else Ev 121 53 (ls) (st) h r := ev_cmpge iX8_bring_50 (by decide)
theorem iX8_bring_53 : mn_ins 121 53 = some (8, false, .iload_n 3, 1) := by decide +kernel
theorem eX8_bring_53 : Ev 121 53 (a0 :: a1 :: a2 :: some (.int x) :: ls) (st) h r ↔ Ev 121 54 (a0 :: a1 :: a2 :: some (.int x) :: ls) (.int x :: st) h r := ev_iload_n iX8_bring_53 rfl
theorem iX8_bring_54 : mn_ins 121 54 = some (8, false, .iload 4, 2) := by decide +kernel
theorem eX8_bring_54 : Ev 121 54 (a0 :: a1 :: a2 :: a3 :: some (.int x) :: ls) (st) h r ↔ Ev 121 56 (a0 :: a1 :: a2 :: a3 :: some (.int x) :: ls) (.int x :: st) h r := ev_iload iX8_bring_54 rfl
theorem iX8_bring_56 : mn_ins 121 56 = some (8, false, .ishr, 1) := by decide +kernel
theorem eX8_bring_56 : Ev 121 56 (ls) (.int y :: .int x :: st) h r ↔ Ev 121 57 (ls) (.int (x >>> (y &&& 31)) :: st) h r := ev_ishr iX8_bring_56
theorem iX8_bring_57 : mn_ins 121 57 = some (8, false, .iconst 1, 1) := by decide +kernel
theorem eX8_bring_57 : Ev 121 57 (ls) (st) h r ↔ Ev 121 58 (ls) (.int (nI 1) :: st) h r := ev_iconst iX8_bring_57 (by decide)
theorem iX8_bring_58 : mn_ins 121 58 = some (8, false, .iand, 1) := by decide +kernel
theorem eX8_bring_58 : Ev 121 58 (ls) (.int y :: .int x :: st) h r ↔ Ev 121 59 (ls) (.int (x &&& y) :: st) h r := ev_iand iX8_bring_58
theorem iX8_bring_59 : mn_ins 121 59 = some (8, false, .ifCond .ne 6, 3) := by decide +kernel
theorem eX8_bring_59 : Ev 121 59 (ls) (.int x :: st) h r ↔ if x = nI 0 then Ev 121 62 (ls) (st) h r else Ev 121 65 (ls) (st) h r := ev_ifne iX8_bring_59 (by decide)
theorem iX8_bring_62 : mn_ins 121 62 = some (8, false, .goto 71, 3) := by decide +kernel
theorem eX8_bring_62 : Ev 121 62 (ls) (st) h r ↔ Ev 121 133 (ls) (st) h r := ev_goto iX8_bring_62 (by decide)
theorem iX8_bring_65 : mn_ins 121 65 = some (8, false, .aload_n 0, 1) := by decide +kernel
theorem eX8_bring_65 : Ev 121 65 (some (.ref a) :: ls) (st) h r ↔ Ev 121 66 (some (.ref a) :: ls) (.ref a :: st) h r := ev_aload_n iX8_bring_65 rfl rfl
theorem iX8_bring_66 : mn_ins 121 66 = some (8, false, .iload 4, 2) := by decide +kernel
theorem eX8_bring_66 : Ev 121 66 (a0 :: a1 :: a2 :: a3 :: some (.int x) :: ls) (st) h r ↔ Ev 121 68 (a0 :: a1 :: a2 :: a3 :: some (.int x) :: ls) (.int x :: st) h r := ev_iload iX8_bring_66 rfl
theorem iX8_bring_68 : mn_ins 121 68 = some (8, false, .aload_n 0, 1) := by decide +kernel
theorem eX8_bring_68 : Ev 121 68 (some (.ref a) :: ls) (st) h r ↔ Ev 121 69 (some (.ref a) :: ls) (.ref a :: st) h r := ev_aload_n iX8_bring_68 rfl rfl
theorem iX8_bring_69 : mn_ins 121 69 = some (8, false, .aload_n 0, 1) := by decide +kernel
theorem eX8_bring_69 : Ev 121 69 (some (.ref a) :: ls) (st) h r ↔ Ev 121 70 (some (.ref a) :: ls) (.ref a :: st) h r := ev_aload_n iX8_bring_69 rfl rfl
theorem iX8_bring_70 : mn_ins 121 70 = some (8, false, .getfield 76, 3) := by decide +kernel
theorem eX8_bring_70 : Ev 121 70 (ls) (.ref a :: st) h r ↔ Evk 121 73 ls (mn_gf h a 8 28) st h r := ev_getf iX8_bring_70 (by decide +kernel)
theorem iX8_bring_73 : mn_ins 121 73 = some (8, false, .iload_n 2, 1) := by decide +kernel
theorem eX8_bring_73 : Ev 121 73 (a0 :: a1 :: some (.int x) :: ls) (st) h r ↔ Ev 121 74 (a0 :: a1 :: some (.int x) :: ls) (.int x :: st) h r := ev_iload_n iX8_bring_73 rfl
theorem iX8_bring_74 : mn_ins 121 74 = some (8, false, .iaload, 1) := by decide +kernel
theorem eX8_bring_74 : Ev 121 74 (ls) (.int x :: .ref a :: st) h r ↔ Evk 121 75 ls (mn_al h a 0 x) st h r := ev_iald iX8_bring_74
theorem iX8_bring_75 : mn_ins 121 75 = some (8, false, .iload 4, 2) := by decide +kernel
theorem eX8_bring_75 : Ev 121 75 (a0 :: a1 :: a2 :: a3 :: some (.int x) :: ls) (st) h r ↔ Ev 121 77 (a0 :: a1 :: a2 :: a3 :: some (.int x) :: ls) (.int x :: st) h r := ev_iload iX8_bring_75 rfl
theorem iX8_bring_77 : mn_ins 121 77 = some (8, false, .invokevirtual 202, 3) := by decide +kernel
theorem eX8_bring_77 : Ev 121 77 (ls) (.int x1 :: .int x0 :: .ref b :: st) h r ↔ Evr true (decide (mn_cats st ≤ 8) && mn_isc h b 8) 121 77 ls st h.2.2.1 h.2.2.2 (Cl 104 (.ref b :: [.int x0, .int x1]) h.1 h.2.1) r := Ev_V (As := [.int x0, .int x1]) iX8_bring_77 (by decide +kernel) (x := mnI_X8_bring) (x2 := mnI_X8_readAt) rfl rfl rfl (by decide +kernel) (Nat.le_of_ble_eq_true rfl) rfl
theorem iX8_bring_80 : mn_ins 121 80 = some (8, false, .aload_n 0, 1) := by decide +kernel
theorem eX8_bring_80 : Ev 121 80 (some (.ref a) :: ls) (st) h r ↔ Ev 121 81 (some (.ref a) :: ls) (.ref a :: st) h r := ev_aload_n iX8_bring_80 rfl rfl
theorem iX8_bring_81 : mn_ins 121 81 = some (8, false, .aload_n 0, 1) := by decide +kernel
theorem eX8_bring_81 : Ev 121 81 (some (.ref a) :: ls) (st) h r ↔ Ev 121 82 (some (.ref a) :: ls) (.ref a :: st) h r := ev_aload_n iX8_bring_81 rfl rfl
theorem iX8_bring_82 : mn_ins 121 82 = some (8, false, .getfield 73, 3) := by decide +kernel
theorem eX8_bring_82 : Ev 121 82 (ls) (.ref a :: st) h r ↔ Evk 121 85 ls (mn_gf h a 8 27) st h r := ev_getf iX8_bring_82 (by decide +kernel)
theorem iX8_bring_85 : mn_ins 121 85 = some (8, false, .iload_n 1, 1) := by decide +kernel
theorem eX8_bring_85 : Ev 121 85 (a0 :: some (.int x) :: ls) (st) h r ↔ Ev 121 86 (a0 :: some (.int x) :: ls) (.int x :: st) h r := ev_iload_n iX8_bring_85 rfl
theorem iX8_bring_86 : mn_ins 121 86 = some (8, false, .iaload, 1) := by decide +kernel
theorem eX8_bring_86 : Ev 121 86 (ls) (.int x :: .ref a :: st) h r ↔ Evk 121 87 ls (mn_al h a 0 x) st h r := ev_iald iX8_bring_86
theorem iX8_bring_87 : mn_ins 121 87 = some (8, false, .iload 4, 2) := by decide +kernel
theorem eX8_bring_87 : Ev 121 87 (a0 :: a1 :: a2 :: a3 :: some (.int x) :: ls) (st) h r ↔ Ev 121 89 (a0 :: a1 :: a2 :: a3 :: some (.int x) :: ls) (.int x :: st) h r := ev_iload iX8_bring_87 rfl
theorem iX8_bring_89 : mn_ins 121 89 = some (8, false, .invokevirtual 202, 3) := by decide +kernel
theorem eX8_bring_89 : Ev 121 89 (ls) (.int x1 :: .int x0 :: .ref b :: st) h r ↔ Evr true (decide (mn_cats st ≤ 8) && mn_isc h b 8) 121 89 ls st h.2.2.1 h.2.2.2 (Cl 104 (.ref b :: [.int x0, .int x1]) h.1 h.2.1) r := Ev_V (As := [.int x0, .int x1]) iX8_bring_89 (by decide +kernel) (x := mnI_X8_bring) (x2 := mnI_X8_readAt) rfl rfl rfl (by decide +kernel) (Nat.le_of_ble_eq_true rfl) rfl
theorem iX8_bring_92 : mn_ins 121 92 = some (8, false, .aload_n 0, 1) := by decide +kernel
theorem eX8_bring_92 : Ev 121 92 (some (.ref a) :: ls) (st) h r ↔ Ev 121 93 (some (.ref a) :: ls) (.ref a :: st) h r := ev_aload_n iX8_bring_92 rfl rfl
theorem iX8_bring_93 : mn_ins 121 93 = some (8, false, .aload_n 0, 1) := by decide +kernel
theorem eX8_bring_93 : Ev 121 93 (some (.ref a) :: ls) (st) h r ↔ Ev 121 94 (some (.ref a) :: ls) (.ref a :: st) h r := ev_aload_n iX8_bring_93 rfl rfl
theorem iX8_bring_94 : mn_ins 121 94 = some (8, false, .getfield 73, 3) := by decide +kernel
theorem eX8_bring_94 : Ev 121 94 (ls) (.ref a :: st) h r ↔ Evk 121 97 ls (mn_gf h a 8 27) st h r := ev_getf iX8_bring_94 (by decide +kernel)
theorem iX8_bring_97 : mn_ins 121 97 = some (8, false, .iload_n 2, 1) := by decide +kernel
theorem eX8_bring_97 : Ev 121 97 (a0 :: a1 :: some (.int x) :: ls) (st) h r ↔ Ev 121 98 (a0 :: a1 :: some (.int x) :: ls) (.int x :: st) h r := ev_iload_n iX8_bring_97 rfl
theorem iX8_bring_98 : mn_ins 121 98 = some (8, false, .iaload, 1) := by decide +kernel
theorem eX8_bring_98 : Ev 121 98 (ls) (.int x :: .ref a :: st) h r ↔ Evk 121 99 ls (mn_al h a 0 x) st h r := ev_iald iX8_bring_98
theorem iX8_bring_99 : mn_ins 121 99 = some (8, false, .iload 4, 2) := by decide +kernel
theorem eX8_bring_99 : Ev 121 99 (a0 :: a1 :: a2 :: a3 :: some (.int x) :: ls) (st) h r ↔ Ev 121 101 (a0 :: a1 :: a2 :: a3 :: some (.int x) :: ls) (.int x :: st) h r := ev_iload iX8_bring_99 rfl
theorem iX8_bring_101 : mn_ins 121 101 = some (8, false, .invokevirtual 202, 3) := by decide +kernel
theorem eX8_bring_101 : Ev 121 101 (ls) (.int x1 :: .int x0 :: .ref b :: st) h r ↔ Evr true (decide (mn_cats st ≤ 8) && mn_isc h b 8) 121 101 ls st h.2.2.1 h.2.2.2 (Cl 104 (.ref b :: [.int x0, .int x1]) h.1 h.2.1) r := Ev_V (As := [.int x0, .int x1]) iX8_bring_101 (by decide +kernel) (x := mnI_X8_bring) (x2 := mnI_X8_readAt) rfl rfl rfl (by decide +kernel) (Nat.le_of_ble_eq_true rfl) rfl
theorem iX8_bring_104 : mn_ins 121 104 = some (8, false, .invokevirtual 212, 3) := by decide +kernel
theorem eX8_bring_104 : Ev 121 104 (ls) (.long u3 :: .long u2 :: .long u1 :: .int x0 :: .ref b :: st) h r ↔ Evr true (decide (mn_cats st ≤ 8) && mn_isc h b 8) 121 104 ls st h.2.2.1 h.2.2.2 (Cl 122 (.ref b :: [.int x0, .long u1, .long u2, .long u3]) h.1 h.2.1) r := Ev_V (As := [.int x0, .long u1, .long u2, .long u3]) iX8_bring_104 (by decide +kernel) (x := mnI_X8_bring) (x2 := mnI_X8_together) rfl rfl rfl (by decide +kernel) (Nat.le_of_ble_eq_true rfl) rfl
theorem iX8_bring_107 : mn_ins 121 107 = some (8, false, .lstore 5, 2) := by decide +kernel
theorem eX8_bring_107 : Ev 121 107 (a0 :: a1 :: a2 :: a3 :: a4 :: a5 :: a6 :: ls) (.long u :: st) h r ↔ Ev 121 109 (a0 :: a1 :: a2 :: a3 :: mn_k a4 :: some (.long u) :: none :: ls) (st) h r := ev_lstore iX8_bring_107 (by show 6 < _; simp only [List.length_cons]; omega)
theorem iX8_bring_109 : mn_ins 121 109 = some (8, false, .aload_n 0, 1) := by decide +kernel
theorem eX8_bring_109 : Ev 121 109 (some (.ref a) :: ls) (st) h r ↔ Ev 121 110 (some (.ref a) :: ls) (.ref a :: st) h r := ev_aload_n iX8_bring_109 rfl rfl
theorem iX8_bring_110 : mn_ins 121 110 = some (8, false, .aload_n 0, 1) := by decide +kernel
theorem eX8_bring_110 : Ev 121 110 (some (.ref a) :: ls) (st) h r ↔ Ev 121 111 (some (.ref a) :: ls) (.ref a :: st) h r := ev_aload_n iX8_bring_110 rfl rfl
theorem iX8_bring_111 : mn_ins 121 111 = some (8, false, .getfield 73, 3) := by decide +kernel
theorem eX8_bring_111 : Ev 121 111 (ls) (.ref a :: st) h r ↔ Evk 121 114 ls (mn_gf h a 8 27) st h r := ev_getf iX8_bring_111 (by decide +kernel)
theorem iX8_bring_114 : mn_ins 121 114 = some (8, false, .iload_n 1, 1) := by decide +kernel
theorem eX8_bring_114 : Ev 121 114 (a0 :: some (.int x) :: ls) (st) h r ↔ Ev 121 115 (a0 :: some (.int x) :: ls) (.int x :: st) h r := ev_iload_n iX8_bring_114 rfl
theorem iX8_bring_115 : mn_ins 121 115 = some (8, false, .iaload, 1) := by decide +kernel
theorem eX8_bring_115 : Ev 121 115 (ls) (.int x :: .ref a :: st) h r ↔ Evk 121 116 ls (mn_al h a 0 x) st h r := ev_iald iX8_bring_115
theorem iX8_bring_116 : mn_ins 121 116 = some (8, false, .iload 4, 2) := by decide +kernel
theorem eX8_bring_116 : Ev 121 116 (a0 :: a1 :: a2 :: a3 :: some (.int x) :: ls) (st) h r ↔ Ev 121 118 (a0 :: a1 :: a2 :: a3 :: some (.int x) :: ls) (.int x :: st) h r := ev_iload iX8_bring_116 rfl
theorem iX8_bring_118 : mn_ins 121 118 = some (8, false, .lload 5, 2) := by decide +kernel
theorem eX8_bring_118 : Ev 121 118 (a0 :: a1 :: a2 :: a3 :: a4 :: some (.long u) :: ls) (st) h r ↔ Ev 121 120 (a0 :: a1 :: a2 :: a3 :: a4 :: some (.long u) :: ls) (.long u :: st) h r := ev_lload iX8_bring_118 rfl
theorem iX8_bring_120 : mn_ins 121 120 = some (8, false, .invokevirtual 163, 3) := by decide +kernel
theorem eX8_bring_120 : Ev 121 120 (ls) (.long u2 :: .int x1 :: .int x0 :: .ref b :: st) h r ↔ Evr true (decide (mn_cats st ≤ 8) && mn_isc h b 8) 121 120 ls st h.2.2.1 h.2.2.2 (Cl 105 (.ref b :: [.int x0, .int x1, .long u2]) h.1 h.2.1) r := Ev_V (As := [.int x0, .int x1, .long u2]) iX8_bring_120 (by decide +kernel) (x := mnI_X8_bring) (x2 := mnI_X8_writeAt) rfl rfl rfl (by decide +kernel) (Nat.le_of_ble_eq_true rfl) rfl
theorem iX8_bring_123 : mn_ins 121 123 = some (8, false, .aload_n 0, 1) := by decide +kernel
theorem eX8_bring_123 : Ev 121 123 (some (.ref a) :: ls) (st) h r ↔ Ev 121 124 (some (.ref a) :: ls) (.ref a :: st) h r := ev_aload_n iX8_bring_123 rfl rfl
theorem iX8_bring_124 : mn_ins 121 124 = some (8, false, .dup, 1) := by decide +kernel
theorem eX8_bring_124 : Ev 121 124 (ls) (.ref a :: st) h r ↔ Ev 121 125 (ls) (.ref a :: .ref a :: st) h r := ev_dup iX8_bring_124 rfl
theorem iX8_bring_125 : mn_ins 121 125 = some (8, false, .getfield 150, 3) := by decide +kernel
theorem eX8_bring_125 : Ev 121 125 (ls) (.ref a :: st) h r ↔ Evk 121 128 ls (mn_gf h a 8 13) st h r := ev_getf iX8_bring_125 (by decide +kernel)
theorem iX8_bring_128 : mn_ins 121 128 = some (8, false, .iconst 1, 1) := by decide +kernel
theorem eX8_bring_128 : Ev 121 128 (ls) (st) h r ↔ Ev 121 129 (ls) (.int (nI 1) :: st) h r := ev_iconst iX8_bring_128 (by decide)
theorem iX8_bring_129 : mn_ins 121 129 = some (8, false, .iadd, 1) := by decide +kernel
theorem eX8_bring_129 : Ev 121 129 (ls) (.int y :: .int x :: st) h r ↔ Ev 121 130 (ls) (.int (x + y) :: st) h r := ev_iadd iX8_bring_129
theorem iX8_bring_130 : mn_ins 121 130 = some (8, false, .putfield 150, 3) := by decide +kernel
theorem eX8_bring_130 : Ev 121 130 (ls) (w :: .ref a :: st) h r ↔ Evh 121 133 ls st (mn_pf h a 8 13 w) r := ev_putf iX8_bring_130 (by decide +kernel) (by decide +kernel)
theorem iX8_bring_133 : mn_ins 121 133 = some (8, false, .iinc 4 1, 3) := by decide +kernel
theorem eX8_bring_133 : Ev 121 133 (a0 :: a1 :: a2 :: a3 :: some (.int x) :: ls) (st) h r ↔ Ev 121 136 (a0 :: a1 :: a2 :: mn_k a3 :: some (.int (x + (nI 1))) :: ls) (st) h r := ev_iinc iX8_bring_133 rfl (by decide)
theorem iX8_bring_136 : mn_ins 121 136 = some (8, false, .goto (-90), 3) := by decide +kernel
theorem eX8_bring_136 : Ev 121 136 (ls) (st) h r ↔ Ev 121 46 (ls) (st) h r := ev_goto iX8_bring_136 (by decide)
theorem iX8_bring_139 : mn_ins 121 139 = some (8, false, .iconst 0, 1) := by decide +kernel
theorem eX8_bring_139 : Ev 121 139 (ls) (st) h r ↔ Ev 121 140 (ls) (.int (nI 0) :: st) h r := ev_iconst iX8_bring_139 (by decide)
theorem iX8_bring_140 : mn_ins 121 140 = some (8, false, .istore 4, 2) := by decide +kernel
theorem eX8_bring_140 : Ev 121 140 (a0 :: a1 :: a2 :: a3 :: a4 :: ls) (.int x :: st) h r ↔ Ev 121 142 (a0 :: a1 :: a2 :: mn_k a3 :: some (.int x) :: ls) (st) h r := ev_istore iX8_bring_140 (by show 4 < _; simp only [List.length_cons]; omega)
theorem iX8_bring_142 : mn_ins 121 142 = some (8, false, .iload 4, 2) := by decide +kernel
theorem eX8_bring_142 : Ev 121 142 (a0 :: a1 :: a2 :: a3 :: some (.int x) :: ls) (st) h r ↔ Ev 121 144 (a0 :: a1 :: a2 :: a3 :: some (.int x) :: ls) (.int x :: st) h r := ev_iload iX8_bring_142 rfl
theorem iX8_bring_144 : mn_ins 121 144 = some (8, false, .aload_n 0, 1) := by decide +kernel
theorem eX8_bring_144 : Ev 121 144 (some (.ref a) :: ls) (st) h r ↔ Ev 121 145 (some (.ref a) :: ls) (.ref a :: st) h r := ev_aload_n iX8_bring_144 rfl rfl
theorem iX8_bring_145 : mn_ins 121 145 = some (8, false, .getfield 64, 3) := by decide +kernel
theorem eX8_bring_145 : Ev 121 145 (ls) (.ref a :: st) h r ↔ Evk 121 148 ls (mn_gf h a 8 24) st h r := ev_getf iX8_bring_145 (by decide +kernel)
theorem iX8_bring_148 : mn_ins 121 148 = some (8, false, .iload_n 2, 1) := by decide +kernel
theorem eX8_bring_148 : Ev 121 148 (a0 :: a1 :: some (.int x) :: ls) (st) h r ↔ Ev 121 149 (a0 :: a1 :: some (.int x) :: ls) (.int x :: st) h r := ev_iload_n iX8_bring_148 rfl
theorem iX8_bring_149 : mn_ins 121 149 = some (8, false, .iaload, 1) := by decide +kernel
theorem eX8_bring_149 : Ev 121 149 (ls) (.int x :: .ref a :: st) h r ↔ Evk 121 150 ls (mn_al h a 0 x) st h r := ev_iald iX8_bring_149
theorem iX8_bring_150 : mn_ins 121 150 = some (8, false, .if_icmp .ge 40, 3) := by decide +kernel
theorem eX8_bring_150 : Ev 121 150 (ls) (.int y :: .int x :: st) h r ↔ if y ≤ x then Ev 121 190 (ls) (st) h r else Ev 121 153 (ls) (st) h r := ev_cmpge iX8_bring_150 (by decide)
theorem iX8_bring_153 : mn_ins 121 153 = some (8, false, .aload_n 0, 1) := by decide +kernel
theorem eX8_bring_153 : Ev 121 153 (some (.ref a) :: ls) (st) h r ↔ Ev 121 154 (some (.ref a) :: ls) (.ref a :: st) h r := ev_aload_n iX8_bring_153 rfl rfl
theorem iX8_bring_154 : mn_ins 121 154 = some (8, false, .getfield 67, 3) := by decide +kernel
theorem eX8_bring_154 : Ev 121 154 (ls) (.ref a :: st) h r ↔ Evk 121 157 ls (mn_gf h a 8 25) st h r := ev_getf iX8_bring_154 (by decide +kernel)
theorem iX8_bring_157 : mn_ins 121 157 = some (8, false, .bipush 30, 2) := by decide +kernel
theorem eX8_bring_157 : Ev 121 157 (ls) (st) h r ↔ Ev 121 159 (ls) (.int (nI 30) :: st) h r := ev_bipush iX8_bring_157 (by decide)
theorem iX8_bring_159 : mn_ins 121 159 = some (8, false, .iload_n 1, 1) := by decide +kernel
theorem eX8_bring_159 : Ev 121 159 (a0 :: some (.int x) :: ls) (st) h r ↔ Ev 121 160 (a0 :: some (.int x) :: ls) (.int x :: st) h r := ev_iload_n iX8_bring_159 rfl
theorem iX8_bring_160 : mn_ins 121 160 = some (8, false, .imul, 1) := by decide +kernel
theorem eX8_bring_160 : Ev 121 160 (ls) (.int y :: .int x :: st) h r ↔ Ev 121 161 (ls) (.int (x * y) :: st) h r := ev_imul iX8_bring_160
theorem iX8_bring_161 : mn_ins 121 161 = some (8, false, .aload_n 0, 1) := by decide +kernel
theorem eX8_bring_161 : Ev 121 161 (some (.ref a) :: ls) (st) h r ↔ Ev 121 162 (some (.ref a) :: ls) (.ref a :: st) h r := ev_aload_n iX8_bring_161 rfl rfl
theorem iX8_bring_162 : mn_ins 121 162 = some (8, false, .getfield 64, 3) := by decide +kernel
theorem eX8_bring_162 : Ev 121 162 (ls) (.ref a :: st) h r ↔ Evk 121 165 ls (mn_gf h a 8 24) st h r := ev_getf iX8_bring_162 (by decide +kernel)
theorem iX8_bring_165 : mn_ins 121 165 = some (8, false, .iload_n 1, 1) := by decide +kernel
theorem eX8_bring_165 : Ev 121 165 (a0 :: some (.int x) :: ls) (st) h r ↔ Ev 121 166 (a0 :: some (.int x) :: ls) (.int x :: st) h r := ev_iload_n iX8_bring_165 rfl
theorem iX8_bring_166 : mn_ins 121 166 = some (8, false, .iaload, 1) := by decide +kernel
theorem eX8_bring_166 : Ev 121 166 (ls) (.int x :: .ref a :: st) h r ↔ Evk 121 167 ls (mn_al h a 0 x) st h r := ev_iald iX8_bring_166
theorem iX8_bring_167 : mn_ins 121 167 = some (8, false, .iadd, 1) := by decide +kernel
theorem eX8_bring_167 : Ev 121 167 (ls) (.int y :: .int x :: st) h r ↔ Ev 121 168 (ls) (.int (x + y) :: st) h r := ev_iadd iX8_bring_167
theorem iX8_bring_168 : mn_ins 121 168 = some (8, false, .iload 4, 2) := by decide +kernel
theorem eX8_bring_168 : Ev 121 168 (a0 :: a1 :: a2 :: a3 :: some (.int x) :: ls) (st) h r ↔ Ev 121 170 (a0 :: a1 :: a2 :: a3 :: some (.int x) :: ls) (.int x :: st) h r := ev_iload iX8_bring_168 rfl
theorem iX8_bring_170 : mn_ins 121 170 = some (8, false, .iadd, 1) := by decide +kernel
theorem eX8_bring_170 : Ev 121 170 (ls) (.int y :: .int x :: st) h r ↔ Ev 121 171 (ls) (.int (x + y) :: st) h r := ev_iadd iX8_bring_170
theorem iX8_bring_171 : mn_ins 121 171 = some (8, false, .aload_n 0, 1) := by decide +kernel
theorem eX8_bring_171 : Ev 121 171 (some (.ref a) :: ls) (st) h r ↔ Ev 121 172 (some (.ref a) :: ls) (.ref a :: st) h r := ev_aload_n iX8_bring_171 rfl rfl
theorem iX8_bring_172 : mn_ins 121 172 = some (8, false, .getfield 67, 3) := by decide +kernel
theorem eX8_bring_172 : Ev 121 172 (ls) (.ref a :: st) h r ↔ Evk 121 175 ls (mn_gf h a 8 25) st h r := ev_getf iX8_bring_172 (by decide +kernel)
theorem iX8_bring_175 : mn_ins 121 175 = some (8, false, .bipush 30, 2) := by decide +kernel
theorem eX8_bring_175 : Ev 121 175 (ls) (st) h r ↔ Ev 121 177 (ls) (.int (nI 30) :: st) h r := ev_bipush iX8_bring_175 (by decide)
theorem iX8_bring_177 : mn_ins 121 177 = some (8, false, .iload_n 2, 1) := by decide +kernel
theorem eX8_bring_177 : Ev 121 177 (a0 :: a1 :: some (.int x) :: ls) (st) h r ↔ Ev 121 178 (a0 :: a1 :: some (.int x) :: ls) (.int x :: st) h r := ev_iload_n iX8_bring_177 rfl
theorem iX8_bring_178 : mn_ins 121 178 = some (8, false, .imul, 1) := by decide +kernel
theorem eX8_bring_178 : Ev 121 178 (ls) (.int y :: .int x :: st) h r ↔ Ev 121 179 (ls) (.int (x * y) :: st) h r := ev_imul iX8_bring_178
theorem iX8_bring_179 : mn_ins 121 179 = some (8, false, .iload 4, 2) := by decide +kernel
theorem eX8_bring_179 : Ev 121 179 (a0 :: a1 :: a2 :: a3 :: some (.int x) :: ls) (st) h r ↔ Ev 121 181 (a0 :: a1 :: a2 :: a3 :: some (.int x) :: ls) (.int x :: st) h r := ev_iload iX8_bring_179 rfl
theorem iX8_bring_181 : mn_ins 121 181 = some (8, false, .iadd, 1) := by decide +kernel
theorem eX8_bring_181 : Ev 121 181 (ls) (.int y :: .int x :: st) h r ↔ Ev 121 182 (ls) (.int (x + y) :: st) h r := ev_iadd iX8_bring_181
theorem iX8_bring_182 : mn_ins 121 182 = some (8, false, .laload, 1) := by decide +kernel
theorem eX8_bring_182 : Ev 121 182 (ls) (.int x :: .ref a :: st) h r ↔ Evk 121 183 ls (mn_al h a 1 x) st h r := ev_lald iX8_bring_182
theorem iX8_bring_183 : mn_ins 121 183 = some (8, false, .lastore, 1) := by decide +kernel
theorem eX8_bring_183 : Ev 121 183 (ls) (.long u :: .int x :: .ref a :: st) h r ↔ Evh 121 184 ls st (mn_asl h a x u) r := ev_last iX8_bring_183
theorem iX8_bring_184 : mn_ins 121 184 = some (8, false, .iinc 4 1, 3) := by decide +kernel
theorem eX8_bring_184 : Ev 121 184 (a0 :: a1 :: a2 :: a3 :: some (.int x) :: ls) (st) h r ↔ Ev 121 187 (a0 :: a1 :: a2 :: mn_k a3 :: some (.int (x + (nI 1))) :: ls) (st) h r := ev_iinc iX8_bring_184 rfl (by decide)
theorem iX8_bring_187 : mn_ins 121 187 = some (8, false, .goto (-45), 3) := by decide +kernel
theorem eX8_bring_187 : Ev 121 187 (ls) (st) h r ↔ Ev 121 142 (ls) (st) h r := ev_goto iX8_bring_187 (by decide)
theorem iX8_bring_190 : mn_ins 121 190 = some (8, false, .aload_n 0, 1) := by decide +kernel
theorem eX8_bring_190 : Ev 121 190 (some (.ref a) :: ls) (st) h r ↔ Ev 121 191 (some (.ref a) :: ls) (.ref a :: st) h r := ev_aload_n iX8_bring_190 rfl rfl
theorem iX8_bring_191 : mn_ins 121 191 = some (8, false, .getfield 64, 3) := by decide +kernel
theorem eX8_bring_191 : Ev 121 191 (ls) (.ref a :: st) h r ↔ Evk 121 194 ls (mn_gf h a 8 24) st h r := ev_getf iX8_bring_191 (by decide +kernel)
theorem iX8_bring_194 : mn_ins 121 194 = some (8, false, .iload_n 1, 1) := by decide +kernel
theorem eX8_bring_194 : Ev 121 194 (a0 :: some (.int x) :: ls) (st) h r ↔ Ev 121 195 (a0 :: some (.int x) :: ls) (.int x :: st) h r := ev_iload_n iX8_bring_194 rfl
theorem iX8_bring_195 : mn_ins 121 195 = some (8, false, .dup2, 1) := by decide +kernel
theorem eX8_bring_195 : Ev 121 195 (ls) (.int x :: .ref a :: st) h r ↔ Ev 121 196 (ls) (.int x :: .ref a :: .int x :: .ref a :: st) h r := ev_dup2 iX8_bring_195 rfl rfl
theorem iX8_bring_196 : mn_ins 121 196 = some (8, false, .iaload, 1) := by decide +kernel
theorem eX8_bring_196 : Ev 121 196 (ls) (.int x :: .ref a :: st) h r ↔ Evk 121 197 ls (mn_al h a 0 x) st h r := ev_iald iX8_bring_196
theorem iX8_bring_197 : mn_ins 121 197 = some (8, false, .aload_n 0, 1) := by decide +kernel
theorem eX8_bring_197 : Ev 121 197 (some (.ref a) :: ls) (st) h r ↔ Ev 121 198 (some (.ref a) :: ls) (.ref a :: st) h r := ev_aload_n iX8_bring_197 rfl rfl
theorem iX8_bring_198 : mn_ins 121 198 = some (8, false, .getfield 64, 3) := by decide +kernel
theorem eX8_bring_198 : Ev 121 198 (ls) (.ref a :: st) h r ↔ Evk 121 201 ls (mn_gf h a 8 24) st h r := ev_getf iX8_bring_198 (by decide +kernel)
theorem iX8_bring_201 : mn_ins 121 201 = some (8, false, .iload_n 2, 1) := by decide +kernel
theorem eX8_bring_201 : Ev 121 201 (a0 :: a1 :: some (.int x) :: ls) (st) h r ↔ Ev 121 202 (a0 :: a1 :: some (.int x) :: ls) (.int x :: st) h r := ev_iload_n iX8_bring_201 rfl
theorem iX8_bring_202 : mn_ins 121 202 = some (8, false, .iaload, 1) := by decide +kernel
theorem eX8_bring_202 : Ev 121 202 (ls) (.int x :: .ref a :: st) h r ↔ Evk 121 203 ls (mn_al h a 0 x) st h r := ev_iald iX8_bring_202
theorem iX8_bring_203 : mn_ins 121 203 = some (8, false, .iadd, 1) := by decide +kernel
theorem eX8_bring_203 : Ev 121 203 (ls) (.int y :: .int x :: st) h r ↔ Ev 121 204 (ls) (.int (x + y) :: st) h r := ev_iadd iX8_bring_203
theorem iX8_bring_204 : mn_ins 121 204 = some (8, false, .iastore, 1) := by decide +kernel
theorem eX8_bring_204 : Ev 121 204 (ls) (.int y :: .int x :: .ref a :: st) h r ↔ Evh 121 205 ls st (mn_asi h a x y) r := ev_iast iX8_bring_204
theorem iX8_bring_205 : mn_ins 121 205 = some (8, false, .aload_n 0, 1) := by decide +kernel
theorem eX8_bring_205 : Ev 121 205 (some (.ref a) :: ls) (st) h r ↔ Ev 121 206 (some (.ref a) :: ls) (.ref a :: st) h r := ev_aload_n iX8_bring_205 rfl rfl
theorem iX8_bring_206 : mn_ins 121 206 = some (8, false, .getfield 39, 3) := by decide +kernel
theorem eX8_bring_206 : Ev 121 206 (ls) (.ref a :: st) h r ↔ Evk 121 209 ls (mn_gf h a 8 16) st h r := ev_getf iX8_bring_206 (by decide +kernel)
theorem iX8_bring_209 : mn_ins 121 209 = some (8, false, .iload_n 2, 1) := by decide +kernel
theorem eX8_bring_209 : Ev 121 209 (a0 :: a1 :: some (.int x) :: ls) (st) h r ↔ Ev 121 210 (a0 :: a1 :: some (.int x) :: ls) (.int x :: st) h r := ev_iload_n iX8_bring_209 rfl
theorem iX8_bring_210 : mn_ins 121 210 = some (8, false, .iconst 3, 1) := by decide +kernel
theorem eX8_bring_210 : Ev 121 210 (ls) (st) h r ↔ Ev 121 211 (ls) (.int (nI 3) :: st) h r := ev_iconst iX8_bring_210 (by decide)
theorem iX8_bring_211 : mn_ins 121 211 = some (8, false, .iastore, 1) := by decide +kernel
theorem eX8_bring_211 : Ev 121 211 (ls) (.int y :: .int x :: .ref a :: st) h r ↔ Evh 121 212 ls st (mn_asi h a x y) r := ev_iast iX8_bring_211
theorem iX8_bring_212 : mn_ins 121 212 = some (8, false, .aload_n 0, 1) := by decide +kernel
theorem eX8_bring_212 : Ev 121 212 (some (.ref a) :: ls) (st) h r ↔ Ev 121 213 (some (.ref a) :: ls) (.ref a :: st) h r := ev_aload_n iX8_bring_212 rfl rfl
theorem iX8_bring_213 : mn_ins 121 213 = some (8, false, .getfield 48, 3) := by decide +kernel
theorem eX8_bring_213 : Ev 121 213 (ls) (.ref a :: st) h r ↔ Evk 121 216 ls (mn_gf h a 8 19) st h r := ev_getf iX8_bring_213 (by decide +kernel)
theorem iX8_bring_216 : mn_ins 121 216 = some (8, false, .iload_n 2, 1) := by decide +kernel
theorem eX8_bring_216 : Ev 121 216 (a0 :: a1 :: some (.int x) :: ls) (st) h r ↔ Ev 121 217 (a0 :: a1 :: some (.int x) :: ls) (.int x :: st) h r := ev_iload_n iX8_bring_216 rfl
theorem iX8_bring_217 : mn_ins 121 217 = some (8, false, .iload_n 1, 1) := by decide +kernel
theorem eX8_bring_217 : Ev 121 217 (a0 :: some (.int x) :: ls) (st) h r ↔ Ev 121 218 (a0 :: some (.int x) :: ls) (.int x :: st) h r := ev_iload_n iX8_bring_217 rfl
theorem iX8_bring_218 : mn_ins 121 218 = some (8, false, .iastore, 1) := by decide +kernel
theorem eX8_bring_218 : Ev 121 218 (ls) (.int y :: .int x :: .ref a :: st) h r ↔ Evh 121 219 ls st (mn_asi h a x y) r := ev_iast iX8_bring_218
theorem iX8_bring_219 : mn_ins 121 219 = some (8, false, .aload_n 0, 1) := by decide +kernel
theorem eX8_bring_219 : Ev 121 219 (some (.ref a) :: ls) (st) h r ↔ Ev 121 220 (some (.ref a) :: ls) (.ref a :: st) h r := ev_aload_n iX8_bring_219 rfl rfl
theorem iX8_bring_220 : mn_ins 121 220 = some (8, false, .iload_n 1, 1) := by decide +kernel
theorem eX8_bring_220 : Ev 121 220 (a0 :: some (.int x) :: ls) (st) h r ↔ Ev 121 221 (a0 :: some (.int x) :: ls) (.int x :: st) h r := ev_iload_n iX8_bring_220 rfl
theorem iX8_bring_221 : mn_ins 121 221 = some (8, false, .invokevirtual 184, 3) := by decide +kernel
theorem eX8_bring_221 : Ev 121 221 (ls) (.int x0 :: .ref b :: st) h r ↔ Evr true (decide (mn_cats st ≤ 8) && mn_isc h b 8) 121 221 ls st h.2.2.1 h.2.2.2 (Cl 111 (.ref b :: [.int x0]) h.1 h.2.1) r := Ev_V (As := [.int x0]) iX8_bring_221 (by decide +kernel) (x := mnI_X8_bring) (x2 := mnI_X8_pop) rfl rfl rfl (by decide +kernel) (Nat.le_of_ble_eq_true rfl) rfl
theorem iX8_bring_224 : mn_ins 121 224 = some (8, false, .pop2, 1) := by decide +kernel
theorem eX8_bring_224 : Ev 121 224 (ls) (.long u :: st) h r ↔ Ev 121 225 (ls) (st) h r := ev_pop2 iX8_bring_224
theorem iX8_bring_225 : mn_ins 121 225 = some (8, false, .aload_n 0, 1) := by decide +kernel
theorem eX8_bring_225 : Ev 121 225 (some (.ref a) :: ls) (st) h r ↔ Ev 121 226 (some (.ref a) :: ls) (.ref a :: st) h r := ev_aload_n iX8_bring_225 rfl rfl
theorem iX8_bring_226 : mn_ins 121 226 = some (8, false, .iload_n 1, 1) := by decide +kernel
theorem eX8_bring_226 : Ev 121 226 (a0 :: some (.int x) :: ls) (st) h r ↔ Ev 121 227 (a0 :: some (.int x) :: ls) (.int x :: st) h r := ev_iload_n iX8_bring_226 rfl
theorem iX8_bring_227 : mn_ins 121 227 = some (8, false, .aload_n 0, 1) := by decide +kernel
theorem eX8_bring_227 : Ev 121 227 (some (.ref a) :: ls) (st) h r ↔ Ev 121 228 (some (.ref a) :: ls) (.ref a :: st) h r := ev_aload_n iX8_bring_227 rfl rfl
theorem iX8_bring_228 : mn_ins 121 228 = some (8, false, .getfield 70, 3) := by decide +kernel
theorem eX8_bring_228 : Ev 121 228 (ls) (.ref a :: st) h r ↔ Evk 121 231 ls (mn_gf h a 8 26) st h r := ev_getf iX8_bring_228 (by decide +kernel)
theorem iX8_bring_231 : mn_ins 121 231 = some (8, false, .iload_n 2, 1) := by decide +kernel
theorem eX8_bring_231 : Ev 121 231 (a0 :: a1 :: some (.int x) :: ls) (st) h r ↔ Ev 121 232 (a0 :: a1 :: some (.int x) :: ls) (.int x :: st) h r := ev_iload_n iX8_bring_231 rfl
theorem iX8_bring_232 : mn_ins 121 232 = some (8, false, .laload, 1) := by decide +kernel
theorem eX8_bring_232 : Ev 121 232 (ls) (.int x :: .ref a :: st) h r ↔ Evk 121 233 ls (mn_al h a 1 x) st h r := ev_lald iX8_bring_232
theorem iX8_bring_233 : mn_ins 121 233 = some (8, false, .invokevirtual 191, 3) := by decide +kernel
theorem eX8_bring_233 : Ev 121 233 (ls) (.long u1 :: .int x0 :: .ref b :: st) h r ↔ Evr true (decide (mn_cats st ≤ 8) && mn_isc h b 8) 121 233 ls st h.2.2.1 h.2.2.2 (Cl 112 (.ref b :: [.int x0, .long u1]) h.1 h.2.1) r := Ev_V (As := [.int x0, .long u1]) iX8_bring_233 (by decide +kernel) (x := mnI_X8_bring) (x2 := mnI_X8_push) rfl rfl rfl (by decide +kernel) (Nat.le_of_ble_eq_true rfl) rfl
theorem iX8_bring_236 : mn_ins 121 236 = some (8, false, .aload_n 0, 1) := by decide +kernel
theorem eX8_bring_236 : Ev 121 236 (some (.ref a) :: ls) (st) h r ↔ Ev 121 237 (some (.ref a) :: ls) (.ref a :: st) h r := ev_aload_n iX8_bring_236 rfl rfl
theorem iX8_bring_237 : mn_ins 121 237 = some (8, false, .getfield 36, 3) := by decide +kernel
theorem eX8_bring_237 : Ev 121 237 (ls) (.ref a :: st) h r ↔ Evk 121 240 ls (mn_gf h a 8 15) st h r := ev_getf iX8_bring_237 (by decide +kernel)
theorem iX8_bring_240 : mn_ins 121 240 = some (8, false, .iload_n 1, 1) := by decide +kernel
theorem eX8_bring_240 : Ev 121 240 (a0 :: some (.int x) :: ls) (st) h r ↔ Ev 121 241 (a0 :: some (.int x) :: ls) (.int x :: st) h r := ev_iload_n iX8_bring_240 rfl
theorem iX8_bring_241 : mn_ins 121 241 = some (8, false, .dup2, 1) := by decide +kernel
theorem eX8_bring_241 : Ev 121 241 (ls) (.int x :: .ref a :: st) h r ↔ Ev 121 242 (ls) (.int x :: .ref a :: .int x :: .ref a :: st) h r := ev_dup2 iX8_bring_241 rfl rfl
theorem iX8_bring_242 : mn_ins 121 242 = some (8, false, .iaload, 1) := by decide +kernel
theorem eX8_bring_242 : Ev 121 242 (ls) (.int x :: .ref a :: st) h r ↔ Evk 121 243 ls (mn_al h a 0 x) st h r := ev_iald iX8_bring_242
theorem iX8_bring_243 : mn_ins 121 243 = some (8, false, .iconst 1, 1) := by decide +kernel
theorem eX8_bring_243 : Ev 121 243 (ls) (st) h r ↔ Ev 121 244 (ls) (.int (nI 1) :: st) h r := ev_iconst iX8_bring_243 (by decide)
theorem iX8_bring_244 : mn_ins 121 244 = some (8, false, .iadd, 1) := by decide +kernel
theorem eX8_bring_244 : Ev 121 244 (ls) (.int y :: .int x :: st) h r ↔ Ev 121 245 (ls) (.int (x + y) :: st) h r := ev_iadd iX8_bring_244
theorem iX8_bring_245 : mn_ins 121 245 = some (8, false, .iastore, 1) := by decide +kernel
theorem eX8_bring_245 : Ev 121 245 (ls) (.int y :: .int x :: .ref a :: st) h r ↔ Evh 121 246 ls st (mn_asi h a x y) r := ev_iast iX8_bring_245
theorem iX8_bring_246 : mn_ins 121 246 = some (8, false, .aload_n 0, 1) := by decide +kernel
theorem eX8_bring_246 : Ev 121 246 (some (.ref a) :: ls) (st) h r ↔ Ev 121 247 (some (.ref a) :: ls) (.ref a :: st) h r := ev_aload_n iX8_bring_246 rfl rfl
theorem iX8_bring_247 : mn_ins 121 247 = some (8, false, .invokevirtual 206, 3) := by decide +kernel
theorem eX8_bring_247 : Ev 121 247 (ls) (.ref b :: st) h r ↔ Evr true (decide (mn_cats st ≤ 8) && mn_isc h b 8) 121 247 ls st h.2.2.1 h.2.2.2 (Cl 107 (.ref b :: []) h.1 h.2.1) r := Ev_V (As := []) iX8_bring_247 (by decide +kernel) (x := mnI_X8_bring) (x2 := mnI_X8_tidy) rfl rfl rfl (by decide +kernel) (Nat.le_of_ble_eq_true rfl) rfl
theorem iX8_bring_250 : mn_ins 121 250 = some (8, false, .return_, 1) := by decide +kernel
theorem eX8_bring_250 : Ev 121 250 (ls) [] h r ↔ r = (h, .inl none) := ev_vret iX8_bring_250 (X := mnI_X8_bring) rfl rfl
theorem iX8_together_0 : mn_ins 122 0 = some (8, false, .aload_n 0, 1) := by decide +kernel
theorem eX8_together_0 : Ev 122 0 (some (.ref a) :: ls) (st) h r ↔ Ev 122 1 (some (.ref a) :: ls) (.ref a :: st) h r := ev_aload_n iX8_together_0 rfl rfl
theorem iX8_together_1 : mn_ins 122 1 = some (8, false, .getfield 23, 3) := by decide +kernel
theorem eX8_together_1 : Ev 122 1 (ls) (.ref a :: st) h r ↔ Evk 122 4 ls (mn_gf h a 8 7) st h r := ev_getf iX8_together_1 (by decide +kernel)
theorem iX8_together_4 : mn_ins 122 4 = some (8, false, .iload_n 1, 1) := by decide +kernel
theorem eX8_together_4 : Ev 122 4 (a0 :: some (.int x) :: ls) (st) h r ↔ Ev 122 5 (a0 :: some (.int x) :: ls) (.int x :: st) h r := ev_iload_n iX8_together_4 rfl
theorem iX8_together_5 : mn_ins 122 5 = some (8, false, .iaload, 1) := by decide +kernel
theorem eX8_together_5 : Ev 122 5 (ls) (.int x :: .ref a :: st) h r ↔ Evk 122 6 ls (mn_al h a 0 x) st h r := ev_iald iX8_together_5
theorem iX8_together_6 : mn_ins 122 6 = some (8, false, .ifCond .ne 6, 3) := by decide +kernel
theorem eX8_together_6 : Ev 122 6 (ls) (.int x :: st) h r ↔ if x = nI 0 then Ev 122 9 (ls) (st) h r else Ev 122 12 (ls) (st) h r := ev_ifne iX8_together_6 (by decide)
theorem iX8_together_9 : mn_ins 122 9 = some (8, false, .lload 6, 2) := by decide +kernel
theorem eX8_together_9 : Ev 122 9 (a0 :: a1 :: a2 :: a3 :: a4 :: a5 :: some (.long u) :: ls) (st) h r ↔ Ev 122 11 (a0 :: a1 :: a2 :: a3 :: a4 :: a5 :: some (.long u) :: ls) (.long u :: st) h r := ev_lload iX8_together_9 rfl
theorem iX8_together_11 : mn_ins 122 11 = some (8, false, .lreturn, 1) := by decide +kernel
theorem eX8_together_11 : Ev 122 11 (ls) [.long u] h r ↔ r = (h, .inl (some (.long u))) := ev_lret iX8_together_11 (X := mnI_X8_together) rfl rfl
theorem iX8_together_12 : mn_ins 122 12 = some (8, false, .aload_n 0, 1) := by decide +kernel
theorem eX8_together_12 : Ev 122 12 (some (.ref a) :: ls) (st) h r ↔ Ev 122 13 (some (.ref a) :: ls) (.ref a :: st) h r := ev_aload_n iX8_together_12 rfl rfl
theorem iX8_together_13 : mn_ins 122 13 = some (8, false, .getfield 23, 3) := by decide +kernel
theorem eX8_together_13 : Ev 122 13 (ls) (.ref a :: st) h r ↔ Evk 122 16 ls (mn_gf h a 8 7) st h r := ev_getf iX8_together_13 (by decide +kernel)
theorem iX8_together_16 : mn_ins 122 16 = some (8, false, .iload_n 1, 1) := by decide +kernel
theorem eX8_together_16 : Ev 122 16 (a0 :: some (.int x) :: ls) (st) h r ↔ Ev 122 17 (a0 :: some (.int x) :: ls) (.int x :: st) h r := ev_iload_n iX8_together_16 rfl
theorem iX8_together_17 : mn_ins 122 17 = some (8, false, .iaload, 1) := by decide +kernel
theorem eX8_together_17 : Ev 122 17 (ls) (.int x :: .ref a :: st) h r ↔ Evk 122 18 ls (mn_al h a 0 x) st h r := ev_iald iX8_together_17
theorem iX8_together_18 : mn_ins 122 18 = some (8, false, .iconst 1, 1) := by decide +kernel
theorem eX8_together_18 : Ev 122 18 (ls) (st) h r ↔ Ev 122 19 (ls) (.int (nI 1) :: st) h r := ev_iconst iX8_together_18 (by decide)
theorem iX8_together_19 : mn_ins 122 19 = some (8, false, .if_icmp .ne 11, 3) := by decide +kernel
theorem eX8_together_19 : Ev 122 19 (ls) (.int y :: .int x :: st) h r ↔ if x = y then Ev 122 22 (ls) (st) h r else Ev 122 30 (ls) (st) h r := ev_cmpne iX8_together_19 (by decide)
theorem iX8_together_22 : mn_ins 122 22 = some (8, false, .lload 4, 2) := by decide +kernel
theorem eX8_together_22 : Ev 122 22 (a0 :: a1 :: a2 :: a3 :: some (.long u) :: ls) (st) h r ↔ Ev 122 24 (a0 :: a1 :: a2 :: a3 :: some (.long u) :: ls) (.long u :: st) h r := ev_lload iX8_together_22 rfl
theorem iX8_together_24 : mn_ins 122 24 = some (8, false, .lload 6, 2) := by decide +kernel
theorem eX8_together_24 : Ev 122 24 (a0 :: a1 :: a2 :: a3 :: a4 :: a5 :: some (.long u) :: ls) (st) h r ↔ Ev 122 26 (a0 :: a1 :: a2 :: a3 :: a4 :: a5 :: some (.long u) :: ls) (.long u :: st) h r := ev_lload iX8_together_24 rfl
theorem iX8_together_26 : mn_ins 122 26 = some (8, false, .ladd, 1) := by decide +kernel
theorem eX8_together_26 : Ev 122 26 (ls) (.long v :: .long u :: st) h r ↔ Ev 122 27 (ls) (.long (u + v) :: st) h r := ev_ladd iX8_together_26
theorem iX8_together_27 : mn_ins 122 27 = some (8, false, .lload_n 2, 1) := by decide +kernel
theorem eX8_together_27 : Ev 122 27 (a0 :: a1 :: some (.long u) :: ls) (st) h r ↔ Ev 122 28 (a0 :: a1 :: some (.long u) :: ls) (.long u :: st) h r := ev_lload_n iX8_together_27 rfl
theorem iX8_together_28 : mn_ins 122 28 = some (8, false, .lsub, 1) := by decide +kernel
theorem eX8_together_28 : Ev 122 28 (ls) (.long v :: .long u :: st) h r ↔ Ev 122 29 (ls) (.long (u - v) :: st) h r := ev_lsub iX8_together_28
theorem iX8_together_29 : mn_ins 122 29 = some (8, false, .lreturn, 1) := by decide +kernel
theorem eX8_together_29 : Ev 122 29 (ls) [.long u] h r ↔ r = (h, .inl (some (.long u))) := ev_lret iX8_together_29 (X := mnI_X8_together) rfl rfl
theorem iX8_together_30 : mn_ins 122 30 = some (8, false, .aload_n 0, 1) := by decide +kernel
theorem eX8_together_30 : Ev 122 30 (some (.ref a) :: ls) (st) h r ↔ Ev 122 31 (some (.ref a) :: ls) (.ref a :: st) h r := ev_aload_n iX8_together_30 rfl rfl
theorem iX8_together_31 : mn_ins 122 31 = some (8, false, .getfield 23, 3) := by decide +kernel
theorem eX8_together_31 : Ev 122 31 (ls) (.ref a :: st) h r ↔ Evk 122 34 ls (mn_gf h a 8 7) st h r := ev_getf iX8_together_31 (by decide +kernel)
theorem iX8_together_34 : mn_ins 122 34 = some (8, false, .iload_n 1, 1) := by decide +kernel
theorem eX8_together_34 : Ev 122 34 (a0 :: some (.int x) :: ls) (st) h r ↔ Ev 122 35 (a0 :: some (.int x) :: ls) (.int x :: st) h r := ev_iload_n iX8_together_34 rfl
theorem iX8_together_35 : mn_ins 122 35 = some (8, false, .iaload, 1) := by decide +kernel
theorem eX8_together_35 : Ev 122 35 (ls) (.int x :: .ref a :: st) h r ↔ Evk 122 36 ls (mn_al h a 0 x) st h r := ev_iald iX8_together_35
theorem iX8_together_36 : mn_ins 122 36 = some (8, false, .iconst 2, 1) := by decide +kernel
theorem eX8_together_36 : Ev 122 36 (ls) (st) h r ↔ Ev 122 37 (ls) (.int (nI 2) :: st) h r := ev_iconst iX8_together_36 (by decide)
theorem iX8_together_37 : mn_ins 122 37 = some (8, false, .if_icmp .ne 21, 3) := by decide +kernel
theorem eX8_together_37 : Ev 122 37 (ls) (.int y :: .int x :: st) h r ↔ if x = y then Ev 122 40 (ls) (st) h r else Ev 122 58 (ls) (st) h r := ev_cmpne iX8_together_37 (by decide)
theorem iX8_together_40 : mn_ins 122 40 = some (8, false, .lload 4, 2) := by decide +kernel
theorem eX8_together_40 : Ev 122 40 (a0 :: a1 :: a2 :: a3 :: some (.long u) :: ls) (st) h r ↔ Ev 122 42 (a0 :: a1 :: a2 :: a3 :: some (.long u) :: ls) (.long u :: st) h r := ev_lload iX8_together_40 rfl
theorem iX8_together_42 : mn_ins 122 42 = some (8, false, .lload 6, 2) := by decide +kernel
theorem eX8_together_42 : Ev 122 42 (a0 :: a1 :: a2 :: a3 :: a4 :: a5 :: some (.long u) :: ls) (st) h r ↔ Ev 122 44 (a0 :: a1 :: a2 :: a3 :: a4 :: a5 :: some (.long u) :: ls) (.long u :: st) h r := ev_lload iX8_together_42 rfl
theorem iX8_together_44 : mn_ins 122 44 = some (8, false, .land, 1) := by decide +kernel
theorem eX8_together_44 : Ev 122 44 (ls) (.long v :: .long u :: st) h r ↔ Ev 122 45 (ls) (.long (u &&& v) :: st) h r := ev_land iX8_together_44
theorem iX8_together_45 : mn_ins 122 45 = some (8, false, .lload 4, 2) := by decide +kernel
theorem eX8_together_45 : Ev 122 45 (a0 :: a1 :: a2 :: a3 :: some (.long u) :: ls) (st) h r ↔ Ev 122 47 (a0 :: a1 :: a2 :: a3 :: some (.long u) :: ls) (.long u :: st) h r := ev_lload iX8_together_45 rfl
theorem iX8_together_47 : mn_ins 122 47 = some (8, false, .lload 6, 2) := by decide +kernel
theorem eX8_together_47 : Ev 122 47 (a0 :: a1 :: a2 :: a3 :: a4 :: a5 :: some (.long u) :: ls) (st) h r ↔ Ev 122 49 (a0 :: a1 :: a2 :: a3 :: a4 :: a5 :: some (.long u) :: ls) (.long u :: st) h r := ev_lload iX8_together_47 rfl
theorem iX8_together_49 : mn_ins 122 49 = some (8, false, .lor, 1) := by decide +kernel
theorem eX8_together_49 : Ev 122 49 (ls) (.long v :: .long u :: st) h r ↔ Ev 122 50 (ls) (.long (u ||| v) :: st) h r := ev_lor iX8_together_49
theorem iX8_together_50 : mn_ins 122 50 = some (8, false, .lload_n 2, 1) := by decide +kernel
theorem eX8_together_50 : Ev 122 50 (a0 :: a1 :: some (.long u) :: ls) (st) h r ↔ Ev 122 51 (a0 :: a1 :: some (.long u) :: ls) (.long u :: st) h r := ev_lload_n iX8_together_50 rfl
theorem iX8_together_51 : mn_ins 122 51 = some (8, false, .ldc2_w 216, 3) := by decide +kernel
theorem eX8_together_51 : Ev 122 51 (ls) (st) h r ↔ Ev 122 54 (ls) (.long (-1) :: st) h r := ev_ldc2 iX8_together_51 (by decide +kernel)
theorem iX8_together_54 : mn_ins 122 54 = some (8, false, .lxor, 1) := by decide +kernel
theorem eX8_together_54 : Ev 122 54 (ls) (.long v :: .long u :: st) h r ↔ Ev 122 55 (ls) (.long (u ^^^ v) :: st) h r := ev_lxor iX8_together_54
theorem iX8_together_55 : mn_ins 122 55 = some (8, false, .land, 1) := by decide +kernel
theorem eX8_together_55 : Ev 122 55 (ls) (.long v :: .long u :: st) h r ↔ Ev 122 56 (ls) (.long (u &&& v) :: st) h r := ev_land iX8_together_55
theorem iX8_together_56 : mn_ins 122 56 = some (8, false, .lor, 1) := by decide +kernel
theorem eX8_together_56 : Ev 122 56 (ls) (.long v :: .long u :: st) h r ↔ Ev 122 57 (ls) (.long (u ||| v) :: st) h r := ev_lor iX8_together_56
theorem iX8_together_57 : mn_ins 122 57 = some (8, false, .lreturn, 1) := by decide +kernel
theorem eX8_together_57 : Ev 122 57 (ls) [.long u] h r ↔ r = (h, .inl (some (.long u))) := ev_lret iX8_together_57 (X := mnI_X8_together) rfl rfl
theorem iX8_together_58 : mn_ins 122 58 = some (8, false, .aload_n 0, 1) := by decide +kernel
theorem eX8_together_58 : Ev 122 58 (some (.ref a) :: ls) (st) h r ↔ Ev 122 59 (some (.ref a) :: ls) (.ref a :: st) h r := ev_aload_n iX8_together_58 rfl rfl
theorem iX8_together_59 : mn_ins 122 59 = some (8, false, .bipush 6, 2) := by decide +kernel
theorem eX8_together_59 : Ev 122 59 (ls) (st) h r ↔ Ev 122 61 (ls) (.int (nI 6) :: st) h r := ev_bipush iX8_together_59 (by decide)
theorem iX8_together_61 : mn_ins 122 61 = some (8, false, .aload_n 0, 1) := by decide +kernel
theorem eX8_together_61 : Ev 122 61 (some (.ref a) :: ls) (st) h r ↔ Ev 122 62 (some (.ref a) :: ls) (.ref a :: st) h r := ev_aload_n iX8_together_61 rfl rfl
theorem iX8_together_62 : mn_ins 122 62 = some (8, false, .getfield 26, 3) := by decide +kernel
theorem eX8_together_62 : Ev 122 62 (ls) (.ref a :: st) h r ↔ Evk 122 65 ls (mn_gf h a 8 8) st h r := ev_getf iX8_together_62 (by decide +kernel)
theorem iX8_together_65 : mn_ins 122 65 = some (8, false, .iload_n 1, 1) := by decide +kernel
theorem eX8_together_65 : Ev 122 65 (a0 :: some (.int x) :: ls) (st) h r ↔ Ev 122 66 (a0 :: some (.int x) :: ls) (.int x :: st) h r := ev_iload_n iX8_together_65 rfl
theorem iX8_together_66 : mn_ins 122 66 = some (8, false, .iaload, 1) := by decide +kernel
theorem eX8_together_66 : Ev 122 66 (ls) (.int x :: .ref a :: st) h r ↔ Evk 122 67 ls (mn_al h a 0 x) st h r := ev_iald iX8_together_66
theorem iX8_together_67 : mn_ins 122 67 = some (8, false, .iadd, 1) := by decide +kernel
theorem eX8_together_67 : Ev 122 67 (ls) (.int y :: .int x :: st) h r ↔ Ev 122 68 (ls) (.int (x + y) :: st) h r := ev_iadd iX8_together_67
theorem iX8_together_68 : mn_ins 122 68 = some (8, false, .lload_n 2, 1) := by decide +kernel
theorem eX8_together_68 : Ev 122 68 (a0 :: a1 :: some (.long u) :: ls) (st) h r ↔ Ev 122 69 (a0 :: a1 :: some (.long u) :: ls) (.long u :: st) h r := ev_lload_n iX8_together_68 rfl
theorem iX8_together_69 : mn_ins 122 69 = some (8, false, .lload 4, 2) := by decide +kernel
theorem eX8_together_69 : Ev 122 69 (a0 :: a1 :: a2 :: a3 :: some (.long u) :: ls) (st) h r ↔ Ev 122 71 (a0 :: a1 :: a2 :: a3 :: some (.long u) :: ls) (.long u :: st) h r := ev_lload iX8_together_69 rfl
theorem iX8_together_71 : mn_ins 122 71 = some (8, false, .lload 6, 2) := by decide +kernel
theorem eX8_together_71 : Ev 122 71 (a0 :: a1 :: a2 :: a3 :: a4 :: a5 :: some (.long u) :: ls) (st) h r ↔ Ev 122 73 (a0 :: a1 :: a2 :: a3 :: a4 :: a5 :: some (.long u) :: ls) (.long u :: st) h r := ev_lload iX8_together_71 rfl
theorem iX8_together_73 : mn_ins 122 73 = some (8, false, .invokevirtual 218, 3) := by decide +kernel
theorem eX8_together_73 : Ev 122 73 (ls) (.long u3 :: .long u2 :: .long u1 :: .int x0 :: .ref b :: st) h r ↔ Evr true (decide (mn_cats st ≤ 8) && mn_isc h b 8) 122 73 ls st h.2.2.1 h.2.2.2 (Cl 123 (.ref b :: [.int x0, .long u1, .long u2, .long u3]) h.1 h.2.1) r := Ev_V (As := [.int x0, .long u1, .long u2, .long u3]) iX8_together_73 (by decide +kernel) (x := mnI_X8_together) (x2 := mnI_X8_merged) rfl rfl rfl (by decide +kernel) (Nat.le_of_ble_eq_true rfl) rfl
theorem iX8_together_76 : mn_ins 122 76 = some (8, false, .lreturn, 1) := by decide +kernel
theorem eX8_together_76 : Ev 122 76 (ls) [.long u] h r ↔ r = (h, .inl (some (.long u))) := ev_lret iX8_together_76 (X := mnI_X8_together) rfl rfl
theorem iX8_merged_0 : mn_ins 123 0 = some (8, false, .iconst 0, 1) := by decide +kernel
theorem eX8_merged_0 : Ev 123 0 (ls) (st) h r ↔ Ev 123 1 (ls) (.int (nI 0) :: st) h r := ev_iconst iX8_merged_0 (by decide)
theorem iX8_merged_1 : mn_ins 123 1 = some (8, false, .istore 8, 2) := by decide +kernel
theorem eX8_merged_1 : Ev 123 1 (a0 :: a1 :: a2 :: a3 :: a4 :: a5 :: a6 :: a7 :: a8 :: ls) (.int x :: st) h r ↔ Ev 123 3 (a0 :: a1 :: a2 :: a3 :: a4 :: a5 :: a6 :: mn_k a7 :: some (.int x) :: ls) (st) h r := ev_istore iX8_merged_1 (by show 8 < _; simp only [List.length_cons]; omega)
theorem iX8_merged_3 : mn_ins 123 3 = some (8, false, .iconst 0, 1) := by decide +kernel
theorem eX8_merged_3 : Ev 123 3 (ls) (st) h r ↔ Ev 123 4 (ls) (.int (nI 0) :: st) h r := ev_iconst iX8_merged_3 (by decide)
theorem iX8_merged_4 : mn_ins 123 4 = some (8, false, .istore 9, 2) := by decide +kernel
theorem eX8_merged_4 : Ev 123 4 (a0 :: a1 :: a2 :: a3 :: a4 :: a5 :: a6 :: a7 :: a8 :: a9 :: ls) (.int x :: st) h r ↔ Ev 123 6 (a0 :: a1 :: a2 :: a3 :: a4 :: a5 :: a6 :: a7 :: mn_k a8 :: some (.int x) :: ls) (st) h r := ev_istore iX8_merged_4 (by show 9 < _; simp only [List.length_cons]; omega)
theorem iX8_merged_6 : mn_ins 123 6 = some (8, false, .aload_n 0, 1) := by decide +kernel
theorem eX8_merged_6 : Ev 123 6 (some (.ref a) :: ls) (st) h r ↔ Ev 123 7 (some (.ref a) :: ls) (.ref a :: st) h r := ev_aload_n iX8_merged_6 rfl rfl
theorem iX8_merged_7 : mn_ins 123 7 = some (8, false, .getfield 17, 3) := by decide +kernel
theorem eX8_merged_7 : Ev 123 7 (ls) (.ref a :: st) h r ↔ Evk 123 10 ls (mn_gf h a 8 5) st h r := ev_getf iX8_merged_7 (by decide +kernel)
theorem iX8_merged_10 : mn_ins 123 10 = some (8, false, .bipush 24, 2) := by decide +kernel
theorem eX8_merged_10 : Ev 123 10 (ls) (st) h r ↔ Ev 123 12 (ls) (.int (nI 24) :: st) h r := ev_bipush iX8_merged_10 (by decide)
theorem iX8_merged_12 : mn_ins 123 12 = some (8, false, .iload_n 1, 1) := by decide +kernel
theorem eX8_merged_12 : Ev 123 12 (a0 :: some (.int x) :: ls) (st) h r ↔ Ev 123 13 (a0 :: some (.int x) :: ls) (.int x :: st) h r := ev_iload_n iX8_merged_12 rfl
theorem iX8_merged_13 : mn_ins 123 13 = some (8, false, .imul, 1) := by decide +kernel
theorem eX8_merged_13 : Ev 123 13 (ls) (.int y :: .int x :: st) h r ↔ Ev 123 14 (ls) (.int (x * y) :: st) h r := ev_imul iX8_merged_13
theorem iX8_merged_14 : mn_ins 123 14 = some (8, false, .iload 8, 2) := by decide +kernel
theorem eX8_merged_14 : Ev 123 14 (a0 :: a1 :: a2 :: a3 :: a4 :: a5 :: a6 :: a7 :: some (.int x) :: ls) (st) h r ↔ Ev 123 16 (a0 :: a1 :: a2 :: a3 :: a4 :: a5 :: a6 :: a7 :: some (.int x) :: ls) (.int x :: st) h r := ev_iload iX8_merged_14 rfl
theorem iX8_merged_16 : mn_ins 123 16 = some (8, false, .iadd, 1) := by decide +kernel
theorem eX8_merged_16 : Ev 123 16 (ls) (.int y :: .int x :: st) h r ↔ Ev 123 17 (ls) (.int (x + y) :: st) h r := ev_iadd iX8_merged_16
theorem iX8_merged_17 : mn_ins 123 17 = some (8, false, .iaload, 1) := by decide +kernel
theorem eX8_merged_17 : Ev 123 17 (ls) (.int x :: .ref a :: st) h r ↔ Evk 123 18 ls (mn_al h a 0 x) st h r := ev_iald iX8_merged_17
theorem iX8_merged_18 : mn_ins 123 18 = some (8, false, .istore 10, 2) := by decide +kernel
theorem eX8_merged_18 : Ev 123 18 (a0 :: a1 :: a2 :: a3 :: a4 :: a5 :: a6 :: a7 :: a8 :: a9 :: a10 :: ls) (.int x :: st) h r ↔ Ev 123 20 (a0 :: a1 :: a2 :: a3 :: a4 :: a5 :: a6 :: a7 :: a8 :: mn_k a9 :: some (.int x) :: ls) (st) h r := ev_istore iX8_merged_18 (by show 10 < _; simp only [List.length_cons]; omega)
theorem iX8_merged_20 : mn_ins 123 20 = some (8, false, .aload_n 0, 1) := by decide +kernel
theorem eX8_merged_20 : Ev 123 20 (some (.ref a) :: ls) (st) h r ↔ Ev 123 21 (some (.ref a) :: ls) (.ref a :: st) h r := ev_aload_n iX8_merged_20 rfl rfl
theorem iX8_merged_21 : mn_ins 123 21 = some (8, false, .getfield 20, 3) := by decide +kernel
theorem eX8_merged_21 : Ev 123 21 (ls) (.ref a :: st) h r ↔ Evk 123 24 ls (mn_gf h a 8 6) st h r := ev_getf iX8_merged_21 (by decide +kernel)
theorem iX8_merged_24 : mn_ins 123 24 = some (8, false, .bipush 24, 2) := by decide +kernel
theorem eX8_merged_24 : Ev 123 24 (ls) (st) h r ↔ Ev 123 26 (ls) (.int (nI 24) :: st) h r := ev_bipush iX8_merged_24 (by decide)
theorem iX8_merged_26 : mn_ins 123 26 = some (8, false, .iload_n 1, 1) := by decide +kernel
theorem eX8_merged_26 : Ev 123 26 (a0 :: some (.int x) :: ls) (st) h r ↔ Ev 123 27 (a0 :: some (.int x) :: ls) (.int x :: st) h r := ev_iload_n iX8_merged_26 rfl
theorem iX8_merged_27 : mn_ins 123 27 = some (8, false, .imul, 1) := by decide +kernel
theorem eX8_merged_27 : Ev 123 27 (ls) (.int y :: .int x :: st) h r ↔ Ev 123 28 (ls) (.int (x * y) :: st) h r := ev_imul iX8_merged_27
theorem iX8_merged_28 : mn_ins 123 28 = some (8, false, .iload 8, 2) := by decide +kernel
theorem eX8_merged_28 : Ev 123 28 (a0 :: a1 :: a2 :: a3 :: a4 :: a5 :: a6 :: a7 :: some (.int x) :: ls) (st) h r ↔ Ev 123 30 (a0 :: a1 :: a2 :: a3 :: a4 :: a5 :: a6 :: a7 :: some (.int x) :: ls) (.int x :: st) h r := ev_iload iX8_merged_28 rfl
theorem iX8_merged_30 : mn_ins 123 30 = some (8, false, .iadd, 1) := by decide +kernel
theorem eX8_merged_30 : Ev 123 30 (ls) (.int y :: .int x :: st) h r ↔ Ev 123 31 (ls) (.int (x + y) :: st) h r := ev_iadd iX8_merged_30
theorem iX8_merged_31 : mn_ins 123 31 = some (8, false, .iaload, 1) := by decide +kernel
theorem eX8_merged_31 : Ev 123 31 (ls) (.int x :: .ref a :: st) h r ↔ Evk 123 32 ls (mn_al h a 0 x) st h r := ev_iald iX8_merged_31
theorem iX8_merged_32 : mn_ins 123 32 = some (8, false, .istore 11, 2) := by decide +kernel
theorem eX8_merged_32 : Ev 123 32 (a0 :: a1 :: a2 :: a3 :: a4 :: a5 :: a6 :: a7 :: a8 :: a9 :: a10 :: a11 :: ls) (.int x :: st) h r ↔ Ev 123 34 (a0 :: a1 :: a2 :: a3 :: a4 :: a5 :: a6 :: a7 :: a8 :: a9 :: mn_k a10 :: some (.int x) :: ls) (st) h r := ev_istore iX8_merged_32 (by show 11 < _; simp only [List.length_cons]; omega)
theorem iX8_merged_34 : mn_ins 123 34 = some (8, false, .iinc 8 1, 3) := by decide +kernel
theorem eX8_merged_34 : Ev 123 34 (a0 :: a1 :: a2 :: a3 :: a4 :: a5 :: a6 :: a7 :: some (.int x) :: ls) (st) h r ↔ Ev 123 37 (a0 :: a1 :: a2 :: a3 :: a4 :: a5 :: a6 :: mn_k a7 :: some (.int (x + (nI 1))) :: ls) (st) h r := ev_iinc iX8_merged_34 rfl (by decide)
theorem iX8_merged_37 : mn_ins 123 37 = some (8, false, .iload 10, 2) := by decide +kernel
theorem eX8_merged_37 : Ev 123 37 (a0 :: a1 :: a2 :: a3 :: a4 :: a5 :: a6 :: a7 :: a8 :: a9 :: some (.int x) :: ls) (st) h r ↔ Ev 123 39 (a0 :: a1 :: a2 :: a3 :: a4 :: a5 :: a6 :: a7 :: a8 :: a9 :: some (.int x) :: ls) (.int x :: st) h r := ev_iload iX8_merged_37 rfl
theorem iX8_merged_39 : mn_ins 123 39 = some (8, false, .bipush 16, 2) := by decide +kernel
theorem eX8_merged_39 : Ev 123 39 (ls) (st) h r ↔ Ev 123 41 (ls) (.int (nI 16) :: st) h r := ev_bipush iX8_merged_39 (by decide)
theorem iX8_merged_41 : mn_ins 123 41 = some (8, false, .if_icmp .ne 13, 3) := by decide +kernel
theorem eX8_merged_41 : Ev 123 41 (ls) (.int y :: .int x :: st) h r ↔ if x = y then Ev 123 44 (ls) (st) h r else Ev 123 54 (ls) (st) h r := ev_cmpne iX8_merged_41 (by decide)
theorem iX8_merged_44 : mn_ins 123 44 = some (8, false, .aload_n 0, 1) := by decide +kernel
theorem eX8_merged_44 : Ev 123 44 (some (.ref a) :: ls) (st) h r ↔ Ev 123 45 (some (.ref a) :: ls) (.ref a :: st) h r := ev_aload_n iX8_merged_44 rfl rfl
theorem iX8_merged_45 : mn_ins 123 45 = some (8, false, .getfield 91, 3) := by decide +kernel
theorem eX8_merged_45 : Ev 123 45 (ls) (.ref a :: st) h r ↔ Evk 123 48 ls (mn_gf h a 8 33) st h r := ev_getf iX8_merged_45 (by decide +kernel)
theorem iX8_merged_48 : mn_ins 123 48 = some (8, false, .iload 9, 2) := by decide +kernel
theorem eX8_merged_48 : Ev 123 48 (a0 :: a1 :: a2 :: a3 :: a4 :: a5 :: a6 :: a7 :: a8 :: some (.int x) :: ls) (st) h r ↔ Ev 123 50 (a0 :: a1 :: a2 :: a3 :: a4 :: a5 :: a6 :: a7 :: a8 :: some (.int x) :: ls) (.int x :: st) h r := ev_iload iX8_merged_48 rfl
theorem iX8_merged_50 : mn_ins 123 50 = some (8, false, .iconst 1, 1) := by decide +kernel
theorem eX8_merged_50 : Ev 123 50 (ls) (st) h r ↔ Ev 123 51 (ls) (.int (nI 1) :: st) h r := ev_iconst iX8_merged_50 (by decide)
theorem iX8_merged_51 : mn_ins 123 51 = some (8, false, .isub, 1) := by decide +kernel
theorem eX8_merged_51 : Ev 123 51 (ls) (.int y :: .int x :: st) h r ↔ Ev 123 52 (ls) (.int (x - y) :: st) h r := ev_isub iX8_merged_51
theorem iX8_merged_52 : mn_ins 123 52 = some (8, false, .laload, 1) := by decide +kernel
theorem eX8_merged_52 : Ev 123 52 (ls) (.int x :: .ref a :: st) h r ↔ Evk 123 53 ls (mn_al h a 1 x) st h r := ev_lald iX8_merged_52
theorem iX8_merged_53 : mn_ins 123 53 = some (8, false, .lreturn, 1) := by decide +kernel
theorem eX8_merged_53 : Ev 123 53 (ls) [.long u] h r ↔ r = (h, .inl (some (.long u))) := ev_lret iX8_merged_53 (X := mnI_X8_merged) rfl rfl
theorem iX8_merged_54 : mn_ins 123 54 = some (8, false, .iload 10, 2) := by decide +kernel
theorem eX8_merged_54 : Ev 123 54 (a0 :: a1 :: a2 :: a3 :: a4 :: a5 :: a6 :: a7 :: a8 :: a9 :: some (.int x) :: ls) (st) h r ↔ Ev 123 56 (a0 :: a1 :: a2 :: a3 :: a4 :: a5 :: a6 :: a7 :: a8 :: a9 :: some (.int x) :: ls) (.int x :: st) h r := ev_iload iX8_merged_54 rfl
theorem iX8_merged_56 : mn_ins 123 56 = some (8, false, .ifCond .eq 9, 3) := by decide +kernel
theorem eX8_merged_56 : Ev 123 56 (ls) (.int x :: st) h r ↔ if x = nI 0 then Ev 123 65 (ls) (st) h r else Ev 123 59 (ls) (st) h r := ev_ifeq iX8_merged_56 (by decide)
theorem iX8_merged_59 : mn_ins 123 59 = some (8, false, .iload 10, 2) := by decide +kernel
theorem eX8_merged_59 : Ev 123 59 (a0 :: a1 :: a2 :: a3 :: a4 :: a5 :: a6 :: a7 :: a8 :: a9 :: some (.int x) :: ls) (st) h r ↔ Ev 123 61 (a0 :: a1 :: a2 :: a3 :: a4 :: a5 :: a6 :: a7 :: a8 :: a9 :: some (.int x) :: ls) (.int x :: st) h r := ev_iload iX8_merged_59 rfl
theorem iX8_merged_61 : mn_ins 123 61 = some (8, false, .iconst 1, 1) := by decide +kernel
theorem eX8_merged_61 : Ev 123 61 (ls) (st) h r ↔ Ev 123 62 (ls) (.int (nI 1) :: st) h r := ev_iconst iX8_merged_61 (by decide)
theorem iX8_merged_62 : mn_ins 123 62 = some (8, false, .if_icmp .ne 49, 3) := by decide +kernel
theorem eX8_merged_62 : Ev 123 62 (ls) (.int y :: .int x :: st) h r ↔ if x = y then Ev 123 65 (ls) (st) h r else Ev 123 111 (ls) (st) h r := ev_cmpne iX8_merged_62 (by decide)
theorem iX8_merged_65 : mn_ins 123 65 = some (8, false, .aload_n 0, 1) := by decide +kernel
theorem eX8_merged_65 : Ev 123 65 (some (.ref a) :: ls) (st) h r ↔ Ev 123 66 (some (.ref a) :: ls) (.ref a :: st) h r := ev_aload_n iX8_merged_65 rfl rfl
theorem iX8_merged_66 : mn_ins 123 66 = some (8, false, .getfield 91, 3) := by decide +kernel
theorem eX8_merged_66 : Ev 123 66 (ls) (.ref a :: st) h r ↔ Evk 123 69 ls (mn_gf h a 8 33) st h r := ev_getf iX8_merged_66 (by decide +kernel)
theorem iX8_merged_69 : mn_ins 123 69 = some (8, false, .iload 9, 2) := by decide +kernel
theorem eX8_merged_69 : Ev 123 69 (a0 :: a1 :: a2 :: a3 :: a4 :: a5 :: a6 :: a7 :: a8 :: some (.int x) :: ls) (st) h r ↔ Ev 123 71 (a0 :: a1 :: a2 :: a3 :: a4 :: a5 :: a6 :: a7 :: a8 :: some (.int x) :: ls) (.int x :: st) h r := ev_iload iX8_merged_69 rfl
theorem iX8_merged_71 : mn_ins 123 71 = some (8, false, .iload 10, 2) := by decide +kernel
theorem eX8_merged_71 : Ev 123 71 (a0 :: a1 :: a2 :: a3 :: a4 :: a5 :: a6 :: a7 :: a8 :: a9 :: some (.int x) :: ls) (st) h r ↔ Ev 123 73 (a0 :: a1 :: a2 :: a3 :: a4 :: a5 :: a6 :: a7 :: a8 :: a9 :: some (.int x) :: ls) (.int x :: st) h r := ev_iload iX8_merged_71 rfl
theorem iX8_merged_73 : mn_ins 123 73 = some (8, false, .ifCond .ne 9, 3) := by decide +kernel
theorem eX8_merged_73 : Ev 123 73 (ls) (.int x :: st) h r ↔ if x = nI 0 then Ev 123 76 (ls) (st) h r else Ev 123 82 (ls) (st) h r := ev_ifne iX8_merged_73 (by decide)
theorem iX8_merged_76 : mn_ins 123 76 = some (8, false, .iload 11, 2) := by decide +kernel
theorem eX8_merged_76 : Ev 123 76 (a0 :: a1 :: a2 :: a3 :: a4 :: a5 :: a6 :: a7 :: a8 :: a9 :: a10 :: some (.int x) :: ls) (st) h r ↔ Ev 123 78 (a0 :: a1 :: a2 :: a3 :: a4 :: a5 :: a6 :: a7 :: a8 :: a9 :: a10 :: some (.int x) :: ls) (.int x :: st) h r := ev_iload iX8_merged_76 rfl
theorem iX8_merged_78 : mn_ins 123 78 = some (8, false, .i2l, 1) := by decide +kernel
theorem eX8_merged_78 : Ev 123 78 (ls) (.int x :: st) h r ↔ Ev 123 79 (ls) (.long x.toInt64 :: st) h r := ev_i2l iX8_merged_78
theorem iX8_merged_79 : mn_ins 123 79 = some (8, false, .goto 25, 3) := by decide +kernel
theorem eX8_merged_79 : Ev 123 79 (ls) (st) h r ↔ Ev 123 104 (ls) (st) h r := ev_goto iX8_merged_79 (by decide)
theorem iX8_merged_82 : mn_ins 123 82 = some (8, false, .iload 11, 2) := by decide +kernel
theorem eX8_merged_82 : Ev 123 82 (a0 :: a1 :: a2 :: a3 :: a4 :: a5 :: a6 :: a7 :: a8 :: a9 :: a10 :: some (.int x) :: ls) (st) h r ↔ Ev 123 84 (a0 :: a1 :: a2 :: a3 :: a4 :: a5 :: a6 :: a7 :: a8 :: a9 :: a10 :: some (.int x) :: ls) (.int x :: st) h r := ev_iload iX8_merged_82 rfl
theorem iX8_merged_84 : mn_ins 123 84 = some (8, false, .ifCond .ne 7, 3) := by decide +kernel
theorem eX8_merged_84 : Ev 123 84 (ls) (.int x :: st) h r ↔ if x = nI 0 then Ev 123 87 (ls) (st) h r else Ev 123 91 (ls) (st) h r := ev_ifne iX8_merged_84 (by decide)
theorem iX8_merged_87 : mn_ins 123 87 = some (8, false, .lload_n 2, 1) := by decide +kernel
theorem eX8_merged_87 : Ev 123 87 (a0 :: a1 :: some (.long u) :: ls) (st) h r ↔ Ev 123 88 (a0 :: a1 :: some (.long u) :: ls) (.long u :: st) h r := ev_lload_n iX8_merged_87 rfl
theorem iX8_merged_88 : mn_ins 123 88 = some (8, false, .goto 16, 3) := by decide +kernel
theorem eX8_merged_88 : Ev 123 88 (ls) (st) h r ↔ Ev 123 104 (ls) (st) h r := ev_goto iX8_merged_88 (by decide)
theorem iX8_merged_91 : mn_ins 123 91 = some (8, false, .iload 11, 2) := by decide +kernel
theorem eX8_merged_91 : Ev 123 91 (a0 :: a1 :: a2 :: a3 :: a4 :: a5 :: a6 :: a7 :: a8 :: a9 :: a10 :: some (.int x) :: ls) (st) h r ↔ Ev 123 93 (a0 :: a1 :: a2 :: a3 :: a4 :: a5 :: a6 :: a7 :: a8 :: a9 :: a10 :: some (.int x) :: ls) (.int x :: st) h r := ev_iload iX8_merged_91 rfl
theorem iX8_merged_93 : mn_ins 123 93 = some (8, false, .iconst 1, 1) := by decide +kernel
theorem eX8_merged_93 : Ev 123 93 (ls) (st) h r ↔ Ev 123 94 (ls) (.int (nI 1) :: st) h r := ev_iconst iX8_merged_93 (by decide)
theorem iX8_merged_94 : mn_ins 123 94 = some (8, false, .if_icmp .ne 8, 3) := by decide +kernel
theorem eX8_merged_94 : Ev 123 94 (ls) (.int y :: .int x :: st) h r ↔ if x = y then Ev 123 97 (ls) (st) h r else Ev 123 102 (ls) (st) h r := ev_cmpne iX8_merged_94 (by decide)
theorem iX8_merged_97 : mn_ins 123 97 = some (8, false, .lload 4, 2) := by decide +kernel
theorem eX8_merged_97 : Ev 123 97 (a0 :: a1 :: a2 :: a3 :: some (.long u) :: ls) (st) h r ↔ Ev 123 99 (a0 :: a1 :: a2 :: a3 :: some (.long u) :: ls) (.long u :: st) h r := ev_lload iX8_merged_97 rfl
theorem iX8_merged_99 : mn_ins 123 99 = some (8, false, .goto 5, 3) := by decide +kernel
theorem eX8_merged_99 : Ev 123 99 (ls) (st) h r ↔ Ev 123 104 (ls) (st) h r := ev_goto iX8_merged_99 (by decide)
theorem iX8_merged_102 : mn_ins 123 102 = some (8, false, .lload 6, 2) := by decide +kernel
theorem eX8_merged_102 : Ev 123 102 (a0 :: a1 :: a2 :: a3 :: a4 :: a5 :: some (.long u) :: ls) (st) h r ↔ Ev 123 104 (a0 :: a1 :: a2 :: a3 :: a4 :: a5 :: some (.long u) :: ls) (.long u :: st) h r := ev_lload iX8_merged_102 rfl
theorem iX8_merged_104 : mn_ins 123 104 = some (8, false, .lastore, 1) := by decide +kernel
theorem eX8_merged_104 : Ev 123 104 (ls) (.long u :: .int x :: .ref a :: st) h r ↔ Evh 123 105 ls st (mn_asl h a x u) r := ev_last iX8_merged_104
theorem iX8_merged_105 : mn_ins 123 105 = some (8, false, .iinc 9 1, 3) := by decide +kernel
theorem eX8_merged_105 : Ev 123 105 (a0 :: a1 :: a2 :: a3 :: a4 :: a5 :: a6 :: a7 :: a8 :: some (.int x) :: ls) (st) h r ↔ Ev 123 108 (a0 :: a1 :: a2 :: a3 :: a4 :: a5 :: a6 :: a7 :: mn_k a8 :: some (.int (x + (nI 1))) :: ls) (st) h r := ev_iinc iX8_merged_105 rfl (by decide)
theorem iX8_merged_108 : mn_ins 123 108 = some (8, false, .goto 109, 3) := by decide +kernel
theorem eX8_merged_108 : Ev 123 108 (ls) (st) h r ↔ Ev 123 217 (ls) (st) h r := ev_goto iX8_merged_108 (by decide)
theorem iX8_merged_111 : mn_ins 123 111 = some (8, false, .iload 10, 2) := by decide +kernel
theorem eX8_merged_111 : Ev 123 111 (a0 :: a1 :: a2 :: a3 :: a4 :: a5 :: a6 :: a7 :: a8 :: a9 :: some (.int x) :: ls) (st) h r ↔ Ev 123 113 (a0 :: a1 :: a2 :: a3 :: a4 :: a5 :: a6 :: a7 :: a8 :: a9 :: some (.int x) :: ls) (.int x :: st) h r := ev_iload iX8_merged_111 rfl
theorem iX8_merged_113 : mn_ins 123 113 = some (8, false, .iconst 5, 1) := by decide +kernel
theorem eX8_merged_113 : Ev 123 113 (ls) (st) h r ↔ Ev 123 114 (ls) (.int (nI 5) :: st) h r := ev_iconst iX8_merged_113 (by decide)
theorem iX8_merged_114 : mn_ins 123 114 = some (8, false, .if_icmp .lt 48, 3) := by decide +kernel
theorem eX8_merged_114 : Ev 123 114 (ls) (.int y :: .int x :: st) h r ↔ if x < y then Ev 123 162 (ls) (st) h r else Ev 123 117 (ls) (st) h r := ev_cmplt iX8_merged_114 (by decide)
theorem iX8_merged_117 : mn_ins 123 117 = some (8, false, .iload 10, 2) := by decide +kernel
theorem eX8_merged_117 : Ev 123 117 (a0 :: a1 :: a2 :: a3 :: a4 :: a5 :: a6 :: a7 :: a8 :: a9 :: some (.int x) :: ls) (st) h r ↔ Ev 123 119 (a0 :: a1 :: a2 :: a3 :: a4 :: a5 :: a6 :: a7 :: a8 :: a9 :: some (.int x) :: ls) (.int x :: st) h r := ev_iload iX8_merged_117 rfl
theorem iX8_merged_119 : mn_ins 123 119 = some (8, false, .bipush 10, 2) := by decide +kernel
theorem eX8_merged_119 : Ev 123 119 (ls) (st) h r ↔ Ev 123 121 (ls) (.int (nI 10) :: st) h r := ev_bipush iX8_merged_119 (by decide)
theorem iX8_merged_121 : mn_ins 123 121 = some (8, false, .if_icmp .gt 41, 3) := by decide +kernel
theorem eX8_merged_121 : Ev 123 121 (ls) (.int y :: .int x :: st) h r ↔ if y < x then Ev 123 162 (ls) (st) h r else Ev 123 124 (ls) (st) h r := ev_cmpgt iX8_merged_121 (by decide)
theorem iX8_merged_124 : mn_ins 123 124 = some (8, false, .aload_n 0, 1) := by decide +kernel
theorem eX8_merged_124 : Ev 123 124 (some (.ref a) :: ls) (st) h r ↔ Ev 123 125 (some (.ref a) :: ls) (.ref a :: st) h r := ev_aload_n iX8_merged_124 rfl rfl
theorem iX8_merged_125 : mn_ins 123 125 = some (8, false, .getfield 91, 3) := by decide +kernel
theorem eX8_merged_125 : Ev 123 125 (ls) (.ref a :: st) h r ↔ Evk 123 128 ls (mn_gf h a 8 33) st h r := ev_getf iX8_merged_125 (by decide +kernel)
theorem iX8_merged_128 : mn_ins 123 128 = some (8, false, .iload 9, 2) := by decide +kernel
theorem eX8_merged_128 : Ev 123 128 (a0 :: a1 :: a2 :: a3 :: a4 :: a5 :: a6 :: a7 :: a8 :: some (.int x) :: ls) (st) h r ↔ Ev 123 130 (a0 :: a1 :: a2 :: a3 :: a4 :: a5 :: a6 :: a7 :: a8 :: some (.int x) :: ls) (.int x :: st) h r := ev_iload iX8_merged_128 rfl
theorem iX8_merged_130 : mn_ins 123 130 = some (8, false, .iconst 2, 1) := by decide +kernel
theorem eX8_merged_130 : Ev 123 130 (ls) (st) h r ↔ Ev 123 131 (ls) (.int (nI 2) :: st) h r := ev_iconst iX8_merged_130 (by decide)
theorem iX8_merged_131 : mn_ins 123 131 = some (8, false, .isub, 1) := by decide +kernel
theorem eX8_merged_131 : Ev 123 131 (ls) (.int y :: .int x :: st) h r ↔ Ev 123 132 (ls) (.int (x - y) :: st) h r := ev_isub iX8_merged_131
theorem iX8_merged_132 : mn_ins 123 132 = some (8, false, .iload 10, 2) := by decide +kernel
theorem eX8_merged_132 : Ev 123 132 (a0 :: a1 :: a2 :: a3 :: a4 :: a5 :: a6 :: a7 :: a8 :: a9 :: some (.int x) :: ls) (st) h r ↔ Ev 123 134 (a0 :: a1 :: a2 :: a3 :: a4 :: a5 :: a6 :: a7 :: a8 :: a9 :: some (.int x) :: ls) (.int x :: st) h r := ev_iload iX8_merged_132 rfl
theorem iX8_merged_134 : mn_ins 123 134 = some (8, false, .aload_n 0, 1) := by decide +kernel
theorem eX8_merged_134 : Ev 123 134 (some (.ref a) :: ls) (st) h r ↔ Ev 123 135 (some (.ref a) :: ls) (.ref a :: st) h r := ev_aload_n iX8_merged_134 rfl rfl
theorem iX8_merged_135 : mn_ins 123 135 = some (8, false, .getfield 91, 3) := by decide +kernel
theorem eX8_merged_135 : Ev 123 135 (ls) (.ref a :: st) h r ↔ Evk 123 138 ls (mn_gf h a 8 33) st h r := ev_getf iX8_merged_135 (by decide +kernel)
theorem iX8_merged_138 : mn_ins 123 138 = some (8, false, .iload 9, 2) := by decide +kernel
theorem eX8_merged_138 : Ev 123 138 (a0 :: a1 :: a2 :: a3 :: a4 :: a5 :: a6 :: a7 :: a8 :: some (.int x) :: ls) (st) h r ↔ Ev 123 140 (a0 :: a1 :: a2 :: a3 :: a4 :: a5 :: a6 :: a7 :: a8 :: some (.int x) :: ls) (.int x :: st) h r := ev_iload iX8_merged_138 rfl
theorem iX8_merged_140 : mn_ins 123 140 = some (8, false, .iconst 2, 1) := by decide +kernel
theorem eX8_merged_140 : Ev 123 140 (ls) (st) h r ↔ Ev 123 141 (ls) (.int (nI 2) :: st) h r := ev_iconst iX8_merged_140 (by decide)
theorem iX8_merged_141 : mn_ins 123 141 = some (8, false, .isub, 1) := by decide +kernel
theorem eX8_merged_141 : Ev 123 141 (ls) (.int y :: .int x :: st) h r ↔ Ev 123 142 (ls) (.int (x - y) :: st) h r := ev_isub iX8_merged_141
theorem iX8_merged_142 : mn_ins 123 142 = some (8, false, .laload, 1) := by decide +kernel
theorem eX8_merged_142 : Ev 123 142 (ls) (.int x :: .ref a :: st) h r ↔ Evk 123 143 ls (mn_al h a 1 x) st h r := ev_lald iX8_merged_142
theorem iX8_merged_143 : mn_ins 123 143 = some (8, false, .aload_n 0, 1) := by decide +kernel
theorem eX8_merged_143 : Ev 123 143 (some (.ref a) :: ls) (st) h r ↔ Ev 123 144 (some (.ref a) :: ls) (.ref a :: st) h r := ev_aload_n iX8_merged_143 rfl rfl
theorem iX8_merged_144 : mn_ins 123 144 = some (8, false, .getfield 91, 3) := by decide +kernel
theorem eX8_merged_144 : Ev 123 144 (ls) (.ref a :: st) h r ↔ Evk 123 147 ls (mn_gf h a 8 33) st h r := ev_getf iX8_merged_144 (by decide +kernel)
theorem iX8_merged_147 : mn_ins 123 147 = some (8, false, .iload 9, 2) := by decide +kernel
theorem eX8_merged_147 : Ev 123 147 (a0 :: a1 :: a2 :: a3 :: a4 :: a5 :: a6 :: a7 :: a8 :: some (.int x) :: ls) (st) h r ↔ Ev 123 149 (a0 :: a1 :: a2 :: a3 :: a4 :: a5 :: a6 :: a7 :: a8 :: some (.int x) :: ls) (.int x :: st) h r := ev_iload iX8_merged_147 rfl
theorem iX8_merged_149 : mn_ins 123 149 = some (8, false, .iconst 1, 1) := by decide +kernel
theorem eX8_merged_149 : Ev 123 149 (ls) (st) h r ↔ Ev 123 150 (ls) (.int (nI 1) :: st) h r := ev_iconst iX8_merged_149 (by decide)
theorem iX8_merged_150 : mn_ins 123 150 = some (8, false, .isub, 1) := by decide +kernel
theorem eX8_merged_150 : Ev 123 150 (ls) (.int y :: .int x :: st) h r ↔ Ev 123 151 (ls) (.int (x - y) :: st) h r := ev_isub iX8_merged_150
theorem iX8_merged_151 : mn_ins 123 151 = some (8, false, .laload, 1) := by decide +kernel
theorem eX8_merged_151 : Ev 123 151 (ls) (.int x :: .ref a :: st) h r ↔ Evk 123 152 ls (mn_al h a 1 x) st h r := ev_lald iX8_merged_151
theorem iX8_merged_152 : mn_ins 123 152 = some (8, false, .invokestatic 187, 3) := by decide +kernel
theorem eX8_merged_152 : Ev 123 152 (ls) (.long u2 :: .long u1 :: .int x0 :: st) h r ↔ Evr false (decide (mn_cats st ≤ 8)) 123 152 ls st h.2.2.1 h.2.2.2 (Cl 113 [.int x0, .long u1, .long u2] h.1 h.2.1) r := Ev_T (As := [.int x0, .long u1, .long u2]) (q := 1) iX8_merged_152 (by decide +kernel) (by decide) (x := mnI_X8_merged) (x2 := mnI_X8_reckon) rfl rfl rfl (by decide +kernel) (Nat.le_of_ble_eq_true rfl) rfl
theorem iX8_merged_155 : mn_ins 123 155 = some (8, false, .lastore, 1) := by decide +kernel
theorem eX8_merged_155 : Ev 123 155 (ls) (.long u :: .int x :: .ref a :: st) h r ↔ Evh 123 156 ls st (mn_asl h a x u) r := ev_last iX8_merged_155
theorem iX8_merged_156 : mn_ins 123 156 = some (8, false, .iinc 9 (-1), 3) := by decide +kernel
theorem eX8_merged_156 : Ev 123 156 (a0 :: a1 :: a2 :: a3 :: a4 :: a5 :: a6 :: a7 :: a8 :: some (.int x) :: ls) (st) h r ↔ Ev 123 159 (a0 :: a1 :: a2 :: a3 :: a4 :: a5 :: a6 :: a7 :: mn_k a8 :: some (.int (x + (-1))) :: ls) (st) h r := ev_iinc iX8_merged_156 rfl (by decide)
theorem iX8_merged_159 : mn_ins 123 159 = some (8, false, .goto 58, 3) := by decide +kernel
theorem eX8_merged_159 : Ev 123 159 (ls) (st) h r ↔ Ev 123 217 (ls) (st) h r := ev_goto iX8_merged_159 (by decide)
theorem iX8_merged_162 : mn_ins 123 162 = some (8, false, .iload 10, 2) := by decide +kernel
theorem eX8_merged_162 : Ev 123 162 (a0 :: a1 :: a2 :: a3 :: a4 :: a5 :: a6 :: a7 :: a8 :: a9 :: some (.int x) :: ls) (st) h r ↔ Ev 123 164 (a0 :: a1 :: a2 :: a3 :: a4 :: a5 :: a6 :: a7 :: a8 :: a9 :: some (.int x) :: ls) (.int x :: st) h r := ev_iload iX8_merged_162 rfl
theorem iX8_merged_164 : mn_ins 123 164 = some (8, false, .bipush 17, 2) := by decide +kernel
theorem eX8_merged_164 : Ev 123 164 (ls) (st) h r ↔ Ev 123 166 (ls) (.int (nI 17) :: st) h r := ev_bipush iX8_merged_164 (by decide)
theorem iX8_merged_166 : mn_ins 123 166 = some (8, false, .if_icmp .ne 25, 3) := by decide +kernel
theorem eX8_merged_166 : Ev 123 166 (ls) (.int y :: .int x :: st) h r ↔ if x = y then Ev 123 169 (ls) (st) h r else Ev 123 191 (ls) (st) h r := ev_cmpne iX8_merged_166 (by decide)
theorem iX8_merged_169 : mn_ins 123 169 = some (8, false, .aload_n 0, 1) := by decide +kernel
theorem eX8_merged_169 : Ev 123 169 (some (.ref a) :: ls) (st) h r ↔ Ev 123 170 (some (.ref a) :: ls) (.ref a :: st) h r := ev_aload_n iX8_merged_169 rfl rfl
theorem iX8_merged_170 : mn_ins 123 170 = some (8, false, .getfield 91, 3) := by decide +kernel
theorem eX8_merged_170 : Ev 123 170 (ls) (.ref a :: st) h r ↔ Evk 123 173 ls (mn_gf h a 8 33) st h r := ev_getf iX8_merged_170 (by decide +kernel)
theorem iX8_merged_173 : mn_ins 123 173 = some (8, false, .iload 9, 2) := by decide +kernel
theorem eX8_merged_173 : Ev 123 173 (a0 :: a1 :: a2 :: a3 :: a4 :: a5 :: a6 :: a7 :: a8 :: some (.int x) :: ls) (st) h r ↔ Ev 123 175 (a0 :: a1 :: a2 :: a3 :: a4 :: a5 :: a6 :: a7 :: a8 :: some (.int x) :: ls) (.int x :: st) h r := ev_iload iX8_merged_173 rfl
theorem iX8_merged_175 : mn_ins 123 175 = some (8, false, .aload_n 0, 1) := by decide +kernel
theorem eX8_merged_175 : Ev 123 175 (some (.ref a) :: ls) (st) h r ↔ Ev 123 176 (some (.ref a) :: ls) (.ref a :: st) h r := ev_aload_n iX8_merged_175 rfl rfl
theorem iX8_merged_176 : mn_ins 123 176 = some (8, false, .getfield 91, 3) := by decide +kernel
theorem eX8_merged_176 : Ev 123 176 (ls) (.ref a :: st) h r ↔ Evk 123 179 ls (mn_gf h a 8 33) st h r := ev_getf iX8_merged_176 (by decide +kernel)
theorem iX8_merged_179 : mn_ins 123 179 = some (8, false, .iload 9, 2) := by decide +kernel
theorem eX8_merged_179 : Ev 123 179 (a0 :: a1 :: a2 :: a3 :: a4 :: a5 :: a6 :: a7 :: a8 :: some (.int x) :: ls) (st) h r ↔ Ev 123 181 (a0 :: a1 :: a2 :: a3 :: a4 :: a5 :: a6 :: a7 :: a8 :: some (.int x) :: ls) (.int x :: st) h r := ev_iload iX8_merged_179 rfl
theorem iX8_merged_181 : mn_ins 123 181 = some (8, false, .iconst 1, 1) := by decide +kernel
theorem eX8_merged_181 : Ev 123 181 (ls) (st) h r ↔ Ev 123 182 (ls) (.int (nI 1) :: st) h r := ev_iconst iX8_merged_181 (by decide)
theorem iX8_merged_182 : mn_ins 123 182 = some (8, false, .isub, 1) := by decide +kernel
theorem eX8_merged_182 : Ev 123 182 (ls) (.int y :: .int x :: st) h r ↔ Ev 123 183 (ls) (.int (x - y) :: st) h r := ev_isub iX8_merged_182
theorem iX8_merged_183 : mn_ins 123 183 = some (8, false, .laload, 1) := by decide +kernel
theorem eX8_merged_183 : Ev 123 183 (ls) (.int x :: .ref a :: st) h r ↔ Evk 123 184 ls (mn_al h a 1 x) st h r := ev_lald iX8_merged_183
theorem iX8_merged_184 : mn_ins 123 184 = some (8, false, .lastore, 1) := by decide +kernel
theorem eX8_merged_184 : Ev 123 184 (ls) (.long u :: .int x :: .ref a :: st) h r ↔ Evh 123 185 ls st (mn_asl h a x u) r := ev_last iX8_merged_184
theorem iX8_merged_185 : mn_ins 123 185 = some (8, false, .iinc 9 1, 3) := by decide +kernel
theorem eX8_merged_185 : Ev 123 185 (a0 :: a1 :: a2 :: a3 :: a4 :: a5 :: a6 :: a7 :: a8 :: some (.int x) :: ls) (st) h r ↔ Ev 123 188 (a0 :: a1 :: a2 :: a3 :: a4 :: a5 :: a6 :: a7 :: mn_k a8 :: some (.int (x + (nI 1))) :: ls) (st) h r := ev_iinc iX8_merged_185 rfl (by decide)
theorem iX8_merged_188 : mn_ins 123 188 = some (8, false, .goto 29, 3) := by decide +kernel
theorem eX8_merged_188 : Ev 123 188 (ls) (st) h r ↔ Ev 123 217 (ls) (st) h r := ev_goto iX8_merged_188 (by decide)
theorem iX8_merged_191 : mn_ins 123 191 = some (8, false, .iinc 9 (-1), 3) := by decide +kernel
theorem eX8_merged_191 : Ev 123 191 (a0 :: a1 :: a2 :: a3 :: a4 :: a5 :: a6 :: a7 :: a8 :: some (.int x) :: ls) (st) h r ↔ Ev 123 194 (a0 :: a1 :: a2 :: a3 :: a4 :: a5 :: a6 :: a7 :: mn_k a8 :: some (.int (x + (-1))) :: ls) (st) h r := ev_iinc iX8_merged_191 rfl (by decide)
theorem iX8_merged_194 : mn_ins 123 194 = some (8, false, .iload 10, 2) := by decide +kernel
theorem eX8_merged_194 : Ev 123 194 (a0 :: a1 :: a2 :: a3 :: a4 :: a5 :: a6 :: a7 :: a8 :: a9 :: some (.int x) :: ls) (st) h r ↔ Ev 123 196 (a0 :: a1 :: a2 :: a3 :: a4 :: a5 :: a6 :: a7 :: a8 :: a9 :: some (.int x) :: ls) (.int x :: st) h r := ev_iload iX8_merged_194 rfl
theorem iX8_merged_196 : mn_ins 123 196 = some (8, false, .bipush 12, 2) := by decide +kernel
theorem eX8_merged_196 : Ev 123 196 (ls) (st) h r ↔ Ev 123 198 (ls) (.int (nI 12) :: st) h r := ev_bipush iX8_merged_196 (by decide)
theorem iX8_merged_198 : mn_ins 123 198 = some (8, false, .if_icmp .ne 19, 3) := by decide +kernel
theorem eX8_merged_198 : Ev 123 198 (ls) (.int y :: .int x :: st) h r ↔ if x = y then Ev 123 201 (ls) (st) h r else Ev 123 217 (ls) (st) h r := ev_cmpne iX8_merged_198 (by decide)
theorem iX8_merged_201 : mn_ins 123 201 = some (8, false, .aload_n 0, 1) := by decide +kernel
theorem eX8_merged_201 : Ev 123 201 (some (.ref a) :: ls) (st) h r ↔ Ev 123 202 (some (.ref a) :: ls) (.ref a :: st) h r := ev_aload_n iX8_merged_201 rfl rfl
theorem iX8_merged_202 : mn_ins 123 202 = some (8, false, .getfield 91, 3) := by decide +kernel
theorem eX8_merged_202 : Ev 123 202 (ls) (.ref a :: st) h r ↔ Evk 123 205 ls (mn_gf h a 8 33) st h r := ev_getf iX8_merged_202 (by decide +kernel)
theorem iX8_merged_205 : mn_ins 123 205 = some (8, false, .iload 9, 2) := by decide +kernel
theorem eX8_merged_205 : Ev 123 205 (a0 :: a1 :: a2 :: a3 :: a4 :: a5 :: a6 :: a7 :: a8 :: some (.int x) :: ls) (st) h r ↔ Ev 123 207 (a0 :: a1 :: a2 :: a3 :: a4 :: a5 :: a6 :: a7 :: a8 :: some (.int x) :: ls) (.int x :: st) h r := ev_iload iX8_merged_205 rfl
theorem iX8_merged_207 : mn_ins 123 207 = some (8, false, .laload, 1) := by decide +kernel
theorem eX8_merged_207 : Ev 123 207 (ls) (.int x :: .ref a :: st) h r ↔ Evk 123 208 ls (mn_al h a 1 x) st h r := ev_lald iX8_merged_207
theorem iX8_merged_208 : mn_ins 123 208 = some (8, false, .lconst 0, 1) := by decide +kernel
theorem eX8_merged_208 : Ev 123 208 (ls) (st) h r ↔ Ev 123 209 (ls) (.long 0 :: st) h r := ev_lconst iX8_merged_208 (by decide)
theorem iX8_merged_209 : mn_ins 123 209 = some (8, false, .lcmp, 1) := by decide +kernel
theorem eX8_merged_209 : Ev 123 209 (ls) (.long v :: .long u :: st) h r ↔ Ev 123 210 (ls) (.int (lg_cmp u v) :: st) h r := ev_lcmp iX8_merged_209
theorem iX8_merged_210 : mn_ins 123 210 = some (8, false, .ifCond .ne 7, 3) := by decide +kernel
theorem eX8_merged_210 : Ev 123 210 (ls) (.int x :: st) h r ↔ if x = nI 0 then Ev 123 213 (ls) (st) h r else Ev 123 217 (ls) (st) h r := ev_ifne iX8_merged_210 (by decide)
theorem iX8_merged_213 : mn_ins 123 213 = some (8, false, .iload 11, 2) := by decide +kernel
theorem eX8_merged_213 : Ev 123 213 (a0 :: a1 :: a2 :: a3 :: a4 :: a5 :: a6 :: a7 :: a8 :: a9 :: a10 :: some (.int x) :: ls) (st) h r ↔ Ev 123 215 (a0 :: a1 :: a2 :: a3 :: a4 :: a5 :: a6 :: a7 :: a8 :: a9 :: a10 :: some (.int x) :: ls) (.int x :: st) h r := ev_iload iX8_merged_213 rfl
theorem iX8_merged_215 : mn_ins 123 215 = some (8, false, .istore 8, 2) := by decide +kernel
theorem eX8_merged_215 : Ev 123 215 (a0 :: a1 :: a2 :: a3 :: a4 :: a5 :: a6 :: a7 :: a8 :: ls) (.int x :: st) h r ↔ Ev 123 217 (a0 :: a1 :: a2 :: a3 :: a4 :: a5 :: a6 :: mn_k a7 :: some (.int x) :: ls) (st) h r := ev_istore iX8_merged_215 (by show 8 < _; simp only [List.length_cons]; omega)
theorem iX8_merged_217 : mn_ins 123 217 = some (8, false, .goto (-211), 3) := by decide +kernel
theorem eX8_merged_217 : Ev 123 217 (ls) (st) h r ↔ Ev 123 6 (ls) (st) h r := ev_goto iX8_merged_217 (by decide)
end E_41b_rows
