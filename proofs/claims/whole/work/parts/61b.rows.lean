section E_61b_rows
variable {ls : List (Option Value)} {st : List Value} {h : mn_S} {r : mn_Res} {a0 a1 a2 a3 a4 a5 a6 a7 a8 a9 a10 a11 a12 a13 : Option Value} {x y : Int32} {u v : Int64} {w w2 w3 w4 w5 w6 w7 w8 : Value} {x0 x1 x2 x3 x4 x5 x6 x7 x8 : Int32} {u0 u1 u2 u3 u4 u5 u6 u7 u8 : Int64} {a b : Nat} {o1 o2 : Option Nat}
theorem iX0_init_0 : mn_ins 0 0 = some (0, true, .aload_n 0, 1) := by decide +kernel
theorem eX0_init_0 : Ev 0 0 (some (.ref a) :: ls) (st) h r ↔ Ev 0 1 (some (.ref a) :: ls) (.ref a :: st) h r := ev_aload_n iX0_init_0 rfl rfl
theorem iX0_init_1 : mn_ins 0 1 = some (0, true, .invokespecial 3, 3) := by decide +kernel
theorem eX0_init_1 (hc : mn_cats st ≤ 8) : Ev 0 1 (ls) (.ref a :: st) h r ↔ Ev 0 4 (ls) (st) h r := Ev_obj iX0_init_1 (q := 0) (by decide +kernel) (x := mnI_X0_init) rfl (by decide) hc
theorem iX0_init_4 : mn_ins 0 4 = some (0, true, .aload_n 0, 1) := by decide +kernel
theorem eX0_init_4 : Ev 0 4 (some (.ref a) :: ls) (st) h r ↔ Ev 0 5 (some (.ref a) :: ls) (.ref a :: st) h r := ev_aload_n iX0_init_4 rfl rfl
theorem iX0_init_5 : mn_ins 0 5 = some (0, true, .bipush 24, 2) := by decide +kernel
theorem eX0_init_5 : Ev 0 5 (ls) (st) h r ↔ Ev 0 7 (ls) (.int (nI 24) :: st) h r := ev_bipush iX0_init_5 (by decide)
theorem iX0_init_7 : mn_ins 0 7 = some (0, true, .newarray .int, 2) := by decide +kernel
theorem eX0_init_7 : Ev 0 7 (ls) (.int x :: st) h r ↔ Evn 0 9 ls st (mn_na h 0 x) r := ev_newi iX0_init_7
theorem iX0_init_9 : mn_ins 0 9 = some (0, true, .putfield 9, 3) := by decide +kernel
theorem eX0_init_9 : Ev 0 9 (ls) (w :: .ref a :: st) h r ↔ Evh 0 12 ls st (mn_pf h a 0 0 w) r := ev_putf iX0_init_9 (by decide +kernel) (by decide +kernel)
theorem iX0_init_12 : mn_ins 0 12 = some (0, true, .aload_n 0, 1) := by decide +kernel
theorem eX0_init_12 : Ev 0 12 (some (.ref a) :: ls) (st) h r ↔ Ev 0 13 (some (.ref a) :: ls) (.ref a :: st) h r := ev_aload_n iX0_init_12 rfl rfl
theorem iX0_init_13 : mn_ins 0 13 = some (0, true, .sipush 192, 3) := by decide +kernel
theorem eX0_init_13 : Ev 0 13 (ls) (st) h r ↔ Ev 0 16 (ls) (.int (nI 192) :: st) h r := ev_sipush iX0_init_13 (by decide)
theorem iX0_init_16 : mn_ins 0 16 = some (0, true, .newarray .int, 2) := by decide +kernel
theorem eX0_init_16 : Ev 0 16 (ls) (.int x :: st) h r ↔ Evn 0 18 ls st (mn_na h 0 x) r := ev_newi iX0_init_16
theorem iX0_init_18 : mn_ins 0 18 = some (0, true, .putfield 15, 3) := by decide +kernel
theorem eX0_init_18 : Ev 0 18 (ls) (w :: .ref a :: st) h r ↔ Evh 0 21 ls st (mn_pf h a 0 1 w) r := ev_putf iX0_init_18 (by decide +kernel) (by decide +kernel)
theorem iX0_init_21 : mn_ins 0 21 = some (0, true, .return_, 1) := by decide +kernel
theorem eX0_init_21 : Ev 0 21 (ls) [] h r ↔ r = (h, .inl none) := ev_vret iX0_init_21 (X := mnI_X0_init) rfl rfl
theorem iX0_faultIn_0 : mn_ins 1 0 = some (0, false, .iconst 0, 1) := by decide +kernel
theorem eX0_faultIn_0 : Ev 1 0 (ls) (st) h r ↔ Ev 1 1 (ls) (.int (nI 0) :: st) h r := ev_iconst iX0_faultIn_0 (by decide)
theorem iX0_faultIn_1 : mn_ins 1 1 = some (0, false, .istore_n 3, 1) := by decide +kernel
theorem eX0_faultIn_1 : Ev 1 1 (a0 :: a1 :: a2 :: a3 :: ls) (.int x :: st) h r ↔ Ev 1 2 (a0 :: a1 :: mn_k a2 :: some (.int x) :: ls) (st) h r := ev_istore_n iX0_faultIn_1 (by show 3 < _; simp only [List.length_cons]; omega)
theorem iX0_faultIn_2 : mn_ins 1 2 = some (0, false, .iload_n 3, 1) := by decide +kernel
theorem eX0_faultIn_2 : Ev 1 2 (a0 :: a1 :: a2 :: some (.int x) :: ls) (st) h r ↔ Ev 1 3 (a0 :: a1 :: a2 :: some (.int x) :: ls) (.int x :: st) h r := ev_iload_n iX0_faultIn_2 rfl
theorem iX0_faultIn_3 : mn_ins 1 3 = some (0, false, .aload_n 1, 1) := by decide +kernel
theorem eX0_faultIn_3 : Ev 1 3 (a0 :: some (.ref a) :: ls) (st) h r ↔ Ev 1 4 (a0 :: some (.ref a) :: ls) (.ref a :: st) h r := ev_aload_n iX0_faultIn_3 rfl rfl
theorem eX0_faultIn_3n : Ev 1 3 (a0 :: some (.null) :: ls) (st) h r ↔ Ev 1 4 (a0 :: some (.null) :: ls) (.null :: st) h r := ev_aload_n iX0_faultIn_3 rfl rfl
theorem eX0_faultIn_3t : Ev 1 3 (a0 :: some (tkv o1) :: ls) (st) h r ↔ Ev 1 4 (a0 :: some (tkv o1) :: ls) (tkv o1 :: st) h r := ev_aload_n iX0_faultIn_3 rfl tkv_r
theorem eX0_faultIn_3s : Ev 1 3 (a0 :: some (sgv o1) :: ls) (st) h r ↔ Ev 1 4 (a0 :: some (sgv o1) :: ls) (sgv o1 :: st) h r := ev_aload_n iX0_faultIn_3 rfl sgv_r
theorem eX0_faultIn_3c : Ev 1 3 (a0 :: some (cdv o1) :: ls) (st) h r ↔ Ev 1 4 (a0 :: some (cdv o1) :: ls) (cdv o1 :: st) h r := ev_aload_n iX0_faultIn_3 rfl cdv_r
theorem iX0_faultIn_4 : mn_ins 1 4 = some (0, false, .getfield 18, 3) := by decide +kernel
theorem eX0_faultIn_4 : Ev 1 4 (ls) (.ref a :: st) h r ↔ Evk 1 7 ls (mn_gf h a 1 3) st h r := ev_getf iX0_faultIn_4 (by decide +kernel)
theorem iX0_faultIn_7 : mn_ins 1 7 = some (0, false, .if_icmp .ge 20, 3) := by decide +kernel
theorem eX0_faultIn_7 : Ev 1 7 (ls) (.int y :: .int x :: st) h r ↔ if y ≤ x then Ev 1 27 (ls) (st) h r else Ev 1 10 (ls) (st) h r := ev_cmpge iX0_faultIn_7 (by decide)
theorem iX0_faultIn_10 : mn_ins 1 10 = some (0, false, .aload_n 1, 1) := by decide +kernel
theorem eX0_faultIn_10 : Ev 1 10 (a0 :: some (.ref a) :: ls) (st) h r ↔ Ev 1 11 (a0 :: some (.ref a) :: ls) (.ref a :: st) h r := ev_aload_n iX0_faultIn_10 rfl rfl
theorem eX0_faultIn_10n : Ev 1 10 (a0 :: some (.null) :: ls) (st) h r ↔ Ev 1 11 (a0 :: some (.null) :: ls) (.null :: st) h r := ev_aload_n iX0_faultIn_10 rfl rfl
theorem eX0_faultIn_10t : Ev 1 10 (a0 :: some (tkv o1) :: ls) (st) h r ↔ Ev 1 11 (a0 :: some (tkv o1) :: ls) (tkv o1 :: st) h r := ev_aload_n iX0_faultIn_10 rfl tkv_r
theorem eX0_faultIn_10s : Ev 1 10 (a0 :: some (sgv o1) :: ls) (st) h r ↔ Ev 1 11 (a0 :: some (sgv o1) :: ls) (sgv o1 :: st) h r := ev_aload_n iX0_faultIn_10 rfl sgv_r
theorem eX0_faultIn_10c : Ev 1 10 (a0 :: some (cdv o1) :: ls) (st) h r ↔ Ev 1 11 (a0 :: some (cdv o1) :: ls) (cdv o1 :: st) h r := ev_aload_n iX0_faultIn_10 rfl cdv_r
theorem iX0_faultIn_11 : mn_ins 1 11 = some (0, false, .iload_n 3, 1) := by decide +kernel
theorem eX0_faultIn_11 : Ev 1 11 (a0 :: a1 :: a2 :: some (.int x) :: ls) (st) h r ↔ Ev 1 12 (a0 :: a1 :: a2 :: some (.int x) :: ls) (.int x :: st) h r := ev_iload_n iX0_faultIn_11 rfl
theorem iX0_faultIn_12 : mn_ins 1 12 = some (0, false, .iload_n 2, 1) := by decide +kernel
theorem eX0_faultIn_12 : Ev 1 12 (a0 :: a1 :: some (.int x) :: ls) (st) h r ↔ Ev 1 13 (a0 :: a1 :: some (.int x) :: ls) (.int x :: st) h r := ev_iload_n iX0_faultIn_12 rfl
theorem iX0_faultIn_13 : mn_ins 1 13 = some (0, false, .invokestatic 24, 3) := by decide +kernel
theorem EgX0_faultIn_13 (hw3 : (mn_r w3).isSome = true) : Ev 1 13 (ls) (.int x2 :: .int x1 :: w3 :: st) h r ↔ Evr false (decide (mn_cats st ≤ 8)) 1 13 ls st h.2.2.1 h.2.2.2 (Cl 2 [w3, .int x1, .int x2] h.1 h.2.1) r := Ev_T (As := [w3, .int x1, .int x2]) (q := 1) iX0_faultIn_13 (by decide +kernel) (by decide) (x := mnI_X0_faultIn) (x2 := mnI_X0_isAsSaid) rfl rfl rfl (by decide +kernel) (by rcases mn_r_is hw3 with ⟨_, rfl⟩ | rfl <;> exact Nat.le_of_ble_eq_true rfl) rfl
theorem eX0_faultIn_13 {cw3 : Nat} : Ev 1 13 (ls) (.int x2 :: .int x1 :: (.ref cw3) :: st) h r ↔ Evr false (decide (mn_cats st ≤ 8)) 1 13 ls st h.2.2.1 h.2.2.2 (Cl 2 [(.ref cw3), .int x1, .int x2] h.1 h.2.1) r := EgX0_faultIn_13 rfl
theorem iX0_faultIn_16 : mn_ins 1 16 = some (0, false, .ifCond .ne 5, 3) := by decide +kernel
theorem eX0_faultIn_16 : Ev 1 16 (ls) (.int x :: st) h r ↔ if x = nI 0 then Ev 1 19 (ls) (st) h r else Ev 1 21 (ls) (st) h r := ev_ifne iX0_faultIn_16 (by decide)
theorem iX0_faultIn_19 : mn_ins 1 19 = some (0, false, .iload_n 3, 1) := by decide +kernel
theorem eX0_faultIn_19 : Ev 1 19 (a0 :: a1 :: a2 :: some (.int x) :: ls) (st) h r ↔ Ev 1 20 (a0 :: a1 :: a2 :: some (.int x) :: ls) (.int x :: st) h r := ev_iload_n iX0_faultIn_19 rfl
theorem iX0_faultIn_20 : mn_ins 1 20 = some (0, false, .ireturn, 1) := by decide +kernel
theorem eX0_faultIn_20 : Ev 1 20 (ls) [.int x] h r ↔ r = (h, .inl (some (.int x))) := ev_iret iX0_faultIn_20 (X := mnI_X0_faultIn) rfl rfl
theorem iX0_faultIn_21 : mn_ins 1 21 = some (0, false, .iinc 3 1, 3) := by decide +kernel
theorem eX0_faultIn_21 : Ev 1 21 (a0 :: a1 :: a2 :: some (.int x) :: ls) (st) h r ↔ Ev 1 24 (a0 :: a1 :: mn_k a2 :: some (.int (x + (nI 1))) :: ls) (st) h r := ev_iinc iX0_faultIn_21 rfl (by decide)
theorem iX0_faultIn_24 : mn_ins 1 24 = some (0, false, .goto (-22), 3) := by decide +kernel
theorem eX0_faultIn_24 : Ev 1 24 (ls) (st) h r ↔ Ev 1 2 (ls) (st) h r := ev_goto iX0_faultIn_24 (by decide)
theorem iX0_faultIn_27 : mn_ins 1 27 = some (0, false, .aload_n 1, 1) := by decide +kernel
theorem eX0_faultIn_27 : Ev 1 27 (a0 :: some (.ref a) :: ls) (st) h r ↔ Ev 1 28 (a0 :: some (.ref a) :: ls) (.ref a :: st) h r := ev_aload_n iX0_faultIn_27 rfl rfl
theorem eX0_faultIn_27n : Ev 1 27 (a0 :: some (.null) :: ls) (st) h r ↔ Ev 1 28 (a0 :: some (.null) :: ls) (.null :: st) h r := ev_aload_n iX0_faultIn_27 rfl rfl
theorem eX0_faultIn_27t : Ev 1 27 (a0 :: some (tkv o1) :: ls) (st) h r ↔ Ev 1 28 (a0 :: some (tkv o1) :: ls) (tkv o1 :: st) h r := ev_aload_n iX0_faultIn_27 rfl tkv_r
theorem eX0_faultIn_27s : Ev 1 27 (a0 :: some (sgv o1) :: ls) (st) h r ↔ Ev 1 28 (a0 :: some (sgv o1) :: ls) (sgv o1 :: st) h r := ev_aload_n iX0_faultIn_27 rfl sgv_r
theorem eX0_faultIn_27c : Ev 1 27 (a0 :: some (cdv o1) :: ls) (st) h r ↔ Ev 1 28 (a0 :: some (cdv o1) :: ls) (cdv o1 :: st) h r := ev_aload_n iX0_faultIn_27 rfl cdv_r
theorem iX0_faultIn_28 : mn_ins 1 28 = some (0, false, .getfield 18, 3) := by decide +kernel
theorem eX0_faultIn_28 : Ev 1 28 (ls) (.ref a :: st) h r ↔ Evk 1 31 ls (mn_gf h a 1 3) st h r := ev_getf iX0_faultIn_28 (by decide +kernel)
theorem iX0_faultIn_31 : mn_ins 1 31 = some (0, false, .ifCond .ne 5, 3) := by decide +kernel
theorem eX0_faultIn_31 : Ev 1 31 (ls) (.int x :: st) h r ↔ if x = nI 0 then Ev 1 34 (ls) (st) h r else Ev 1 36 (ls) (st) h r := ev_ifne iX0_faultIn_31 (by decide)
theorem iX0_faultIn_34 : mn_ins 1 34 = some (0, false, .iconst 0, 1) := by decide +kernel
theorem eX0_faultIn_34 : Ev 1 34 (ls) (st) h r ↔ Ev 1 35 (ls) (.int (nI 0) :: st) h r := ev_iconst iX0_faultIn_34 (by decide)
theorem iX0_faultIn_35 : mn_ins 1 35 = some (0, false, .ireturn, 1) := by decide +kernel
theorem eX0_faultIn_35 : Ev 1 35 (ls) [.int x] h r ↔ r = (h, .inl (some (.int x))) := ev_iret iX0_faultIn_35 (X := mnI_X0_faultIn) rfl rfl
theorem iX0_faultIn_36 : mn_ins 1 36 = some (0, false, .aload_n 1, 1) := by decide +kernel
theorem eX0_faultIn_36 : Ev 1 36 (a0 :: some (.ref a) :: ls) (st) h r ↔ Ev 1 37 (a0 :: some (.ref a) :: ls) (.ref a :: st) h r := ev_aload_n iX0_faultIn_36 rfl rfl
theorem eX0_faultIn_36n : Ev 1 36 (a0 :: some (.null) :: ls) (st) h r ↔ Ev 1 37 (a0 :: some (.null) :: ls) (.null :: st) h r := ev_aload_n iX0_faultIn_36 rfl rfl
theorem eX0_faultIn_36t : Ev 1 36 (a0 :: some (tkv o1) :: ls) (st) h r ↔ Ev 1 37 (a0 :: some (tkv o1) :: ls) (tkv o1 :: st) h r := ev_aload_n iX0_faultIn_36 rfl tkv_r
theorem eX0_faultIn_36s : Ev 1 36 (a0 :: some (sgv o1) :: ls) (st) h r ↔ Ev 1 37 (a0 :: some (sgv o1) :: ls) (sgv o1 :: st) h r := ev_aload_n iX0_faultIn_36 rfl sgv_r
theorem eX0_faultIn_36c : Ev 1 36 (a0 :: some (cdv o1) :: ls) (st) h r ↔ Ev 1 37 (a0 :: some (cdv o1) :: ls) (cdv o1 :: st) h r := ev_aload_n iX0_faultIn_36 rfl cdv_r
theorem iX0_faultIn_37 : mn_ins 1 37 = some (0, false, .aload_n 1, 1) := by decide +kernel
theorem eX0_faultIn_37 : Ev 1 37 (a0 :: some (.ref a) :: ls) (st) h r ↔ Ev 1 38 (a0 :: some (.ref a) :: ls) (.ref a :: st) h r := ev_aload_n iX0_faultIn_37 rfl rfl
theorem eX0_faultIn_37n : Ev 1 37 (a0 :: some (.null) :: ls) (st) h r ↔ Ev 1 38 (a0 :: some (.null) :: ls) (.null :: st) h r := ev_aload_n iX0_faultIn_37 rfl rfl
theorem eX0_faultIn_37t : Ev 1 37 (a0 :: some (tkv o1) :: ls) (st) h r ↔ Ev 1 38 (a0 :: some (tkv o1) :: ls) (tkv o1 :: st) h r := ev_aload_n iX0_faultIn_37 rfl tkv_r
theorem eX0_faultIn_37s : Ev 1 37 (a0 :: some (sgv o1) :: ls) (st) h r ↔ Ev 1 38 (a0 :: some (sgv o1) :: ls) (sgv o1 :: st) h r := ev_aload_n iX0_faultIn_37 rfl sgv_r
theorem eX0_faultIn_37c : Ev 1 37 (a0 :: some (cdv o1) :: ls) (st) h r ↔ Ev 1 38 (a0 :: some (cdv o1) :: ls) (cdv o1 :: st) h r := ev_aload_n iX0_faultIn_37 rfl cdv_r
theorem iX0_faultIn_38 : mn_ins 1 38 = some (0, false, .getfield 18, 3) := by decide +kernel
theorem eX0_faultIn_38 : Ev 1 38 (ls) (.ref a :: st) h r ↔ Evk 1 41 ls (mn_gf h a 1 3) st h r := ev_getf iX0_faultIn_38 (by decide +kernel)
theorem iX0_faultIn_41 : mn_ins 1 41 = some (0, false, .iconst 1, 1) := by decide +kernel
theorem eX0_faultIn_41 : Ev 1 41 (ls) (st) h r ↔ Ev 1 42 (ls) (.int (nI 1) :: st) h r := ev_iconst iX0_faultIn_41 (by decide)
theorem iX0_faultIn_42 : mn_ins 1 42 = some (0, false, .isub, 1) := by decide +kernel
theorem eX0_faultIn_42 : Ev 1 42 (ls) (.int y :: .int x :: st) h r ↔ Ev 1 43 (ls) (.int (x - y) :: st) h r := ev_isub iX0_faultIn_42
theorem iX0_faultIn_43 : mn_ins 1 43 = some (0, false, .invokevirtual 28, 3) := by decide +kernel
theorem eX0_faultIn_43 : Ev 1 43 (ls) (.int x0 :: .ref b :: st) h r ↔ Evr true (decide (mn_cats st ≤ 8) && mn_isc h b 1) 1 43 ls st h.2.2.1 h.2.2.2 (Cl 9 (.ref b :: [.int x0]) h.1 h.2.1) r := Ev_V (As := [.int x0]) iX0_faultIn_43 (by decide +kernel) (x := mnI_X0_faultIn) (x2 := mnI_X1_operationAt) rfl rfl rfl (by decide +kernel) (Nat.le_of_ble_eq_true rfl) rfl
theorem iX0_faultIn_46 : mn_ins 1 46 = some (0, false, .istore_n 3, 1) := by decide +kernel
theorem eX0_faultIn_46 : Ev 1 46 (a0 :: a1 :: a2 :: a3 :: ls) (.int x :: st) h r ↔ Ev 1 47 (a0 :: a1 :: mn_k a2 :: some (.int x) :: ls) (st) h r := ev_istore_n iX0_faultIn_46 (by show 3 < _; simp only [List.length_cons]; omega)
theorem iX0_faultIn_47 : mn_ins 1 47 = some (0, false, .iload_n 3, 1) := by decide +kernel
theorem eX0_faultIn_47 : Ev 1 47 (a0 :: a1 :: a2 :: some (.int x) :: ls) (st) h r ↔ Ev 1 48 (a0 :: a1 :: a2 :: some (.int x) :: ls) (.int x :: st) h r := ev_iload_n iX0_faultIn_47 rfl
theorem iX0_faultIn_48 : mn_ins 1 48 = some (0, false, .bipush 16, 2) := by decide +kernel
theorem eX0_faultIn_48 : Ev 1 48 (ls) (st) h r ↔ Ev 1 50 (ls) (.int (nI 16) :: st) h r := ev_bipush iX0_faultIn_48 (by decide)
theorem iX0_faultIn_50 : mn_ins 1 50 = some (0, false, .if_icmp .eq 23, 3) := by decide +kernel
theorem eX0_faultIn_50 : Ev 1 50 (ls) (.int y :: .int x :: st) h r ↔ if x = y then Ev 1 73 (ls) (st) h r else Ev 1 53 (ls) (st) h r := ev_cmpeq iX0_faultIn_50 (by decide)
theorem iX0_faultIn_53 : mn_ins 1 53 = some (0, false, .iload_n 3, 1) := by decide +kernel
theorem eX0_faultIn_53 : Ev 1 53 (a0 :: a1 :: a2 :: some (.int x) :: ls) (st) h r ↔ Ev 1 54 (a0 :: a1 :: a2 :: some (.int x) :: ls) (.int x :: st) h r := ev_iload_n iX0_faultIn_53 rfl
theorem iX0_faultIn_54 : mn_ins 1 54 = some (0, false, .bipush 11, 2) := by decide +kernel
theorem eX0_faultIn_54 : Ev 1 54 (ls) (st) h r ↔ Ev 1 56 (ls) (.int (nI 11) :: st) h r := ev_bipush iX0_faultIn_54 (by decide)
theorem iX0_faultIn_56 : mn_ins 1 56 = some (0, false, .if_icmp .ne 10, 3) := by decide +kernel
theorem eX0_faultIn_56 : Ev 1 56 (ls) (.int y :: .int x :: st) h r ↔ if x = y then Ev 1 59 (ls) (st) h r else Ev 1 66 (ls) (st) h r := ev_cmpne iX0_faultIn_56 (by decide)
theorem iX0_faultIn_59 : mn_ins 1 59 = some (0, false, .aload_n 1, 1) := by decide +kernel
theorem eX0_faultIn_59 : Ev 1 59 (a0 :: some (.ref a) :: ls) (st) h r ↔ Ev 1 60 (a0 :: some (.ref a) :: ls) (.ref a :: st) h r := ev_aload_n iX0_faultIn_59 rfl rfl
theorem eX0_faultIn_59n : Ev 1 59 (a0 :: some (.null) :: ls) (st) h r ↔ Ev 1 60 (a0 :: some (.null) :: ls) (.null :: st) h r := ev_aload_n iX0_faultIn_59 rfl rfl
theorem eX0_faultIn_59t : Ev 1 59 (a0 :: some (tkv o1) :: ls) (st) h r ↔ Ev 1 60 (a0 :: some (tkv o1) :: ls) (tkv o1 :: st) h r := ev_aload_n iX0_faultIn_59 rfl tkv_r
theorem eX0_faultIn_59s : Ev 1 59 (a0 :: some (sgv o1) :: ls) (st) h r ↔ Ev 1 60 (a0 :: some (sgv o1) :: ls) (sgv o1 :: st) h r := ev_aload_n iX0_faultIn_59 rfl sgv_r
theorem eX0_faultIn_59c : Ev 1 59 (a0 :: some (cdv o1) :: ls) (st) h r ↔ Ev 1 60 (a0 :: some (cdv o1) :: ls) (cdv o1 :: st) h r := ev_aload_n iX0_faultIn_59 rfl cdv_r
theorem iX0_faultIn_60 : mn_ins 1 60 = some (0, false, .getfield 32, 3) := by decide +kernel
theorem eX0_faultIn_60 : Ev 1 60 (ls) (.ref a :: st) h r ↔ Evk 1 63 ls (mn_gf h a 1 0) st h r := ev_getf iX0_faultIn_60 (by decide +kernel)
theorem iX0_faultIn_63 : mn_ins 1 63 = some (0, false, .ifCond .eq 10, 3) := by decide +kernel
theorem eX0_faultIn_63 : Ev 1 63 (ls) (.int x :: st) h r ↔ if x = nI 0 then Ev 1 73 (ls) (st) h r else Ev 1 66 (ls) (st) h r := ev_ifeq iX0_faultIn_63 (by decide)
theorem iX0_faultIn_66 : mn_ins 1 66 = some (0, false, .aload_n 1, 1) := by decide +kernel
theorem eX0_faultIn_66 : Ev 1 66 (a0 :: some (.ref a) :: ls) (st) h r ↔ Ev 1 67 (a0 :: some (.ref a) :: ls) (.ref a :: st) h r := ev_aload_n iX0_faultIn_66 rfl rfl
theorem eX0_faultIn_66n : Ev 1 66 (a0 :: some (.null) :: ls) (st) h r ↔ Ev 1 67 (a0 :: some (.null) :: ls) (.null :: st) h r := ev_aload_n iX0_faultIn_66 rfl rfl
theorem eX0_faultIn_66t : Ev 1 66 (a0 :: some (tkv o1) :: ls) (st) h r ↔ Ev 1 67 (a0 :: some (tkv o1) :: ls) (tkv o1 :: st) h r := ev_aload_n iX0_faultIn_66 rfl tkv_r
theorem eX0_faultIn_66s : Ev 1 66 (a0 :: some (sgv o1) :: ls) (st) h r ↔ Ev 1 67 (a0 :: some (sgv o1) :: ls) (sgv o1 :: st) h r := ev_aload_n iX0_faultIn_66 rfl sgv_r
theorem eX0_faultIn_66c : Ev 1 66 (a0 :: some (cdv o1) :: ls) (st) h r ↔ Ev 1 67 (a0 :: some (cdv o1) :: ls) (cdv o1 :: st) h r := ev_aload_n iX0_faultIn_66 rfl cdv_r
theorem iX0_faultIn_67 : mn_ins 1 67 = some (0, false, .getfield 18, 3) := by decide +kernel
theorem eX0_faultIn_67 : Ev 1 67 (ls) (.ref a :: st) h r ↔ Evk 1 70 ls (mn_gf h a 1 3) st h r := ev_getf iX0_faultIn_67 (by decide +kernel)
theorem iX0_faultIn_70 : mn_ins 1 70 = some (0, false, .iconst 1, 1) := by decide +kernel
theorem eX0_faultIn_70 : Ev 1 70 (ls) (st) h r ↔ Ev 1 71 (ls) (.int (nI 1) :: st) h r := ev_iconst iX0_faultIn_70 (by decide)
theorem iX0_faultIn_71 : mn_ins 1 71 = some (0, false, .isub, 1) := by decide +kernel
theorem eX0_faultIn_71 : Ev 1 71 (ls) (.int y :: .int x :: st) h r ↔ Ev 1 72 (ls) (.int (x - y) :: st) h r := ev_isub iX0_faultIn_71
theorem iX0_faultIn_72 : mn_ins 1 72 = some (0, false, .ireturn, 1) := by decide +kernel
theorem eX0_faultIn_72 : Ev 1 72 (ls) [.int x] h r ↔ r = (h, .inl (some (.int x))) := ev_iret iX0_faultIn_72 (X := mnI_X0_faultIn) rfl rfl
theorem iX0_faultIn_73 : mn_ins 1 73 = some (0, false, .aload_n 0, 1) := by decide +kernel
theorem eX0_faultIn_73 : Ev 1 73 (some (.ref a) :: ls) (st) h r ↔ Ev 1 74 (some (.ref a) :: ls) (.ref a :: st) h r := ev_aload_n iX0_faultIn_73 rfl rfl
theorem iX0_faultIn_74 : mn_ins 1 74 = some (0, false, .aload_n 1, 1) := by decide +kernel
theorem eX0_faultIn_74 : Ev 1 74 (a0 :: some (.ref a) :: ls) (st) h r ↔ Ev 1 75 (a0 :: some (.ref a) :: ls) (.ref a :: st) h r := ev_aload_n iX0_faultIn_74 rfl rfl
theorem eX0_faultIn_74n : Ev 1 74 (a0 :: some (.null) :: ls) (st) h r ↔ Ev 1 75 (a0 :: some (.null) :: ls) (.null :: st) h r := ev_aload_n iX0_faultIn_74 rfl rfl
theorem eX0_faultIn_74t : Ev 1 74 (a0 :: some (tkv o1) :: ls) (st) h r ↔ Ev 1 75 (a0 :: some (tkv o1) :: ls) (tkv o1 :: st) h r := ev_aload_n iX0_faultIn_74 rfl tkv_r
theorem eX0_faultIn_74s : Ev 1 74 (a0 :: some (sgv o1) :: ls) (st) h r ↔ Ev 1 75 (a0 :: some (sgv o1) :: ls) (sgv o1 :: st) h r := ev_aload_n iX0_faultIn_74 rfl sgv_r
theorem eX0_faultIn_74c : Ev 1 74 (a0 :: some (cdv o1) :: ls) (st) h r ↔ Ev 1 75 (a0 :: some (cdv o1) :: ls) (cdv o1 :: st) h r := ev_aload_n iX0_faultIn_74 rfl cdv_r
theorem iX0_faultIn_75 : mn_ins 1 75 = some (0, false, .invokevirtual 36, 3) := by decide +kernel
theorem EgX0_faultIn_75 (hw3 : (mn_r w3).isSome = true) : Ev 1 75 (ls) (w3 :: .ref b :: st) h r ↔ Evr true (decide (mn_cats st ≤ 8) && mn_isc h b 0) 1 75 ls st h.2.2.1 h.2.2.2 (Cl 3 (.ref b :: [w3]) h.1 h.2.1) r := Ev_V (As := [w3]) iX0_faultIn_75 (by decide +kernel) (x := mnI_X0_faultIn) (x2 := mnI_X0_goAllWays) rfl rfl rfl (by decide +kernel) (by rcases mn_r_is hw3 with ⟨_, rfl⟩ | rfl <;> exact Nat.le_of_ble_eq_true rfl) rfl
theorem eX0_faultIn_75 {cw3 : Nat} : Ev 1 75 (ls) ((.ref cw3) :: .ref b :: st) h r ↔ Evr true (decide (mn_cats st ≤ 8) && mn_isc h b 0) 1 75 ls st h.2.2.1 h.2.2.2 (Cl 3 (.ref b :: [(.ref cw3)]) h.1 h.2.1) r := EgX0_faultIn_75 rfl
theorem iX0_faultIn_78 : mn_ins 1 78 = some (0, false, .aload_n 0, 1) := by decide +kernel
theorem eX0_faultIn_78 : Ev 1 78 (some (.ref a) :: ls) (st) h r ↔ Ev 1 79 (some (.ref a) :: ls) (.ref a :: st) h r := ev_aload_n iX0_faultIn_78 rfl rfl
theorem iX0_faultIn_79 : mn_ins 1 79 = some (0, false, .getfield 40, 3) := by decide +kernel
theorem eX0_faultIn_79 : Ev 1 79 (ls) (.ref a :: st) h r ↔ Evk 1 82 ls (mn_gf h a 0 3) st h r := ev_getf iX0_faultIn_79 (by decide +kernel)
theorem iX0_faultIn_82 : mn_ins 1 82 = some (0, false, .aload_n 1, 1) := by decide +kernel
theorem eX0_faultIn_82 : Ev 1 82 (a0 :: some (.ref a) :: ls) (st) h r ↔ Ev 1 83 (a0 :: some (.ref a) :: ls) (.ref a :: st) h r := ev_aload_n iX0_faultIn_82 rfl rfl
theorem eX0_faultIn_82n : Ev 1 82 (a0 :: some (.null) :: ls) (st) h r ↔ Ev 1 83 (a0 :: some (.null) :: ls) (.null :: st) h r := ev_aload_n iX0_faultIn_82 rfl rfl
theorem eX0_faultIn_82t : Ev 1 82 (a0 :: some (tkv o1) :: ls) (st) h r ↔ Ev 1 83 (a0 :: some (tkv o1) :: ls) (tkv o1 :: st) h r := ev_aload_n iX0_faultIn_82 rfl tkv_r
theorem eX0_faultIn_82s : Ev 1 82 (a0 :: some (sgv o1) :: ls) (st) h r ↔ Ev 1 83 (a0 :: some (sgv o1) :: ls) (sgv o1 :: st) h r := ev_aload_n iX0_faultIn_82 rfl sgv_r
theorem eX0_faultIn_82c : Ev 1 82 (a0 :: some (cdv o1) :: ls) (st) h r ↔ Ev 1 83 (a0 :: some (cdv o1) :: ls) (cdv o1 :: st) h r := ev_aload_n iX0_faultIn_82 rfl cdv_r
theorem iX0_faultIn_83 : mn_ins 1 83 = some (0, false, .getfield 18, 3) := by decide +kernel
theorem eX0_faultIn_83 : Ev 1 83 (ls) (.ref a :: st) h r ↔ Evk 1 86 ls (mn_gf h a 1 3) st h r := ev_getf iX0_faultIn_83 (by decide +kernel)
theorem iX0_faultIn_86 : mn_ins 1 86 = some (0, false, .if_icmp .ge 10, 3) := by decide +kernel
theorem eX0_faultIn_86 : Ev 1 86 (ls) (.int y :: .int x :: st) h r ↔ if y ≤ x then Ev 1 96 (ls) (st) h r else Ev 1 89 (ls) (st) h r := ev_cmpge iX0_faultIn_86 (by decide)
theorem iX0_faultIn_89 : mn_ins 1 89 = some (0, false, .aload_n 0, 1) := by decide +kernel
theorem eX0_faultIn_89 : Ev 1 89 (some (.ref a) :: ls) (st) h r ↔ Ev 1 90 (some (.ref a) :: ls) (.ref a :: st) h r := ev_aload_n iX0_faultIn_89 rfl rfl
theorem iX0_faultIn_90 : mn_ins 1 90 = some (0, false, .getfield 40, 3) := by decide +kernel
theorem eX0_faultIn_90 : Ev 1 90 (ls) (.ref a :: st) h r ↔ Evk 1 93 ls (mn_gf h a 0 3) st h r := ev_getf iX0_faultIn_90 (by decide +kernel)
theorem iX0_faultIn_93 : mn_ins 1 93 = some (0, false, .goto 4, 3) := by decide +kernel
theorem eX0_faultIn_93 : Ev 1 93 (ls) (st) h r ↔ Ev 1 97 (ls) (st) h r := ev_goto iX0_faultIn_93 (by decide)
theorem iX0_faultIn_96 : mn_ins 1 96 = some (0, false, .iconst (-1), 1) := by decide +kernel
theorem eX0_faultIn_96 : Ev 1 96 (ls) (st) h r ↔ Ev 1 97 (ls) (.int (-1) :: st) h r := ev_iconst iX0_faultIn_96 (by decide)
theorem iX0_faultIn_97 : mn_ins 1 97 = some (0, false, .ireturn, 1) := by decide +kernel
theorem eX0_faultIn_97 : Ev 1 97 (ls) [.int x] h r ↔ r = (h, .inl (some (.int x))) := ev_iret iX0_faultIn_97 (X := mnI_X0_faultIn) rfl rfl
theorem iX0_isAsSaid_0 : mn_ins 2 0 = some (0, false, .aload_n 0, 1) := by decide +kernel
theorem eX0_isAsSaid_0 : Ev 2 0 (some (.ref a) :: ls) (st) h r ↔ Ev 2 1 (some (.ref a) :: ls) (.ref a :: st) h r := ev_aload_n iX0_isAsSaid_0 rfl rfl
theorem eX0_isAsSaid_0n : Ev 2 0 (some (.null) :: ls) (st) h r ↔ Ev 2 1 (some (.null) :: ls) (.null :: st) h r := ev_aload_n iX0_isAsSaid_0 rfl rfl
theorem eX0_isAsSaid_0t : Ev 2 0 (some (tkv o1) :: ls) (st) h r ↔ Ev 2 1 (some (tkv o1) :: ls) (tkv o1 :: st) h r := ev_aload_n iX0_isAsSaid_0 rfl tkv_r
theorem eX0_isAsSaid_0s : Ev 2 0 (some (sgv o1) :: ls) (st) h r ↔ Ev 2 1 (some (sgv o1) :: ls) (sgv o1 :: st) h r := ev_aload_n iX0_isAsSaid_0 rfl sgv_r
theorem eX0_isAsSaid_0c : Ev 2 0 (some (cdv o1) :: ls) (st) h r ↔ Ev 2 1 (some (cdv o1) :: ls) (cdv o1 :: st) h r := ev_aload_n iX0_isAsSaid_0 rfl cdv_r
theorem iX0_isAsSaid_1 : mn_ins 2 1 = some (0, false, .iload_n 1, 1) := by decide +kernel
theorem eX0_isAsSaid_1 : Ev 2 1 (a0 :: some (.int x) :: ls) (st) h r ↔ Ev 2 2 (a0 :: some (.int x) :: ls) (.int x :: st) h r := ev_iload_n iX0_isAsSaid_1 rfl
theorem iX0_isAsSaid_2 : mn_ins 2 2 = some (0, false, .invokevirtual 43, 3) := by decide +kernel
theorem eX0_isAsSaid_2 : Ev 2 2 (ls) (.int x0 :: .ref b :: st) h r ↔ Evr true (decide (mn_cats st ≤ 8) && mn_isc h b 1) 2 2 ls st h.2.2.1 h.2.2.2 (Cl 10 (.ref b :: [.int x0]) h.1 h.2.1) r := Ev_V (As := [.int x0]) iX0_isAsSaid_2 (by decide +kernel) (x := mnI_X0_isAsSaid) (x2 := mnI_X1_argumentAt) rfl rfl rfl (by decide +kernel) (Nat.le_of_ble_eq_true rfl) rfl
theorem iX0_isAsSaid_5 : mn_ins 2 5 = some (0, false, .istore_n 3, 1) := by decide +kernel
theorem eX0_isAsSaid_5 : Ev 2 5 (a0 :: a1 :: a2 :: a3 :: ls) (.int x :: st) h r ↔ Ev 2 6 (a0 :: a1 :: mn_k a2 :: some (.int x) :: ls) (st) h r := ev_istore_n iX0_isAsSaid_5 (by show 3 < _; simp only [List.length_cons]; omega)
theorem iX0_isAsSaid_6 : mn_ins 2 6 = some (0, false, .aload_n 0, 1) := by decide +kernel
theorem eX0_isAsSaid_6 : Ev 2 6 (some (.ref a) :: ls) (st) h r ↔ Ev 2 7 (some (.ref a) :: ls) (.ref a :: st) h r := ev_aload_n iX0_isAsSaid_6 rfl rfl
theorem eX0_isAsSaid_6n : Ev 2 6 (some (.null) :: ls) (st) h r ↔ Ev 2 7 (some (.null) :: ls) (.null :: st) h r := ev_aload_n iX0_isAsSaid_6 rfl rfl
theorem eX0_isAsSaid_6t : Ev 2 6 (some (tkv o1) :: ls) (st) h r ↔ Ev 2 7 (some (tkv o1) :: ls) (tkv o1 :: st) h r := ev_aload_n iX0_isAsSaid_6 rfl tkv_r
theorem eX0_isAsSaid_6s : Ev 2 6 (some (sgv o1) :: ls) (st) h r ↔ Ev 2 7 (some (sgv o1) :: ls) (sgv o1 :: st) h r := ev_aload_n iX0_isAsSaid_6 rfl sgv_r
theorem eX0_isAsSaid_6c : Ev 2 6 (some (cdv o1) :: ls) (st) h r ↔ Ev 2 7 (some (cdv o1) :: ls) (cdv o1 :: st) h r := ev_aload_n iX0_isAsSaid_6 rfl cdv_r
theorem iX0_isAsSaid_7 : mn_ins 2 7 = some (0, false, .iload_n 1, 1) := by decide +kernel
theorem eX0_isAsSaid_7 : Ev 2 7 (a0 :: some (.int x) :: ls) (st) h r ↔ Ev 2 8 (a0 :: some (.int x) :: ls) (.int x :: st) h r := ev_iload_n iX0_isAsSaid_7 rfl
theorem iX0_isAsSaid_8 : mn_ins 2 8 = some (0, false, .invokevirtual 28, 3) := by decide +kernel
theorem eX0_isAsSaid_8 : Ev 2 8 (ls) (.int x0 :: .ref b :: st) h r ↔ Evr true (decide (mn_cats st ≤ 8) && mn_isc h b 1) 2 8 ls st h.2.2.1 h.2.2.2 (Cl 9 (.ref b :: [.int x0]) h.1 h.2.1) r := Ev_V (As := [.int x0]) iX0_isAsSaid_8 (by decide +kernel) (x := mnI_X0_isAsSaid) (x2 := mnI_X1_operationAt) rfl rfl rfl (by decide +kernel) (Nat.le_of_ble_eq_true rfl) rfl
theorem iX0_isAsSaid_11 : mn_ins 2 11 = some (0, false, .tableswitch 220 1 15 #[73, 90, 111, 111, 220, 220, 220, 220, 220, 220, 133, 157, 186, 207, 207], 73) := by decide +kernel
theorem eX0_isAsSaid_11_c1 : Ev 2 11 (ls) (.int (nI 1) :: st) h r ↔ Ev 2 84 (ls) (st) h r := ev_tsIn iX0_isAsSaid_11 (by decide) (off := 73) (by decide) (by decide)
theorem eX0_isAsSaid_11_c2 : Ev 2 11 (ls) (.int (nI 2) :: st) h r ↔ Ev 2 101 (ls) (st) h r := ev_tsIn iX0_isAsSaid_11 (by decide) (off := 90) (by decide) (by decide)
theorem eX0_isAsSaid_11_c3 : Ev 2 11 (ls) (.int (nI 3) :: st) h r ↔ Ev 2 122 (ls) (st) h r := ev_tsIn iX0_isAsSaid_11 (by decide) (off := 111) (by decide) (by decide)
theorem eX0_isAsSaid_11_c4 : Ev 2 11 (ls) (.int (nI 4) :: st) h r ↔ Ev 2 122 (ls) (st) h r := ev_tsIn iX0_isAsSaid_11 (by decide) (off := 111) (by decide) (by decide)
theorem eX0_isAsSaid_11_c5 : Ev 2 11 (ls) (.int (nI 5) :: st) h r ↔ Ev 2 231 (ls) (st) h r := ev_tsIn iX0_isAsSaid_11 (by decide) (off := 220) (by decide) (by decide)
theorem eX0_isAsSaid_11_c6 : Ev 2 11 (ls) (.int (nI 6) :: st) h r ↔ Ev 2 231 (ls) (st) h r := ev_tsIn iX0_isAsSaid_11 (by decide) (off := 220) (by decide) (by decide)
theorem eX0_isAsSaid_11_c7 : Ev 2 11 (ls) (.int (nI 7) :: st) h r ↔ Ev 2 231 (ls) (st) h r := ev_tsIn iX0_isAsSaid_11 (by decide) (off := 220) (by decide) (by decide)
theorem eX0_isAsSaid_11_c8 : Ev 2 11 (ls) (.int (nI 8) :: st) h r ↔ Ev 2 231 (ls) (st) h r := ev_tsIn iX0_isAsSaid_11 (by decide) (off := 220) (by decide) (by decide)
theorem eX0_isAsSaid_11_c9 : Ev 2 11 (ls) (.int (nI 9) :: st) h r ↔ Ev 2 231 (ls) (st) h r := ev_tsIn iX0_isAsSaid_11 (by decide) (off := 220) (by decide) (by decide)
theorem eX0_isAsSaid_11_c10 : Ev 2 11 (ls) (.int (nI 10) :: st) h r ↔ Ev 2 231 (ls) (st) h r := ev_tsIn iX0_isAsSaid_11 (by decide) (off := 220) (by decide) (by decide)
theorem eX0_isAsSaid_11_c11 : Ev 2 11 (ls) (.int (nI 11) :: st) h r ↔ Ev 2 144 (ls) (st) h r := ev_tsIn iX0_isAsSaid_11 (by decide) (off := 133) (by decide) (by decide)
theorem eX0_isAsSaid_11_c12 : Ev 2 11 (ls) (.int (nI 12) :: st) h r ↔ Ev 2 168 (ls) (st) h r := ev_tsIn iX0_isAsSaid_11 (by decide) (off := 157) (by decide) (by decide)
theorem eX0_isAsSaid_11_c13 : Ev 2 11 (ls) (.int (nI 13) :: st) h r ↔ Ev 2 197 (ls) (st) h r := ev_tsIn iX0_isAsSaid_11 (by decide) (off := 186) (by decide) (by decide)
theorem eX0_isAsSaid_11_c14 : Ev 2 11 (ls) (.int (nI 14) :: st) h r ↔ Ev 2 218 (ls) (st) h r := ev_tsIn iX0_isAsSaid_11 (by decide) (off := 207) (by decide) (by decide)
theorem eX0_isAsSaid_11_c15 : Ev 2 11 (ls) (.int (nI 15) :: st) h r ↔ Ev 2 218 (ls) (st) h r := ev_tsIn iX0_isAsSaid_11 (by decide) (off := 207) (by decide) (by decide)
theorem eX0_isAsSaid_11_c0 : Ev 2 11 (ls) (.int (nI 0) :: st) h r ↔ Ev 2 231 (ls) (st) h r := ev_tsOut iX0_isAsSaid_11 (by decide) (by decide)
theorem eX0_isAsSaid_11_c16 : Ev 2 11 (ls) (.int (nI 16) :: st) h r ↔ Ev 2 231 (ls) (st) h r := ev_tsOut iX0_isAsSaid_11 (by decide) (by decide)
theorem eX0_isAsSaid_11_c17 : Ev 2 11 (ls) (.int (nI 17) :: st) h r ↔ Ev 2 231 (ls) (st) h r := ev_tsOut iX0_isAsSaid_11 (by decide) (by decide)
theorem eX0_isAsSaid_11_c18 : Ev 2 11 (ls) (.int (nI 18) :: st) h r ↔ Ev 2 231 (ls) (st) h r := ev_tsOut iX0_isAsSaid_11 (by decide) (by decide)
theorem eX0_isAsSaid_11_c19 : Ev 2 11 (ls) (.int (nI 19) :: st) h r ↔ Ev 2 231 (ls) (st) h r := ev_tsOut iX0_isAsSaid_11 (by decide) (by decide)
theorem eX0_isAsSaid_11_d (hx : x.toInt < 1 ∨ 15 < x.toInt) : Ev 2 11 (ls) (.int x :: st) h r ↔ Ev 2 231 (ls) (st) h r := ev_tsOut iX0_isAsSaid_11 hx (by decide)
theorem iX0_isAsSaid_84 : mn_ins 2 84 = some (0, false, .iload_n 3, 1) := by decide +kernel
theorem eX0_isAsSaid_84 : Ev 2 84 (a0 :: a1 :: a2 :: some (.int x) :: ls) (st) h r ↔ Ev 2 85 (a0 :: a1 :: a2 :: some (.int x) :: ls) (.int x :: st) h r := ev_iload_n iX0_isAsSaid_84 rfl
theorem iX0_isAsSaid_85 : mn_ins 2 85 = some (0, false, .aload_n 0, 1) := by decide +kernel
theorem eX0_isAsSaid_85 : Ev 2 85 (some (.ref a) :: ls) (st) h r ↔ Ev 2 86 (some (.ref a) :: ls) (.ref a :: st) h r := ev_aload_n iX0_isAsSaid_85 rfl rfl
theorem eX0_isAsSaid_85n : Ev 2 85 (some (.null) :: ls) (st) h r ↔ Ev 2 86 (some (.null) :: ls) (.null :: st) h r := ev_aload_n iX0_isAsSaid_85 rfl rfl
theorem eX0_isAsSaid_85t : Ev 2 85 (some (tkv o1) :: ls) (st) h r ↔ Ev 2 86 (some (tkv o1) :: ls) (tkv o1 :: st) h r := ev_aload_n iX0_isAsSaid_85 rfl tkv_r
theorem eX0_isAsSaid_85s : Ev 2 85 (some (sgv o1) :: ls) (st) h r ↔ Ev 2 86 (some (sgv o1) :: ls) (sgv o1 :: st) h r := ev_aload_n iX0_isAsSaid_85 rfl sgv_r
theorem eX0_isAsSaid_85c : Ev 2 85 (some (cdv o1) :: ls) (st) h r ↔ Ev 2 86 (some (cdv o1) :: ls) (cdv o1 :: st) h r := ev_aload_n iX0_isAsSaid_85 rfl cdv_r
theorem iX0_isAsSaid_86 : mn_ins 2 86 = some (0, false, .getfield 32, 3) := by decide +kernel
theorem eX0_isAsSaid_86 : Ev 2 86 (ls) (.ref a :: st) h r ↔ Evk 2 89 ls (mn_gf h a 1 0) st h r := ev_getf iX0_isAsSaid_86 (by decide +kernel)
theorem iX0_isAsSaid_89 : mn_ins 2 89 = some (0, false, .ifCond .eq 7, 3) := by decide +kernel
theorem eX0_isAsSaid_89 : Ev 2 89 (ls) (.int x :: st) h r ↔ if x = nI 0 then Ev 2 96 (ls) (st) h r else Ev 2 92 (ls) (st) h r := ev_ifeq iX0_isAsSaid_89 (by decide)
theorem iX0_isAsSaid_92 : mn_ins 2 92 = some (0, false, .iconst 3, 1) := by decide +kernel
theorem eX0_isAsSaid_92 : Ev 2 92 (ls) (st) h r ↔ Ev 2 93 (ls) (.int (nI 3) :: st) h r := ev_iconst iX0_isAsSaid_92 (by decide)
theorem iX0_isAsSaid_93 : mn_ins 2 93 = some (0, false, .goto 4, 3) := by decide +kernel
theorem eX0_isAsSaid_93 : Ev 2 93 (ls) (st) h r ↔ Ev 2 97 (ls) (st) h r := ev_goto iX0_isAsSaid_93 (by decide)
theorem iX0_isAsSaid_96 : mn_ins 2 96 = some (0, false, .iconst 4, 1) := by decide +kernel
theorem eX0_isAsSaid_96 : Ev 2 96 (ls) (st) h r ↔ Ev 2 97 (ls) (.int (nI 4) :: st) h r := ev_iconst iX0_isAsSaid_96 (by decide)
theorem iX0_isAsSaid_97 : mn_ins 2 97 = some (0, false, .invokestatic 46, 3) := by decide +kernel
theorem eX0_isAsSaid_97 : Ev 2 97 (ls) (.int x1 :: .int x0 :: st) h r ↔ Evr false (decide (mn_cats st ≤ 8)) 2 97 ls st h.2.2.1 h.2.2.2 (Cl 83 [.int x0, .int x1] h.1 h.2.1) r := Ev_T (As := [.int x0, .int x1]) (q := 3) iX0_isAsSaid_97 (by decide +kernel) (by decide) (x := mnI_X0_isAsSaid) (x2 := mnI_X7_isWithin) rfl rfl rfl (by decide +kernel) (Nat.le_of_ble_eq_true rfl) rfl
theorem iX0_isAsSaid_100 : mn_ins 2 100 = some (0, false, .ireturn, 1) := by decide +kernel
theorem eX0_isAsSaid_100 (hx : x = 0 ∨ x = 1) : Ev 2 100 (ls) [.int x] h r ↔ r = (h, .inl (some (.int x))) := ev_zret iX0_isAsSaid_100 (X := mnI_X0_isAsSaid) rfl rfl hx
theorem iX0_isAsSaid_101 : mn_ins 2 101 = some (0, false, .aload_n 0, 1) := by decide +kernel
theorem eX0_isAsSaid_101 : Ev 2 101 (some (.ref a) :: ls) (st) h r ↔ Ev 2 102 (some (.ref a) :: ls) (.ref a :: st) h r := ev_aload_n iX0_isAsSaid_101 rfl rfl
theorem eX0_isAsSaid_101n : Ev 2 101 (some (.null) :: ls) (st) h r ↔ Ev 2 102 (some (.null) :: ls) (.null :: st) h r := ev_aload_n iX0_isAsSaid_101 rfl rfl
theorem eX0_isAsSaid_101t : Ev 2 101 (some (tkv o1) :: ls) (st) h r ↔ Ev 2 102 (some (tkv o1) :: ls) (tkv o1 :: st) h r := ev_aload_n iX0_isAsSaid_101 rfl tkv_r
theorem eX0_isAsSaid_101s : Ev 2 101 (some (sgv o1) :: ls) (st) h r ↔ Ev 2 102 (some (sgv o1) :: ls) (sgv o1 :: st) h r := ev_aload_n iX0_isAsSaid_101 rfl sgv_r
theorem eX0_isAsSaid_101c : Ev 2 101 (some (cdv o1) :: ls) (st) h r ↔ Ev 2 102 (some (cdv o1) :: ls) (cdv o1 :: st) h r := ev_aload_n iX0_isAsSaid_101 rfl cdv_r
theorem iX0_isAsSaid_102 : mn_ins 2 102 = some (0, false, .getfield 32, 3) := by decide +kernel
theorem eX0_isAsSaid_102 : Ev 2 102 (ls) (.ref a :: st) h r ↔ Evk 2 105 ls (mn_gf h a 1 0) st h r := ev_getf iX0_isAsSaid_102 (by decide +kernel)
theorem iX0_isAsSaid_105 : mn_ins 2 105 = some (0, false, .ifCond .ne 15, 3) := by decide +kernel
theorem eX0_isAsSaid_105 : Ev 2 105 (ls) (.int x :: st) h r ↔ if x = nI 0 then Ev 2 108 (ls) (st) h r else Ev 2 120 (ls) (st) h r := ev_ifne iX0_isAsSaid_105 (by decide)
theorem iX0_isAsSaid_108 : mn_ins 2 108 = some (0, false, .iload_n 3, 1) := by decide +kernel
theorem eX0_isAsSaid_108 : Ev 2 108 (a0 :: a1 :: a2 :: some (.int x) :: ls) (st) h r ↔ Ev 2 109 (a0 :: a1 :: a2 :: some (.int x) :: ls) (.int x :: st) h r := ev_iload_n iX0_isAsSaid_108 rfl
theorem iX0_isAsSaid_109 : mn_ins 2 109 = some (0, false, .iconst 4, 1) := by decide +kernel
theorem eX0_isAsSaid_109 : Ev 2 109 (ls) (st) h r ↔ Ev 2 110 (ls) (.int (nI 4) :: st) h r := ev_iconst iX0_isAsSaid_109 (by decide)
theorem iX0_isAsSaid_110 : mn_ins 2 110 = some (0, false, .invokestatic 46, 3) := by decide +kernel
theorem eX0_isAsSaid_110 : Ev 2 110 (ls) (.int x1 :: .int x0 :: st) h r ↔ Evr false (decide (mn_cats st ≤ 8)) 2 110 ls st h.2.2.1 h.2.2.2 (Cl 83 [.int x0, .int x1] h.1 h.2.1) r := Ev_T (As := [.int x0, .int x1]) (q := 3) iX0_isAsSaid_110 (by decide +kernel) (by decide) (x := mnI_X0_isAsSaid) (x2 := mnI_X7_isWithin) rfl rfl rfl (by decide +kernel) (Nat.le_of_ble_eq_true rfl) rfl
theorem iX0_isAsSaid_113 : mn_ins 2 113 = some (0, false, .ifCond .eq 7, 3) := by decide +kernel
theorem eX0_isAsSaid_113 : Ev 2 113 (ls) (.int x :: st) h r ↔ if x = nI 0 then Ev 2 120 (ls) (st) h r else Ev 2 116 (ls) (st) h r := ev_ifeq iX0_isAsSaid_113 (by decide)
theorem iX0_isAsSaid_116 : mn_ins 2 116 = some (0, false, .iconst 1, 1) := by decide +kernel
theorem eX0_isAsSaid_116 : Ev 2 116 (ls) (st) h r ↔ Ev 2 117 (ls) (.int (nI 1) :: st) h r := ev_iconst iX0_isAsSaid_116 (by decide)
theorem iX0_isAsSaid_117 : mn_ins 2 117 = some (0, false, .goto 4, 3) := by decide +kernel
theorem eX0_isAsSaid_117 : Ev 2 117 (ls) (st) h r ↔ Ev 2 121 (ls) (st) h r := ev_goto iX0_isAsSaid_117 (by decide)
theorem iX0_isAsSaid_120 : mn_ins 2 120 = some (0, false, .iconst 0, 1) := by decide +kernel
theorem eX0_isAsSaid_120 : Ev 2 120 (ls) (st) h r ↔ Ev 2 121 (ls) (.int (nI 0) :: st) h r := ev_iconst iX0_isAsSaid_120 (by decide)
theorem iX0_isAsSaid_121 : mn_ins 2 121 = some (0, false, .ireturn, 1) := by decide +kernel
theorem eX0_isAsSaid_121 (hx : x = 0 ∨ x = 1) : Ev 2 121 (ls) [.int x] h r ↔ r = (h, .inl (some (.int x))) := ev_zret iX0_isAsSaid_121 (X := mnI_X0_isAsSaid) rfl rfl hx
theorem iX0_isAsSaid_122 : mn_ins 2 122 = some (0, false, .aload_n 0, 1) := by decide +kernel
theorem eX0_isAsSaid_122 : Ev 2 122 (some (.ref a) :: ls) (st) h r ↔ Ev 2 123 (some (.ref a) :: ls) (.ref a :: st) h r := ev_aload_n iX0_isAsSaid_122 rfl rfl
theorem eX0_isAsSaid_122n : Ev 2 122 (some (.null) :: ls) (st) h r ↔ Ev 2 123 (some (.null) :: ls) (.null :: st) h r := ev_aload_n iX0_isAsSaid_122 rfl rfl
theorem eX0_isAsSaid_122t : Ev 2 122 (some (tkv o1) :: ls) (st) h r ↔ Ev 2 123 (some (tkv o1) :: ls) (tkv o1 :: st) h r := ev_aload_n iX0_isAsSaid_122 rfl tkv_r
theorem eX0_isAsSaid_122s : Ev 2 122 (some (sgv o1) :: ls) (st) h r ↔ Ev 2 123 (some (sgv o1) :: ls) (sgv o1 :: st) h r := ev_aload_n iX0_isAsSaid_122 rfl sgv_r
theorem eX0_isAsSaid_122c : Ev 2 122 (some (cdv o1) :: ls) (st) h r ↔ Ev 2 123 (some (cdv o1) :: ls) (cdv o1 :: st) h r := ev_aload_n iX0_isAsSaid_122 rfl cdv_r
theorem iX0_isAsSaid_123 : mn_ins 2 123 = some (0, false, .getfield 32, 3) := by decide +kernel
theorem eX0_isAsSaid_123 : Ev 2 123 (ls) (.ref a :: st) h r ↔ Evk 2 126 ls (mn_gf h a 1 0) st h r := ev_getf iX0_isAsSaid_123 (by decide +kernel)
theorem iX0_isAsSaid_126 : mn_ins 2 126 = some (0, false, .ifCond .ne 16, 3) := by decide +kernel
theorem eX0_isAsSaid_126 : Ev 2 126 (ls) (.int x :: st) h r ↔ if x = nI 0 then Ev 2 129 (ls) (st) h r else Ev 2 142 (ls) (st) h r := ev_ifne iX0_isAsSaid_126 (by decide)
theorem iX0_isAsSaid_129 : mn_ins 2 129 = some (0, false, .iload_n 3, 1) := by decide +kernel
theorem eX0_isAsSaid_129 : Ev 2 129 (a0 :: a1 :: a2 :: some (.int x) :: ls) (st) h r ↔ Ev 2 130 (a0 :: a1 :: a2 :: some (.int x) :: ls) (.int x :: st) h r := ev_iload_n iX0_isAsSaid_129 rfl
theorem iX0_isAsSaid_130 : mn_ins 2 130 = some (0, false, .bipush 12, 2) := by decide +kernel
theorem eX0_isAsSaid_130 : Ev 2 130 (ls) (st) h r ↔ Ev 2 132 (ls) (.int (nI 12) :: st) h r := ev_bipush iX0_isAsSaid_130 (by decide)
theorem iX0_isAsSaid_132 : mn_ins 2 132 = some (0, false, .invokestatic 46, 3) := by decide +kernel
theorem eX0_isAsSaid_132 : Ev 2 132 (ls) (.int x1 :: .int x0 :: st) h r ↔ Evr false (decide (mn_cats st ≤ 8)) 2 132 ls st h.2.2.1 h.2.2.2 (Cl 83 [.int x0, .int x1] h.1 h.2.1) r := Ev_T (As := [.int x0, .int x1]) (q := 3) iX0_isAsSaid_132 (by decide +kernel) (by decide) (x := mnI_X0_isAsSaid) (x2 := mnI_X7_isWithin) rfl rfl rfl (by decide +kernel) (Nat.le_of_ble_eq_true rfl) rfl
theorem iX0_isAsSaid_135 : mn_ins 2 135 = some (0, false, .ifCond .eq 7, 3) := by decide +kernel
theorem eX0_isAsSaid_135 : Ev 2 135 (ls) (.int x :: st) h r ↔ if x = nI 0 then Ev 2 142 (ls) (st) h r else Ev 2 138 (ls) (st) h r := ev_ifeq iX0_isAsSaid_135 (by decide)
theorem iX0_isAsSaid_138 : mn_ins 2 138 = some (0, false, .iconst 1, 1) := by decide +kernel
theorem eX0_isAsSaid_138 : Ev 2 138 (ls) (st) h r ↔ Ev 2 139 (ls) (.int (nI 1) :: st) h r := ev_iconst iX0_isAsSaid_138 (by decide)
theorem iX0_isAsSaid_139 : mn_ins 2 139 = some (0, false, .goto 4, 3) := by decide +kernel
theorem eX0_isAsSaid_139 : Ev 2 139 (ls) (st) h r ↔ Ev 2 143 (ls) (st) h r := ev_goto iX0_isAsSaid_139 (by decide)
theorem iX0_isAsSaid_142 : mn_ins 2 142 = some (0, false, .iconst 0, 1) := by decide +kernel
theorem eX0_isAsSaid_142 : Ev 2 142 (ls) (st) h r ↔ Ev 2 143 (ls) (.int (nI 0) :: st) h r := ev_iconst iX0_isAsSaid_142 (by decide)
theorem iX0_isAsSaid_143 : mn_ins 2 143 = some (0, false, .ireturn, 1) := by decide +kernel
theorem eX0_isAsSaid_143 (hx : x = 0 ∨ x = 1) : Ev 2 143 (ls) [.int x] h r ↔ r = (h, .inl (some (.int x))) := ev_zret iX0_isAsSaid_143 (X := mnI_X0_isAsSaid) rfl rfl hx
theorem iX0_isAsSaid_144 : mn_ins 2 144 = some (0, false, .aload_n 0, 1) := by decide +kernel
theorem eX0_isAsSaid_144 : Ev 2 144 (some (.ref a) :: ls) (st) h r ↔ Ev 2 145 (some (.ref a) :: ls) (.ref a :: st) h r := ev_aload_n iX0_isAsSaid_144 rfl rfl
theorem eX0_isAsSaid_144n : Ev 2 144 (some (.null) :: ls) (st) h r ↔ Ev 2 145 (some (.null) :: ls) (.null :: st) h r := ev_aload_n iX0_isAsSaid_144 rfl rfl
theorem eX0_isAsSaid_144t : Ev 2 144 (some (tkv o1) :: ls) (st) h r ↔ Ev 2 145 (some (tkv o1) :: ls) (tkv o1 :: st) h r := ev_aload_n iX0_isAsSaid_144 rfl tkv_r
theorem eX0_isAsSaid_144s : Ev 2 144 (some (sgv o1) :: ls) (st) h r ↔ Ev 2 145 (some (sgv o1) :: ls) (sgv o1 :: st) h r := ev_aload_n iX0_isAsSaid_144 rfl sgv_r
theorem eX0_isAsSaid_144c : Ev 2 144 (some (cdv o1) :: ls) (st) h r ↔ Ev 2 145 (some (cdv o1) :: ls) (cdv o1 :: st) h r := ev_aload_n iX0_isAsSaid_144 rfl cdv_r
theorem iX0_isAsSaid_145 : mn_ins 2 145 = some (0, false, .getfield 32, 3) := by decide +kernel
theorem eX0_isAsSaid_145 : Ev 2 145 (ls) (.ref a :: st) h r ↔ Evk 2 148 ls (mn_gf h a 1 0) st h r := ev_getf iX0_isAsSaid_145 (by decide +kernel)
theorem iX0_isAsSaid_148 : mn_ins 2 148 = some (0, false, .ifCond .ne 18, 3) := by decide +kernel
theorem eX0_isAsSaid_148 : Ev 2 148 (ls) (.int x :: st) h r ↔ if x = nI 0 then Ev 2 151 (ls) (st) h r else Ev 2 166 (ls) (st) h r := ev_ifne iX0_isAsSaid_148 (by decide)
theorem iX0_isAsSaid_151 : mn_ins 2 151 = some (0, false, .iload_n 3, 1) := by decide +kernel
theorem eX0_isAsSaid_151 : Ev 2 151 (a0 :: a1 :: a2 :: some (.int x) :: ls) (st) h r ↔ Ev 2 152 (a0 :: a1 :: a2 :: some (.int x) :: ls) (.int x :: st) h r := ev_iload_n iX0_isAsSaid_151 rfl
theorem iX0_isAsSaid_152 : mn_ins 2 152 = some (0, false, .aload_n 0, 1) := by decide +kernel
theorem eX0_isAsSaid_152 : Ev 2 152 (some (.ref a) :: ls) (st) h r ↔ Ev 2 153 (some (.ref a) :: ls) (.ref a :: st) h r := ev_aload_n iX0_isAsSaid_152 rfl rfl
theorem eX0_isAsSaid_152n : Ev 2 152 (some (.null) :: ls) (st) h r ↔ Ev 2 153 (some (.null) :: ls) (.null :: st) h r := ev_aload_n iX0_isAsSaid_152 rfl rfl
theorem eX0_isAsSaid_152t : Ev 2 152 (some (tkv o1) :: ls) (st) h r ↔ Ev 2 153 (some (tkv o1) :: ls) (tkv o1 :: st) h r := ev_aload_n iX0_isAsSaid_152 rfl tkv_r
theorem eX0_isAsSaid_152s : Ev 2 152 (some (sgv o1) :: ls) (st) h r ↔ Ev 2 153 (some (sgv o1) :: ls) (sgv o1 :: st) h r := ev_aload_n iX0_isAsSaid_152 rfl sgv_r
theorem eX0_isAsSaid_152c : Ev 2 152 (some (cdv o1) :: ls) (st) h r ↔ Ev 2 153 (some (cdv o1) :: ls) (cdv o1 :: st) h r := ev_aload_n iX0_isAsSaid_152 rfl cdv_r
theorem iX0_isAsSaid_153 : mn_ins 2 153 = some (0, false, .getfield 18, 3) := by decide +kernel
theorem eX0_isAsSaid_153 : Ev 2 153 (ls) (.ref a :: st) h r ↔ Evk 2 156 ls (mn_gf h a 1 3) st h r := ev_getf iX0_isAsSaid_153 (by decide +kernel)
theorem iX0_isAsSaid_156 : mn_ins 2 156 = some (0, false, .invokestatic 46, 3) := by decide +kernel
theorem eX0_isAsSaid_156 : Ev 2 156 (ls) (.int x1 :: .int x0 :: st) h r ↔ Evr false (decide (mn_cats st ≤ 8)) 2 156 ls st h.2.2.1 h.2.2.2 (Cl 83 [.int x0, .int x1] h.1 h.2.1) r := Ev_T (As := [.int x0, .int x1]) (q := 3) iX0_isAsSaid_156 (by decide +kernel) (by decide) (x := mnI_X0_isAsSaid) (x2 := mnI_X7_isWithin) rfl rfl rfl (by decide +kernel) (Nat.le_of_ble_eq_true rfl) rfl
theorem iX0_isAsSaid_159 : mn_ins 2 159 = some (0, false, .ifCond .eq 7, 3) := by decide +kernel
theorem eX0_isAsSaid_159 : Ev 2 159 (ls) (.int x :: st) h r ↔ if x = nI 0 then Ev 2 166 (ls) (st) h r else Ev 2 162 (ls) (st) h r := ev_ifeq iX0_isAsSaid_159 (by decide)
theorem iX0_isAsSaid_162 : mn_ins 2 162 = some (0, false, .iconst 1, 1) := by decide +kernel
theorem eX0_isAsSaid_162 : Ev 2 162 (ls) (st) h r ↔ Ev 2 163 (ls) (.int (nI 1) :: st) h r := ev_iconst iX0_isAsSaid_162 (by decide)
theorem iX0_isAsSaid_163 : mn_ins 2 163 = some (0, false, .goto 4, 3) := by decide +kernel
theorem eX0_isAsSaid_163 : Ev 2 163 (ls) (st) h r ↔ Ev 2 167 (ls) (st) h r := ev_goto iX0_isAsSaid_163 (by decide)
theorem iX0_isAsSaid_166 : mn_ins 2 166 = some (0, false, .iconst 0, 1) := by decide +kernel
theorem eX0_isAsSaid_166 : Ev 2 166 (ls) (st) h r ↔ Ev 2 167 (ls) (.int (nI 0) :: st) h r := ev_iconst iX0_isAsSaid_166 (by decide)
theorem iX0_isAsSaid_167 : mn_ins 2 167 = some (0, false, .ireturn, 1) := by decide +kernel
theorem eX0_isAsSaid_167 (hx : x = 0 ∨ x = 1) : Ev 2 167 (ls) [.int x] h r ↔ r = (h, .inl (some (.int x))) := ev_zret iX0_isAsSaid_167 (X := mnI_X0_isAsSaid) rfl rfl hx
theorem iX0_isAsSaid_168 : mn_ins 2 168 = some (0, false, .iload_n 3, 1) := by decide +kernel
theorem eX0_isAsSaid_168 : Ev 2 168 (a0 :: a1 :: a2 :: some (.int x) :: ls) (st) h r ↔ Ev 2 169 (a0 :: a1 :: a2 :: some (.int x) :: ls) (.int x :: st) h r := ev_iload_n iX0_isAsSaid_168 rfl
theorem iX0_isAsSaid_169 : mn_ins 2 169 = some (0, false, .aload_n 0, 1) := by decide +kernel
theorem eX0_isAsSaid_169 : Ev 2 169 (some (.ref a) :: ls) (st) h r ↔ Ev 2 170 (some (.ref a) :: ls) (.ref a :: st) h r := ev_aload_n iX0_isAsSaid_169 rfl rfl
theorem eX0_isAsSaid_169n : Ev 2 169 (some (.null) :: ls) (st) h r ↔ Ev 2 170 (some (.null) :: ls) (.null :: st) h r := ev_aload_n iX0_isAsSaid_169 rfl rfl
theorem eX0_isAsSaid_169t : Ev 2 169 (some (tkv o1) :: ls) (st) h r ↔ Ev 2 170 (some (tkv o1) :: ls) (tkv o1 :: st) h r := ev_aload_n iX0_isAsSaid_169 rfl tkv_r
theorem eX0_isAsSaid_169s : Ev 2 169 (some (sgv o1) :: ls) (st) h r ↔ Ev 2 170 (some (sgv o1) :: ls) (sgv o1 :: st) h r := ev_aload_n iX0_isAsSaid_169 rfl sgv_r
theorem eX0_isAsSaid_169c : Ev 2 169 (some (cdv o1) :: ls) (st) h r ↔ Ev 2 170 (some (cdv o1) :: ls) (cdv o1 :: st) h r := ev_aload_n iX0_isAsSaid_169 rfl cdv_r
theorem iX0_isAsSaid_170 : mn_ins 2 170 = some (0, false, .getfield 18, 3) := by decide +kernel
theorem eX0_isAsSaid_170 : Ev 2 170 (ls) (.ref a :: st) h r ↔ Evk 2 173 ls (mn_gf h a 1 3) st h r := ev_getf iX0_isAsSaid_170 (by decide +kernel)
theorem iX0_isAsSaid_173 : mn_ins 2 173 = some (0, false, .invokestatic 46, 3) := by decide +kernel
theorem eX0_isAsSaid_173 : Ev 2 173 (ls) (.int x1 :: .int x0 :: st) h r ↔ Evr false (decide (mn_cats st ≤ 8)) 2 173 ls st h.2.2.1 h.2.2.2 (Cl 83 [.int x0, .int x1] h.1 h.2.1) r := Ev_T (As := [.int x0, .int x1]) (q := 3) iX0_isAsSaid_173 (by decide +kernel) (by decide) (x := mnI_X0_isAsSaid) (x2 := mnI_X7_isWithin) rfl rfl rfl (by decide +kernel) (Nat.le_of_ble_eq_true rfl) rfl
theorem iX0_isAsSaid_176 : mn_ins 2 176 = some (0, false, .ifCond .eq 19, 3) := by decide +kernel
theorem eX0_isAsSaid_176 : Ev 2 176 (ls) (.int x :: st) h r ↔ if x = nI 0 then Ev 2 195 (ls) (st) h r else Ev 2 179 (ls) (st) h r := ev_ifeq iX0_isAsSaid_176 (by decide)
theorem iX0_isAsSaid_179 : mn_ins 2 179 = some (0, false, .aload_n 0, 1) := by decide +kernel
theorem eX0_isAsSaid_179 : Ev 2 179 (some (.ref a) :: ls) (st) h r ↔ Ev 2 180 (some (.ref a) :: ls) (.ref a :: st) h r := ev_aload_n iX0_isAsSaid_179 rfl rfl
theorem eX0_isAsSaid_179n : Ev 2 179 (some (.null) :: ls) (st) h r ↔ Ev 2 180 (some (.null) :: ls) (.null :: st) h r := ev_aload_n iX0_isAsSaid_179 rfl rfl
theorem eX0_isAsSaid_179t : Ev 2 179 (some (tkv o1) :: ls) (st) h r ↔ Ev 2 180 (some (tkv o1) :: ls) (tkv o1 :: st) h r := ev_aload_n iX0_isAsSaid_179 rfl tkv_r
theorem eX0_isAsSaid_179s : Ev 2 179 (some (sgv o1) :: ls) (st) h r ↔ Ev 2 180 (some (sgv o1) :: ls) (sgv o1 :: st) h r := ev_aload_n iX0_isAsSaid_179 rfl sgv_r
theorem eX0_isAsSaid_179c : Ev 2 179 (some (cdv o1) :: ls) (st) h r ↔ Ev 2 180 (some (cdv o1) :: ls) (cdv o1 :: st) h r := ev_aload_n iX0_isAsSaid_179 rfl cdv_r
theorem iX0_isAsSaid_180 : mn_ins 2 180 = some (0, false, .getfield 32, 3) := by decide +kernel
theorem eX0_isAsSaid_180 : Ev 2 180 (ls) (.ref a :: st) h r ↔ Evk 2 183 ls (mn_gf h a 1 0) st h r := ev_getf iX0_isAsSaid_180 (by decide +kernel)
theorem iX0_isAsSaid_183 : mn_ins 2 183 = some (0, false, .ifCond .eq 8, 3) := by decide +kernel
theorem eX0_isAsSaid_183 : Ev 2 183 (ls) (.int x :: st) h r ↔ if x = nI 0 then Ev 2 191 (ls) (st) h r else Ev 2 186 (ls) (st) h r := ev_ifeq iX0_isAsSaid_183 (by decide)
theorem iX0_isAsSaid_186 : mn_ins 2 186 = some (0, false, .iload_n 3, 1) := by decide +kernel
theorem eX0_isAsSaid_186 : Ev 2 186 (a0 :: a1 :: a2 :: some (.int x) :: ls) (st) h r ↔ Ev 2 187 (a0 :: a1 :: a2 :: some (.int x) :: ls) (.int x :: st) h r := ev_iload_n iX0_isAsSaid_186 rfl
theorem iX0_isAsSaid_187 : mn_ins 2 187 = some (0, false, .iload_n 1, 1) := by decide +kernel
theorem eX0_isAsSaid_187 : Ev 2 187 (a0 :: some (.int x) :: ls) (st) h r ↔ Ev 2 188 (a0 :: some (.int x) :: ls) (.int x :: st) h r := ev_iload_n iX0_isAsSaid_187 rfl
theorem iX0_isAsSaid_188 : mn_ins 2 188 = some (0, false, .if_icmp .le 7, 3) := by decide +kernel
theorem eX0_isAsSaid_188 : Ev 2 188 (ls) (.int y :: .int x :: st) h r ↔ if x ≤ y then Ev 2 195 (ls) (st) h r else Ev 2 191 (ls) (st) h r := ev_cmple iX0_isAsSaid_188 (by decide)
theorem iX0_isAsSaid_191 : mn_ins 2 191 = some (0, false, .iconst 1, 1) := by decide +kernel
theorem eX0_isAsSaid_191 : Ev 2 191 (ls) (st) h r ↔ Ev 2 192 (ls) (.int (nI 1) :: st) h r := ev_iconst iX0_isAsSaid_191 (by decide)
theorem iX0_isAsSaid_192 : mn_ins 2 192 = some (0, false, .goto 4, 3) := by decide +kernel
theorem eX0_isAsSaid_192 : Ev 2 192 (ls) (st) h r ↔ Ev 2 196 (ls) (st) h r := ev_goto iX0_isAsSaid_192 (by decide)
theorem iX0_isAsSaid_195 : mn_ins 2 195 = some (0, false, .iconst 0, 1) := by decide +kernel
theorem eX0_isAsSaid_195 : Ev 2 195 (ls) (st) h r ↔ Ev 2 196 (ls) (.int (nI 0) :: st) h r := ev_iconst iX0_isAsSaid_195 (by decide)
theorem iX0_isAsSaid_196 : mn_ins 2 196 = some (0, false, .ireturn, 1) := by decide +kernel
theorem eX0_isAsSaid_196 (hx : x = 0 ∨ x = 1) : Ev 2 196 (ls) [.int x] h r ↔ r = (h, .inl (some (.int x))) := ev_zret iX0_isAsSaid_196 (X := mnI_X0_isAsSaid) rfl rfl hx
theorem iX0_isAsSaid_197 : mn_ins 2 197 = some (0, false, .aload_n 0, 1) := by decide +kernel
theorem eX0_isAsSaid_197 : Ev 2 197 (some (.ref a) :: ls) (st) h r ↔ Ev 2 198 (some (.ref a) :: ls) (.ref a :: st) h r := ev_aload_n iX0_isAsSaid_197 rfl rfl
theorem eX0_isAsSaid_197n : Ev 2 197 (some (.null) :: ls) (st) h r ↔ Ev 2 198 (some (.null) :: ls) (.null :: st) h r := ev_aload_n iX0_isAsSaid_197 rfl rfl
theorem eX0_isAsSaid_197t : Ev 2 197 (some (tkv o1) :: ls) (st) h r ↔ Ev 2 198 (some (tkv o1) :: ls) (tkv o1 :: st) h r := ev_aload_n iX0_isAsSaid_197 rfl tkv_r
theorem eX0_isAsSaid_197s : Ev 2 197 (some (sgv o1) :: ls) (st) h r ↔ Ev 2 198 (some (sgv o1) :: ls) (sgv o1 :: st) h r := ev_aload_n iX0_isAsSaid_197 rfl sgv_r
theorem eX0_isAsSaid_197c : Ev 2 197 (some (cdv o1) :: ls) (st) h r ↔ Ev 2 198 (some (cdv o1) :: ls) (cdv o1 :: st) h r := ev_aload_n iX0_isAsSaid_197 rfl cdv_r
theorem iX0_isAsSaid_198 : mn_ins 2 198 = some (0, false, .getfield 32, 3) := by decide +kernel
theorem eX0_isAsSaid_198 : Ev 2 198 (ls) (.ref a :: st) h r ↔ Evk 2 201 ls (mn_gf h a 1 0) st h r := ev_getf iX0_isAsSaid_198 (by decide +kernel)
theorem iX0_isAsSaid_201 : mn_ins 2 201 = some (0, false, .ifCond .ne 15, 3) := by decide +kernel
theorem eX0_isAsSaid_201 : Ev 2 201 (ls) (.int x :: st) h r ↔ if x = nI 0 then Ev 2 204 (ls) (st) h r else Ev 2 216 (ls) (st) h r := ev_ifne iX0_isAsSaid_201 (by decide)
theorem iX0_isAsSaid_204 : mn_ins 2 204 = some (0, false, .iload_n 3, 1) := by decide +kernel
theorem eX0_isAsSaid_204 : Ev 2 204 (a0 :: a1 :: a2 :: some (.int x) :: ls) (st) h r ↔ Ev 2 205 (a0 :: a1 :: a2 :: some (.int x) :: ls) (.int x :: st) h r := ev_iload_n iX0_isAsSaid_204 rfl
theorem iX0_isAsSaid_205 : mn_ins 2 205 = some (0, false, .iload_n 2, 1) := by decide +kernel
theorem eX0_isAsSaid_205 : Ev 2 205 (a0 :: a1 :: some (.int x) :: ls) (st) h r ↔ Ev 2 206 (a0 :: a1 :: some (.int x) :: ls) (.int x :: st) h r := ev_iload_n iX0_isAsSaid_205 rfl
theorem iX0_isAsSaid_206 : mn_ins 2 206 = some (0, false, .invokestatic 46, 3) := by decide +kernel
theorem eX0_isAsSaid_206 : Ev 2 206 (ls) (.int x1 :: .int x0 :: st) h r ↔ Evr false (decide (mn_cats st ≤ 8)) 2 206 ls st h.2.2.1 h.2.2.2 (Cl 83 [.int x0, .int x1] h.1 h.2.1) r := Ev_T (As := [.int x0, .int x1]) (q := 3) iX0_isAsSaid_206 (by decide +kernel) (by decide) (x := mnI_X0_isAsSaid) (x2 := mnI_X7_isWithin) rfl rfl rfl (by decide +kernel) (Nat.le_of_ble_eq_true rfl) rfl
theorem iX0_isAsSaid_209 : mn_ins 2 209 = some (0, false, .ifCond .eq 7, 3) := by decide +kernel
theorem eX0_isAsSaid_209 : Ev 2 209 (ls) (.int x :: st) h r ↔ if x = nI 0 then Ev 2 216 (ls) (st) h r else Ev 2 212 (ls) (st) h r := ev_ifeq iX0_isAsSaid_209 (by decide)
theorem iX0_isAsSaid_212 : mn_ins 2 212 = some (0, false, .iconst 1, 1) := by decide +kernel
theorem eX0_isAsSaid_212 : Ev 2 212 (ls) (st) h r ↔ Ev 2 213 (ls) (.int (nI 1) :: st) h r := ev_iconst iX0_isAsSaid_212 (by decide)
theorem iX0_isAsSaid_213 : mn_ins 2 213 = some (0, false, .goto 4, 3) := by decide +kernel
theorem eX0_isAsSaid_213 : Ev 2 213 (ls) (st) h r ↔ Ev 2 217 (ls) (st) h r := ev_goto iX0_isAsSaid_213 (by decide)
theorem iX0_isAsSaid_216 : mn_ins 2 216 = some (0, false, .iconst 0, 1) := by decide +kernel
theorem eX0_isAsSaid_216 : Ev 2 216 (ls) (st) h r ↔ Ev 2 217 (ls) (.int (nI 0) :: st) h r := ev_iconst iX0_isAsSaid_216 (by decide)
theorem iX0_isAsSaid_217 : mn_ins 2 217 = some (0, false, .ireturn, 1) := by decide +kernel
theorem eX0_isAsSaid_217 (hx : x = 0 ∨ x = 1) : Ev 2 217 (ls) [.int x] h r ↔ r = (h, .inl (some (.int x))) := ev_zret iX0_isAsSaid_217 (X := mnI_X0_isAsSaid) rfl rfl hx
theorem iX0_isAsSaid_218 : mn_ins 2 218 = some (0, false, .aload_n 0, 1) := by decide +kernel
theorem eX0_isAsSaid_218 : Ev 2 218 (some (.ref a) :: ls) (st) h r ↔ Ev 2 219 (some (.ref a) :: ls) (.ref a :: st) h r := ev_aload_n iX0_isAsSaid_218 rfl rfl
theorem eX0_isAsSaid_218n : Ev 2 218 (some (.null) :: ls) (st) h r ↔ Ev 2 219 (some (.null) :: ls) (.null :: st) h r := ev_aload_n iX0_isAsSaid_218 rfl rfl
theorem eX0_isAsSaid_218t : Ev 2 218 (some (tkv o1) :: ls) (st) h r ↔ Ev 2 219 (some (tkv o1) :: ls) (tkv o1 :: st) h r := ev_aload_n iX0_isAsSaid_218 rfl tkv_r
theorem eX0_isAsSaid_218s : Ev 2 218 (some (sgv o1) :: ls) (st) h r ↔ Ev 2 219 (some (sgv o1) :: ls) (sgv o1 :: st) h r := ev_aload_n iX0_isAsSaid_218 rfl sgv_r
theorem eX0_isAsSaid_218c : Ev 2 218 (some (cdv o1) :: ls) (st) h r ↔ Ev 2 219 (some (cdv o1) :: ls) (cdv o1 :: st) h r := ev_aload_n iX0_isAsSaid_218 rfl cdv_r
theorem iX0_isAsSaid_219 : mn_ins 2 219 = some (0, false, .getfield 32, 3) := by decide +kernel
theorem eX0_isAsSaid_219 : Ev 2 219 (ls) (.ref a :: st) h r ↔ Evk 2 222 ls (mn_gf h a 1 0) st h r := ev_getf iX0_isAsSaid_219 (by decide +kernel)
theorem iX0_isAsSaid_222 : mn_ins 2 222 = some (0, false, .ifCond .ne 7, 3) := by decide +kernel
theorem eX0_isAsSaid_222 : Ev 2 222 (ls) (.int x :: st) h r ↔ if x = nI 0 then Ev 2 225 (ls) (st) h r else Ev 2 229 (ls) (st) h r := ev_ifne iX0_isAsSaid_222 (by decide)
theorem iX0_isAsSaid_225 : mn_ins 2 225 = some (0, false, .iconst 1, 1) := by decide +kernel
theorem eX0_isAsSaid_225 : Ev 2 225 (ls) (st) h r ↔ Ev 2 226 (ls) (.int (nI 1) :: st) h r := ev_iconst iX0_isAsSaid_225 (by decide)
theorem iX0_isAsSaid_226 : mn_ins 2 226 = some (0, false, .goto 4, 3) := by decide +kernel
theorem eX0_isAsSaid_226 : Ev 2 226 (ls) (st) h r ↔ Ev 2 230 (ls) (st) h r := ev_goto iX0_isAsSaid_226 (by decide)
theorem iX0_isAsSaid_229 : mn_ins 2 229 = some (0, false, .iconst 0, 1) := by decide +kernel
theorem eX0_isAsSaid_229 : Ev 2 229 (ls) (st) h r ↔ Ev 2 230 (ls) (.int (nI 0) :: st) h r := ev_iconst iX0_isAsSaid_229 (by decide)
theorem iX0_isAsSaid_230 : mn_ins 2 230 = some (0, false, .ireturn, 1) := by decide +kernel
theorem eX0_isAsSaid_230 (hx : x = 0 ∨ x = 1) : Ev 2 230 (ls) [.int x] h r ↔ r = (h, .inl (some (.int x))) := ev_zret iX0_isAsSaid_230 (X := mnI_X0_isAsSaid) rfl rfl hx
theorem iX0_isAsSaid_231 : mn_ins 2 231 = some (0, false, .iconst 1, 1) := by decide +kernel
theorem eX0_isAsSaid_231 : Ev 2 231 (ls) (st) h r ↔ Ev 2 232 (ls) (.int (nI 1) :: st) h r := ev_iconst iX0_isAsSaid_231 (by decide)
theorem iX0_isAsSaid_232 : mn_ins 2 232 = some (0, false, .ireturn, 1) := by decide +kernel
theorem eX0_isAsSaid_232 (hx : x = 0 ∨ x = 1) : Ev 2 232 (ls) [.int x] h r ↔ r = (h, .inl (some (.int x))) := ev_zret iX0_isAsSaid_232 (X := mnI_X0_isAsSaid) rfl rfl hx
theorem iX0_goAllWays_0 : mn_ins 3 0 = some (0, false, .iconst 0, 1) := by decide +kernel
theorem eX0_goAllWays_0 : Ev 3 0 (ls) (st) h r ↔ Ev 3 1 (ls) (.int (nI 0) :: st) h r := ev_iconst iX0_goAllWays_0 (by decide)
theorem iX0_goAllWays_1 : mn_ins 3 1 = some (0, false, .istore_n 2, 1) := by decide +kernel
theorem eX0_goAllWays_1 : Ev 3 1 (a0 :: a1 :: a2 :: ls) (.int x :: st) h r ↔ Ev 3 2 (a0 :: mn_k a1 :: some (.int x) :: ls) (st) h r := ev_istore_n iX0_goAllWays_1 (by show 2 < _; simp only [List.length_cons]; omega)
theorem iX0_goAllWays_2 : mn_ins 3 2 = some (0, false, .iload_n 2, 1) := by decide +kernel
theorem eX0_goAllWays_2 : Ev 3 2 (a0 :: a1 :: some (.int x) :: ls) (st) h r ↔ Ev 3 3 (a0 :: a1 :: some (.int x) :: ls) (.int x :: st) h r := ev_iload_n iX0_goAllWays_2 rfl
theorem iX0_goAllWays_3 : mn_ins 3 3 = some (0, false, .aload_n 1, 1) := by decide +kernel
theorem eX0_goAllWays_3 : Ev 3 3 (a0 :: some (.ref a) :: ls) (st) h r ↔ Ev 3 4 (a0 :: some (.ref a) :: ls) (.ref a :: st) h r := ev_aload_n iX0_goAllWays_3 rfl rfl
theorem eX0_goAllWays_3n : Ev 3 3 (a0 :: some (.null) :: ls) (st) h r ↔ Ev 3 4 (a0 :: some (.null) :: ls) (.null :: st) h r := ev_aload_n iX0_goAllWays_3 rfl rfl
theorem eX0_goAllWays_3t : Ev 3 3 (a0 :: some (tkv o1) :: ls) (st) h r ↔ Ev 3 4 (a0 :: some (tkv o1) :: ls) (tkv o1 :: st) h r := ev_aload_n iX0_goAllWays_3 rfl tkv_r
theorem eX0_goAllWays_3s : Ev 3 3 (a0 :: some (sgv o1) :: ls) (st) h r ↔ Ev 3 4 (a0 :: some (sgv o1) :: ls) (sgv o1 :: st) h r := ev_aload_n iX0_goAllWays_3 rfl sgv_r
theorem eX0_goAllWays_3c : Ev 3 3 (a0 :: some (cdv o1) :: ls) (st) h r ↔ Ev 3 4 (a0 :: some (cdv o1) :: ls) (cdv o1 :: st) h r := ev_aload_n iX0_goAllWays_3 rfl cdv_r
theorem iX0_goAllWays_4 : mn_ins 3 4 = some (0, false, .getfield 18, 3) := by decide +kernel
theorem eX0_goAllWays_4 : Ev 3 4 (ls) (.ref a :: st) h r ↔ Evk 3 7 ls (mn_gf h a 1 3) st h r := ev_getf iX0_goAllWays_4 (by decide +kernel)
theorem iX0_goAllWays_7 : mn_ins 3 7 = some (0, false, .if_icmp .ge 16, 3) := by decide +kernel
theorem eX0_goAllWays_7 : Ev 3 7 (ls) (.int y :: .int x :: st) h r ↔ if y ≤ x then Ev 3 23 (ls) (st) h r else Ev 3 10 (ls) (st) h r := ev_cmpge iX0_goAllWays_7 (by decide)
theorem iX0_goAllWays_10 : mn_ins 3 10 = some (0, false, .aload_n 0, 1) := by decide +kernel
theorem eX0_goAllWays_10 : Ev 3 10 (some (.ref a) :: ls) (st) h r ↔ Ev 3 11 (some (.ref a) :: ls) (.ref a :: st) h r := ev_aload_n iX0_goAllWays_10 rfl rfl
theorem iX0_goAllWays_11 : mn_ins 3 11 = some (0, false, .getfield 9, 3) := by decide +kernel
theorem eX0_goAllWays_11 : Ev 3 11 (ls) (.ref a :: st) h r ↔ Evk 3 14 ls (mn_gf h a 0 0) st h r := ev_getf iX0_goAllWays_11 (by decide +kernel)
theorem iX0_goAllWays_14 : mn_ins 3 14 = some (0, false, .iload_n 2, 1) := by decide +kernel
theorem eX0_goAllWays_14 : Ev 3 14 (a0 :: a1 :: some (.int x) :: ls) (st) h r ↔ Ev 3 15 (a0 :: a1 :: some (.int x) :: ls) (.int x :: st) h r := ev_iload_n iX0_goAllWays_14 rfl
theorem iX0_goAllWays_15 : mn_ins 3 15 = some (0, false, .iconst 0, 1) := by decide +kernel
theorem eX0_goAllWays_15 : Ev 3 15 (ls) (st) h r ↔ Ev 3 16 (ls) (.int (nI 0) :: st) h r := ev_iconst iX0_goAllWays_15 (by decide)
theorem iX0_goAllWays_16 : mn_ins 3 16 = some (0, false, .iastore, 1) := by decide +kernel
theorem eX0_goAllWays_16 : Ev 3 16 (ls) (.int y :: .int x :: .ref a :: st) h r ↔ Evh 3 17 ls st (mn_asi h a x y) r := ev_iast iX0_goAllWays_16
theorem iX0_goAllWays_17 : mn_ins 3 17 = some (0, false, .iinc 2 1, 3) := by decide +kernel
theorem eX0_goAllWays_17 : Ev 3 17 (a0 :: a1 :: some (.int x) :: ls) (st) h r ↔ Ev 3 20 (a0 :: mn_k a1 :: some (.int (x + (nI 1))) :: ls) (st) h r := ev_iinc iX0_goAllWays_17 rfl (by decide)
theorem iX0_goAllWays_20 : mn_ins 3 20 = some (0, false, .goto (-18), 3) := by decide +kernel
theorem eX0_goAllWays_20 : Ev 3 20 (ls) (st) h r ↔ Ev 3 2 (ls) (st) h r := ev_goto iX0_goAllWays_20 (by decide)
theorem iX0_goAllWays_23 : mn_ins 3 23 = some (0, false, .aload_n 0, 1) := by decide +kernel
theorem eX0_goAllWays_23 : Ev 3 23 (some (.ref a) :: ls) (st) h r ↔ Ev 3 24 (some (.ref a) :: ls) (.ref a :: st) h r := ev_aload_n iX0_goAllWays_23 rfl rfl
theorem iX0_goAllWays_24 : mn_ins 3 24 = some (0, false, .iconst 0, 1) := by decide +kernel
theorem eX0_goAllWays_24 : Ev 3 24 (ls) (st) h r ↔ Ev 3 25 (ls) (.int (nI 0) :: st) h r := ev_iconst iX0_goAllWays_24 (by decide)
theorem iX0_goAllWays_25 : mn_ins 3 25 = some (0, false, .putfield 50, 3) := by decide +kernel
theorem eX0_goAllWays_25 : Ev 3 25 (ls) (w :: .ref a :: st) h r ↔ Evh 3 28 ls st (mn_pf h a 0 2 w) r := ev_putf iX0_goAllWays_25 (by decide +kernel) (by decide +kernel)
theorem iX0_goAllWays_28 : mn_ins 3 28 = some (0, false, .aload_n 0, 1) := by decide +kernel
theorem eX0_goAllWays_28 : Ev 3 28 (some (.ref a) :: ls) (st) h r ↔ Ev 3 29 (some (.ref a) :: ls) (.ref a :: st) h r := ev_aload_n iX0_goAllWays_28 rfl rfl
theorem iX0_goAllWays_29 : mn_ins 3 29 = some (0, false, .aload_n 1, 1) := by decide +kernel
theorem eX0_goAllWays_29 : Ev 3 29 (a0 :: some (.ref a) :: ls) (st) h r ↔ Ev 3 30 (a0 :: some (.ref a) :: ls) (.ref a :: st) h r := ev_aload_n iX0_goAllWays_29 rfl rfl
theorem eX0_goAllWays_29n : Ev 3 29 (a0 :: some (.null) :: ls) (st) h r ↔ Ev 3 30 (a0 :: some (.null) :: ls) (.null :: st) h r := ev_aload_n iX0_goAllWays_29 rfl rfl
theorem eX0_goAllWays_29t : Ev 3 29 (a0 :: some (tkv o1) :: ls) (st) h r ↔ Ev 3 30 (a0 :: some (tkv o1) :: ls) (tkv o1 :: st) h r := ev_aload_n iX0_goAllWays_29 rfl tkv_r
theorem eX0_goAllWays_29s : Ev 3 29 (a0 :: some (sgv o1) :: ls) (st) h r ↔ Ev 3 30 (a0 :: some (sgv o1) :: ls) (sgv o1 :: st) h r := ev_aload_n iX0_goAllWays_29 rfl sgv_r
theorem eX0_goAllWays_29c : Ev 3 29 (a0 :: some (cdv o1) :: ls) (st) h r ↔ Ev 3 30 (a0 :: some (cdv o1) :: ls) (cdv o1 :: st) h r := ev_aload_n iX0_goAllWays_29 rfl cdv_r
theorem iX0_goAllWays_30 : mn_ins 3 30 = some (0, false, .getfield 18, 3) := by decide +kernel
theorem eX0_goAllWays_30 : Ev 3 30 (ls) (.ref a :: st) h r ↔ Evk 3 33 ls (mn_gf h a 1 3) st h r := ev_getf iX0_goAllWays_30 (by decide +kernel)
theorem iX0_goAllWays_33 : mn_ins 3 33 = some (0, false, .putfield 40, 3) := by decide +kernel
theorem eX0_goAllWays_33 : Ev 3 33 (ls) (w :: .ref a :: st) h r ↔ Evh 3 36 ls st (mn_pf h a 0 3 w) r := ev_putf iX0_goAllWays_33 (by decide +kernel) (by decide +kernel)
theorem iX0_goAllWays_36 : mn_ins 3 36 = some (0, false, .aload_n 0, 1) := by decide +kernel
theorem eX0_goAllWays_36 : Ev 3 36 (some (.ref a) :: ls) (st) h r ↔ Ev 3 37 (some (.ref a) :: ls) (.ref a :: st) h r := ev_aload_n iX0_goAllWays_36 rfl rfl
theorem iX0_goAllWays_37 : mn_ins 3 37 = some (0, false, .aload_n 1, 1) := by decide +kernel
theorem eX0_goAllWays_37 : Ev 3 37 (a0 :: some (.ref a) :: ls) (st) h r ↔ Ev 3 38 (a0 :: some (.ref a) :: ls) (.ref a :: st) h r := ev_aload_n iX0_goAllWays_37 rfl rfl
theorem eX0_goAllWays_37n : Ev 3 37 (a0 :: some (.null) :: ls) (st) h r ↔ Ev 3 38 (a0 :: some (.null) :: ls) (.null :: st) h r := ev_aload_n iX0_goAllWays_37 rfl rfl
theorem eX0_goAllWays_37t : Ev 3 37 (a0 :: some (tkv o1) :: ls) (st) h r ↔ Ev 3 38 (a0 :: some (tkv o1) :: ls) (tkv o1 :: st) h r := ev_aload_n iX0_goAllWays_37 rfl tkv_r
theorem eX0_goAllWays_37s : Ev 3 37 (a0 :: some (sgv o1) :: ls) (st) h r ↔ Ev 3 38 (a0 :: some (sgv o1) :: ls) (sgv o1 :: st) h r := ev_aload_n iX0_goAllWays_37 rfl sgv_r
theorem eX0_goAllWays_37c : Ev 3 37 (a0 :: some (cdv o1) :: ls) (st) h r ↔ Ev 3 38 (a0 :: some (cdv o1) :: ls) (cdv o1 :: st) h r := ev_aload_n iX0_goAllWays_37 rfl cdv_r
theorem iX0_goAllWays_38 : mn_ins 3 38 = some (0, false, .iconst 0, 1) := by decide +kernel
theorem eX0_goAllWays_38 : Ev 3 38 (ls) (st) h r ↔ Ev 3 39 (ls) (.int (nI 0) :: st) h r := ev_iconst iX0_goAllWays_38 (by decide)
theorem iX0_goAllWays_39 : mn_ins 3 39 = some (0, false, .iconst 0, 1) := by decide +kernel
theorem eX0_goAllWays_39 : Ev 3 39 (ls) (st) h r ↔ Ev 3 40 (ls) (.int (nI 0) :: st) h r := ev_iconst iX0_goAllWays_39 (by decide)
theorem iX0_goAllWays_40 : mn_ins 3 40 = some (0, false, .invokevirtual 53, 3) := by decide +kernel
theorem EgX0_goAllWays_40 (hw3 : (mn_r w3).isSome = true) : Ev 3 40 (ls) (.int x2 :: .int x1 :: w3 :: .ref b :: st) h r ↔ Evr true (decide (mn_cats st ≤ 8) && mn_isc h b 0) 3 40 ls st h.2.2.1 h.2.2.2 (Cl 5 (.ref b :: [w3, .int x1, .int x2]) h.1 h.2.1) r := Ev_V (As := [w3, .int x1, .int x2]) iX0_goAllWays_40 (by decide +kernel) (x := mnI_X0_goAllWays) (x2 := mnI_X0_reach) rfl rfl rfl (by decide +kernel) (by rcases mn_r_is hw3 with ⟨_, rfl⟩ | rfl <;> exact Nat.le_of_ble_eq_true rfl) rfl
theorem eX0_goAllWays_40 {cw3 : Nat} : Ev 3 40 (ls) (.int x2 :: .int x1 :: (.ref cw3) :: .ref b :: st) h r ↔ Evr true (decide (mn_cats st ≤ 8) && mn_isc h b 0) 3 40 ls st h.2.2.1 h.2.2.2 (Cl 5 (.ref b :: [(.ref cw3), .int x1, .int x2]) h.1 h.2.1) r := EgX0_goAllWays_40 rfl
theorem iX0_goAllWays_43 : mn_ins 3 43 = some (0, false, .iconst 0, 1) := by decide +kernel
theorem eX0_goAllWays_43 : Ev 3 43 (ls) (st) h r ↔ Ev 3 44 (ls) (.int (nI 0) :: st) h r := ev_iconst iX0_goAllWays_43 (by decide)
theorem iX0_goAllWays_44 : mn_ins 3 44 = some (0, false, .istore_n 2, 1) := by decide +kernel
theorem eX0_goAllWays_44 : Ev 3 44 (a0 :: a1 :: a2 :: ls) (.int x :: st) h r ↔ Ev 3 45 (a0 :: mn_k a1 :: some (.int x) :: ls) (st) h r := ev_istore_n iX0_goAllWays_44 (by show 2 < _; simp only [List.length_cons]; omega)
theorem iX0_goAllWays_45 : mn_ins 3 45 = some (0, false, .iload_n 2, 1) := by decide +kernel
theorem eX0_goAllWays_45 : Ev 3 45 (a0 :: a1 :: some (.int x) :: ls) (st) h r ↔ Ev 3 46 (a0 :: a1 :: some (.int x) :: ls) (.int x :: st) h r := ev_iload_n iX0_goAllWays_45 rfl
theorem iX0_goAllWays_46 : mn_ins 3 46 = some (0, false, .aload_n 0, 1) := by decide +kernel
theorem eX0_goAllWays_46 : Ev 3 46 (some (.ref a) :: ls) (st) h r ↔ Ev 3 47 (some (.ref a) :: ls) (.ref a :: st) h r := ev_aload_n iX0_goAllWays_46 rfl rfl
theorem iX0_goAllWays_47 : mn_ins 3 47 = some (0, false, .getfield 50, 3) := by decide +kernel
theorem eX0_goAllWays_47 : Ev 3 47 (ls) (.ref a :: st) h r ↔ Evk 3 50 ls (mn_gf h a 0 2) st h r := ev_getf iX0_goAllWays_47 (by decide +kernel)
theorem iX0_goAllWays_50 : mn_ins 3 50 = some (0, false, .if_icmp .ge 83, 3) := by decide +kernel
theorem eX0_goAllWays_50 : Ev 3 50 (ls) (.int y :: .int x :: st) h r ↔ if y ≤ x then Ev 3 133 (ls) (st) h r else Ev 3 53 (ls) (st) h r := ev_cmpge iX0_goAllWays_50 (by decide)
theorem iX0_goAllWays_53 : mn_ins 3 53 = some (0, false, .iload_n 2, 1) := by decide +kernel
theorem eX0_goAllWays_53 : Ev 3 53 (a0 :: a1 :: some (.int x) :: ls) (st) h r ↔ Ev 3 54 (a0 :: a1 :: some (.int x) :: ls) (.int x :: st) h r := ev_iload_n iX0_goAllWays_53 rfl
theorem iX0_goAllWays_54 : mn_ins 3 54 = some (0, false, .aload_n 0, 1) := by decide +kernel
theorem eX0_goAllWays_54 : Ev 3 54 (some (.ref a) :: ls) (st) h r ↔ Ev 3 55 (some (.ref a) :: ls) (.ref a :: st) h r := ev_aload_n iX0_goAllWays_54 rfl rfl
theorem iX0_goAllWays_55 : mn_ins 3 55 = some (0, false, .getfield 15, 3) := by decide +kernel
theorem eX0_goAllWays_55 : Ev 3 55 (ls) (.ref a :: st) h r ↔ Evk 3 58 ls (mn_gf h a 0 1) st h r := ev_getf iX0_goAllWays_55 (by decide +kernel)
theorem iX0_goAllWays_58 : mn_ins 3 58 = some (0, false, .arraylength, 1) := by decide +kernel
theorem eX0_goAllWays_58 : Ev 3 58 (ls) (.ref a :: st) h r ↔ Evk 3 59 ls (mn_len h a) st h r := ev_alen iX0_goAllWays_58
theorem iX0_goAllWays_59 : mn_ins 3 59 = some (0, false, .if_icmp .ge 74, 3) := by decide +kernel
theorem eX0_goAllWays_59 : Ev 3 59 (ls) (.int y :: .int x :: st) h r ↔ if y ≤ x then Ev 3 133 (ls) (st) h r else Ev 3 62 (ls) (st) h r := ev_cmpge iX0_goAllWays_59 (by decide)
theorem iX0_goAllWays_62 : mn_ins 3 62 = some (0, false, .aload_n 0, 1) := by decide +kernel
theorem eX0_goAllWays_62 : Ev 3 62 (some (.ref a) :: ls) (st) h r ↔ Ev 3 63 (some (.ref a) :: ls) (.ref a :: st) h r := ev_aload_n iX0_goAllWays_62 rfl rfl
theorem iX0_goAllWays_63 : mn_ins 3 63 = some (0, false, .getfield 15, 3) := by decide +kernel
theorem eX0_goAllWays_63 : Ev 3 63 (ls) (.ref a :: st) h r ↔ Evk 3 66 ls (mn_gf h a 0 1) st h r := ev_getf iX0_goAllWays_63 (by decide +kernel)
theorem iX0_goAllWays_66 : mn_ins 3 66 = some (0, false, .iload_n 2, 1) := by decide +kernel
theorem eX0_goAllWays_66 : Ev 3 66 (a0 :: a1 :: some (.int x) :: ls) (st) h r ↔ Ev 3 67 (a0 :: a1 :: some (.int x) :: ls) (.int x :: st) h r := ev_iload_n iX0_goAllWays_66 rfl
theorem iX0_goAllWays_67 : mn_ins 3 67 = some (0, false, .iaload, 1) := by decide +kernel
theorem eX0_goAllWays_67 : Ev 3 67 (ls) (.int x :: .ref a :: st) h r ↔ Evk 3 68 ls (mn_al h a 0 x) st h r := ev_iald iX0_goAllWays_67
theorem iX0_goAllWays_68 : mn_ins 3 68 = some (0, false, .bipush 8, 2) := by decide +kernel
theorem eX0_goAllWays_68 : Ev 3 68 (ls) (st) h r ↔ Ev 3 70 (ls) (.int (nI 8) :: st) h r := ev_bipush iX0_goAllWays_68 (by decide)
theorem iX0_goAllWays_70 : mn_ins 3 70 = some (0, false, .idiv, 1) := by decide +kernel
theorem eX0_goAllWays_70 (hy : ¬ y = 0) : Ev 3 70 (ls) (.int y :: .int x :: st) h r ↔ Ev 3 71 (ls) (.int (x / y) :: st) h r := ev_idiv iX0_goAllWays_70 hy
theorem iX0_goAllWays_71 : mn_ins 3 71 = some (0, false, .istore_n 3, 1) := by decide +kernel
theorem eX0_goAllWays_71 : Ev 3 71 (a0 :: a1 :: a2 :: a3 :: ls) (.int x :: st) h r ↔ Ev 3 72 (a0 :: a1 :: mn_k a2 :: some (.int x) :: ls) (st) h r := ev_istore_n iX0_goAllWays_71 (by show 3 < _; simp only [List.length_cons]; omega)
theorem iX0_goAllWays_72 : mn_ins 3 72 = some (0, false, .aload_n 0, 1) := by decide +kernel
theorem eX0_goAllWays_72 : Ev 3 72 (some (.ref a) :: ls) (st) h r ↔ Ev 3 73 (some (.ref a) :: ls) (.ref a :: st) h r := ev_aload_n iX0_goAllWays_72 rfl rfl
theorem iX0_goAllWays_73 : mn_ins 3 73 = some (0, false, .getfield 15, 3) := by decide +kernel
theorem eX0_goAllWays_73 : Ev 3 73 (ls) (.ref a :: st) h r ↔ Evk 3 76 ls (mn_gf h a 0 1) st h r := ev_getf iX0_goAllWays_73 (by decide +kernel)
theorem iX0_goAllWays_76 : mn_ins 3 76 = some (0, false, .iload_n 2, 1) := by decide +kernel
theorem eX0_goAllWays_76 : Ev 3 76 (a0 :: a1 :: some (.int x) :: ls) (st) h r ↔ Ev 3 77 (a0 :: a1 :: some (.int x) :: ls) (.int x :: st) h r := ev_iload_n iX0_goAllWays_76 rfl
theorem iX0_goAllWays_77 : mn_ins 3 77 = some (0, false, .iaload, 1) := by decide +kernel
theorem eX0_goAllWays_77 : Ev 3 77 (ls) (.int x :: .ref a :: st) h r ↔ Evk 3 78 ls (mn_al h a 0 x) st h r := ev_iald iX0_goAllWays_77
theorem iX0_goAllWays_78 : mn_ins 3 78 = some (0, false, .bipush 8, 2) := by decide +kernel
theorem eX0_goAllWays_78 : Ev 3 78 (ls) (st) h r ↔ Ev 3 80 (ls) (.int (nI 8) :: st) h r := ev_bipush iX0_goAllWays_78 (by decide)
theorem iX0_goAllWays_80 : mn_ins 3 80 = some (0, false, .irem, 1) := by decide +kernel
theorem eX0_goAllWays_80 (hy : ¬ y = 0) : Ev 3 80 (ls) (.int y :: .int x :: st) h r ↔ Ev 3 81 (ls) (.int (x - x / y * y) :: st) h r := ev_irem iX0_goAllWays_80 hy
theorem iX0_goAllWays_81 : mn_ins 3 81 = some (0, false, .istore 4, 2) := by decide +kernel
theorem eX0_goAllWays_81 : Ev 3 81 (a0 :: a1 :: a2 :: a3 :: a4 :: ls) (.int x :: st) h r ↔ Ev 3 83 (a0 :: a1 :: a2 :: mn_k a3 :: some (.int x) :: ls) (st) h r := ev_istore iX0_goAllWays_81 (by show 4 < _; simp only [List.length_cons]; omega)
theorem iX0_goAllWays_83 : mn_ins 3 83 = some (0, false, .iload 4, 2) := by decide +kernel
theorem eX0_goAllWays_83 : Ev 3 83 (a0 :: a1 :: a2 :: a3 :: some (.int x) :: ls) (st) h r ↔ Ev 3 85 (a0 :: a1 :: a2 :: a3 :: some (.int x) :: ls) (.int x :: st) h r := ev_iload iX0_goAllWays_83 rfl
theorem iX0_goAllWays_85 : mn_ins 3 85 = some (0, false, .getstatic 57, 3) := by decide +kernel
theorem eX0_goAllWays_85 : Ev 3 85 (ls) (st) h r ↔ Ev 3 88 (ls) (.ref 1 :: st) h r := ev_gets iX0_goAllWays_85 (k := 1) (nb := true) (by decide +kernel)
theorem iX0_goAllWays_88 : mn_ins 3 88 = some (0, false, .aload_n 1, 1) := by decide +kernel
theorem eX0_goAllWays_88 : Ev 3 88 (a0 :: some (.ref a) :: ls) (st) h r ↔ Ev 3 89 (a0 :: some (.ref a) :: ls) (.ref a :: st) h r := ev_aload_n iX0_goAllWays_88 rfl rfl
theorem eX0_goAllWays_88n : Ev 3 88 (a0 :: some (.null) :: ls) (st) h r ↔ Ev 3 89 (a0 :: some (.null) :: ls) (.null :: st) h r := ev_aload_n iX0_goAllWays_88 rfl rfl
theorem eX0_goAllWays_88t : Ev 3 88 (a0 :: some (tkv o1) :: ls) (st) h r ↔ Ev 3 89 (a0 :: some (tkv o1) :: ls) (tkv o1 :: st) h r := ev_aload_n iX0_goAllWays_88 rfl tkv_r
theorem eX0_goAllWays_88s : Ev 3 88 (a0 :: some (sgv o1) :: ls) (st) h r ↔ Ev 3 89 (a0 :: some (sgv o1) :: ls) (sgv o1 :: st) h r := ev_aload_n iX0_goAllWays_88 rfl sgv_r
theorem eX0_goAllWays_88c : Ev 3 88 (a0 :: some (cdv o1) :: ls) (st) h r ↔ Ev 3 89 (a0 :: some (cdv o1) :: ls) (cdv o1 :: st) h r := ev_aload_n iX0_goAllWays_88 rfl cdv_r
theorem iX0_goAllWays_89 : mn_ins 3 89 = some (0, false, .iload_n 3, 1) := by decide +kernel
theorem eX0_goAllWays_89 : Ev 3 89 (a0 :: a1 :: a2 :: some (.int x) :: ls) (st) h r ↔ Ev 3 90 (a0 :: a1 :: a2 :: some (.int x) :: ls) (.int x :: st) h r := ev_iload_n iX0_goAllWays_89 rfl
theorem iX0_goAllWays_90 : mn_ins 3 90 = some (0, false, .invokevirtual 28, 3) := by decide +kernel
theorem eX0_goAllWays_90 : Ev 3 90 (ls) (.int x0 :: .ref b :: st) h r ↔ Evr true (decide (mn_cats st ≤ 8) && mn_isc h b 1) 3 90 ls st h.2.2.1 h.2.2.2 (Cl 9 (.ref b :: [.int x0]) h.1 h.2.1) r := Ev_V (As := [.int x0]) iX0_goAllWays_90 (by decide +kernel) (x := mnI_X0_goAllWays) (x2 := mnI_X1_operationAt) rfl rfl rfl (by decide +kernel) (Nat.le_of_ble_eq_true rfl) rfl
theorem iX0_goAllWays_93 : mn_ins 3 93 = some (0, false, .iaload, 1) := by decide +kernel
theorem eX0_goAllWays_93 : Ev 3 93 (ls) (.int x :: .ref a :: st) h r ↔ Evk 3 94 ls (mn_al h a 0 x) st h r := ev_iald iX0_goAllWays_93
theorem iX0_goAllWays_94 : mn_ins 3 94 = some (0, false, .if_icmp .lt 10, 3) := by decide +kernel
theorem eX0_goAllWays_94 : Ev 3 94 (ls) (.int y :: .int x :: st) h r ↔ if x < y then Ev 3 104 (ls) (st) h r else Ev 3 97 (ls) (st) h r := ev_cmplt iX0_goAllWays_94 (by decide)
theorem iX0_goAllWays_97 : mn_ins 3 97 = some (0, false, .iload 4, 2) := by decide +kernel
theorem eX0_goAllWays_97 : Ev 3 97 (a0 :: a1 :: a2 :: a3 :: some (.int x) :: ls) (st) h r ↔ Ev 3 99 (a0 :: a1 :: a2 :: a3 :: some (.int x) :: ls) (.int x :: st) h r := ev_iload iX0_goAllWays_97 rfl
theorem iX0_goAllWays_99 : mn_ins 3 99 = some (0, false, .bipush 6, 2) := by decide +kernel
theorem eX0_goAllWays_99 : Ev 3 99 (ls) (st) h r ↔ Ev 3 101 (ls) (.int (nI 6) :: st) h r := ev_bipush iX0_goAllWays_99 (by decide)
theorem iX0_goAllWays_101 : mn_ins 3 101 = some (0, false, .if_icmp .le 18, 3) := by decide +kernel
theorem eX0_goAllWays_101 : Ev 3 101 (ls) (.int y :: .int x :: st) h r ↔ if x ≤ y then Ev 3 119 (ls) (st) h r else Ev 3 104 (ls) (st) h r := ev_cmple iX0_goAllWays_101 (by decide)
theorem iX0_goAllWays_104 : mn_ins 3 104 = some (0, false, .aload_n 0, 1) := by decide +kernel
theorem eX0_goAllWays_104 : Ev 3 104 (some (.ref a) :: ls) (st) h r ↔ Ev 3 105 (some (.ref a) :: ls) (.ref a :: st) h r := ev_aload_n iX0_goAllWays_104 rfl rfl
theorem iX0_goAllWays_105 : mn_ins 3 105 = some (0, false, .aload_n 0, 1) := by decide +kernel
theorem eX0_goAllWays_105 : Ev 3 105 (some (.ref a) :: ls) (st) h r ↔ Ev 3 106 (some (.ref a) :: ls) (.ref a :: st) h r := ev_aload_n iX0_goAllWays_105 rfl rfl
theorem iX0_goAllWays_106 : mn_ins 3 106 = some (0, false, .getfield 40, 3) := by decide +kernel
theorem eX0_goAllWays_106 : Ev 3 106 (ls) (.ref a :: st) h r ↔ Evk 3 109 ls (mn_gf h a 0 3) st h r := ev_getf iX0_goAllWays_106 (by decide +kernel)
theorem iX0_goAllWays_109 : mn_ins 3 109 = some (0, false, .iload_n 3, 1) := by decide +kernel
theorem eX0_goAllWays_109 : Ev 3 109 (a0 :: a1 :: a2 :: some (.int x) :: ls) (st) h r ↔ Ev 3 110 (a0 :: a1 :: a2 :: some (.int x) :: ls) (.int x :: st) h r := ev_iload_n iX0_goAllWays_109 rfl
theorem iX0_goAllWays_110 : mn_ins 3 110 = some (0, false, .invokestatic 60, 3) := by decide +kernel
theorem eX0_goAllWays_110 (hc : mn_cats st ≤ 8) : Ev 3 110 (ls) (.int y :: .int x :: st) h r ↔ Ev 3 113 (ls) (.int (if y < x then y else x) :: st) h r := Ev_min iX0_goAllWays_110 (q := 136) (by decide +kernel) (x := mnI_X0_goAllWays) rfl (by decide +kernel) hc
theorem iX0_goAllWays_113 : mn_ins 3 113 = some (0, false, .putfield 40, 3) := by decide +kernel
theorem eX0_goAllWays_113 : Ev 3 113 (ls) (w :: .ref a :: st) h r ↔ Evh 3 116 ls st (mn_pf h a 0 3 w) r := ev_putf iX0_goAllWays_113 (by decide +kernel) (by decide +kernel)
theorem iX0_goAllWays_116 : mn_ins 3 116 = some (0, false, .goto 11, 3) := by decide +kernel
theorem eX0_goAllWays_116 : Ev 3 116 (ls) (st) h r ↔ Ev 3 127 (ls) (st) h r := ev_goto iX0_goAllWays_116 (by decide)
theorem iX0_goAllWays_119 : mn_ins 3 119 = some (0, false, .aload_n 0, 1) := by decide +kernel
theorem eX0_goAllWays_119 : Ev 3 119 (some (.ref a) :: ls) (st) h r ↔ Ev 3 120 (some (.ref a) :: ls) (.ref a :: st) h r := ev_aload_n iX0_goAllWays_119 rfl rfl
theorem iX0_goAllWays_120 : mn_ins 3 120 = some (0, false, .aload_n 1, 1) := by decide +kernel
theorem eX0_goAllWays_120 : Ev 3 120 (a0 :: some (.ref a) :: ls) (st) h r ↔ Ev 3 121 (a0 :: some (.ref a) :: ls) (.ref a :: st) h r := ev_aload_n iX0_goAllWays_120 rfl rfl
theorem eX0_goAllWays_120n : Ev 3 120 (a0 :: some (.null) :: ls) (st) h r ↔ Ev 3 121 (a0 :: some (.null) :: ls) (.null :: st) h r := ev_aload_n iX0_goAllWays_120 rfl rfl
theorem eX0_goAllWays_120t : Ev 3 120 (a0 :: some (tkv o1) :: ls) (st) h r ↔ Ev 3 121 (a0 :: some (tkv o1) :: ls) (tkv o1 :: st) h r := ev_aload_n iX0_goAllWays_120 rfl tkv_r
theorem eX0_goAllWays_120s : Ev 3 120 (a0 :: some (sgv o1) :: ls) (st) h r ↔ Ev 3 121 (a0 :: some (sgv o1) :: ls) (sgv o1 :: st) h r := ev_aload_n iX0_goAllWays_120 rfl sgv_r
theorem eX0_goAllWays_120c : Ev 3 120 (a0 :: some (cdv o1) :: ls) (st) h r ↔ Ev 3 121 (a0 :: some (cdv o1) :: ls) (cdv o1 :: st) h r := ev_aload_n iX0_goAllWays_120 rfl cdv_r
theorem iX0_goAllWays_121 : mn_ins 3 121 = some (0, false, .iload_n 3, 1) := by decide +kernel
theorem eX0_goAllWays_121 : Ev 3 121 (a0 :: a1 :: a2 :: some (.int x) :: ls) (st) h r ↔ Ev 3 122 (a0 :: a1 :: a2 :: some (.int x) :: ls) (.int x :: st) h r := ev_iload_n iX0_goAllWays_121 rfl
theorem iX0_goAllWays_122 : mn_ins 3 122 = some (0, false, .iload 4, 2) := by decide +kernel
theorem eX0_goAllWays_122 : Ev 3 122 (a0 :: a1 :: a2 :: a3 :: some (.int x) :: ls) (st) h r ↔ Ev 3 124 (a0 :: a1 :: a2 :: a3 :: some (.int x) :: ls) (.int x :: st) h r := ev_iload iX0_goAllWays_122 rfl
theorem iX0_goAllWays_124 : mn_ins 3 124 = some (0, false, .invokevirtual 66, 3) := by decide +kernel
theorem EgX0_goAllWays_124 (hw3 : (mn_r w3).isSome = true) : Ev 3 124 (ls) (.int x2 :: .int x1 :: w3 :: .ref b :: st) h r ↔ Evr true (decide (mn_cats st ≤ 8) && mn_isc h b 0) 3 124 ls st h.2.2.1 h.2.2.2 (Cl 4 (.ref b :: [w3, .int x1, .int x2]) h.1 h.2.1) r := Ev_V (As := [w3, .int x1, .int x2]) iX0_goAllWays_124 (by decide +kernel) (x := mnI_X0_goAllWays) (x2 := mnI_X0_goOn) rfl rfl rfl (by decide +kernel) (by rcases mn_r_is hw3 with ⟨_, rfl⟩ | rfl <;> exact Nat.le_of_ble_eq_true rfl) rfl
theorem eX0_goAllWays_124 {cw3 : Nat} : Ev 3 124 (ls) (.int x2 :: .int x1 :: (.ref cw3) :: .ref b :: st) h r ↔ Evr true (decide (mn_cats st ≤ 8) && mn_isc h b 0) 3 124 ls st h.2.2.1 h.2.2.2 (Cl 4 (.ref b :: [(.ref cw3), .int x1, .int x2]) h.1 h.2.1) r := EgX0_goAllWays_124 rfl
theorem iX0_goAllWays_127 : mn_ins 3 127 = some (0, false, .iinc 2 1, 3) := by decide +kernel
theorem eX0_goAllWays_127 : Ev 3 127 (a0 :: a1 :: some (.int x) :: ls) (st) h r ↔ Ev 3 130 (a0 :: mn_k a1 :: some (.int (x + (nI 1))) :: ls) (st) h r := ev_iinc iX0_goAllWays_127 rfl (by decide)
theorem iX0_goAllWays_130 : mn_ins 3 130 = some (0, false, .goto (-85), 3) := by decide +kernel
theorem eX0_goAllWays_130 : Ev 3 130 (ls) (st) h r ↔ Ev 3 45 (ls) (st) h r := ev_goto iX0_goAllWays_130 (by decide)
theorem iX0_goAllWays_133 : mn_ins 3 133 = some (0, false, .return_, 1) := by decide +kernel
theorem eX0_goAllWays_133 : Ev 3 133 (ls) [] h r ↔ r = (h, .inl none) := ev_vret iX0_goAllWays_133 (X := mnI_X0_goAllWays) rfl rfl
theorem iX0_goOn_0 : mn_ins 4 0 = some (0, false, .aload_n 1, 1) := by decide +kernel
theorem eX0_goOn_0 : Ev 4 0 (a0 :: some (.ref a) :: ls) (st) h r ↔ Ev 4 1 (a0 :: some (.ref a) :: ls) (.ref a :: st) h r := ev_aload_n iX0_goOn_0 rfl rfl
theorem eX0_goOn_0n : Ev 4 0 (a0 :: some (.null) :: ls) (st) h r ↔ Ev 4 1 (a0 :: some (.null) :: ls) (.null :: st) h r := ev_aload_n iX0_goOn_0 rfl rfl
theorem eX0_goOn_0t : Ev 4 0 (a0 :: some (tkv o1) :: ls) (st) h r ↔ Ev 4 1 (a0 :: some (tkv o1) :: ls) (tkv o1 :: st) h r := ev_aload_n iX0_goOn_0 rfl tkv_r
theorem eX0_goOn_0s : Ev 4 0 (a0 :: some (sgv o1) :: ls) (st) h r ↔ Ev 4 1 (a0 :: some (sgv o1) :: ls) (sgv o1 :: st) h r := ev_aload_n iX0_goOn_0 rfl sgv_r
theorem eX0_goOn_0c : Ev 4 0 (a0 :: some (cdv o1) :: ls) (st) h r ↔ Ev 4 1 (a0 :: some (cdv o1) :: ls) (cdv o1 :: st) h r := ev_aload_n iX0_goOn_0 rfl cdv_r
theorem iX0_goOn_1 : mn_ins 4 1 = some (0, false, .iload_n 2, 1) := by decide +kernel
theorem eX0_goOn_1 : Ev 4 1 (a0 :: a1 :: some (.int x) :: ls) (st) h r ↔ Ev 4 2 (a0 :: a1 :: some (.int x) :: ls) (.int x :: st) h r := ev_iload_n iX0_goOn_1 rfl
theorem iX0_goOn_2 : mn_ins 4 2 = some (0, false, .invokevirtual 28, 3) := by decide +kernel
theorem eX0_goOn_2 : Ev 4 2 (ls) (.int x0 :: .ref b :: st) h r ↔ Evr true (decide (mn_cats st ≤ 8) && mn_isc h b 1) 4 2 ls st h.2.2.1 h.2.2.2 (Cl 9 (.ref b :: [.int x0]) h.1 h.2.1) r := Ev_V (As := [.int x0]) iX0_goOn_2 (by decide +kernel) (x := mnI_X0_goOn) (x2 := mnI_X1_operationAt) rfl rfl rfl (by decide +kernel) (Nat.le_of_ble_eq_true rfl) rfl
theorem iX0_goOn_5 : mn_ins 4 5 = some (0, false, .istore 4, 2) := by decide +kernel
theorem eX0_goOn_5 : Ev 4 5 (a0 :: a1 :: a2 :: a3 :: a4 :: ls) (.int x :: st) h r ↔ Ev 4 7 (a0 :: a1 :: a2 :: mn_k a3 :: some (.int x) :: ls) (st) h r := ev_istore iX0_goOn_5 (by show 4 < _; simp only [List.length_cons]; omega)
theorem iX0_goOn_7 : mn_ins 4 7 = some (0, false, .iload_n 3, 1) := by decide +kernel
theorem eX0_goOn_7 : Ev 4 7 (a0 :: a1 :: a2 :: some (.int x) :: ls) (st) h r ↔ Ev 4 8 (a0 :: a1 :: a2 :: some (.int x) :: ls) (.int x :: st) h r := ev_iload_n iX0_goOn_7 rfl
theorem iX0_goOn_8 : mn_ins 4 8 = some (0, false, .getstatic 57, 3) := by decide +kernel
theorem eX0_goOn_8 : Ev 4 8 (ls) (st) h r ↔ Ev 4 11 (ls) (.ref 1 :: st) h r := ev_gets iX0_goOn_8 (k := 1) (nb := true) (by decide +kernel)
theorem iX0_goOn_11 : mn_ins 4 11 = some (0, false, .iload 4, 2) := by decide +kernel
theorem eX0_goOn_11 : Ev 4 11 (a0 :: a1 :: a2 :: a3 :: some (.int x) :: ls) (st) h r ↔ Ev 4 13 (a0 :: a1 :: a2 :: a3 :: some (.int x) :: ls) (.int x :: st) h r := ev_iload iX0_goOn_11 rfl
theorem iX0_goOn_13 : mn_ins 4 13 = some (0, false, .iaload, 1) := by decide +kernel
theorem eX0_goOn_13 : Ev 4 13 (ls) (.int x :: .ref a :: st) h r ↔ Evk 4 14 ls (mn_al h a 0 x) st h r := ev_iald iX0_goOn_13
theorem iX0_goOn_14 : mn_ins 4 14 = some (0, false, .isub, 1) := by decide +kernel
theorem eX0_goOn_14 : Ev 4 14 (ls) (.int y :: .int x :: st) h r ↔ Ev 4 15 (ls) (.int (x - y) :: st) h r := ev_isub iX0_goOn_14
theorem iX0_goOn_15 : mn_ins 4 15 = some (0, false, .getstatic 69, 3) := by decide +kernel
theorem eX0_goOn_15 : Ev 4 15 (ls) (st) h r ↔ Ev 4 18 (ls) (.ref 2 :: st) h r := ev_gets iX0_goOn_15 (k := 2) (nb := true) (by decide +kernel)
theorem iX0_goOn_18 : mn_ins 4 18 = some (0, false, .iload 4, 2) := by decide +kernel
theorem eX0_goOn_18 : Ev 4 18 (a0 :: a1 :: a2 :: a3 :: some (.int x) :: ls) (st) h r ↔ Ev 4 20 (a0 :: a1 :: a2 :: a3 :: some (.int x) :: ls) (.int x :: st) h r := ev_iload iX0_goOn_18 rfl
theorem iX0_goOn_20 : mn_ins 4 20 = some (0, false, .iaload, 1) := by decide +kernel
theorem eX0_goOn_20 : Ev 4 20 (ls) (.int x :: .ref a :: st) h r ↔ Evk 4 21 ls (mn_al h a 0 x) st h r := ev_iald iX0_goOn_20
theorem iX0_goOn_21 : mn_ins 4 21 = some (0, false, .iadd, 1) := by decide +kernel
theorem eX0_goOn_21 : Ev 4 21 (ls) (.int y :: .int x :: st) h r ↔ Ev 4 22 (ls) (.int (x + y) :: st) h r := ev_iadd iX0_goOn_21
theorem iX0_goOn_22 : mn_ins 4 22 = some (0, false, .istore 5, 2) := by decide +kernel
theorem eX0_goOn_22 : Ev 4 22 (a0 :: a1 :: a2 :: a3 :: a4 :: a5 :: ls) (.int x :: st) h r ↔ Ev 4 24 (a0 :: a1 :: a2 :: a3 :: mn_k a4 :: some (.int x) :: ls) (st) h r := ev_istore iX0_goOn_22 (by show 5 < _; simp only [List.length_cons]; omega)
theorem iX0_goOn_24 : mn_ins 4 24 = some (0, false, .iload 4, 2) := by decide +kernel
theorem eX0_goOn_24 : Ev 4 24 (a0 :: a1 :: a2 :: a3 :: some (.int x) :: ls) (st) h r ↔ Ev 4 26 (a0 :: a1 :: a2 :: a3 :: some (.int x) :: ls) (.int x :: st) h r := ev_iload iX0_goOn_24 rfl
theorem iX0_goOn_26 : mn_ins 4 26 = some (0, false, .bipush 11, 2) := by decide +kernel
theorem eX0_goOn_26 : Ev 4 26 (ls) (st) h r ↔ Ev 4 28 (ls) (.int (nI 11) :: st) h r := ev_bipush iX0_goOn_26 (by decide)
theorem iX0_goOn_28 : mn_ins 4 28 = some (0, false, .if_icmp .eq 10, 3) := by decide +kernel
theorem eX0_goOn_28 : Ev 4 28 (ls) (.int y :: .int x :: st) h r ↔ if x = y then Ev 4 38 (ls) (st) h r else Ev 4 31 (ls) (st) h r := ev_cmpeq iX0_goOn_28 (by decide)
theorem iX0_goOn_31 : mn_ins 4 31 = some (0, false, .iload 4, 2) := by decide +kernel
theorem eX0_goOn_31 : Ev 4 31 (a0 :: a1 :: a2 :: a3 :: some (.int x) :: ls) (st) h r ↔ Ev 4 33 (a0 :: a1 :: a2 :: a3 :: some (.int x) :: ls) (.int x :: st) h r := ev_iload iX0_goOn_31 rfl
theorem iX0_goOn_33 : mn_ins 4 33 = some (0, false, .bipush 12, 2) := by decide +kernel
theorem eX0_goOn_33 : Ev 4 33 (ls) (st) h r ↔ Ev 4 35 (ls) (.int (nI 12) :: st) h r := ev_bipush iX0_goOn_33 (by decide)
theorem iX0_goOn_35 : mn_ins 4 35 = some (0, false, .if_icmp .ne 15, 3) := by decide +kernel
theorem eX0_goOn_35 : Ev 4 35 (ls) (.int y :: .int x :: st) h r ↔ if x = y then Ev 4 38 (ls) (st) h r else Ev 4 50 (ls) (st) h r := ev_cmpne iX0_goOn_35 (by decide)
theorem iX0_goOn_38 : mn_ins 4 38 = some (0, false, .aload_n 0, 1) := by decide +kernel
theorem eX0_goOn_38 : Ev 4 38 (some (.ref a) :: ls) (st) h r ↔ Ev 4 39 (some (.ref a) :: ls) (.ref a :: st) h r := ev_aload_n iX0_goOn_38 rfl rfl
theorem iX0_goOn_39 : mn_ins 4 39 = some (0, false, .aload_n 1, 1) := by decide +kernel
theorem eX0_goOn_39 : Ev 4 39 (a0 :: some (.ref a) :: ls) (st) h r ↔ Ev 4 40 (a0 :: some (.ref a) :: ls) (.ref a :: st) h r := ev_aload_n iX0_goOn_39 rfl rfl
theorem eX0_goOn_39n : Ev 4 39 (a0 :: some (.null) :: ls) (st) h r ↔ Ev 4 40 (a0 :: some (.null) :: ls) (.null :: st) h r := ev_aload_n iX0_goOn_39 rfl rfl
theorem eX0_goOn_39t : Ev 4 39 (a0 :: some (tkv o1) :: ls) (st) h r ↔ Ev 4 40 (a0 :: some (tkv o1) :: ls) (tkv o1 :: st) h r := ev_aload_n iX0_goOn_39 rfl tkv_r
theorem eX0_goOn_39s : Ev 4 39 (a0 :: some (sgv o1) :: ls) (st) h r ↔ Ev 4 40 (a0 :: some (sgv o1) :: ls) (sgv o1 :: st) h r := ev_aload_n iX0_goOn_39 rfl sgv_r
theorem eX0_goOn_39c : Ev 4 39 (a0 :: some (cdv o1) :: ls) (st) h r ↔ Ev 4 40 (a0 :: some (cdv o1) :: ls) (cdv o1 :: st) h r := ev_aload_n iX0_goOn_39 rfl cdv_r
theorem iX0_goOn_40 : mn_ins 4 40 = some (0, false, .aload_n 1, 1) := by decide +kernel
theorem eX0_goOn_40 : Ev 4 40 (a0 :: some (.ref a) :: ls) (st) h r ↔ Ev 4 41 (a0 :: some (.ref a) :: ls) (.ref a :: st) h r := ev_aload_n iX0_goOn_40 rfl rfl
theorem eX0_goOn_40n : Ev 4 40 (a0 :: some (.null) :: ls) (st) h r ↔ Ev 4 41 (a0 :: some (.null) :: ls) (.null :: st) h r := ev_aload_n iX0_goOn_40 rfl rfl
theorem eX0_goOn_40t : Ev 4 40 (a0 :: some (tkv o1) :: ls) (st) h r ↔ Ev 4 41 (a0 :: some (tkv o1) :: ls) (tkv o1 :: st) h r := ev_aload_n iX0_goOn_40 rfl tkv_r
theorem eX0_goOn_40s : Ev 4 40 (a0 :: some (sgv o1) :: ls) (st) h r ↔ Ev 4 41 (a0 :: some (sgv o1) :: ls) (sgv o1 :: st) h r := ev_aload_n iX0_goOn_40 rfl sgv_r
theorem eX0_goOn_40c : Ev 4 40 (a0 :: some (cdv o1) :: ls) (st) h r ↔ Ev 4 41 (a0 :: some (cdv o1) :: ls) (cdv o1 :: st) h r := ev_aload_n iX0_goOn_40 rfl cdv_r
theorem iX0_goOn_41 : mn_ins 4 41 = some (0, false, .iload_n 2, 1) := by decide +kernel
theorem eX0_goOn_41 : Ev 4 41 (a0 :: a1 :: some (.int x) :: ls) (st) h r ↔ Ev 4 42 (a0 :: a1 :: some (.int x) :: ls) (.int x :: st) h r := ev_iload_n iX0_goOn_41 rfl
theorem iX0_goOn_42 : mn_ins 4 42 = some (0, false, .invokevirtual 43, 3) := by decide +kernel
theorem eX0_goOn_42 : Ev 4 42 (ls) (.int x0 :: .ref b :: st) h r ↔ Evr true (decide (mn_cats st ≤ 8) && mn_isc h b 1) 4 42 ls st h.2.2.1 h.2.2.2 (Cl 10 (.ref b :: [.int x0]) h.1 h.2.1) r := Ev_V (As := [.int x0]) iX0_goOn_42 (by decide +kernel) (x := mnI_X0_goOn) (x2 := mnI_X1_argumentAt) rfl rfl rfl (by decide +kernel) (Nat.le_of_ble_eq_true rfl) rfl
theorem iX0_goOn_45 : mn_ins 4 45 = some (0, false, .iload 5, 2) := by decide +kernel
theorem eX0_goOn_45 : Ev 4 45 (a0 :: a1 :: a2 :: a3 :: a4 :: some (.int x) :: ls) (st) h r ↔ Ev 4 47 (a0 :: a1 :: a2 :: a3 :: a4 :: some (.int x) :: ls) (.int x :: st) h r := ev_iload iX0_goOn_45 rfl
theorem iX0_goOn_47 : mn_ins 4 47 = some (0, false, .invokevirtual 53, 3) := by decide +kernel
theorem EgX0_goOn_47 (hw3 : (mn_r w3).isSome = true) : Ev 4 47 (ls) (.int x2 :: .int x1 :: w3 :: .ref b :: st) h r ↔ Evr true (decide (mn_cats st ≤ 8) && mn_isc h b 0) 4 47 ls st h.2.2.1 h.2.2.2 (Cl 5 (.ref b :: [w3, .int x1, .int x2]) h.1 h.2.1) r := Ev_V (As := [w3, .int x1, .int x2]) iX0_goOn_47 (by decide +kernel) (x := mnI_X0_goOn) (x2 := mnI_X0_reach) rfl rfl rfl (by decide +kernel) (by rcases mn_r_is hw3 with ⟨_, rfl⟩ | rfl <;> exact Nat.le_of_ble_eq_true rfl) rfl
theorem eX0_goOn_47 {cw3 : Nat} : Ev 4 47 (ls) (.int x2 :: .int x1 :: (.ref cw3) :: .ref b :: st) h r ↔ Evr true (decide (mn_cats st ≤ 8) && mn_isc h b 0) 4 47 ls st h.2.2.1 h.2.2.2 (Cl 5 (.ref b :: [(.ref cw3), .int x1, .int x2]) h.1 h.2.1) r := EgX0_goOn_47 rfl
theorem iX0_goOn_50 : mn_ins 4 50 = some (0, false, .iload 4, 2) := by decide +kernel
theorem eX0_goOn_50 : Ev 4 50 (a0 :: a1 :: a2 :: a3 :: some (.int x) :: ls) (st) h r ↔ Ev 4 52 (a0 :: a1 :: a2 :: a3 :: some (.int x) :: ls) (.int x :: st) h r := ev_iload iX0_goOn_50 rfl
theorem iX0_goOn_52 : mn_ins 4 52 = some (0, false, .bipush 11, 2) := by decide +kernel
theorem eX0_goOn_52 : Ev 4 52 (ls) (st) h r ↔ Ev 4 54 (ls) (.int (nI 11) :: st) h r := ev_bipush iX0_goOn_52 (by decide)
theorem iX0_goOn_54 : mn_ins 4 54 = some (0, false, .if_icmp .eq 20, 3) := by decide +kernel
theorem eX0_goOn_54 : Ev 4 54 (ls) (.int y :: .int x :: st) h r ↔ if x = y then Ev 4 74 (ls) (st) h r else Ev 4 57 (ls) (st) h r := ev_cmpeq iX0_goOn_54 (by decide)
theorem iX0_goOn_57 : mn_ins 4 57 = some (0, false, .iload 4, 2) := by decide +kernel
theorem eX0_goOn_57 : Ev 4 57 (a0 :: a1 :: a2 :: a3 :: some (.int x) :: ls) (st) h r ↔ Ev 4 59 (a0 :: a1 :: a2 :: a3 :: some (.int x) :: ls) (.int x :: st) h r := ev_iload iX0_goOn_57 rfl
theorem iX0_goOn_59 : mn_ins 4 59 = some (0, false, .bipush 16, 2) := by decide +kernel
theorem eX0_goOn_59 : Ev 4 59 (ls) (st) h r ↔ Ev 4 61 (ls) (.int (nI 16) :: st) h r := ev_bipush iX0_goOn_59 (by decide)
theorem iX0_goOn_61 : mn_ins 4 61 = some (0, false, .if_icmp .eq 13, 3) := by decide +kernel
theorem eX0_goOn_61 : Ev 4 61 (ls) (.int y :: .int x :: st) h r ↔ if x = y then Ev 4 74 (ls) (st) h r else Ev 4 64 (ls) (st) h r := ev_cmpeq iX0_goOn_61 (by decide)
theorem iX0_goOn_64 : mn_ins 4 64 = some (0, false, .aload_n 0, 1) := by decide +kernel
theorem eX0_goOn_64 : Ev 4 64 (some (.ref a) :: ls) (st) h r ↔ Ev 4 65 (some (.ref a) :: ls) (.ref a :: st) h r := ev_aload_n iX0_goOn_64 rfl rfl
theorem iX0_goOn_65 : mn_ins 4 65 = some (0, false, .aload_n 1, 1) := by decide +kernel
theorem eX0_goOn_65 : Ev 4 65 (a0 :: some (.ref a) :: ls) (st) h r ↔ Ev 4 66 (a0 :: some (.ref a) :: ls) (.ref a :: st) h r := ev_aload_n iX0_goOn_65 rfl rfl
theorem eX0_goOn_65n : Ev 4 65 (a0 :: some (.null) :: ls) (st) h r ↔ Ev 4 66 (a0 :: some (.null) :: ls) (.null :: st) h r := ev_aload_n iX0_goOn_65 rfl rfl
theorem eX0_goOn_65t : Ev 4 65 (a0 :: some (tkv o1) :: ls) (st) h r ↔ Ev 4 66 (a0 :: some (tkv o1) :: ls) (tkv o1 :: st) h r := ev_aload_n iX0_goOn_65 rfl tkv_r
theorem eX0_goOn_65s : Ev 4 65 (a0 :: some (sgv o1) :: ls) (st) h r ↔ Ev 4 66 (a0 :: some (sgv o1) :: ls) (sgv o1 :: st) h r := ev_aload_n iX0_goOn_65 rfl sgv_r
theorem eX0_goOn_65c : Ev 4 65 (a0 :: some (cdv o1) :: ls) (st) h r ↔ Ev 4 66 (a0 :: some (cdv o1) :: ls) (cdv o1 :: st) h r := ev_aload_n iX0_goOn_65 rfl cdv_r
theorem iX0_goOn_66 : mn_ins 4 66 = some (0, false, .iload_n 2, 1) := by decide +kernel
theorem eX0_goOn_66 : Ev 4 66 (a0 :: a1 :: some (.int x) :: ls) (st) h r ↔ Ev 4 67 (a0 :: a1 :: some (.int x) :: ls) (.int x :: st) h r := ev_iload_n iX0_goOn_66 rfl
theorem iX0_goOn_67 : mn_ins 4 67 = some (0, false, .iconst 1, 1) := by decide +kernel
theorem eX0_goOn_67 : Ev 4 67 (ls) (st) h r ↔ Ev 4 68 (ls) (.int (nI 1) :: st) h r := ev_iconst iX0_goOn_67 (by decide)
theorem iX0_goOn_68 : mn_ins 4 68 = some (0, false, .iadd, 1) := by decide +kernel
theorem eX0_goOn_68 : Ev 4 68 (ls) (.int y :: .int x :: st) h r ↔ Ev 4 69 (ls) (.int (x + y) :: st) h r := ev_iadd iX0_goOn_68
theorem iX0_goOn_69 : mn_ins 4 69 = some (0, false, .iload 5, 2) := by decide +kernel
theorem eX0_goOn_69 : Ev 4 69 (a0 :: a1 :: a2 :: a3 :: a4 :: some (.int x) :: ls) (st) h r ↔ Ev 4 71 (a0 :: a1 :: a2 :: a3 :: a4 :: some (.int x) :: ls) (.int x :: st) h r := ev_iload iX0_goOn_69 rfl
theorem iX0_goOn_71 : mn_ins 4 71 = some (0, false, .invokevirtual 53, 3) := by decide +kernel
theorem EgX0_goOn_71 (hw3 : (mn_r w3).isSome = true) : Ev 4 71 (ls) (.int x2 :: .int x1 :: w3 :: .ref b :: st) h r ↔ Evr true (decide (mn_cats st ≤ 8) && mn_isc h b 0) 4 71 ls st h.2.2.1 h.2.2.2 (Cl 5 (.ref b :: [w3, .int x1, .int x2]) h.1 h.2.1) r := Ev_V (As := [w3, .int x1, .int x2]) iX0_goOn_71 (by decide +kernel) (x := mnI_X0_goOn) (x2 := mnI_X0_reach) rfl rfl rfl (by decide +kernel) (by rcases mn_r_is hw3 with ⟨_, rfl⟩ | rfl <;> exact Nat.le_of_ble_eq_true rfl) rfl
theorem eX0_goOn_71 {cw3 : Nat} : Ev 4 71 (ls) (.int x2 :: .int x1 :: (.ref cw3) :: .ref b :: st) h r ↔ Evr true (decide (mn_cats st ≤ 8) && mn_isc h b 0) 4 71 ls st h.2.2.1 h.2.2.2 (Cl 5 (.ref b :: [(.ref cw3), .int x1, .int x2]) h.1 h.2.1) r := EgX0_goOn_71 rfl
theorem iX0_goOn_74 : mn_ins 4 74 = some (0, false, .return_, 1) := by decide +kernel
theorem eX0_goOn_74 : Ev 4 74 (ls) [] h r ↔ r = (h, .inl none) := ev_vret iX0_goOn_74 (X := mnI_X0_goOn) rfl rfl
theorem iX0_reach_0 : mn_ins 5 0 = some (0, false, .iload_n 2, 1) := by decide +kernel
theorem eX0_reach_0 : Ev 5 0 (a0 :: a1 :: some (.int x) :: ls) (st) h r ↔ Ev 5 1 (a0 :: a1 :: some (.int x) :: ls) (.int x :: st) h r := ev_iload_n iX0_reach_0 rfl
theorem iX0_reach_1 : mn_ins 5 1 = some (0, false, .aload_n 1, 1) := by decide +kernel
theorem eX0_reach_1 : Ev 5 1 (a0 :: some (.ref a) :: ls) (st) h r ↔ Ev 5 2 (a0 :: some (.ref a) :: ls) (.ref a :: st) h r := ev_aload_n iX0_reach_1 rfl rfl
theorem eX0_reach_1n : Ev 5 1 (a0 :: some (.null) :: ls) (st) h r ↔ Ev 5 2 (a0 :: some (.null) :: ls) (.null :: st) h r := ev_aload_n iX0_reach_1 rfl rfl
theorem eX0_reach_1t : Ev 5 1 (a0 :: some (tkv o1) :: ls) (st) h r ↔ Ev 5 2 (a0 :: some (tkv o1) :: ls) (tkv o1 :: st) h r := ev_aload_n iX0_reach_1 rfl tkv_r
theorem eX0_reach_1s : Ev 5 1 (a0 :: some (sgv o1) :: ls) (st) h r ↔ Ev 5 2 (a0 :: some (sgv o1) :: ls) (sgv o1 :: st) h r := ev_aload_n iX0_reach_1 rfl sgv_r
theorem eX0_reach_1c : Ev 5 1 (a0 :: some (cdv o1) :: ls) (st) h r ↔ Ev 5 2 (a0 :: some (cdv o1) :: ls) (cdv o1 :: st) h r := ev_aload_n iX0_reach_1 rfl cdv_r
theorem iX0_reach_2 : mn_ins 5 2 = some (0, false, .getfield 18, 3) := by decide +kernel
theorem eX0_reach_2 : Ev 5 2 (ls) (.ref a :: st) h r ↔ Evk 5 5 ls (mn_gf h a 1 3) st h r := ev_getf iX0_reach_2 (by decide +kernel)
theorem iX0_reach_5 : mn_ins 5 5 = some (0, false, .invokestatic 46, 3) := by decide +kernel
theorem eX0_reach_5 : Ev 5 5 (ls) (.int x1 :: .int x0 :: st) h r ↔ Evr false (decide (mn_cats st ≤ 8)) 5 5 ls st h.2.2.1 h.2.2.2 (Cl 83 [.int x0, .int x1] h.1 h.2.1) r := Ev_T (As := [.int x0, .int x1]) (q := 3) iX0_reach_5 (by decide +kernel) (by decide) (x := mnI_X0_reach) (x2 := mnI_X7_isWithin) rfl rfl rfl (by decide +kernel) (Nat.le_of_ble_eq_true rfl) rfl
theorem iX0_reach_8 : mn_ins 5 8 = some (0, false, .ifCond .eq 20, 3) := by decide +kernel
theorem eX0_reach_8 : Ev 5 8 (ls) (.int x :: st) h r ↔ if x = nI 0 then Ev 5 28 (ls) (st) h r else Ev 5 11 (ls) (st) h r := ev_ifeq iX0_reach_8 (by decide)
theorem iX0_reach_11 : mn_ins 5 11 = some (0, false, .aload_n 0, 1) := by decide +kernel
theorem eX0_reach_11 : Ev 5 11 (some (.ref a) :: ls) (st) h r ↔ Ev 5 12 (some (.ref a) :: ls) (.ref a :: st) h r := ev_aload_n iX0_reach_11 rfl rfl
theorem iX0_reach_12 : mn_ins 5 12 = some (0, false, .getfield 9, 3) := by decide +kernel
theorem eX0_reach_12 : Ev 5 12 (ls) (.ref a :: st) h r ↔ Evk 5 15 ls (mn_gf h a 0 0) st h r := ev_getf iX0_reach_12 (by decide +kernel)
theorem iX0_reach_15 : mn_ins 5 15 = some (0, false, .iload_n 2, 1) := by decide +kernel
theorem eX0_reach_15 : Ev 5 15 (a0 :: a1 :: some (.int x) :: ls) (st) h r ↔ Ev 5 16 (a0 :: a1 :: some (.int x) :: ls) (.int x :: st) h r := ev_iload_n iX0_reach_15 rfl
theorem iX0_reach_16 : mn_ins 5 16 = some (0, false, .iaload, 1) := by decide +kernel
theorem eX0_reach_16 : Ev 5 16 (ls) (.int x :: .ref a :: st) h r ↔ Evk 5 17 ls (mn_al h a 0 x) st h r := ev_iald iX0_reach_16
theorem iX0_reach_17 : mn_ins 5 17 = some (0, false, .iload_n 3, 1) := by decide +kernel
theorem eX0_reach_17 : Ev 5 17 (a0 :: a1 :: a2 :: some (.int x) :: ls) (st) h r ↔ Ev 5 18 (a0 :: a1 :: a2 :: some (.int x) :: ls) (.int x :: st) h r := ev_iload_n iX0_reach_17 rfl
theorem iX0_reach_18 : mn_ins 5 18 = some (0, false, .ishr, 1) := by decide +kernel
theorem eX0_reach_18 : Ev 5 18 (ls) (.int y :: .int x :: st) h r ↔ Ev 5 19 (ls) (.int (x >>> (y &&& 31)) :: st) h r := ev_ishr iX0_reach_18
theorem iX0_reach_19 : mn_ins 5 19 = some (0, false, .iconst 1, 1) := by decide +kernel
theorem eX0_reach_19 : Ev 5 19 (ls) (st) h r ↔ Ev 5 20 (ls) (.int (nI 1) :: st) h r := ev_iconst iX0_reach_19 (by decide)
theorem iX0_reach_20 : mn_ins 5 20 = some (0, false, .iand, 1) := by decide +kernel
theorem eX0_reach_20 : Ev 5 20 (ls) (.int y :: .int x :: st) h r ↔ Ev 5 21 (ls) (.int (x &&& y) :: st) h r := ev_iand iX0_reach_20
theorem iX0_reach_21 : mn_ins 5 21 = some (0, false, .ifCond .ne 7, 3) := by decide +kernel
theorem eX0_reach_21 : Ev 5 21 (ls) (.int x :: st) h r ↔ if x = nI 0 then Ev 5 24 (ls) (st) h r else Ev 5 28 (ls) (st) h r := ev_ifne iX0_reach_21 (by decide)
theorem iX0_reach_24 : mn_ins 5 24 = some (0, false, .iconst 1, 1) := by decide +kernel
theorem eX0_reach_24 : Ev 5 24 (ls) (st) h r ↔ Ev 5 25 (ls) (.int (nI 1) :: st) h r := ev_iconst iX0_reach_24 (by decide)
theorem iX0_reach_25 : mn_ins 5 25 = some (0, false, .goto 4, 3) := by decide +kernel
theorem eX0_reach_25 : Ev 5 25 (ls) (st) h r ↔ Ev 5 29 (ls) (st) h r := ev_goto iX0_reach_25 (by decide)
theorem iX0_reach_28 : mn_ins 5 28 = some (0, false, .iconst 0, 1) := by decide +kernel
theorem eX0_reach_28 : Ev 5 28 (ls) (st) h r ↔ Ev 5 29 (ls) (.int (nI 0) :: st) h r := ev_iconst iX0_reach_28 (by decide)
theorem iX0_reach_29 : mn_ins 5 29 = some (0, false, .istore 4, 2) := by decide +kernel
theorem eX0_reach_29 : Ev 5 29 (a0 :: a1 :: a2 :: a3 :: a4 :: ls) (.int x :: st) h r ↔ Ev 5 31 (a0 :: a1 :: a2 :: mn_k a3 :: some (.int x) :: ls) (st) h r := ev_istore iX0_reach_29 (by show 4 < _; simp only [List.length_cons]; omega)
theorem iX0_reach_31 : mn_ins 5 31 = some (0, false, .iload 4, 2) := by decide +kernel
theorem eX0_reach_31 : Ev 5 31 (a0 :: a1 :: a2 :: a3 :: some (.int x) :: ls) (st) h r ↔ Ev 5 33 (a0 :: a1 :: a2 :: a3 :: some (.int x) :: ls) (.int x :: st) h r := ev_iload iX0_reach_31 rfl
theorem iX0_reach_33 : mn_ins 5 33 = some (0, false, .ifCond .eq 15, 3) := by decide +kernel
theorem eX0_reach_33 : Ev 5 33 (ls) (.int x :: st) h r ↔ if x = nI 0 then Ev 5 48 (ls) (st) h r else Ev 5 36 (ls) (st) h r := ev_ifeq iX0_reach_33 (by decide)
theorem iX0_reach_36 : mn_ins 5 36 = some (0, false, .aload_n 0, 1) := by decide +kernel
theorem eX0_reach_36 : Ev 5 36 (some (.ref a) :: ls) (st) h r ↔ Ev 5 37 (some (.ref a) :: ls) (.ref a :: st) h r := ev_aload_n iX0_reach_36 rfl rfl
theorem iX0_reach_37 : mn_ins 5 37 = some (0, false, .getfield 50, 3) := by decide +kernel
theorem eX0_reach_37 : Ev 5 37 (ls) (.ref a :: st) h r ↔ Evk 5 40 ls (mn_gf h a 0 2) st h r := ev_getf iX0_reach_37 (by decide +kernel)
theorem iX0_reach_40 : mn_ins 5 40 = some (0, false, .aload_n 0, 1) := by decide +kernel
theorem eX0_reach_40 : Ev 5 40 (some (.ref a) :: ls) (st) h r ↔ Ev 5 41 (some (.ref a) :: ls) (.ref a :: st) h r := ev_aload_n iX0_reach_40 rfl rfl
theorem iX0_reach_41 : mn_ins 5 41 = some (0, false, .getfield 15, 3) := by decide +kernel
theorem eX0_reach_41 : Ev 5 41 (ls) (.ref a :: st) h r ↔ Evk 5 44 ls (mn_gf h a 0 1) st h r := ev_getf iX0_reach_41 (by decide +kernel)
theorem iX0_reach_44 : mn_ins 5 44 = some (0, false, .arraylength, 1) := by decide +kernel
theorem eX0_reach_44 : Ev 5 44 (ls) (.ref a :: st) h r ↔ Evk 5 45 ls (mn_len h a) st h r := ev_alen iX0_reach_44
theorem iX0_reach_45 : mn_ins 5 45 = some (0, false, .if_icmp .lt 4, 3) := by decide +kernel
theorem eX0_reach_45 : Ev 5 45 (ls) (.int y :: .int x :: st) h r ↔ if x < y then Ev 5 49 (ls) (st) h r else Ev 5 48 (ls) (st) h r := ev_cmplt iX0_reach_45 (by decide)
theorem iX0_reach_48 : mn_ins 5 48 = some (0, false, .return_, 1) := by decide +kernel
theorem eX0_reach_48 : Ev 5 48 (ls) [] h r ↔ r = (h, .inl none) := ev_vret iX0_reach_48 (X := mnI_X0_reach) rfl rfl
theorem iX0_reach_49 : mn_ins 5 49 = some (0, false, .aload_n 0, 1) := by decide +kernel
theorem eX0_reach_49 : Ev 5 49 (some (.ref a) :: ls) (st) h r ↔ Ev 5 50 (some (.ref a) :: ls) (.ref a :: st) h r := ev_aload_n iX0_reach_49 rfl rfl
theorem iX0_reach_50 : mn_ins 5 50 = some (0, false, .getfield 9, 3) := by decide +kernel
theorem eX0_reach_50 : Ev 5 50 (ls) (.ref a :: st) h r ↔ Evk 5 53 ls (mn_gf h a 0 0) st h r := ev_getf iX0_reach_50 (by decide +kernel)
theorem iX0_reach_53 : mn_ins 5 53 = some (0, false, .iload_n 2, 1) := by decide +kernel
theorem eX0_reach_53 : Ev 5 53 (a0 :: a1 :: some (.int x) :: ls) (st) h r ↔ Ev 5 54 (a0 :: a1 :: some (.int x) :: ls) (.int x :: st) h r := ev_iload_n iX0_reach_53 rfl
theorem iX0_reach_54 : mn_ins 5 54 = some (0, false, .iaload, 1) := by decide +kernel
theorem eX0_reach_54 : Ev 5 54 (ls) (.int x :: .ref a :: st) h r ↔ Evk 5 55 ls (mn_al h a 0 x) st h r := ev_iald iX0_reach_54
theorem iX0_reach_55 : mn_ins 5 55 = some (0, false, .ifCond .eq 15, 3) := by decide +kernel
theorem eX0_reach_55 : Ev 5 55 (ls) (.int x :: st) h r ↔ if x = nI 0 then Ev 5 70 (ls) (st) h r else Ev 5 58 (ls) (st) h r := ev_ifeq iX0_reach_55 (by decide)
theorem iX0_reach_58 : mn_ins 5 58 = some (0, false, .aload_n 0, 1) := by decide +kernel
theorem eX0_reach_58 : Ev 5 58 (some (.ref a) :: ls) (st) h r ↔ Ev 5 59 (some (.ref a) :: ls) (.ref a :: st) h r := ev_aload_n iX0_reach_58 rfl rfl
theorem iX0_reach_59 : mn_ins 5 59 = some (0, false, .aload_n 0, 1) := by decide +kernel
theorem eX0_reach_59 : Ev 5 59 (some (.ref a) :: ls) (st) h r ↔ Ev 5 60 (some (.ref a) :: ls) (.ref a :: st) h r := ev_aload_n iX0_reach_59 rfl rfl
theorem iX0_reach_60 : mn_ins 5 60 = some (0, false, .getfield 40, 3) := by decide +kernel
theorem eX0_reach_60 : Ev 5 60 (ls) (.ref a :: st) h r ↔ Evk 5 63 ls (mn_gf h a 0 3) st h r := ev_getf iX0_reach_60 (by decide +kernel)
theorem iX0_reach_63 : mn_ins 5 63 = some (0, false, .iload_n 2, 1) := by decide +kernel
theorem eX0_reach_63 : Ev 5 63 (a0 :: a1 :: some (.int x) :: ls) (st) h r ↔ Ev 5 64 (a0 :: a1 :: some (.int x) :: ls) (.int x :: st) h r := ev_iload_n iX0_reach_63 rfl
theorem iX0_reach_64 : mn_ins 5 64 = some (0, false, .invokestatic 60, 3) := by decide +kernel
theorem eX0_reach_64 (hc : mn_cats st ≤ 8) : Ev 5 64 (ls) (.int y :: .int x :: st) h r ↔ Ev 5 67 (ls) (.int (if y < x then y else x) :: st) h r := Ev_min iX0_reach_64 (q := 136) (by decide +kernel) (x := mnI_X0_reach) rfl (by decide +kernel) hc
theorem iX0_reach_67 : mn_ins 5 67 = some (0, false, .putfield 40, 3) := by decide +kernel
theorem eX0_reach_67 : Ev 5 67 (ls) (w :: .ref a :: st) h r ↔ Evh 5 70 ls st (mn_pf h a 0 3 w) r := ev_putf iX0_reach_67 (by decide +kernel) (by decide +kernel)
theorem iX0_reach_70 : mn_ins 5 70 = some (0, false, .aload_n 0, 1) := by decide +kernel
theorem eX0_reach_70 : Ev 5 70 (some (.ref a) :: ls) (st) h r ↔ Ev 5 71 (some (.ref a) :: ls) (.ref a :: st) h r := ev_aload_n iX0_reach_70 rfl rfl
theorem iX0_reach_71 : mn_ins 5 71 = some (0, false, .getfield 9, 3) := by decide +kernel
theorem eX0_reach_71 : Ev 5 71 (ls) (.ref a :: st) h r ↔ Evk 5 74 ls (mn_gf h a 0 0) st h r := ev_getf iX0_reach_71 (by decide +kernel)
theorem iX0_reach_74 : mn_ins 5 74 = some (0, false, .iload_n 2, 1) := by decide +kernel
theorem eX0_reach_74 : Ev 5 74 (a0 :: a1 :: some (.int x) :: ls) (st) h r ↔ Ev 5 75 (a0 :: a1 :: some (.int x) :: ls) (.int x :: st) h r := ev_iload_n iX0_reach_74 rfl
theorem iX0_reach_75 : mn_ins 5 75 = some (0, false, .dup2, 1) := by decide +kernel
theorem eX0_reach_75 : Ev 5 75 (ls) (.int x :: .ref a :: st) h r ↔ Ev 5 76 (ls) (.int x :: .ref a :: .int x :: .ref a :: st) h r := ev_dup2 iX0_reach_75 rfl rfl
theorem iX0_reach_76 : mn_ins 5 76 = some (0, false, .iaload, 1) := by decide +kernel
theorem eX0_reach_76 : Ev 5 76 (ls) (.int x :: .ref a :: st) h r ↔ Evk 5 77 ls (mn_al h a 0 x) st h r := ev_iald iX0_reach_76
theorem iX0_reach_77 : mn_ins 5 77 = some (0, false, .iconst 1, 1) := by decide +kernel
theorem eX0_reach_77 : Ev 5 77 (ls) (st) h r ↔ Ev 5 78 (ls) (.int (nI 1) :: st) h r := ev_iconst iX0_reach_77 (by decide)
theorem iX0_reach_78 : mn_ins 5 78 = some (0, false, .iload_n 3, 1) := by decide +kernel
theorem eX0_reach_78 : Ev 5 78 (a0 :: a1 :: a2 :: some (.int x) :: ls) (st) h r ↔ Ev 5 79 (a0 :: a1 :: a2 :: some (.int x) :: ls) (.int x :: st) h r := ev_iload_n iX0_reach_78 rfl
theorem iX0_reach_79 : mn_ins 5 79 = some (0, false, .ishl, 1) := by decide +kernel
theorem eX0_reach_79 : Ev 5 79 (ls) (.int y :: .int x :: st) h r ↔ Ev 5 80 (ls) (.int (x <<< (y &&& 31)) :: st) h r := ev_ishl iX0_reach_79
theorem iX0_reach_80 : mn_ins 5 80 = some (0, false, .ior, 1) := by decide +kernel
theorem eX0_reach_80 : Ev 5 80 (ls) (.int y :: .int x :: st) h r ↔ Ev 5 81 (ls) (.int (x ||| y) :: st) h r := ev_ior iX0_reach_80
theorem iX0_reach_81 : mn_ins 5 81 = some (0, false, .iastore, 1) := by decide +kernel
theorem eX0_reach_81 : Ev 5 81 (ls) (.int y :: .int x :: .ref a :: st) h r ↔ Evh 5 82 ls st (mn_asi h a x y) r := ev_iast iX0_reach_81
theorem iX0_reach_82 : mn_ins 5 82 = some (0, false, .aload_n 0, 1) := by decide +kernel
theorem eX0_reach_82 : Ev 5 82 (some (.ref a) :: ls) (st) h r ↔ Ev 5 83 (some (.ref a) :: ls) (.ref a :: st) h r := ev_aload_n iX0_reach_82 rfl rfl
theorem iX0_reach_83 : mn_ins 5 83 = some (0, false, .getfield 15, 3) := by decide +kernel
theorem eX0_reach_83 : Ev 5 83 (ls) (.ref a :: st) h r ↔ Evk 5 86 ls (mn_gf h a 0 1) st h r := ev_getf iX0_reach_83 (by decide +kernel)
theorem iX0_reach_86 : mn_ins 5 86 = some (0, false, .aload_n 0, 1) := by decide +kernel
theorem eX0_reach_86 : Ev 5 86 (some (.ref a) :: ls) (st) h r ↔ Ev 5 87 (some (.ref a) :: ls) (.ref a :: st) h r := ev_aload_n iX0_reach_86 rfl rfl
theorem iX0_reach_87 : mn_ins 5 87 = some (0, false, .getfield 50, 3) := by decide +kernel
theorem eX0_reach_87 : Ev 5 87 (ls) (.ref a :: st) h r ↔ Evk 5 90 ls (mn_gf h a 0 2) st h r := ev_getf iX0_reach_87 (by decide +kernel)
theorem iX0_reach_90 : mn_ins 5 90 = some (0, false, .iload_n 2, 1) := by decide +kernel
theorem eX0_reach_90 : Ev 5 90 (a0 :: a1 :: some (.int x) :: ls) (st) h r ↔ Ev 5 91 (a0 :: a1 :: some (.int x) :: ls) (.int x :: st) h r := ev_iload_n iX0_reach_90 rfl
theorem iX0_reach_91 : mn_ins 5 91 = some (0, false, .bipush 8, 2) := by decide +kernel
theorem eX0_reach_91 : Ev 5 91 (ls) (st) h r ↔ Ev 5 93 (ls) (.int (nI 8) :: st) h r := ev_bipush iX0_reach_91 (by decide)
theorem iX0_reach_93 : mn_ins 5 93 = some (0, false, .imul, 1) := by decide +kernel
theorem eX0_reach_93 : Ev 5 93 (ls) (.int y :: .int x :: st) h r ↔ Ev 5 94 (ls) (.int (x * y) :: st) h r := ev_imul iX0_reach_93
theorem iX0_reach_94 : mn_ins 5 94 = some (0, false, .iload_n 3, 1) := by decide +kernel
theorem eX0_reach_94 : Ev 5 94 (a0 :: a1 :: a2 :: some (.int x) :: ls) (st) h r ↔ Ev 5 95 (a0 :: a1 :: a2 :: some (.int x) :: ls) (.int x :: st) h r := ev_iload_n iX0_reach_94 rfl
theorem iX0_reach_95 : mn_ins 5 95 = some (0, false, .iadd, 1) := by decide +kernel
theorem eX0_reach_95 : Ev 5 95 (ls) (.int y :: .int x :: st) h r ↔ Ev 5 96 (ls) (.int (x + y) :: st) h r := ev_iadd iX0_reach_95
theorem iX0_reach_96 : mn_ins 5 96 = some (0, false, .iastore, 1) := by decide +kernel
theorem eX0_reach_96 : Ev 5 96 (ls) (.int y :: .int x :: .ref a :: st) h r ↔ Evh 5 97 ls st (mn_asi h a x y) r := ev_iast iX0_reach_96
theorem iX0_reach_97 : mn_ins 5 97 = some (0, false, .aload_n 0, 1) := by decide +kernel
theorem eX0_reach_97 : Ev 5 97 (some (.ref a) :: ls) (st) h r ↔ Ev 5 98 (some (.ref a) :: ls) (.ref a :: st) h r := ev_aload_n iX0_reach_97 rfl rfl
theorem iX0_reach_98 : mn_ins 5 98 = some (0, false, .dup, 1) := by decide +kernel
theorem eX0_reach_98 : Ev 5 98 (ls) (.ref a :: st) h r ↔ Ev 5 99 (ls) (.ref a :: .ref a :: st) h r := ev_dup iX0_reach_98 rfl
theorem iX0_reach_99 : mn_ins 5 99 = some (0, false, .getfield 50, 3) := by decide +kernel
theorem eX0_reach_99 : Ev 5 99 (ls) (.ref a :: st) h r ↔ Evk 5 102 ls (mn_gf h a 0 2) st h r := ev_getf iX0_reach_99 (by decide +kernel)
theorem iX0_reach_102 : mn_ins 5 102 = some (0, false, .iconst 1, 1) := by decide +kernel
theorem eX0_reach_102 : Ev 5 102 (ls) (st) h r ↔ Ev 5 103 (ls) (.int (nI 1) :: st) h r := ev_iconst iX0_reach_102 (by decide)
theorem iX0_reach_103 : mn_ins 5 103 = some (0, false, .iadd, 1) := by decide +kernel
theorem eX0_reach_103 : Ev 5 103 (ls) (.int y :: .int x :: st) h r ↔ Ev 5 104 (ls) (.int (x + y) :: st) h r := ev_iadd iX0_reach_103
theorem iX0_reach_104 : mn_ins 5 104 = some (0, false, .putfield 50, 3) := by decide +kernel
theorem eX0_reach_104 : Ev 5 104 (ls) (w :: .ref a :: st) h r ↔ Evh 5 107 ls st (mn_pf h a 0 2 w) r := ev_putf iX0_reach_104 (by decide +kernel) (by decide +kernel)
theorem iX0_reach_107 : mn_ins 5 107 = some (0, false, .return_, 1) := by decide +kernel
theorem eX0_reach_107 : Ev 5 107 (ls) [] h r ↔ r = (h, .inl none) := ev_vret iX0_reach_107 (X := mnI_X0_reach) rfl rfl
theorem iX3_init_0 : mn_ins 22 0 = some (3, true, .aload_n 0, 1) := by decide +kernel
theorem eX3_init_0 : Ev 22 0 (some (.ref a) :: ls) (st) h r ↔ Ev 22 1 (some (.ref a) :: ls) (.ref a :: st) h r := ev_aload_n iX3_init_0 rfl rfl
theorem iX3_init_1 : mn_ins 22 1 = some (3, true, .invokespecial 3, 3) := by decide +kernel
theorem eX3_init_1 (hc : mn_cats st ≤ 8) : Ev 22 1 (ls) (.ref a :: st) h r ↔ Ev 22 4 (ls) (st) h r := Ev_obj iX3_init_1 (q := 0) (by decide +kernel) (x := mnI_X3_init) rfl (by decide) hc
theorem iX3_init_4 : mn_ins 22 4 = some (3, true, .aload_n 0, 1) := by decide +kernel
theorem eX3_init_4 : Ev 22 4 (some (.ref a) :: ls) (st) h r ↔ Ev 22 5 (some (.ref a) :: ls) (.ref a :: st) h r := ev_aload_n iX3_init_4 rfl rfl
theorem iX3_init_5 : mn_ins 22 5 = some (3, true, .bipush 6, 2) := by decide +kernel
theorem eX3_init_5 : Ev 22 5 (ls) (st) h r ↔ Ev 22 7 (ls) (.int (nI 6) :: st) h r := ev_bipush iX3_init_5 (by decide)
theorem iX3_init_7 : mn_ins 22 7 = some (3, true, .anewarray 9, 3) := by decide +kernel
theorem eX3_init_7 : Ev 22 7 (ls) (.int x :: st) h r ↔ Evn 22 10 ls st (mn_na h 3 x) r := ev_newq1 iX3_init_7 (by decide +kernel)
theorem iX3_init_10 : mn_ins 22 10 = some (3, true, .putfield 11, 3) := by decide +kernel
theorem eX3_init_10 : Ev 22 10 (ls) (w :: .ref a :: st) h r ↔ Evh 22 13 ls st (mn_pf h a 3 0 w) r := ev_putf iX3_init_10 (by decide +kernel) (by decide +kernel)
theorem iX3_init_13 : mn_ins 22 13 = some (3, true, .aload_n 0, 1) := by decide +kernel
theorem eX3_init_13 : Ev 22 13 (some (.ref a) :: ls) (st) h r ↔ Ev 22 14 (some (.ref a) :: ls) (.ref a :: st) h r := ev_aload_n iX3_init_13 rfl rfl
theorem iX3_init_14 : mn_ins 22 14 = some (3, true, .iconst 2, 1) := by decide +kernel
theorem eX3_init_14 : Ev 22 14 (ls) (st) h r ↔ Ev 22 15 (ls) (.int (nI 2) :: st) h r := ev_iconst iX3_init_14 (by decide)
theorem iX3_init_15 : mn_ins 22 15 = some (3, true, .anewarray 9, 3) := by decide +kernel
theorem eX3_init_15 : Ev 22 15 (ls) (.int x :: st) h r ↔ Evn 22 18 ls st (mn_na h 3 x) r := ev_newq1 iX3_init_15 (by decide +kernel)
theorem iX3_init_18 : mn_ins 22 18 = some (3, true, .putfield 17, 3) := by decide +kernel
theorem eX3_init_18 : Ev 22 18 (ls) (w :: .ref a :: st) h r ↔ Evh 22 21 ls st (mn_pf h a 3 1 w) r := ev_putf iX3_init_18 (by decide +kernel) (by decide +kernel)
theorem iX3_init_21 : mn_ins 22 21 = some (3, true, .aload_n 0, 1) := by decide +kernel
theorem eX3_init_21 : Ev 22 21 (some (.ref a) :: ls) (st) h r ↔ Ev 22 22 (some (.ref a) :: ls) (.ref a :: st) h r := ev_aload_n iX3_init_21 rfl rfl
theorem iX3_init_22 : mn_ins 22 22 = some (3, true, .bipush 12, 2) := by decide +kernel
theorem eX3_init_22 : Ev 22 22 (ls) (st) h r ↔ Ev 22 24 (ls) (.int (nI 12) :: st) h r := ev_bipush iX3_init_22 (by decide)
theorem iX3_init_24 : mn_ins 22 24 = some (3, true, .newarray .int, 2) := by decide +kernel
theorem eX3_init_24 : Ev 22 24 (ls) (.int x :: st) h r ↔ Evn 22 26 ls st (mn_na h 0 x) r := ev_newi iX3_init_24
theorem iX3_init_26 : mn_ins 22 26 = some (3, true, .putfield 20, 3) := by decide +kernel
theorem eX3_init_26 : Ev 22 26 (ls) (w :: .ref a :: st) h r ↔ Evh 22 29 ls st (mn_pf h a 3 2 w) r := ev_putf iX3_init_26 (by decide +kernel) (by decide +kernel)
theorem iX3_init_29 : mn_ins 22 29 = some (3, true, .aload_n 0, 1) := by decide +kernel
theorem eX3_init_29 : Ev 22 29 (some (.ref a) :: ls) (st) h r ↔ Ev 22 30 (some (.ref a) :: ls) (.ref a :: st) h r := ev_aload_n iX3_init_29 rfl rfl
theorem iX3_init_30 : mn_ins 22 30 = some (3, true, .bipush 12, 2) := by decide +kernel
theorem eX3_init_30 : Ev 22 30 (ls) (st) h r ↔ Ev 22 32 (ls) (.int (nI 12) :: st) h r := ev_bipush iX3_init_30 (by decide)
theorem iX3_init_32 : mn_ins 22 32 = some (3, true, .newarray .int, 2) := by decide +kernel
theorem eX3_init_32 : Ev 22 32 (ls) (.int x :: st) h r ↔ Evn 22 34 ls st (mn_na h 0 x) r := ev_newi iX3_init_32
theorem iX3_init_34 : mn_ins 22 34 = some (3, true, .putfield 24, 3) := by decide +kernel
theorem eX3_init_34 : Ev 22 34 (ls) (w :: .ref a :: st) h r ↔ Evh 22 37 ls st (mn_pf h a 3 3 w) r := ev_putf iX3_init_34 (by decide +kernel) (by decide +kernel)
theorem iX3_init_37 : mn_ins 22 37 = some (3, true, .aload_n 0, 1) := by decide +kernel
theorem eX3_init_37 : Ev 22 37 (some (.ref a) :: ls) (st) h r ↔ Ev 22 38 (some (.ref a) :: ls) (.ref a :: st) h r := ev_aload_n iX3_init_37 rfl rfl
theorem iX3_init_38 : mn_ins 22 38 = some (3, true, .new 27, 3) := by decide +kernel
theorem eX3_init_38 (hs : (mn_new h 0).isSome = true) : Ev 22 38 (ls) (st) h r ↔ Evn 22 41 ls st (mn_new h 0) r := ev_new iX3_init_38 (by decide +kernel) hs
theorem iX3_init_41 : mn_ins 22 41 = some (3, true, .dup, 1) := by decide +kernel
theorem eX3_init_41 : Ev 22 41 (ls) (.ref a :: st) h r ↔ Ev 22 42 (ls) (.ref a :: .ref a :: st) h r := ev_dup iX3_init_41 rfl
theorem iX3_init_42 : mn_ins 22 42 = some (3, true, .invokespecial 29, 3) := by decide +kernel
theorem eX3_init_42 : Ev 22 42 (ls) (.ref b :: st) h r ↔ Evr false (decide (mn_cats st ≤ 8)) 22 42 ls st h.2.2.1 h.2.2.2 (Cl 0 (.ref b :: []) h.1 h.2.1) r := Ev_N (As := []) (q := 4) iX3_init_42 (by decide +kernel) (by decide) (x := mnI_X3_init) (x2 := mnI_X0_init) rfl rfl rfl (by decide +kernel) (Nat.le_of_ble_eq_true rfl) rfl
theorem iX3_init_45 : mn_ins 22 45 = some (3, true, .putfield 30, 3) := by decide +kernel
theorem eX3_init_45 : Ev 22 45 (ls) (w :: .ref a :: st) h r ↔ Evh 22 48 ls st (mn_pf h a 3 4 w) r := ev_putf iX3_init_45 (by decide +kernel) (by decide +kernel)
theorem iX3_init_48 : mn_ins 22 48 = some (3, true, .iconst 0, 1) := by decide +kernel
theorem eX3_init_48 : Ev 22 48 (ls) (st) h r ↔ Ev 22 49 (ls) (.int (nI 0) :: st) h r := ev_iconst iX3_init_48 (by decide)
theorem iX3_init_49 : mn_ins 22 49 = some (3, true, .istore_n 1, 1) := by decide +kernel
theorem eX3_init_49 : Ev 22 49 (a0 :: a1 :: ls) (.int x :: st) h r ↔ Ev 22 50 (mn_k a0 :: some (.int x) :: ls) (st) h r := ev_istore_n iX3_init_49 (by show 1 < _; simp only [List.length_cons]; omega)
theorem iX3_init_50 : mn_ins 22 50 = some (3, true, .iload_n 1, 1) := by decide +kernel
theorem eX3_init_50 : Ev 22 50 (a0 :: some (.int x) :: ls) (st) h r ↔ Ev 22 51 (a0 :: some (.int x) :: ls) (.int x :: st) h r := ev_iload_n iX3_init_50 rfl
theorem iX3_init_51 : mn_ins 22 51 = some (3, true, .bipush 6, 2) := by decide +kernel
theorem eX3_init_51 : Ev 22 51 (ls) (st) h r ↔ Ev 22 53 (ls) (.int (nI 6) :: st) h r := ev_bipush iX3_init_51 (by decide)
theorem iX3_init_53 : mn_ins 22 53 = some (3, true, .if_icmp .ge 23, 3) := by decide +kernel
theorem eX3_init_53 : Ev 22 53 (ls) (.int y :: .int x :: st) h r ↔ if y ≤ x then Ev 22 76 (ls) (st) h r else Ev 22 56 (ls) (st) h r := ev_cmpge iX3_init_53 (by decide)
theorem iX3_init_56 : mn_ins 22 56 = some (3, true, .aload_n 0, 1) := by decide +kernel
theorem eX3_init_56 : Ev 22 56 (some (.ref a) :: ls) (st) h r ↔ Ev 22 57 (some (.ref a) :: ls) (.ref a :: st) h r := ev_aload_n iX3_init_56 rfl rfl
theorem iX3_init_57 : mn_ins 22 57 = some (3, true, .getfield 11, 3) := by decide +kernel
theorem eX3_init_57 : Ev 22 57 (ls) (.ref a :: st) h r ↔ Evk 22 60 ls (mn_gf h a 3 0) st h r := ev_getf iX3_init_57 (by decide +kernel)
theorem iX3_init_60 : mn_ins 22 60 = some (3, true, .iload_n 1, 1) := by decide +kernel
theorem eX3_init_60 : Ev 22 60 (a0 :: some (.int x) :: ls) (st) h r ↔ Ev 22 61 (a0 :: some (.int x) :: ls) (.int x :: st) h r := ev_iload_n iX3_init_60 rfl
theorem iX3_init_61 : mn_ins 22 61 = some (3, true, .new 9, 3) := by decide +kernel
theorem eX3_init_61 (hs : (mn_new h 1).isSome = true) : Ev 22 61 (ls) (st) h r ↔ Evn 22 64 ls st (mn_new h 1) r := ev_new iX3_init_61 (by decide +kernel) hs
theorem iX3_init_64 : mn_ins 22 64 = some (3, true, .dup, 1) := by decide +kernel
theorem eX3_init_64 : Ev 22 64 (ls) (.ref a :: st) h r ↔ Ev 22 65 (ls) (.ref a :: .ref a :: st) h r := ev_dup iX3_init_64 rfl
theorem iX3_init_65 : mn_ins 22 65 = some (3, true, .iconst 0, 1) := by decide +kernel
theorem eX3_init_65 : Ev 22 65 (ls) (st) h r ↔ Ev 22 66 (ls) (.int (nI 0) :: st) h r := ev_iconst iX3_init_65 (by decide)
theorem iX3_init_66 : mn_ins 22 66 = some (3, true, .invokespecial 34, 3) := by decide +kernel
theorem eX3_init_66 : Ev 22 66 (ls) (.int x0 :: .ref b :: st) h r ↔ Evr false (decide (mn_cats st ≤ 8)) 22 66 ls st h.2.2.1 h.2.2.2 (Cl 6 (.ref b :: [.int x0]) h.1 h.2.1) r := Ev_N (As := [.int x0]) (q := 2) iX3_init_66 (by decide +kernel) (by decide) (x := mnI_X3_init) (x2 := mnI_X1_init) rfl rfl rfl (by decide +kernel) (Nat.le_of_ble_eq_true rfl) rfl
theorem iX3_init_69 : mn_ins 22 69 = some (3, true, .aastore, 1) := by decide +kernel
theorem eX3_init_69 : Ev 22 69 (ls) (.ref b :: .int x :: .ref a :: st) h r ↔ Evh 22 70 ls st (mn_asq h a x b) r := ev_aast iX3_init_69
theorem iX3_init_70 : mn_ins 22 70 = some (3, true, .iinc 1 1, 3) := by decide +kernel
theorem eX3_init_70 : Ev 22 70 (a0 :: some (.int x) :: ls) (st) h r ↔ Ev 22 73 (mn_k a0 :: some (.int (x + (nI 1))) :: ls) (st) h r := ev_iinc iX3_init_70 rfl (by decide)
theorem iX3_init_73 : mn_ins 22 73 = some (3, true, .goto (-23), 3) := by decide +kernel
theorem eX3_init_73 : Ev 22 73 (ls) (st) h r ↔ Ev 22 50 (ls) (st) h r := ev_goto iX3_init_73 (by decide)
theorem iX3_init_76 : mn_ins 22 76 = some (3, true, .iconst 0, 1) := by decide +kernel
theorem eX3_init_76 : Ev 22 76 (ls) (st) h r ↔ Ev 22 77 (ls) (.int (nI 0) :: st) h r := ev_iconst iX3_init_76 (by decide)
theorem iX3_init_77 : mn_ins 22 77 = some (3, true, .istore_n 1, 1) := by decide +kernel
theorem eX3_init_77 : Ev 22 77 (a0 :: a1 :: ls) (.int x :: st) h r ↔ Ev 22 78 (mn_k a0 :: some (.int x) :: ls) (st) h r := ev_istore_n iX3_init_77 (by show 1 < _; simp only [List.length_cons]; omega)
theorem iX3_init_78 : mn_ins 22 78 = some (3, true, .iload_n 1, 1) := by decide +kernel
theorem eX3_init_78 : Ev 22 78 (a0 :: some (.int x) :: ls) (st) h r ↔ Ev 22 79 (a0 :: some (.int x) :: ls) (.int x :: st) h r := ev_iload_n iX3_init_78 rfl
theorem iX3_init_79 : mn_ins 22 79 = some (3, true, .iconst 2, 1) := by decide +kernel
theorem eX3_init_79 : Ev 22 79 (ls) (st) h r ↔ Ev 22 80 (ls) (.int (nI 2) :: st) h r := ev_iconst iX3_init_79 (by decide)
theorem iX3_init_80 : mn_ins 22 80 = some (3, true, .if_icmp .ge 23, 3) := by decide +kernel
theorem eX3_init_80 : Ev 22 80 (ls) (.int y :: .int x :: st) h r ↔ if y ≤ x then Ev 22 103 (ls) (st) h r else Ev 22 83 (ls) (st) h r := ev_cmpge iX3_init_80 (by decide)
theorem iX3_init_83 : mn_ins 22 83 = some (3, true, .aload_n 0, 1) := by decide +kernel
theorem eX3_init_83 : Ev 22 83 (some (.ref a) :: ls) (st) h r ↔ Ev 22 84 (some (.ref a) :: ls) (.ref a :: st) h r := ev_aload_n iX3_init_83 rfl rfl
theorem iX3_init_84 : mn_ins 22 84 = some (3, true, .getfield 17, 3) := by decide +kernel
theorem eX3_init_84 : Ev 22 84 (ls) (.ref a :: st) h r ↔ Evk 22 87 ls (mn_gf h a 3 1) st h r := ev_getf iX3_init_84 (by decide +kernel)
theorem iX3_init_87 : mn_ins 22 87 = some (3, true, .iload_n 1, 1) := by decide +kernel
theorem eX3_init_87 : Ev 22 87 (a0 :: some (.int x) :: ls) (st) h r ↔ Ev 22 88 (a0 :: some (.int x) :: ls) (.int x :: st) h r := ev_iload_n iX3_init_87 rfl
theorem iX3_init_88 : mn_ins 22 88 = some (3, true, .new 9, 3) := by decide +kernel
theorem eX3_init_88 (hs : (mn_new h 1).isSome = true) : Ev 22 88 (ls) (st) h r ↔ Evn 22 91 ls st (mn_new h 1) r := ev_new iX3_init_88 (by decide +kernel) hs
theorem iX3_init_91 : mn_ins 22 91 = some (3, true, .dup, 1) := by decide +kernel
theorem eX3_init_91 : Ev 22 91 (ls) (.ref a :: st) h r ↔ Ev 22 92 (ls) (.ref a :: .ref a :: st) h r := ev_dup iX3_init_91 rfl
theorem iX3_init_92 : mn_ins 22 92 = some (3, true, .iconst 1, 1) := by decide +kernel
theorem eX3_init_92 : Ev 22 92 (ls) (st) h r ↔ Ev 22 93 (ls) (.int (nI 1) :: st) h r := ev_iconst iX3_init_92 (by decide)
theorem iX3_init_93 : mn_ins 22 93 = some (3, true, .invokespecial 34, 3) := by decide +kernel
theorem eX3_init_93 : Ev 22 93 (ls) (.int x0 :: .ref b :: st) h r ↔ Evr false (decide (mn_cats st ≤ 8)) 22 93 ls st h.2.2.1 h.2.2.2 (Cl 6 (.ref b :: [.int x0]) h.1 h.2.1) r := Ev_N (As := [.int x0]) (q := 2) iX3_init_93 (by decide +kernel) (by decide) (x := mnI_X3_init) (x2 := mnI_X1_init) rfl rfl rfl (by decide +kernel) (Nat.le_of_ble_eq_true rfl) rfl
theorem iX3_init_96 : mn_ins 22 96 = some (3, true, .aastore, 1) := by decide +kernel
theorem eX3_init_96 : Ev 22 96 (ls) (.ref b :: .int x :: .ref a :: st) h r ↔ Evh 22 97 ls st (mn_asq h a x b) r := ev_aast iX3_init_96
theorem iX3_init_97 : mn_ins 22 97 = some (3, true, .iinc 1 1, 3) := by decide +kernel
theorem eX3_init_97 : Ev 22 97 (a0 :: some (.int x) :: ls) (st) h r ↔ Ev 22 100 (mn_k a0 :: some (.int (x + (nI 1))) :: ls) (st) h r := ev_iinc iX3_init_97 rfl (by decide)
theorem iX3_init_100 : mn_ins 22 100 = some (3, true, .goto (-22), 3) := by decide +kernel
theorem eX3_init_100 : Ev 22 100 (ls) (st) h r ↔ Ev 22 78 (ls) (st) h r := ev_goto iX3_init_100 (by decide)
theorem iX3_init_103 : mn_ins 22 103 = some (3, true, .return_, 1) := by decide +kernel
theorem eX3_init_103 : Ev 22 103 (ls) [] h r ↔ r = (h, .inl none) := ev_vret iX3_init_103 (X := mnI_X3_init) rfl rfl
theorem iX3_canBeginBlock_0 : mn_ins 23 0 = some (3, false, .aload_n 0, 1) := by decide +kernel
theorem eX3_canBeginBlock_0 : Ev 23 0 (some (.ref a) :: ls) (st) h r ↔ Ev 23 1 (some (.ref a) :: ls) (.ref a :: st) h r := ev_aload_n iX3_canBeginBlock_0 rfl rfl
theorem iX3_canBeginBlock_1 : mn_ins 23 1 = some (3, false, .getfield 37, 3) := by decide +kernel
theorem eX3_canBeginBlock_1 : Ev 23 1 (ls) (.ref a :: st) h r ↔ Evk 23 4 ls (mn_gf h a 3 5) st h r := ev_getf iX3_canBeginBlock_1 (by decide +kernel)
theorem iX3_canBeginBlock_4 : mn_ins 23 4 = some (3, false, .bipush 6, 2) := by decide +kernel
theorem eX3_canBeginBlock_4 : Ev 23 4 (ls) (st) h r ↔ Ev 23 6 (ls) (.int (nI 6) :: st) h r := ev_bipush iX3_canBeginBlock_4 (by decide)
theorem iX3_canBeginBlock_6 : mn_ins 23 6 = some (3, false, .if_icmp .ge 7, 3) := by decide +kernel
theorem eX3_canBeginBlock_6 : Ev 23 6 (ls) (.int y :: .int x :: st) h r ↔ if y ≤ x then Ev 23 13 (ls) (st) h r else Ev 23 9 (ls) (st) h r := ev_cmpge iX3_canBeginBlock_6 (by decide)
theorem iX3_canBeginBlock_9 : mn_ins 23 9 = some (3, false, .iconst 1, 1) := by decide +kernel
theorem eX3_canBeginBlock_9 : Ev 23 9 (ls) (st) h r ↔ Ev 23 10 (ls) (.int (nI 1) :: st) h r := ev_iconst iX3_canBeginBlock_9 (by decide)
theorem iX3_canBeginBlock_10 : mn_ins 23 10 = some (3, false, .goto 4, 3) := by decide +kernel
theorem eX3_canBeginBlock_10 : Ev 23 10 (ls) (st) h r ↔ Ev 23 14 (ls) (st) h r := ev_goto iX3_canBeginBlock_10 (by decide)
theorem iX3_canBeginBlock_13 : mn_ins 23 13 = some (3, false, .iconst 0, 1) := by decide +kernel
theorem eX3_canBeginBlock_13 : Ev 23 13 (ls) (st) h r ↔ Ev 23 14 (ls) (.int (nI 0) :: st) h r := ev_iconst iX3_canBeginBlock_13 (by decide)
theorem iX3_canBeginBlock_14 : mn_ins 23 14 = some (3, false, .ireturn, 1) := by decide +kernel
theorem eX3_canBeginBlock_14 (hx : x = 0 ∨ x = 1) : Ev 23 14 (ls) [.int x] h r ↔ r = (h, .inl (some (.int x))) := ev_zret iX3_canBeginBlock_14 (X := mnI_X3_canBeginBlock) rfl rfl hx
theorem iX3_beginBlock_0 : mn_ins 24 0 = some (3, false, .aload_n 0, 1) := by decide +kernel
theorem eX3_beginBlock_0 : Ev 24 0 (some (.ref a) :: ls) (st) h r ↔ Ev 24 1 (some (.ref a) :: ls) (.ref a :: st) h r := ev_aload_n iX3_beginBlock_0 rfl rfl
theorem iX3_beginBlock_1 : mn_ins 24 1 = some (3, false, .invokevirtual 41, 3) := by decide +kernel
theorem eX3_beginBlock_1 : Ev 24 1 (ls) (.ref b :: st) h r ↔ Evr true (decide (mn_cats st ≤ 8) && mn_isc h b 3) 24 1 ls st h.2.2.1 h.2.2.2 (Cl 23 (.ref b :: []) h.1 h.2.1) r := Ev_V (As := []) iX3_beginBlock_1 (by decide +kernel) (x := mnI_X3_beginBlock) (x2 := mnI_X3_canBeginBlock) rfl rfl rfl (by decide +kernel) (Nat.le_of_ble_eq_true rfl) rfl
theorem iX3_beginBlock_4 : mn_ins 24 4 = some (3, false, .ifCond .eq 26, 3) := by decide +kernel
theorem eX3_beginBlock_4 : Ev 24 4 (ls) (.int x :: st) h r ↔ if x = nI 0 then Ev 24 30 (ls) (st) h r else Ev 24 7 (ls) (st) h r := ev_ifeq iX3_beginBlock_4 (by decide)
theorem iX3_beginBlock_7 : mn_ins 24 7 = some (3, false, .aload_n 0, 1) := by decide +kernel
theorem eX3_beginBlock_7 : Ev 24 7 (some (.ref a) :: ls) (st) h r ↔ Ev 24 8 (some (.ref a) :: ls) (.ref a :: st) h r := ev_aload_n iX3_beginBlock_7 rfl rfl
theorem iX3_beginBlock_8 : mn_ins 24 8 = some (3, false, .aload_n 0, 1) := by decide +kernel
theorem eX3_beginBlock_8 : Ev 24 8 (some (.ref a) :: ls) (st) h r ↔ Ev 24 9 (some (.ref a) :: ls) (.ref a :: st) h r := ev_aload_n iX3_beginBlock_8 rfl rfl
theorem iX3_beginBlock_9 : mn_ins 24 9 = some (3, false, .getfield 11, 3) := by decide +kernel
theorem eX3_beginBlock_9 : Ev 24 9 (ls) (.ref a :: st) h r ↔ Evk 24 12 ls (mn_gf h a 3 0) st h r := ev_getf iX3_beginBlock_9 (by decide +kernel)
theorem iX3_beginBlock_12 : mn_ins 24 12 = some (3, false, .aload_n 0, 1) := by decide +kernel
theorem eX3_beginBlock_12 : Ev 24 12 (some (.ref a) :: ls) (st) h r ↔ Ev 24 13 (some (.ref a) :: ls) (.ref a :: st) h r := ev_aload_n iX3_beginBlock_12 rfl rfl
theorem iX3_beginBlock_13 : mn_ins 24 13 = some (3, false, .getfield 37, 3) := by decide +kernel
theorem eX3_beginBlock_13 : Ev 24 13 (ls) (.ref a :: st) h r ↔ Evk 24 16 ls (mn_gf h a 3 5) st h r := ev_getf iX3_beginBlock_13 (by decide +kernel)
theorem iX3_beginBlock_16 : mn_ins 24 16 = some (3, false, .aaload, 1) := by decide +kernel
theorem eX3_beginBlock_16 : Ev 24 16 (ls) (.int x :: .ref a :: st) h r ↔ Evk 24 17 ls (mn_aq h a x) st h r := ev_aald iX3_beginBlock_16
theorem iX3_beginBlock_17 : mn_ins 24 17 = some (3, false, .putfield 45, 3) := by decide +kernel
theorem eX3_beginBlock_17 : Ev 24 17 (ls) (w :: .ref a :: st) h r ↔ Evh 24 20 ls st (mn_pf h a 3 7 w) r := ev_putf iX3_beginBlock_17 (by decide +kernel) (by decide +kernel)
theorem iX3_beginBlock_20 : mn_ins 24 20 = some (3, false, .aload_n 0, 1) := by decide +kernel
theorem eX3_beginBlock_20 : Ev 24 20 (some (.ref a) :: ls) (st) h r ↔ Ev 24 21 (some (.ref a) :: ls) (.ref a :: st) h r := ev_aload_n iX3_beginBlock_20 rfl rfl
theorem iX3_beginBlock_21 : mn_ins 24 21 = some (3, false, .dup, 1) := by decide +kernel
theorem eX3_beginBlock_21 : Ev 24 21 (ls) (.ref a :: st) h r ↔ Ev 24 22 (ls) (.ref a :: .ref a :: st) h r := ev_dup iX3_beginBlock_21 rfl
theorem iX3_beginBlock_22 : mn_ins 24 22 = some (3, false, .getfield 37, 3) := by decide +kernel
theorem eX3_beginBlock_22 : Ev 24 22 (ls) (.ref a :: st) h r ↔ Evk 24 25 ls (mn_gf h a 3 5) st h r := ev_getf iX3_beginBlock_22 (by decide +kernel)
theorem iX3_beginBlock_25 : mn_ins 24 25 = some (3, false, .iconst 1, 1) := by decide +kernel
theorem eX3_beginBlock_25 : Ev 24 25 (ls) (st) h r ↔ Ev 24 26 (ls) (.int (nI 1) :: st) h r := ev_iconst iX3_beginBlock_25 (by decide)
theorem iX3_beginBlock_26 : mn_ins 24 26 = some (3, false, .iadd, 1) := by decide +kernel
theorem eX3_beginBlock_26 : Ev 24 26 (ls) (.int y :: .int x :: st) h r ↔ Ev 24 27 (ls) (.int (x + y) :: st) h r := ev_iadd iX3_beginBlock_26
theorem iX3_beginBlock_27 : mn_ins 24 27 = some (3, false, .putfield 37, 3) := by decide +kernel
theorem eX3_beginBlock_27 : Ev 24 27 (ls) (w :: .ref a :: st) h r ↔ Evh 24 30 ls st (mn_pf h a 3 5 w) r := ev_putf iX3_beginBlock_27 (by decide +kernel) (by decide +kernel)
theorem iX3_beginBlock_30 : mn_ins 24 30 = some (3, false, .aload_n 0, 1) := by decide +kernel
theorem eX3_beginBlock_30 : Ev 24 30 (some (.ref a) :: ls) (st) h r ↔ Ev 24 31 (some (.ref a) :: ls) (.ref a :: st) h r := ev_aload_n iX3_beginBlock_30 rfl rfl
theorem iX3_beginBlock_31 : mn_ins 24 31 = some (3, false, .getfield 37, 3) := by decide +kernel
theorem eX3_beginBlock_31 : Ev 24 31 (ls) (.ref a :: st) h r ↔ Evk 24 34 ls (mn_gf h a 3 5) st h r := ev_getf iX3_beginBlock_31 (by decide +kernel)
theorem iX3_beginBlock_34 : mn_ins 24 34 = some (3, false, .iconst 1, 1) := by decide +kernel
theorem eX3_beginBlock_34 : Ev 24 34 (ls) (st) h r ↔ Ev 24 35 (ls) (.int (nI 1) :: st) h r := ev_iconst iX3_beginBlock_34 (by decide)
theorem iX3_beginBlock_35 : mn_ins 24 35 = some (3, false, .isub, 1) := by decide +kernel
theorem eX3_beginBlock_35 : Ev 24 35 (ls) (.int y :: .int x :: st) h r ↔ Ev 24 36 (ls) (.int (x - y) :: st) h r := ev_isub iX3_beginBlock_35
theorem iX3_beginBlock_36 : mn_ins 24 36 = some (3, false, .ireturn, 1) := by decide +kernel
theorem eX3_beginBlock_36 : Ev 24 36 (ls) [.int x] h r ↔ r = (h, .inl (some (.int x))) := ev_iret iX3_beginBlock_36 (X := mnI_X3_beginBlock) rfl rfl
theorem iX3_canBeginMerge_0 : mn_ins 25 0 = some (3, false, .aload_n 0, 1) := by decide +kernel
theorem eX3_canBeginMerge_0 : Ev 25 0 (some (.ref a) :: ls) (st) h r ↔ Ev 25 1 (some (.ref a) :: ls) (.ref a :: st) h r := ev_aload_n iX3_canBeginMerge_0 rfl rfl
theorem iX3_canBeginMerge_1 : mn_ins 25 1 = some (3, false, .getfield 49, 3) := by decide +kernel
theorem eX3_canBeginMerge_1 : Ev 25 1 (ls) (.ref a :: st) h r ↔ Evk 25 4 ls (mn_gf h a 3 6) st h r := ev_getf iX3_canBeginMerge_1 (by decide +kernel)
theorem iX3_canBeginMerge_4 : mn_ins 25 4 = some (3, false, .iconst 2, 1) := by decide +kernel
theorem eX3_canBeginMerge_4 : Ev 25 4 (ls) (st) h r ↔ Ev 25 5 (ls) (.int (nI 2) :: st) h r := ev_iconst iX3_canBeginMerge_4 (by decide)
theorem iX3_canBeginMerge_5 : mn_ins 25 5 = some (3, false, .if_icmp .ge 7, 3) := by decide +kernel
theorem eX3_canBeginMerge_5 : Ev 25 5 (ls) (.int y :: .int x :: st) h r ↔ if y ≤ x then Ev 25 12 (ls) (st) h r else Ev 25 8 (ls) (st) h r := ev_cmpge iX3_canBeginMerge_5 (by decide)
theorem iX3_canBeginMerge_8 : mn_ins 25 8 = some (3, false, .iconst 1, 1) := by decide +kernel
theorem eX3_canBeginMerge_8 : Ev 25 8 (ls) (st) h r ↔ Ev 25 9 (ls) (.int (nI 1) :: st) h r := ev_iconst iX3_canBeginMerge_8 (by decide)
theorem iX3_canBeginMerge_9 : mn_ins 25 9 = some (3, false, .goto 4, 3) := by decide +kernel
theorem eX3_canBeginMerge_9 : Ev 25 9 (ls) (st) h r ↔ Ev 25 13 (ls) (st) h r := ev_goto iX3_canBeginMerge_9 (by decide)
theorem iX3_canBeginMerge_12 : mn_ins 25 12 = some (3, false, .iconst 0, 1) := by decide +kernel
theorem eX3_canBeginMerge_12 : Ev 25 12 (ls) (st) h r ↔ Ev 25 13 (ls) (.int (nI 0) :: st) h r := ev_iconst iX3_canBeginMerge_12 (by decide)
theorem iX3_canBeginMerge_13 : mn_ins 25 13 = some (3, false, .ireturn, 1) := by decide +kernel
theorem eX3_canBeginMerge_13 (hx : x = 0 ∨ x = 1) : Ev 25 13 (ls) [.int x] h r ↔ r = (h, .inl (some (.int x))) := ev_zret iX3_canBeginMerge_13 (X := mnI_X3_canBeginMerge) rfl rfl hx
theorem iX3_beginMerge_0 : mn_ins 26 0 = some (3, false, .aload_n 0, 1) := by decide +kernel
theorem eX3_beginMerge_0 : Ev 26 0 (some (.ref a) :: ls) (st) h r ↔ Ev 26 1 (some (.ref a) :: ls) (.ref a :: st) h r := ev_aload_n iX3_beginMerge_0 rfl rfl
theorem iX3_beginMerge_1 : mn_ins 26 1 = some (3, false, .invokevirtual 52, 3) := by decide +kernel
theorem eX3_beginMerge_1 : Ev 26 1 (ls) (.ref b :: st) h r ↔ Evr true (decide (mn_cats st ≤ 8) && mn_isc h b 3) 26 1 ls st h.2.2.1 h.2.2.2 (Cl 25 (.ref b :: []) h.1 h.2.1) r := Ev_V (As := []) iX3_beginMerge_1 (by decide +kernel) (x := mnI_X3_beginMerge) (x2 := mnI_X3_canBeginMerge) rfl rfl rfl (by decide +kernel) (Nat.le_of_ble_eq_true rfl) rfl
theorem iX3_beginMerge_4 : mn_ins 26 4 = some (3, false, .ifCond .eq 26, 3) := by decide +kernel
theorem eX3_beginMerge_4 : Ev 26 4 (ls) (.int x :: st) h r ↔ if x = nI 0 then Ev 26 30 (ls) (st) h r else Ev 26 7 (ls) (st) h r := ev_ifeq iX3_beginMerge_4 (by decide)
theorem iX3_beginMerge_7 : mn_ins 26 7 = some (3, false, .aload_n 0, 1) := by decide +kernel
theorem eX3_beginMerge_7 : Ev 26 7 (some (.ref a) :: ls) (st) h r ↔ Ev 26 8 (some (.ref a) :: ls) (.ref a :: st) h r := ev_aload_n iX3_beginMerge_7 rfl rfl
theorem iX3_beginMerge_8 : mn_ins 26 8 = some (3, false, .aload_n 0, 1) := by decide +kernel
theorem eX3_beginMerge_8 : Ev 26 8 (some (.ref a) :: ls) (st) h r ↔ Ev 26 9 (some (.ref a) :: ls) (.ref a :: st) h r := ev_aload_n iX3_beginMerge_8 rfl rfl
theorem iX3_beginMerge_9 : mn_ins 26 9 = some (3, false, .getfield 17, 3) := by decide +kernel
theorem eX3_beginMerge_9 : Ev 26 9 (ls) (.ref a :: st) h r ↔ Evk 26 12 ls (mn_gf h a 3 1) st h r := ev_getf iX3_beginMerge_9 (by decide +kernel)
theorem iX3_beginMerge_12 : mn_ins 26 12 = some (3, false, .aload_n 0, 1) := by decide +kernel
theorem eX3_beginMerge_12 : Ev 26 12 (some (.ref a) :: ls) (st) h r ↔ Ev 26 13 (some (.ref a) :: ls) (.ref a :: st) h r := ev_aload_n iX3_beginMerge_12 rfl rfl
theorem iX3_beginMerge_13 : mn_ins 26 13 = some (3, false, .getfield 49, 3) := by decide +kernel
theorem eX3_beginMerge_13 : Ev 26 13 (ls) (.ref a :: st) h r ↔ Evk 26 16 ls (mn_gf h a 3 6) st h r := ev_getf iX3_beginMerge_13 (by decide +kernel)
theorem iX3_beginMerge_16 : mn_ins 26 16 = some (3, false, .aaload, 1) := by decide +kernel
theorem eX3_beginMerge_16 : Ev 26 16 (ls) (.int x :: .ref a :: st) h r ↔ Evk 26 17 ls (mn_aq h a x) st h r := ev_aald iX3_beginMerge_16
theorem iX3_beginMerge_17 : mn_ins 26 17 = some (3, false, .putfield 45, 3) := by decide +kernel
theorem eX3_beginMerge_17 : Ev 26 17 (ls) (w :: .ref a :: st) h r ↔ Evh 26 20 ls st (mn_pf h a 3 7 w) r := ev_putf iX3_beginMerge_17 (by decide +kernel) (by decide +kernel)
theorem iX3_beginMerge_20 : mn_ins 26 20 = some (3, false, .aload_n 0, 1) := by decide +kernel
theorem eX3_beginMerge_20 : Ev 26 20 (some (.ref a) :: ls) (st) h r ↔ Ev 26 21 (some (.ref a) :: ls) (.ref a :: st) h r := ev_aload_n iX3_beginMerge_20 rfl rfl
theorem iX3_beginMerge_21 : mn_ins 26 21 = some (3, false, .dup, 1) := by decide +kernel
theorem eX3_beginMerge_21 : Ev 26 21 (ls) (.ref a :: st) h r ↔ Ev 26 22 (ls) (.ref a :: .ref a :: st) h r := ev_dup iX3_beginMerge_21 rfl
theorem iX3_beginMerge_22 : mn_ins 26 22 = some (3, false, .getfield 49, 3) := by decide +kernel
theorem eX3_beginMerge_22 : Ev 26 22 (ls) (.ref a :: st) h r ↔ Evk 26 25 ls (mn_gf h a 3 6) st h r := ev_getf iX3_beginMerge_22 (by decide +kernel)
theorem iX3_beginMerge_25 : mn_ins 26 25 = some (3, false, .iconst 1, 1) := by decide +kernel
theorem eX3_beginMerge_25 : Ev 26 25 (ls) (st) h r ↔ Ev 26 26 (ls) (.int (nI 1) :: st) h r := ev_iconst iX3_beginMerge_25 (by decide)
theorem iX3_beginMerge_26 : mn_ins 26 26 = some (3, false, .iadd, 1) := by decide +kernel
theorem eX3_beginMerge_26 : Ev 26 26 (ls) (.int y :: .int x :: st) h r ↔ Ev 26 27 (ls) (.int (x + y) :: st) h r := ev_iadd iX3_beginMerge_26
theorem iX3_beginMerge_27 : mn_ins 26 27 = some (3, false, .putfield 49, 3) := by decide +kernel
theorem eX3_beginMerge_27 : Ev 26 27 (ls) (w :: .ref a :: st) h r ↔ Evh 26 30 ls st (mn_pf h a 3 6 w) r := ev_putf iX3_beginMerge_27 (by decide +kernel) (by decide +kernel)
theorem iX3_beginMerge_30 : mn_ins 26 30 = some (3, false, .aload_n 0, 1) := by decide +kernel
theorem eX3_beginMerge_30 : Ev 26 30 (some (.ref a) :: ls) (st) h r ↔ Ev 26 31 (some (.ref a) :: ls) (.ref a :: st) h r := ev_aload_n iX3_beginMerge_30 rfl rfl
theorem iX3_beginMerge_31 : mn_ins 26 31 = some (3, false, .getfield 49, 3) := by decide +kernel
theorem eX3_beginMerge_31 : Ev 26 31 (ls) (.ref a :: st) h r ↔ Evk 26 34 ls (mn_gf h a 3 6) st h r := ev_getf iX3_beginMerge_31 (by decide +kernel)
theorem iX3_beginMerge_34 : mn_ins 26 34 = some (3, false, .iconst 1, 1) := by decide +kernel
theorem eX3_beginMerge_34 : Ev 26 34 (ls) (st) h r ↔ Ev 26 35 (ls) (.int (nI 1) :: st) h r := ev_iconst iX3_beginMerge_34 (by decide)
theorem iX3_beginMerge_35 : mn_ins 26 35 = some (3, false, .isub, 1) := by decide +kernel
theorem eX3_beginMerge_35 : Ev 26 35 (ls) (.int y :: .int x :: st) h r ↔ Ev 26 36 (ls) (.int (x - y) :: st) h r := ev_isub iX3_beginMerge_35
theorem iX3_beginMerge_36 : mn_ins 26 36 = some (3, false, .ireturn, 1) := by decide +kernel
theorem eX3_beginMerge_36 : Ev 26 36 (ls) [.int x] h r ↔ r = (h, .inl (some (.int x))) := ev_iret iX3_beginMerge_36 (X := mnI_X3_beginMerge) rfl rfl
theorem iX3_blockAt_0 : mn_ins 27 0 = some (3, false, .iload_n 1, 1) := by decide +kernel
theorem eX3_blockAt_0 : Ev 27 0 (a0 :: some (.int x) :: ls) (st) h r ↔ Ev 27 1 (a0 :: some (.int x) :: ls) (.int x :: st) h r := ev_iload_n iX3_blockAt_0 rfl
theorem iX3_blockAt_1 : mn_ins 27 1 = some (3, false, .aload_n 0, 1) := by decide +kernel
theorem eX3_blockAt_1 : Ev 27 1 (some (.ref a) :: ls) (st) h r ↔ Ev 27 2 (some (.ref a) :: ls) (.ref a :: st) h r := ev_aload_n iX3_blockAt_1 rfl rfl
theorem iX3_blockAt_2 : mn_ins 27 2 = some (3, false, .getfield 37, 3) := by decide +kernel
theorem eX3_blockAt_2 : Ev 27 2 (ls) (.ref a :: st) h r ↔ Evk 27 5 ls (mn_gf h a 3 5) st h r := ev_getf iX3_blockAt_2 (by decide +kernel)
theorem iX3_blockAt_5 : mn_ins 27 5 = some (3, false, .invokestatic 55, 3) := by decide +kernel
theorem eX3_blockAt_5 : Ev 27 5 (ls) (.int x1 :: .int x0 :: st) h r ↔ Evr false (decide (mn_cats st ≤ 8)) 27 5 ls st h.2.2.1 h.2.2.2 (Cl 83 [.int x0, .int x1] h.1 h.2.1) r := Ev_T (As := [.int x0, .int x1]) (q := 3) iX3_blockAt_5 (by decide +kernel) (by decide) (x := mnI_X3_blockAt) (x2 := mnI_X7_isWithin) rfl rfl rfl (by decide +kernel) (Nat.le_of_ble_eq_true rfl) rfl
theorem iX3_blockAt_8 : mn_ins 27 8 = some (3, false, .ifCond .eq 12, 3) := by decide +kernel
theorem eX3_blockAt_8 : Ev 27 8 (ls) (.int x :: st) h r ↔ if x = nI 0 then Ev 27 20 (ls) (st) h r else Ev 27 11 (ls) (st) h r := ev_ifeq iX3_blockAt_8 (by decide)
theorem iX3_blockAt_11 : mn_ins 27 11 = some (3, false, .aload_n 0, 1) := by decide +kernel
theorem eX3_blockAt_11 : Ev 27 11 (some (.ref a) :: ls) (st) h r ↔ Ev 27 12 (some (.ref a) :: ls) (.ref a :: st) h r := ev_aload_n iX3_blockAt_11 rfl rfl
theorem iX3_blockAt_12 : mn_ins 27 12 = some (3, false, .getfield 11, 3) := by decide +kernel
theorem eX3_blockAt_12 : Ev 27 12 (ls) (.ref a :: st) h r ↔ Evk 27 15 ls (mn_gf h a 3 0) st h r := ev_getf iX3_blockAt_12 (by decide +kernel)
theorem iX3_blockAt_15 : mn_ins 27 15 = some (3, false, .iload_n 1, 1) := by decide +kernel
theorem eX3_blockAt_15 : Ev 27 15 (a0 :: some (.int x) :: ls) (st) h r ↔ Ev 27 16 (a0 :: some (.int x) :: ls) (.int x :: st) h r := ev_iload_n iX3_blockAt_15 rfl
theorem iX3_blockAt_16 : mn_ins 27 16 = some (3, false, .aaload, 1) := by decide +kernel
theorem eX3_blockAt_16 : Ev 27 16 (ls) (.int x :: .ref a :: st) h r ↔ Evk 27 17 ls (mn_aq h a x) st h r := ev_aald iX3_blockAt_16
theorem iX3_blockAt_17 : mn_ins 27 17 = some (3, false, .goto 9, 3) := by decide +kernel
theorem eX3_blockAt_17 : Ev 27 17 (ls) (st) h r ↔ Ev 27 26 (ls) (st) h r := ev_goto iX3_blockAt_17 (by decide)
theorem iX3_blockAt_20 : mn_ins 27 20 = some (3, false, .aload_n 0, 1) := by decide +kernel
theorem eX3_blockAt_20 : Ev 27 20 (some (.ref a) :: ls) (st) h r ↔ Ev 27 21 (some (.ref a) :: ls) (.ref a :: st) h r := ev_aload_n iX3_blockAt_20 rfl rfl
theorem iX3_blockAt_21 : mn_ins 27 21 = some (3, false, .getfield 11, 3) := by decide +kernel
theorem eX3_blockAt_21 : Ev 27 21 (ls) (.ref a :: st) h r ↔ Evk 27 24 ls (mn_gf h a 3 0) st h r := ev_getf iX3_blockAt_21 (by decide +kernel)
theorem iX3_blockAt_24 : mn_ins 27 24 = some (3, false, .iconst 0, 1) := by decide +kernel
theorem eX3_blockAt_24 : Ev 27 24 (ls) (st) h r ↔ Ev 27 25 (ls) (.int (nI 0) :: st) h r := ev_iconst iX3_blockAt_24 (by decide)
theorem iX3_blockAt_25 : mn_ins 27 25 = some (3, false, .aaload, 1) := by decide +kernel
theorem eX3_blockAt_25 : Ev 27 25 (ls) (.int x :: .ref a :: st) h r ↔ Evk 27 26 ls (mn_aq h a x) st h r := ev_aald iX3_blockAt_25
theorem iX3_blockAt_26 : mn_ins 27 26 = some (3, false, .areturn, 1) := by decide +kernel
theorem eX3_blockAt_26 : Ev 27 26 (ls) [.ref a] h r ↔ r = (h, .inl (some (.ref a))) := ev_aret iX3_blockAt_26 (X := mnI_X3_blockAt) rfl rfl rfl
theorem eX3_blockAt_26n : Ev 27 26 (ls) [.null] h r ↔ r = (h, .inl (some (.null))) := ev_aret iX3_blockAt_26 (X := mnI_X3_blockAt) rfl rfl rfl
theorem eX3_blockAt_26t : Ev 27 26 (ls) [tkv o1] h r ↔ r = (h, .inl (some (tkv o1))) := ev_aret iX3_blockAt_26 (X := mnI_X3_blockAt) rfl rfl tkv_r
theorem eX3_blockAt_26s : Ev 27 26 (ls) [sgv o1] h r ↔ r = (h, .inl (some (sgv o1))) := ev_aret iX3_blockAt_26 (X := mnI_X3_blockAt) rfl rfl sgv_r
theorem eX3_blockAt_26c : Ev 27 26 (ls) [cdv o1] h r ↔ r = (h, .inl (some (cdv o1))) := ev_aret iX3_blockAt_26 (X := mnI_X3_blockAt) rfl rfl cdv_r
theorem iX3_hasRoom_0 : mn_ins 28 0 = some (3, false, .aload_n 0, 1) := by decide +kernel
theorem eX3_hasRoom_0 : Ev 28 0 (some (.ref a) :: ls) (st) h r ↔ Ev 28 1 (some (.ref a) :: ls) (.ref a :: st) h r := ev_aload_n iX3_hasRoom_0 rfl rfl
theorem iX3_hasRoom_1 : mn_ins 28 1 = some (3, false, .getfield 45, 3) := by decide +kernel
theorem eX3_hasRoom_1 : Ev 28 1 (ls) (.ref a :: st) h r ↔ Evk 28 4 ls (mn_gf h a 3 7) st h r := ev_getf iX3_hasRoom_1 (by decide +kernel)
theorem iX3_hasRoom_4 : mn_ins 28 4 = some (3, false, .ifnull 17, 3) := by decide +kernel
theorem eX3_hasRoom_4 : Ev 28 4 (ls) (va_rf o1 :: st) h r ↔ if o1 = none then Ev 28 21 (ls) (st) h r else Ev 28 7 (ls) (st) h r := ev_ifnull iX3_hasRoom_4 (by decide) (mr_rf _)
theorem eX3_hasRoom_4r : Ev 28 4 (ls) (.ref a :: st) h r ↔ Ev 28 7 (ls) (st) h r := (ev_ifnull (t := 21) (w := .ref a) (x := some a) iX3_hasRoom_4 (by decide) rfl).trans (by rw [if_neg (by simp)])
theorem eX3_hasRoom_4n : Ev 28 4 (ls) (.null :: st) h r ↔ Ev 28 21 (ls) (st) h r := (ev_ifnull (t := 21) (w := .null) (x := none) iX3_hasRoom_4 (by decide) rfl).trans (by rw [if_pos rfl])
theorem iX3_hasRoom_7 : mn_ins 28 7 = some (3, false, .aload_n 0, 1) := by decide +kernel
theorem eX3_hasRoom_7 : Ev 28 7 (some (.ref a) :: ls) (st) h r ↔ Ev 28 8 (some (.ref a) :: ls) (.ref a :: st) h r := ev_aload_n iX3_hasRoom_7 rfl rfl
theorem iX3_hasRoom_8 : mn_ins 28 8 = some (3, false, .getfield 45, 3) := by decide +kernel
theorem eX3_hasRoom_8 : Ev 28 8 (ls) (.ref a :: st) h r ↔ Evk 28 11 ls (mn_gf h a 3 7) st h r := ev_getf iX3_hasRoom_8 (by decide +kernel)
theorem iX3_hasRoom_11 : mn_ins 28 11 = some (3, false, .invokevirtual 59, 3) := by decide +kernel
theorem eX3_hasRoom_11 : Ev 28 11 (ls) (.ref b :: st) h r ↔ Evr true (decide (mn_cats st ≤ 8) && mn_isc h b 1) 28 11 ls st h.2.2.1 h.2.2.2 (Cl 7 (.ref b :: []) h.1 h.2.1) r := Ev_V (As := []) iX3_hasRoom_11 (by decide +kernel) (x := mnI_X3_hasRoom) (x2 := mnI_X1_isFull) rfl rfl rfl (by decide +kernel) (Nat.le_of_ble_eq_true rfl) rfl
theorem iX3_hasRoom_14 : mn_ins 28 14 = some (3, false, .ifCond .ne 7, 3) := by decide +kernel
theorem eX3_hasRoom_14 : Ev 28 14 (ls) (.int x :: st) h r ↔ if x = nI 0 then Ev 28 17 (ls) (st) h r else Ev 28 21 (ls) (st) h r := ev_ifne iX3_hasRoom_14 (by decide)
theorem iX3_hasRoom_17 : mn_ins 28 17 = some (3, false, .iconst 1, 1) := by decide +kernel
theorem eX3_hasRoom_17 : Ev 28 17 (ls) (st) h r ↔ Ev 28 18 (ls) (.int (nI 1) :: st) h r := ev_iconst iX3_hasRoom_17 (by decide)
theorem iX3_hasRoom_18 : mn_ins 28 18 = some (3, false, .goto 4, 3) := by decide +kernel
theorem eX3_hasRoom_18 : Ev 28 18 (ls) (st) h r ↔ Ev 28 22 (ls) (st) h r := ev_goto iX3_hasRoom_18 (by decide)
theorem iX3_hasRoom_21 : mn_ins 28 21 = some (3, false, .iconst 0, 1) := by decide +kernel
theorem eX3_hasRoom_21 : Ev 28 21 (ls) (st) h r ↔ Ev 28 22 (ls) (.int (nI 0) :: st) h r := ev_iconst iX3_hasRoom_21 (by decide)
theorem iX3_hasRoom_22 : mn_ins 28 22 = some (3, false, .ireturn, 1) := by decide +kernel
theorem eX3_hasRoom_22 (hx : x = 0 ∨ x = 1) : Ev 28 22 (ls) [.int x] h r ↔ r = (h, .inl (some (.int x))) := ev_zret iX3_hasRoom_22 (X := mnI_X3_hasRoom) rfl rfl hx
theorem iX3_mergeOf_0 : mn_ins 29 0 = some (3, false, .aload_n 0, 1) := by decide +kernel
theorem eX3_mergeOf_0 : Ev 29 0 (some (.ref a) :: ls) (st) h r ↔ Ev 29 1 (some (.ref a) :: ls) (.ref a :: st) h r := ev_aload_n iX3_mergeOf_0 rfl rfl
theorem iX3_mergeOf_1 : mn_ins 29 1 = some (3, false, .getfield 17, 3) := by decide +kernel
theorem eX3_mergeOf_1 : Ev 29 1 (ls) (.ref a :: st) h r ↔ Evk 29 4 ls (mn_gf h a 3 1) st h r := ev_getf iX3_mergeOf_1 (by decide +kernel)
theorem iX3_mergeOf_4 : mn_ins 29 4 = some (3, false, .aload_n 0, 1) := by decide +kernel
theorem eX3_mergeOf_4 : Ev 29 4 (some (.ref a) :: ls) (st) h r ↔ Ev 29 5 (some (.ref a) :: ls) (.ref a :: st) h r := ev_aload_n iX3_mergeOf_4 rfl rfl
theorem iX3_mergeOf_5 : mn_ins 29 5 = some (3, false, .getfield 24, 3) := by decide +kernel
theorem eX3_mergeOf_5 : Ev 29 5 (ls) (.ref a :: st) h r ↔ Evk 29 8 ls (mn_gf h a 3 3) st h r := ev_getf iX3_mergeOf_5 (by decide +kernel)
theorem iX3_mergeOf_8 : mn_ins 29 8 = some (3, false, .iload_n 1, 1) := by decide +kernel
theorem eX3_mergeOf_8 : Ev 29 8 (a0 :: some (.int x) :: ls) (st) h r ↔ Ev 29 9 (a0 :: some (.int x) :: ls) (.int x :: st) h r := ev_iload_n iX3_mergeOf_8 rfl
theorem iX3_mergeOf_9 : mn_ins 29 9 = some (3, false, .iaload, 1) := by decide +kernel
theorem eX3_mergeOf_9 : Ev 29 9 (ls) (.int x :: .ref a :: st) h r ↔ Evk 29 10 ls (mn_al h a 0 x) st h r := ev_iald iX3_mergeOf_9
theorem iX3_mergeOf_10 : mn_ins 29 10 = some (3, false, .aaload, 1) := by decide +kernel
theorem eX3_mergeOf_10 : Ev 29 10 (ls) (.int x :: .ref a :: st) h r ↔ Evk 29 11 ls (mn_aq h a x) st h r := ev_aald iX3_mergeOf_10
theorem iX3_mergeOf_11 : mn_ins 29 11 = some (3, false, .areturn, 1) := by decide +kernel
theorem eX3_mergeOf_11 : Ev 29 11 (ls) [.ref a] h r ↔ r = (h, .inl (some (.ref a))) := ev_aret iX3_mergeOf_11 (X := mnI_X3_mergeOf) rfl rfl rfl
theorem eX3_mergeOf_11n : Ev 29 11 (ls) [.null] h r ↔ r = (h, .inl (some (.null))) := ev_aret iX3_mergeOf_11 (X := mnI_X3_mergeOf) rfl rfl rfl
theorem eX3_mergeOf_11t : Ev 29 11 (ls) [tkv o1] h r ↔ r = (h, .inl (some (tkv o1))) := ev_aret iX3_mergeOf_11 (X := mnI_X3_mergeOf) rfl rfl tkv_r
theorem eX3_mergeOf_11s : Ev 29 11 (ls) [sgv o1] h r ↔ r = (h, .inl (some (sgv o1))) := ev_aret iX3_mergeOf_11 (X := mnI_X3_mergeOf) rfl rfl sgv_r
theorem eX3_mergeOf_11c : Ev 29 11 (ls) [cdv o1] h r ↔ r = (h, .inl (some (cdv o1))) := ev_aret iX3_mergeOf_11 (X := mnI_X3_mergeOf) rfl rfl cdv_r
theorem iX3_lacksMerge_0 : mn_ins 30 0 = some (3, false, .iconst 0, 1) := by decide +kernel
theorem eX3_lacksMerge_0 : Ev 30 0 (ls) (st) h r ↔ Ev 30 1 (ls) (.int (nI 0) :: st) h r := ev_iconst iX3_lacksMerge_0 (by decide)
theorem iX3_lacksMerge_1 : mn_ins 30 1 = some (3, false, .istore_n 1, 1) := by decide +kernel
theorem eX3_lacksMerge_1 : Ev 30 1 (a0 :: a1 :: ls) (.int x :: st) h r ↔ Ev 30 2 (mn_k a0 :: some (.int x) :: ls) (st) h r := ev_istore_n iX3_lacksMerge_1 (by show 1 < _; simp only [List.length_cons]; omega)
theorem iX3_lacksMerge_2 : mn_ins 30 2 = some (3, false, .iload_n 1, 1) := by decide +kernel
theorem eX3_lacksMerge_2 : Ev 30 2 (a0 :: some (.int x) :: ls) (st) h r ↔ Ev 30 3 (a0 :: some (.int x) :: ls) (.int x :: st) h r := ev_iload_n iX3_lacksMerge_2 rfl
theorem iX3_lacksMerge_3 : mn_ins 30 3 = some (3, false, .bipush 12, 2) := by decide +kernel
theorem eX3_lacksMerge_3 : Ev 30 3 (ls) (st) h r ↔ Ev 30 5 (ls) (.int (nI 12) :: st) h r := ev_bipush iX3_lacksMerge_3 (by decide)
theorem iX3_lacksMerge_5 : mn_ins 30 5 = some (3, false, .if_icmp .ge 34, 3) := by decide +kernel
theorem eX3_lacksMerge_5 : Ev 30 5 (ls) (.int y :: .int x :: st) h r ↔ if y ≤ x then Ev 30 39 (ls) (st) h r else Ev 30 8 (ls) (st) h r := ev_cmpge iX3_lacksMerge_5 (by decide)
theorem iX3_lacksMerge_8 : mn_ins 30 8 = some (3, false, .aload_n 0, 1) := by decide +kernel
theorem eX3_lacksMerge_8 : Ev 30 8 (some (.ref a) :: ls) (st) h r ↔ Ev 30 9 (some (.ref a) :: ls) (.ref a :: st) h r := ev_aload_n iX3_lacksMerge_8 rfl rfl
theorem iX3_lacksMerge_9 : mn_ins 30 9 = some (3, false, .getfield 20, 3) := by decide +kernel
theorem eX3_lacksMerge_9 : Ev 30 9 (ls) (.ref a :: st) h r ↔ Evk 30 12 ls (mn_gf h a 3 2) st h r := ev_getf iX3_lacksMerge_9 (by decide +kernel)
theorem iX3_lacksMerge_12 : mn_ins 30 12 = some (3, false, .iload_n 1, 1) := by decide +kernel
theorem eX3_lacksMerge_12 : Ev 30 12 (a0 :: some (.int x) :: ls) (st) h r ↔ Ev 30 13 (a0 :: some (.int x) :: ls) (.int x :: st) h r := ev_iload_n iX3_lacksMerge_12 rfl
theorem iX3_lacksMerge_13 : mn_ins 30 13 = some (3, false, .iaload, 1) := by decide +kernel
theorem eX3_lacksMerge_13 : Ev 30 13 (ls) (.int x :: .ref a :: st) h r ↔ Evk 30 14 ls (mn_al h a 0 x) st h r := ev_iald iX3_lacksMerge_13
theorem iX3_lacksMerge_14 : mn_ins 30 14 = some (3, false, .iconst 3, 1) := by decide +kernel
theorem eX3_lacksMerge_14 : Ev 30 14 (ls) (st) h r ↔ Ev 30 15 (ls) (.int (nI 3) :: st) h r := ev_iconst iX3_lacksMerge_14 (by decide)
theorem iX3_lacksMerge_15 : mn_ins 30 15 = some (3, false, .if_icmp .ne 18, 3) := by decide +kernel
theorem eX3_lacksMerge_15 : Ev 30 15 (ls) (.int y :: .int x :: st) h r ↔ if x = y then Ev 30 18 (ls) (st) h r else Ev 30 33 (ls) (st) h r := ev_cmpne iX3_lacksMerge_15 (by decide)
theorem iX3_lacksMerge_18 : mn_ins 30 18 = some (3, false, .aload_n 0, 1) := by decide +kernel
theorem eX3_lacksMerge_18 : Ev 30 18 (some (.ref a) :: ls) (st) h r ↔ Ev 30 19 (some (.ref a) :: ls) (.ref a :: st) h r := ev_aload_n iX3_lacksMerge_18 rfl rfl
theorem iX3_lacksMerge_19 : mn_ins 30 19 = some (3, false, .getfield 24, 3) := by decide +kernel
theorem eX3_lacksMerge_19 : Ev 30 19 (ls) (.ref a :: st) h r ↔ Evk 30 22 ls (mn_gf h a 3 3) st h r := ev_getf iX3_lacksMerge_19 (by decide +kernel)
theorem iX3_lacksMerge_22 : mn_ins 30 22 = some (3, false, .iload_n 1, 1) := by decide +kernel
theorem eX3_lacksMerge_22 : Ev 30 22 (a0 :: some (.int x) :: ls) (st) h r ↔ Ev 30 23 (a0 :: some (.int x) :: ls) (.int x :: st) h r := ev_iload_n iX3_lacksMerge_22 rfl
theorem iX3_lacksMerge_23 : mn_ins 30 23 = some (3, false, .iaload, 1) := by decide +kernel
theorem eX3_lacksMerge_23 : Ev 30 23 (ls) (.int x :: .ref a :: st) h r ↔ Evk 30 24 ls (mn_al h a 0 x) st h r := ev_iald iX3_lacksMerge_23
theorem iX3_lacksMerge_24 : mn_ins 30 24 = some (3, false, .aload_n 0, 1) := by decide +kernel
theorem eX3_lacksMerge_24 : Ev 30 24 (some (.ref a) :: ls) (st) h r ↔ Ev 30 25 (some (.ref a) :: ls) (.ref a :: st) h r := ev_aload_n iX3_lacksMerge_24 rfl rfl
theorem iX3_lacksMerge_25 : mn_ins 30 25 = some (3, false, .getfield 49, 3) := by decide +kernel
theorem eX3_lacksMerge_25 : Ev 30 25 (ls) (.ref a :: st) h r ↔ Evk 30 28 ls (mn_gf h a 3 6) st h r := ev_getf iX3_lacksMerge_25 (by decide +kernel)
theorem iX3_lacksMerge_28 : mn_ins 30 28 = some (3, false, .if_icmp .lt 5, 3) := by decide +kernel
theorem eX3_lacksMerge_28 : Ev 30 28 (ls) (.int y :: .int x :: st) h r ↔ if x < y then Ev 30 33 (ls) (st) h r else Ev 30 31 (ls) (st) h r := ev_cmplt iX3_lacksMerge_28 (by decide)
theorem iX3_lacksMerge_31 : mn_ins 30 31 = some (3, false, .iconst 1, 1) := by decide +kernel
theorem eX3_lacksMerge_31 : Ev 30 31 (ls) (st) h r ↔ Ev 30 32 (ls) (.int (nI 1) :: st) h r := ev_iconst iX3_lacksMerge_31 (by decide)
theorem iX3_lacksMerge_32 : mn_ins 30 32 = some (3, false, .ireturn, 1) := by decide +kernel
theorem eX3_lacksMerge_32 (hx : x = 0 ∨ x = 1) : Ev 30 32 (ls) [.int x] h r ↔ r = (h, .inl (some (.int x))) := ev_zret iX3_lacksMerge_32 (X := mnI_X3_lacksMerge) rfl rfl hx
theorem iX3_lacksMerge_33 : mn_ins 30 33 = some (3, false, .iinc 1 1, 3) := by decide +kernel
theorem eX3_lacksMerge_33 : Ev 30 33 (a0 :: some (.int x) :: ls) (st) h r ↔ Ev 30 36 (mn_k a0 :: some (.int (x + (nI 1))) :: ls) (st) h r := ev_iinc iX3_lacksMerge_33 rfl (by decide)
theorem iX3_lacksMerge_36 : mn_ins 30 36 = some (3, false, .goto (-34), 3) := by decide +kernel
theorem eX3_lacksMerge_36 : Ev 30 36 (ls) (st) h r ↔ Ev 30 2 (ls) (st) h r := ev_goto iX3_lacksMerge_36 (by decide)
theorem iX3_lacksMerge_39 : mn_ins 30 39 = some (3, false, .iconst 0, 1) := by decide +kernel
theorem eX3_lacksMerge_39 : Ev 30 39 (ls) (st) h r ↔ Ev 30 40 (ls) (.int (nI 0) :: st) h r := ev_iconst iX3_lacksMerge_39 (by decide)
theorem iX3_lacksMerge_40 : mn_ins 30 40 = some (3, false, .ireturn, 1) := by decide +kernel
theorem eX3_lacksMerge_40 (hx : x = 0 ∨ x = 1) : Ev 30 40 (ls) [.int x] h r ↔ r = (h, .inl (some (.int x))) := ev_zret iX3_lacksMerge_40 (X := mnI_X3_lacksMerge) rfl rfl hx
theorem iX3_firstFault_0 : mn_ins 31 0 = some (3, false, .iconst 0, 1) := by decide +kernel
theorem eX3_firstFault_0 : Ev 31 0 (ls) (st) h r ↔ Ev 31 1 (ls) (.int (nI 0) :: st) h r := ev_iconst iX3_firstFault_0 (by decide)
theorem iX3_firstFault_1 : mn_ins 31 1 = some (3, false, .istore_n 1, 1) := by decide +kernel
theorem eX3_firstFault_1 : Ev 31 1 (a0 :: a1 :: ls) (.int x :: st) h r ↔ Ev 31 2 (mn_k a0 :: some (.int x) :: ls) (st) h r := ev_istore_n iX3_firstFault_1 (by show 1 < _; simp only [List.length_cons]; omega)
theorem iX3_firstFault_2 : mn_ins 31 2 = some (3, false, .iload_n 1, 1) := by decide +kernel
theorem eX3_firstFault_2 : Ev 31 2 (a0 :: some (.int x) :: ls) (st) h r ↔ Ev 31 3 (a0 :: some (.int x) :: ls) (.int x :: st) h r := ev_iload_n iX3_firstFault_2 rfl
theorem iX3_firstFault_3 : mn_ins 31 3 = some (3, false, .aload_n 0, 1) := by decide +kernel
theorem eX3_firstFault_3 : Ev 31 3 (some (.ref a) :: ls) (st) h r ↔ Ev 31 4 (some (.ref a) :: ls) (.ref a :: st) h r := ev_aload_n iX3_firstFault_3 rfl rfl
theorem iX3_firstFault_4 : mn_ins 31 4 = some (3, false, .getfield 37, 3) := by decide +kernel
theorem eX3_firstFault_4 : Ev 31 4 (ls) (.ref a :: st) h r ↔ Evk 31 7 ls (mn_gf h a 3 5) st h r := ev_getf iX3_firstFault_4 (by decide +kernel)
theorem iX3_firstFault_7 : mn_ins 31 7 = some (3, false, .if_icmp .ge 38, 3) := by decide +kernel
theorem eX3_firstFault_7 : Ev 31 7 (ls) (.int y :: .int x :: st) h r ↔ if y ≤ x then Ev 31 45 (ls) (st) h r else Ev 31 10 (ls) (st) h r := ev_cmpge iX3_firstFault_7 (by decide)
theorem iX3_firstFault_10 : mn_ins 31 10 = some (3, false, .aload_n 0, 1) := by decide +kernel
theorem eX3_firstFault_10 : Ev 31 10 (some (.ref a) :: ls) (st) h r ↔ Ev 31 11 (some (.ref a) :: ls) (.ref a :: st) h r := ev_aload_n iX3_firstFault_10 rfl rfl
theorem iX3_firstFault_11 : mn_ins 31 11 = some (3, false, .getfield 30, 3) := by decide +kernel
theorem eX3_firstFault_11 : Ev 31 11 (ls) (.ref a :: st) h r ↔ Evk 31 14 ls (mn_gf h a 3 4) st h r := ev_getf iX3_firstFault_11 (by decide +kernel)
theorem iX3_firstFault_14 : mn_ins 31 14 = some (3, false, .aload_n 0, 1) := by decide +kernel
theorem eX3_firstFault_14 : Ev 31 14 (some (.ref a) :: ls) (st) h r ↔ Ev 31 15 (some (.ref a) :: ls) (.ref a :: st) h r := ev_aload_n iX3_firstFault_14 rfl rfl
theorem iX3_firstFault_15 : mn_ins 31 15 = some (3, false, .getfield 11, 3) := by decide +kernel
theorem eX3_firstFault_15 : Ev 31 15 (ls) (.ref a :: st) h r ↔ Evk 31 18 ls (mn_gf h a 3 0) st h r := ev_getf iX3_firstFault_15 (by decide +kernel)
theorem iX3_firstFault_18 : mn_ins 31 18 = some (3, false, .iload_n 1, 1) := by decide +kernel
theorem eX3_firstFault_18 : Ev 31 18 (a0 :: some (.int x) :: ls) (st) h r ↔ Ev 31 19 (a0 :: some (.int x) :: ls) (.int x :: st) h r := ev_iload_n iX3_firstFault_18 rfl
theorem iX3_firstFault_19 : mn_ins 31 19 = some (3, false, .aaload, 1) := by decide +kernel
theorem eX3_firstFault_19 : Ev 31 19 (ls) (.int x :: .ref a :: st) h r ↔ Evk 31 20 ls (mn_aq h a x) st h r := ev_aald iX3_firstFault_19
theorem iX3_firstFault_20 : mn_ins 31 20 = some (3, false, .aload_n 0, 1) := by decide +kernel
theorem eX3_firstFault_20 : Ev 31 20 (some (.ref a) :: ls) (st) h r ↔ Ev 31 21 (some (.ref a) :: ls) (.ref a :: st) h r := ev_aload_n iX3_firstFault_20 rfl rfl
theorem iX3_firstFault_21 : mn_ins 31 21 = some (3, false, .getfield 37, 3) := by decide +kernel
theorem eX3_firstFault_21 : Ev 31 21 (ls) (.ref a :: st) h r ↔ Evk 31 24 ls (mn_gf h a 3 5) st h r := ev_getf iX3_firstFault_21 (by decide +kernel)
theorem iX3_firstFault_24 : mn_ins 31 24 = some (3, false, .invokevirtual 62, 3) := by decide +kernel
theorem EgX3_firstFault_24 (hw3 : (mn_r w3).isSome = true) : Ev 31 24 (ls) (.int x1 :: w3 :: .ref b :: st) h r ↔ Evr true (decide (mn_cats st ≤ 8) && mn_isc h b 0) 31 24 ls st h.2.2.1 h.2.2.2 (Cl 1 (.ref b :: [w3, .int x1]) h.1 h.2.1) r := Ev_V (As := [w3, .int x1]) iX3_firstFault_24 (by decide +kernel) (x := mnI_X3_firstFault) (x2 := mnI_X0_faultIn) rfl rfl rfl (by decide +kernel) (by rcases mn_r_is hw3 with ⟨_, rfl⟩ | rfl <;> exact Nat.le_of_ble_eq_true rfl) rfl
theorem eX3_firstFault_24 {cw3 : Nat} : Ev 31 24 (ls) (.int x1 :: (.ref cw3) :: .ref b :: st) h r ↔ Evr true (decide (mn_cats st ≤ 8) && mn_isc h b 0) 31 24 ls st h.2.2.1 h.2.2.2 (Cl 1 (.ref b :: [(.ref cw3), .int x1]) h.1 h.2.1) r := EgX3_firstFault_24 rfl
theorem iX3_firstFault_27 : mn_ins 31 27 = some (3, false, .istore_n 2, 1) := by decide +kernel
theorem eX3_firstFault_27 : Ev 31 27 (a0 :: a1 :: a2 :: ls) (.int x :: st) h r ↔ Ev 31 28 (a0 :: mn_k a1 :: some (.int x) :: ls) (st) h r := ev_istore_n iX3_firstFault_27 (by show 2 < _; simp only [List.length_cons]; omega)
theorem iX3_firstFault_28 : mn_ins 31 28 = some (3, false, .iload_n 2, 1) := by decide +kernel
theorem eX3_firstFault_28 : Ev 31 28 (a0 :: a1 :: some (.int x) :: ls) (st) h r ↔ Ev 31 29 (a0 :: a1 :: some (.int x) :: ls) (.int x :: st) h r := ev_iload_n iX3_firstFault_28 rfl
theorem iX3_firstFault_29 : mn_ins 31 29 = some (3, false, .ifCond .lt 10, 3) := by decide +kernel
theorem eX3_firstFault_29 : Ev 31 29 (ls) (.int x :: st) h r ↔ if x < nI 0 then Ev 31 39 (ls) (st) h r else Ev 31 32 (ls) (st) h r := ev_iflt iX3_firstFault_29 (by decide)
theorem iX3_firstFault_32 : mn_ins 31 32 = some (3, false, .bipush 100, 2) := by decide +kernel
theorem eX3_firstFault_32 : Ev 31 32 (ls) (st) h r ↔ Ev 31 34 (ls) (.int (nI 100) :: st) h r := ev_bipush iX3_firstFault_32 (by decide)
theorem iX3_firstFault_34 : mn_ins 31 34 = some (3, false, .iload_n 1, 1) := by decide +kernel
theorem eX3_firstFault_34 : Ev 31 34 (a0 :: some (.int x) :: ls) (st) h r ↔ Ev 31 35 (a0 :: some (.int x) :: ls) (.int x :: st) h r := ev_iload_n iX3_firstFault_34 rfl
theorem iX3_firstFault_35 : mn_ins 31 35 = some (3, false, .imul, 1) := by decide +kernel
theorem eX3_firstFault_35 : Ev 31 35 (ls) (.int y :: .int x :: st) h r ↔ Ev 31 36 (ls) (.int (x * y) :: st) h r := ev_imul iX3_firstFault_35
theorem iX3_firstFault_36 : mn_ins 31 36 = some (3, false, .iload_n 2, 1) := by decide +kernel
theorem eX3_firstFault_36 : Ev 31 36 (a0 :: a1 :: some (.int x) :: ls) (st) h r ↔ Ev 31 37 (a0 :: a1 :: some (.int x) :: ls) (.int x :: st) h r := ev_iload_n iX3_firstFault_36 rfl
theorem iX3_firstFault_37 : mn_ins 31 37 = some (3, false, .iadd, 1) := by decide +kernel
theorem eX3_firstFault_37 : Ev 31 37 (ls) (.int y :: .int x :: st) h r ↔ Ev 31 38 (ls) (.int (x + y) :: st) h r := ev_iadd iX3_firstFault_37
theorem iX3_firstFault_38 : mn_ins 31 38 = some (3, false, .ireturn, 1) := by decide +kernel
theorem eX3_firstFault_38 : Ev 31 38 (ls) [.int x] h r ↔ r = (h, .inl (some (.int x))) := ev_iret iX3_firstFault_38 (X := mnI_X3_firstFault) rfl rfl
theorem iX3_firstFault_39 : mn_ins 31 39 = some (3, false, .iinc 1 1, 3) := by decide +kernel
theorem eX3_firstFault_39 : Ev 31 39 (a0 :: some (.int x) :: ls) (st) h r ↔ Ev 31 42 (mn_k a0 :: some (.int (x + (nI 1))) :: ls) (st) h r := ev_iinc iX3_firstFault_39 rfl (by decide)
theorem iX3_firstFault_42 : mn_ins 31 42 = some (3, false, .goto (-40), 3) := by decide +kernel
theorem eX3_firstFault_42 : Ev 31 42 (ls) (st) h r ↔ Ev 31 2 (ls) (st) h r := ev_goto iX3_firstFault_42 (by decide)
theorem iX3_firstFault_45 : mn_ins 31 45 = some (3, false, .iconst 0, 1) := by decide +kernel
theorem eX3_firstFault_45 : Ev 31 45 (ls) (st) h r ↔ Ev 31 46 (ls) (.int (nI 0) :: st) h r := ev_iconst iX3_firstFault_45 (by decide)
theorem iX3_firstFault_46 : mn_ins 31 46 = some (3, false, .istore_n 1, 1) := by decide +kernel
theorem eX3_firstFault_46 : Ev 31 46 (a0 :: a1 :: ls) (.int x :: st) h r ↔ Ev 31 47 (mn_k a0 :: some (.int x) :: ls) (st) h r := ev_istore_n iX3_firstFault_46 (by show 1 < _; simp only [List.length_cons]; omega)
theorem iX3_firstFault_47 : mn_ins 31 47 = some (3, false, .iload_n 1, 1) := by decide +kernel
theorem eX3_firstFault_47 : Ev 31 47 (a0 :: some (.int x) :: ls) (st) h r ↔ Ev 31 48 (a0 :: some (.int x) :: ls) (.int x :: st) h r := ev_iload_n iX3_firstFault_47 rfl
theorem iX3_firstFault_48 : mn_ins 31 48 = some (3, false, .aload_n 0, 1) := by decide +kernel
theorem eX3_firstFault_48 : Ev 31 48 (some (.ref a) :: ls) (st) h r ↔ Ev 31 49 (some (.ref a) :: ls) (.ref a :: st) h r := ev_aload_n iX3_firstFault_48 rfl rfl
theorem iX3_firstFault_49 : mn_ins 31 49 = some (3, false, .getfield 49, 3) := by decide +kernel
theorem eX3_firstFault_49 : Ev 31 49 (ls) (.ref a :: st) h r ↔ Evk 31 52 ls (mn_gf h a 3 6) st h r := ev_getf iX3_firstFault_49 (by decide +kernel)
theorem iX3_firstFault_52 : mn_ins 31 52 = some (3, false, .if_icmp .ge 42, 3) := by decide +kernel
theorem eX3_firstFault_52 : Ev 31 52 (ls) (.int y :: .int x :: st) h r ↔ if y ≤ x then Ev 31 94 (ls) (st) h r else Ev 31 55 (ls) (st) h r := ev_cmpge iX3_firstFault_52 (by decide)
theorem iX3_firstFault_55 : mn_ins 31 55 = some (3, false, .aload_n 0, 1) := by decide +kernel
theorem eX3_firstFault_55 : Ev 31 55 (some (.ref a) :: ls) (st) h r ↔ Ev 31 56 (some (.ref a) :: ls) (.ref a :: st) h r := ev_aload_n iX3_firstFault_55 rfl rfl
theorem iX3_firstFault_56 : mn_ins 31 56 = some (3, false, .getfield 30, 3) := by decide +kernel
theorem eX3_firstFault_56 : Ev 31 56 (ls) (.ref a :: st) h r ↔ Evk 31 59 ls (mn_gf h a 3 4) st h r := ev_getf iX3_firstFault_56 (by decide +kernel)
theorem iX3_firstFault_59 : mn_ins 31 59 = some (3, false, .aload_n 0, 1) := by decide +kernel
theorem eX3_firstFault_59 : Ev 31 59 (some (.ref a) :: ls) (st) h r ↔ Ev 31 60 (some (.ref a) :: ls) (.ref a :: st) h r := ev_aload_n iX3_firstFault_59 rfl rfl
theorem iX3_firstFault_60 : mn_ins 31 60 = some (3, false, .getfield 17, 3) := by decide +kernel
theorem eX3_firstFault_60 : Ev 31 60 (ls) (.ref a :: st) h r ↔ Evk 31 63 ls (mn_gf h a 3 1) st h r := ev_getf iX3_firstFault_60 (by decide +kernel)
theorem iX3_firstFault_63 : mn_ins 31 63 = some (3, false, .iload_n 1, 1) := by decide +kernel
theorem eX3_firstFault_63 : Ev 31 63 (a0 :: some (.int x) :: ls) (st) h r ↔ Ev 31 64 (a0 :: some (.int x) :: ls) (.int x :: st) h r := ev_iload_n iX3_firstFault_63 rfl
theorem iX3_firstFault_64 : mn_ins 31 64 = some (3, false, .aaload, 1) := by decide +kernel
theorem eX3_firstFault_64 : Ev 31 64 (ls) (.int x :: .ref a :: st) h r ↔ Evk 31 65 ls (mn_aq h a x) st h r := ev_aald iX3_firstFault_64
theorem iX3_firstFault_65 : mn_ins 31 65 = some (3, false, .aload_n 0, 1) := by decide +kernel
theorem eX3_firstFault_65 : Ev 31 65 (some (.ref a) :: ls) (st) h r ↔ Ev 31 66 (some (.ref a) :: ls) (.ref a :: st) h r := ev_aload_n iX3_firstFault_65 rfl rfl
theorem iX3_firstFault_66 : mn_ins 31 66 = some (3, false, .getfield 37, 3) := by decide +kernel
theorem eX3_firstFault_66 : Ev 31 66 (ls) (.ref a :: st) h r ↔ Evk 31 69 ls (mn_gf h a 3 5) st h r := ev_getf iX3_firstFault_66 (by decide +kernel)
theorem iX3_firstFault_69 : mn_ins 31 69 = some (3, false, .invokevirtual 62, 3) := by decide +kernel
theorem EgX3_firstFault_69 (hw3 : (mn_r w3).isSome = true) : Ev 31 69 (ls) (.int x1 :: w3 :: .ref b :: st) h r ↔ Evr true (decide (mn_cats st ≤ 8) && mn_isc h b 0) 31 69 ls st h.2.2.1 h.2.2.2 (Cl 1 (.ref b :: [w3, .int x1]) h.1 h.2.1) r := Ev_V (As := [w3, .int x1]) iX3_firstFault_69 (by decide +kernel) (x := mnI_X3_firstFault) (x2 := mnI_X0_faultIn) rfl rfl rfl (by decide +kernel) (by rcases mn_r_is hw3 with ⟨_, rfl⟩ | rfl <;> exact Nat.le_of_ble_eq_true rfl) rfl
theorem eX3_firstFault_69 {cw3 : Nat} : Ev 31 69 (ls) (.int x1 :: (.ref cw3) :: .ref b :: st) h r ↔ Evr true (decide (mn_cats st ≤ 8) && mn_isc h b 0) 31 69 ls st h.2.2.1 h.2.2.2 (Cl 1 (.ref b :: [(.ref cw3), .int x1]) h.1 h.2.1) r := EgX3_firstFault_69 rfl
theorem iX3_firstFault_72 : mn_ins 31 72 = some (3, false, .istore_n 2, 1) := by decide +kernel
theorem eX3_firstFault_72 : Ev 31 72 (a0 :: a1 :: a2 :: ls) (.int x :: st) h r ↔ Ev 31 73 (a0 :: mn_k a1 :: some (.int x) :: ls) (st) h r := ev_istore_n iX3_firstFault_72 (by show 2 < _; simp only [List.length_cons]; omega)
theorem iX3_firstFault_73 : mn_ins 31 73 = some (3, false, .iload_n 2, 1) := by decide +kernel
theorem eX3_firstFault_73 : Ev 31 73 (a0 :: a1 :: some (.int x) :: ls) (st) h r ↔ Ev 31 74 (a0 :: a1 :: some (.int x) :: ls) (.int x :: st) h r := ev_iload_n iX3_firstFault_73 rfl
theorem iX3_firstFault_74 : mn_ins 31 74 = some (3, false, .ifCond .lt 14, 3) := by decide +kernel
theorem eX3_firstFault_74 : Ev 31 74 (ls) (.int x :: st) h r ↔ if x < nI 0 then Ev 31 88 (ls) (st) h r else Ev 31 77 (ls) (st) h r := ev_iflt iX3_firstFault_74 (by decide)
theorem iX3_firstFault_77 : mn_ins 31 77 = some (3, false, .sipush 1000, 3) := by decide +kernel
theorem eX3_firstFault_77 : Ev 31 77 (ls) (st) h r ↔ Ev 31 80 (ls) (.int (nI 1000) :: st) h r := ev_sipush iX3_firstFault_77 (by decide)
theorem iX3_firstFault_80 : mn_ins 31 80 = some (3, false, .bipush 100, 2) := by decide +kernel
theorem eX3_firstFault_80 : Ev 31 80 (ls) (st) h r ↔ Ev 31 82 (ls) (.int (nI 100) :: st) h r := ev_bipush iX3_firstFault_80 (by decide)
theorem iX3_firstFault_82 : mn_ins 31 82 = some (3, false, .iload_n 1, 1) := by decide +kernel
theorem eX3_firstFault_82 : Ev 31 82 (a0 :: some (.int x) :: ls) (st) h r ↔ Ev 31 83 (a0 :: some (.int x) :: ls) (.int x :: st) h r := ev_iload_n iX3_firstFault_82 rfl
theorem iX3_firstFault_83 : mn_ins 31 83 = some (3, false, .imul, 1) := by decide +kernel
theorem eX3_firstFault_83 : Ev 31 83 (ls) (.int y :: .int x :: st) h r ↔ Ev 31 84 (ls) (.int (x * y) :: st) h r := ev_imul iX3_firstFault_83
theorem iX3_firstFault_84 : mn_ins 31 84 = some (3, false, .iadd, 1) := by decide +kernel
theorem eX3_firstFault_84 : Ev 31 84 (ls) (.int y :: .int x :: st) h r ↔ Ev 31 85 (ls) (.int (x + y) :: st) h r := ev_iadd iX3_firstFault_84
theorem iX3_firstFault_85 : mn_ins 31 85 = some (3, false, .iload_n 2, 1) := by decide +kernel
theorem eX3_firstFault_85 : Ev 31 85 (a0 :: a1 :: some (.int x) :: ls) (st) h r ↔ Ev 31 86 (a0 :: a1 :: some (.int x) :: ls) (.int x :: st) h r := ev_iload_n iX3_firstFault_85 rfl
theorem iX3_firstFault_86 : mn_ins 31 86 = some (3, false, .iadd, 1) := by decide +kernel
theorem eX3_firstFault_86 : Ev 31 86 (ls) (.int y :: .int x :: st) h r ↔ Ev 31 87 (ls) (.int (x + y) :: st) h r := ev_iadd iX3_firstFault_86
theorem iX3_firstFault_87 : mn_ins 31 87 = some (3, false, .ireturn, 1) := by decide +kernel
theorem eX3_firstFault_87 : Ev 31 87 (ls) [.int x] h r ↔ r = (h, .inl (some (.int x))) := ev_iret iX3_firstFault_87 (X := mnI_X3_firstFault) rfl rfl
theorem iX3_firstFault_88 : mn_ins 31 88 = some (3, false, .iinc 1 1, 3) := by decide +kernel
theorem eX3_firstFault_88 : Ev 31 88 (a0 :: some (.int x) :: ls) (st) h r ↔ Ev 31 91 (mn_k a0 :: some (.int (x + (nI 1))) :: ls) (st) h r := ev_iinc iX3_firstFault_88 rfl (by decide)
theorem iX3_firstFault_91 : mn_ins 31 91 = some (3, false, .goto (-44), 3) := by decide +kernel
theorem eX3_firstFault_91 : Ev 31 91 (ls) (st) h r ↔ Ev 31 47 (ls) (st) h r := ev_goto iX3_firstFault_91 (by decide)
theorem iX3_firstFault_94 : mn_ins 31 94 = some (3, false, .iconst (-1), 1) := by decide +kernel
theorem eX3_firstFault_94 : Ev 31 94 (ls) (st) h r ↔ Ev 31 95 (ls) (.int (-1) :: st) h r := ev_iconst iX3_firstFault_94 (by decide)
theorem iX3_firstFault_95 : mn_ins 31 95 = some (3, false, .ireturn, 1) := by decide +kernel
theorem eX3_firstFault_95 : Ev 31 95 (ls) [.int x] h r ↔ r = (h, .inl (some (.int x))) := ev_iret iX3_firstFault_95 (X := mnI_X3_firstFault) rfl rfl
theorem iX6_init_0 : mn_ins 45 0 = some (6, true, .aload_n 0, 1) := by decide +kernel
theorem eX6_init_0 : Ev 45 0 (some (.ref a) :: ls) (st) h r ↔ Ev 45 1 (some (.ref a) :: ls) (.ref a :: st) h r := ev_aload_n iX6_init_0 rfl rfl
theorem iX6_init_1 : mn_ins 45 1 = some (6, true, .invokespecial 3, 3) := by decide +kernel
theorem eX6_init_1 (hc : mn_cats st ≤ 8) : Ev 45 1 (ls) (.ref a :: st) h r ↔ Ev 45 4 (ls) (st) h r := Ev_obj iX6_init_1 (q := 0) (by decide +kernel) (x := mnI_X6_init) rfl (by decide) hc
theorem iX6_init_4 : mn_ins 45 4 = some (6, true, .aload_n 0, 1) := by decide +kernel
theorem eX6_init_4 : Ev 45 4 (some (.ref a) :: ls) (st) h r ↔ Ev 45 5 (some (.ref a) :: ls) (.ref a :: st) h r := ev_aload_n iX6_init_4 rfl rfl
theorem iX6_init_5 : mn_ins 45 5 = some (6, true, .bipush 12, 2) := by decide +kernel
theorem eX6_init_5 : Ev 45 5 (ls) (st) h r ↔ Ev 45 7 (ls) (.int (nI 12) :: st) h r := ev_bipush iX6_init_5 (by decide)
theorem iX6_init_7 : mn_ins 45 7 = some (6, true, .anewarray 9, 3) := by decide +kernel
theorem eX6_init_7 : Ev 45 7 (ls) (.int x :: st) h r ↔ Evn 45 10 ls st (mn_na h 4 x) r := ev_newq5 iX6_init_7 (by decide +kernel)
theorem iX6_init_10 : mn_ins 45 10 = some (6, true, .putfield 11, 3) := by decide +kernel
theorem eX6_init_10 : Ev 45 10 (ls) (w :: .ref a :: st) h r ↔ Evh 45 13 ls st (mn_pf h a 6 1 w) r := ev_putf iX6_init_10 (by decide +kernel) (by decide +kernel)
theorem iX6_init_13 : mn_ins 45 13 = some (6, true, .aload_n 0, 1) := by decide +kernel
theorem eX6_init_13 : Ev 45 13 (some (.ref a) :: ls) (st) h r ↔ Ev 45 14 (some (.ref a) :: ls) (.ref a :: st) h r := ev_aload_n iX6_init_13 rfl rfl
theorem iX6_init_14 : mn_ins 45 14 = some (6, true, .bipush 12, 2) := by decide +kernel
theorem eX6_init_14 : Ev 45 14 (ls) (st) h r ↔ Ev 45 16 (ls) (.int (nI 12) :: st) h r := ev_bipush iX6_init_14 (by decide)
theorem iX6_init_16 : mn_ins 45 16 = some (6, true, .anewarray 9, 3) := by decide +kernel
theorem eX6_init_16 : Ev 45 16 (ls) (.int x :: st) h r ↔ Evn 45 19 ls st (mn_na h 4 x) r := ev_newq5 iX6_init_16 (by decide +kernel)
theorem iX6_init_19 : mn_ins 45 19 = some (6, true, .putfield 17, 3) := by decide +kernel
theorem eX6_init_19 : Ev 45 19 (ls) (w :: .ref a :: st) h r ↔ Evh 45 22 ls st (mn_pf h a 6 2 w) r := ev_putf iX6_init_19 (by decide +kernel) (by decide +kernel)
theorem iX6_init_22 : mn_ins 45 22 = some (6, true, .aload_n 0, 1) := by decide +kernel
theorem eX6_init_22 : Ev 45 22 (some (.ref a) :: ls) (st) h r ↔ Ev 45 23 (some (.ref a) :: ls) (.ref a :: st) h r := ev_aload_n iX6_init_22 rfl rfl
theorem iX6_init_23 : mn_ins 45 23 = some (6, true, .bipush 23, 2) := by decide +kernel
theorem eX6_init_23 : Ev 45 23 (ls) (st) h r ↔ Ev 45 25 (ls) (.int (nI 23) :: st) h r := ev_bipush iX6_init_23 (by decide)
theorem iX6_init_25 : mn_ins 45 25 = some (6, true, .anewarray 20, 3) := by decide +kernel
theorem eX6_init_25 : Ev 45 25 (ls) (.int x :: st) h r ↔ Evn 45 28 ls st (mn_na h 5 x) r := ev_newq4 iX6_init_25 (by decide +kernel)
theorem iX6_init_28 : mn_ins 45 28 = some (6, true, .putfield 22, 3) := by decide +kernel
theorem eX6_init_28 : Ev 45 28 (ls) (w :: .ref a :: st) h r ↔ Evh 45 31 ls st (mn_pf h a 6 3 w) r := ev_putf iX6_init_28 (by decide +kernel) (by decide +kernel)
theorem iX6_init_31 : mn_ins 45 31 = some (6, true, .aload_n 0, 1) := by decide +kernel
theorem eX6_init_31 : Ev 45 31 (some (.ref a) :: ls) (st) h r ↔ Ev 45 32 (some (.ref a) :: ls) (.ref a :: st) h r := ev_aload_n iX6_init_31 rfl rfl
theorem iX6_init_32 : mn_ins 45 32 = some (6, true, .new 26, 3) := by decide +kernel
theorem eX6_init_32 (hs : (mn_new h 2).isSome = true) : Ev 45 32 (ls) (st) h r ↔ Evn 45 35 ls st (mn_new h 2) r := ev_new iX6_init_32 (by decide +kernel) hs
theorem iX6_init_35 : mn_ins 45 35 = some (6, true, .dup, 1) := by decide +kernel
theorem eX6_init_35 : Ev 45 35 (ls) (.ref a :: st) h r ↔ Ev 45 36 (ls) (.ref a :: .ref a :: st) h r := ev_dup iX6_init_35 rfl
theorem iX6_init_36 : mn_ins 45 36 = some (6, true, .invokespecial 28, 3) := by decide +kernel
theorem eX6_init_36 : Ev 45 36 (ls) (.ref b :: st) h r ↔ Evr false (decide (mn_cats st ≤ 8)) 45 36 ls st h.2.2.1 h.2.2.2 (Cl 11 (.ref b :: []) h.1 h.2.1) r := Ev_N (As := []) (q := 4) iX6_init_36 (by decide +kernel) (by decide) (x := mnI_X6_init) (x2 := mnI_X2_init) rfl rfl rfl (by decide +kernel) (Nat.le_of_ble_eq_true rfl) rfl
theorem iX6_init_39 : mn_ins 45 39 = some (6, true, .putfield 29, 3) := by decide +kernel
theorem eX6_init_39 : Ev 45 39 (ls) (w :: .ref a :: st) h r ↔ Evh 45 42 ls st (mn_pf h a 6 4 w) r := ev_putf iX6_init_39 (by decide +kernel) (by decide +kernel)
theorem iX6_init_42 : mn_ins 45 42 = some (6, true, .aload_n 0, 1) := by decide +kernel
theorem eX6_init_42 : Ev 45 42 (some (.ref a) :: ls) (st) h r ↔ Ev 45 43 (some (.ref a) :: ls) (.ref a :: st) h r := ev_aload_n iX6_init_42 rfl rfl
theorem iX6_init_43 : mn_ins 45 43 = some (6, true, .aload_n 1, 1) := by decide +kernel
theorem eX6_init_43 : Ev 45 43 (a0 :: some (.ref a) :: ls) (st) h r ↔ Ev 45 44 (a0 :: some (.ref a) :: ls) (.ref a :: st) h r := ev_aload_n iX6_init_43 rfl rfl
theorem eX6_init_43n : Ev 45 43 (a0 :: some (.null) :: ls) (st) h r ↔ Ev 45 44 (a0 :: some (.null) :: ls) (.null :: st) h r := ev_aload_n iX6_init_43 rfl rfl
theorem eX6_init_43t : Ev 45 43 (a0 :: some (tkv o1) :: ls) (st) h r ↔ Ev 45 44 (a0 :: some (tkv o1) :: ls) (tkv o1 :: st) h r := ev_aload_n iX6_init_43 rfl tkv_r
theorem eX6_init_43s : Ev 45 43 (a0 :: some (sgv o1) :: ls) (st) h r ↔ Ev 45 44 (a0 :: some (sgv o1) :: ls) (sgv o1 :: st) h r := ev_aload_n iX6_init_43 rfl sgv_r
theorem eX6_init_43c : Ev 45 43 (a0 :: some (cdv o1) :: ls) (st) h r ↔ Ev 45 44 (a0 :: some (cdv o1) :: ls) (cdv o1 :: st) h r := ev_aload_n iX6_init_43 rfl cdv_r
theorem iX6_init_44 : mn_ins 45 44 = some (6, true, .putfield 33, 3) := by decide +kernel
theorem eX6_init_44 : Ev 45 44 (ls) (w :: .ref a :: st) h r ↔ Evh 45 47 ls st (mn_pf h a 6 0 w) r := ev_putf iX6_init_44 (by decide +kernel) (by decide +kernel)
theorem iX6_init_47 : mn_ins 45 47 = some (6, true, .iconst 0, 1) := by decide +kernel
theorem eX6_init_47 : Ev 45 47 (ls) (st) h r ↔ Ev 45 48 (ls) (.int (nI 0) :: st) h r := ev_iconst iX6_init_47 (by decide)
theorem iX6_init_48 : mn_ins 45 48 = some (6, true, .istore_n 2, 1) := by decide +kernel
theorem eX6_init_48 : Ev 45 48 (a0 :: a1 :: a2 :: ls) (.int x :: st) h r ↔ Ev 45 49 (a0 :: mn_k a1 :: some (.int x) :: ls) (st) h r := ev_istore_n iX6_init_48 (by show 2 < _; simp only [List.length_cons]; omega)
theorem iX6_init_49 : mn_ins 45 49 = some (6, true, .iload_n 2, 1) := by decide +kernel
theorem eX6_init_49 : Ev 45 49 (a0 :: a1 :: some (.int x) :: ls) (st) h r ↔ Ev 45 50 (a0 :: a1 :: some (.int x) :: ls) (.int x :: st) h r := ev_iload_n iX6_init_49 rfl
theorem iX6_init_50 : mn_ins 45 50 = some (6, true, .aload_n 0, 1) := by decide +kernel
theorem eX6_init_50 : Ev 45 50 (some (.ref a) :: ls) (st) h r ↔ Ev 45 51 (some (.ref a) :: ls) (.ref a :: st) h r := ev_aload_n iX6_init_50 rfl rfl
theorem iX6_init_51 : mn_ins 45 51 = some (6, true, .getfield 11, 3) := by decide +kernel
theorem eX6_init_51 : Ev 45 51 (ls) (.ref a :: st) h r ↔ Evk 45 54 ls (mn_gf h a 6 1) st h r := ev_getf iX6_init_51 (by decide +kernel)
theorem iX6_init_54 : mn_ins 45 54 = some (6, true, .arraylength, 1) := by decide +kernel
theorem eX6_init_54 : Ev 45 54 (ls) (.ref a :: st) h r ↔ Evk 45 55 ls (mn_len h a) st h r := ev_alen iX6_init_54
theorem iX6_init_55 : mn_ins 45 55 = some (6, true, .if_icmp .ge 23, 3) := by decide +kernel
theorem eX6_init_55 : Ev 45 55 (ls) (.int y :: .int x :: st) h r ↔ if y ≤ x then Ev 45 78 (ls) (st) h r else Ev 45 58 (ls) (st) h r := ev_cmpge iX6_init_55 (by decide)
theorem iX6_init_58 : mn_ins 45 58 = some (6, true, .aload_n 0, 1) := by decide +kernel
theorem eX6_init_58 : Ev 45 58 (some (.ref a) :: ls) (st) h r ↔ Ev 45 59 (some (.ref a) :: ls) (.ref a :: st) h r := ev_aload_n iX6_init_58 rfl rfl
theorem iX6_init_59 : mn_ins 45 59 = some (6, true, .getfield 11, 3) := by decide +kernel
theorem eX6_init_59 : Ev 45 59 (ls) (.ref a :: st) h r ↔ Evk 45 62 ls (mn_gf h a 6 1) st h r := ev_getf iX6_init_59 (by decide +kernel)
theorem iX6_init_62 : mn_ins 45 62 = some (6, true, .iload_n 2, 1) := by decide +kernel
theorem eX6_init_62 : Ev 45 62 (a0 :: a1 :: some (.int x) :: ls) (st) h r ↔ Ev 45 63 (a0 :: a1 :: some (.int x) :: ls) (.int x :: st) h r := ev_iload_n iX6_init_62 rfl
theorem iX6_init_63 : mn_ins 45 63 = some (6, true, .new 9, 3) := by decide +kernel
theorem eX6_init_63 (hs : (mn_new h 5).isSome = true) : Ev 45 63 (ls) (st) h r ↔ Evn 45 66 ls st (mn_new h 5) r := ev_new iX6_init_63 (by decide +kernel) hs
theorem iX6_init_66 : mn_ins 45 66 = some (6, true, .dup, 1) := by decide +kernel
theorem eX6_init_66 : Ev 45 66 (ls) (.ref a :: st) h r ↔ Ev 45 67 (ls) (.ref a :: .ref a :: st) h r := ev_dup iX6_init_66 rfl
theorem iX6_init_67 : mn_ins 45 67 = some (6, true, .iload_n 2, 1) := by decide +kernel
theorem eX6_init_67 : Ev 45 67 (a0 :: a1 :: some (.int x) :: ls) (st) h r ↔ Ev 45 68 (a0 :: a1 :: some (.int x) :: ls) (.int x :: st) h r := ev_iload_n iX6_init_67 rfl
theorem iX6_init_68 : mn_ins 45 68 = some (6, true, .invokespecial 37, 3) := by decide +kernel
theorem eX6_init_68 : Ev 45 68 (ls) (.int x0 :: .ref b :: st) h r ↔ Evr false (decide (mn_cats st ≤ 8)) 45 68 ls st h.2.2.1 h.2.2.2 (Cl 40 (.ref b :: [.int x0]) h.1 h.2.1) r := Ev_N (As := [.int x0]) (q := 2) iX6_init_68 (by decide +kernel) (by decide) (x := mnI_X6_init) (x2 := mnI_X5_init) rfl rfl rfl (by decide +kernel) (Nat.le_of_ble_eq_true rfl) rfl
theorem iX6_init_71 : mn_ins 45 71 = some (6, true, .aastore, 1) := by decide +kernel
theorem eX6_init_71 : Ev 45 71 (ls) (.ref b :: .int x :: .ref a :: st) h r ↔ Evh 45 72 ls st (mn_asq h a x b) r := ev_aast iX6_init_71
theorem iX6_init_72 : mn_ins 45 72 = some (6, true, .iinc 2 1, 3) := by decide +kernel
theorem eX6_init_72 : Ev 45 72 (a0 :: a1 :: some (.int x) :: ls) (st) h r ↔ Ev 45 75 (a0 :: mn_k a1 :: some (.int (x + (nI 1))) :: ls) (st) h r := ev_iinc iX6_init_72 rfl (by decide)
theorem iX6_init_75 : mn_ins 45 75 = some (6, true, .goto (-26), 3) := by decide +kernel
theorem eX6_init_75 : Ev 45 75 (ls) (st) h r ↔ Ev 45 49 (ls) (st) h r := ev_goto iX6_init_75 (by decide)
theorem iX6_init_78 : mn_ins 45 78 = some (6, true, .iconst 0, 1) := by decide +kernel
theorem eX6_init_78 : Ev 45 78 (ls) (st) h r ↔ Ev 45 79 (ls) (.int (nI 0) :: st) h r := ev_iconst iX6_init_78 (by decide)
theorem iX6_init_79 : mn_ins 45 79 = some (6, true, .istore_n 2, 1) := by decide +kernel
theorem eX6_init_79 : Ev 45 79 (a0 :: a1 :: a2 :: ls) (.int x :: st) h r ↔ Ev 45 80 (a0 :: mn_k a1 :: some (.int x) :: ls) (st) h r := ev_istore_n iX6_init_79 (by show 2 < _; simp only [List.length_cons]; omega)
theorem iX6_init_80 : mn_ins 45 80 = some (6, true, .iload_n 2, 1) := by decide +kernel
theorem eX6_init_80 : Ev 45 80 (a0 :: a1 :: some (.int x) :: ls) (st) h r ↔ Ev 45 81 (a0 :: a1 :: some (.int x) :: ls) (.int x :: st) h r := ev_iload_n iX6_init_80 rfl
theorem iX6_init_81 : mn_ins 45 81 = some (6, true, .aload_n 0, 1) := by decide +kernel
theorem eX6_init_81 : Ev 45 81 (some (.ref a) :: ls) (st) h r ↔ Ev 45 82 (some (.ref a) :: ls) (.ref a :: st) h r := ev_aload_n iX6_init_81 rfl rfl
theorem iX6_init_82 : mn_ins 45 82 = some (6, true, .getfield 22, 3) := by decide +kernel
theorem eX6_init_82 : Ev 45 82 (ls) (.ref a :: st) h r ↔ Evk 45 85 ls (mn_gf h a 6 3) st h r := ev_getf iX6_init_82 (by decide +kernel)
theorem iX6_init_85 : mn_ins 45 85 = some (6, true, .arraylength, 1) := by decide +kernel
theorem eX6_init_85 : Ev 45 85 (ls) (.ref a :: st) h r ↔ Evk 45 86 ls (mn_len h a) st h r := ev_alen iX6_init_85
theorem iX6_init_86 : mn_ins 45 86 = some (6, true, .if_icmp .ge 22, 3) := by decide +kernel
theorem eX6_init_86 : Ev 45 86 (ls) (.int y :: .int x :: st) h r ↔ if y ≤ x then Ev 45 108 (ls) (st) h r else Ev 45 89 (ls) (st) h r := ev_cmpge iX6_init_86 (by decide)
theorem iX6_init_89 : mn_ins 45 89 = some (6, true, .aload_n 0, 1) := by decide +kernel
theorem eX6_init_89 : Ev 45 89 (some (.ref a) :: ls) (st) h r ↔ Ev 45 90 (some (.ref a) :: ls) (.ref a :: st) h r := ev_aload_n iX6_init_89 rfl rfl
theorem iX6_init_90 : mn_ins 45 90 = some (6, true, .getfield 22, 3) := by decide +kernel
theorem eX6_init_90 : Ev 45 90 (ls) (.ref a :: st) h r ↔ Evk 45 93 ls (mn_gf h a 6 3) st h r := ev_getf iX6_init_90 (by decide +kernel)
theorem iX6_init_93 : mn_ins 45 93 = some (6, true, .iload_n 2, 1) := by decide +kernel
theorem eX6_init_93 : Ev 45 93 (a0 :: a1 :: some (.int x) :: ls) (st) h r ↔ Ev 45 94 (a0 :: a1 :: some (.int x) :: ls) (.int x :: st) h r := ev_iload_n iX6_init_93 rfl
theorem iX6_init_94 : mn_ins 45 94 = some (6, true, .new 20, 3) := by decide +kernel
theorem eX6_init_94 (hs : (mn_new h 4).isSome = true) : Ev 45 94 (ls) (st) h r ↔ Evn 45 97 ls st (mn_new h 4) r := ev_new iX6_init_94 (by decide +kernel) hs
theorem iX6_init_97 : mn_ins 45 97 = some (6, true, .dup, 1) := by decide +kernel
theorem eX6_init_97 : Ev 45 97 (ls) (.ref a :: st) h r ↔ Ev 45 98 (ls) (.ref a :: .ref a :: st) h r := ev_dup iX6_init_97 rfl
theorem iX6_init_98 : mn_ins 45 98 = some (6, true, .invokespecial 40, 3) := by decide +kernel
theorem eX6_init_98 : Ev 45 98 (ls) (.ref b :: st) h r ↔ Evr false (decide (mn_cats st ≤ 8)) 45 98 ls st h.2.2.1 h.2.2.2 (Cl 32 (.ref b :: []) h.1 h.2.1) r := Ev_N (As := []) (q := 4) iX6_init_98 (by decide +kernel) (by decide) (x := mnI_X6_init) (x2 := mnI_X4_init) rfl rfl rfl (by decide +kernel) (Nat.le_of_ble_eq_true rfl) rfl
theorem iX6_init_101 : mn_ins 45 101 = some (6, true, .aastore, 1) := by decide +kernel
theorem eX6_init_101 : Ev 45 101 (ls) (.ref b :: .int x :: .ref a :: st) h r ↔ Evh 45 102 ls st (mn_asq h a x b) r := ev_aast iX6_init_101
theorem iX6_init_102 : mn_ins 45 102 = some (6, true, .iinc 2 1, 3) := by decide +kernel
theorem eX6_init_102 : Ev 45 102 (a0 :: a1 :: some (.int x) :: ls) (st) h r ↔ Ev 45 105 (a0 :: mn_k a1 :: some (.int (x + (nI 1))) :: ls) (st) h r := ev_iinc iX6_init_102 rfl (by decide)
theorem iX6_init_105 : mn_ins 45 105 = some (6, true, .goto (-25), 3) := by decide +kernel
theorem eX6_init_105 : Ev 45 105 (ls) (st) h r ↔ Ev 45 80 (ls) (st) h r := ev_goto iX6_init_105 (by decide)
theorem iX6_init_108 : mn_ins 45 108 = some (6, true, .return_, 1) := by decide +kernel
theorem eX6_init_108 : Ev 45 108 (ls) [] h r ↔ r = (h, .inl none) := ev_vret iX6_init_108 (X := mnI_X6_init) rfl rfl
theorem iX6_hasBegun_0 : mn_ins 46 0 = some (6, false, .aload_n 0, 1) := by decide +kernel
theorem eX6_hasBegun_0 : Ev 46 0 (some (.ref a) :: ls) (st) h r ↔ Ev 46 1 (some (.ref a) :: ls) (.ref a :: st) h r := ev_aload_n iX6_hasBegun_0 rfl rfl
theorem iX6_hasBegun_1 : mn_ins 46 1 = some (6, false, .getfield 41, 3) := by decide +kernel
theorem eX6_hasBegun_1 : Ev 46 1 (ls) (.ref a :: st) h r ↔ Evk 46 4 ls (mn_gf h a 6 5) st h r := ev_getf iX6_hasBegun_1 (by decide +kernel)
theorem iX6_hasBegun_4 : mn_ins 46 4 = some (6, false, .ifCond .le 7, 3) := by decide +kernel
theorem eX6_hasBegun_4 : Ev 46 4 (ls) (.int x :: st) h r ↔ if x ≤ nI 0 then Ev 46 11 (ls) (st) h r else Ev 46 7 (ls) (st) h r := ev_ifle iX6_hasBegun_4 (by decide)
theorem iX6_hasBegun_7 : mn_ins 46 7 = some (6, false, .iconst 1, 1) := by decide +kernel
theorem eX6_hasBegun_7 : Ev 46 7 (ls) (st) h r ↔ Ev 46 8 (ls) (.int (nI 1) :: st) h r := ev_iconst iX6_hasBegun_7 (by decide)
theorem iX6_hasBegun_8 : mn_ins 46 8 = some (6, false, .goto 4, 3) := by decide +kernel
theorem eX6_hasBegun_8 : Ev 46 8 (ls) (st) h r ↔ Ev 46 12 (ls) (st) h r := ev_goto iX6_hasBegun_8 (by decide)
theorem iX6_hasBegun_11 : mn_ins 46 11 = some (6, false, .iconst 0, 1) := by decide +kernel
theorem eX6_hasBegun_11 : Ev 46 11 (ls) (st) h r ↔ Ev 46 12 (ls) (.int (nI 0) :: st) h r := ev_iconst iX6_hasBegun_11 (by decide)
theorem iX6_hasBegun_12 : mn_ins 46 12 = some (6, false, .ireturn, 1) := by decide +kernel
theorem eX6_hasBegun_12 (hx : x = 0 ∨ x = 1) : Ev 46 12 (ls) [.int x] h r ↔ r = (h, .inl (some (.int x))) := ev_zret iX6_hasBegun_12 (X := mnI_X6_hasBegun) rfl rfl hx
theorem iX6_hasTask_0 : mn_ins 47 0 = some (6, false, .iload_n 1, 1) := by decide +kernel
theorem eX6_hasTask_0 : Ev 47 0 (a0 :: some (.int x) :: ls) (st) h r ↔ Ev 47 1 (a0 :: some (.int x) :: ls) (.int x :: st) h r := ev_iload_n iX6_hasTask_0 rfl
theorem iX6_hasTask_1 : mn_ins 47 1 = some (6, false, .aload_n 0, 1) := by decide +kernel
theorem eX6_hasTask_1 : Ev 47 1 (some (.ref a) :: ls) (st) h r ↔ Ev 47 2 (some (.ref a) :: ls) (.ref a :: st) h r := ev_aload_n iX6_hasTask_1 rfl rfl
theorem iX6_hasTask_2 : mn_ins 47 2 = some (6, false, .getfield 41, 3) := by decide +kernel
theorem eX6_hasTask_2 : Ev 47 2 (ls) (.ref a :: st) h r ↔ Evk 47 5 ls (mn_gf h a 6 5) st h r := ev_getf iX6_hasTask_2 (by decide +kernel)
theorem iX6_hasTask_5 : mn_ins 47 5 = some (6, false, .invokestatic 45, 3) := by decide +kernel
theorem eX6_hasTask_5 : Ev 47 5 (ls) (.int x1 :: .int x0 :: st) h r ↔ Evr false (decide (mn_cats st ≤ 8)) 47 5 ls st h.2.2.1 h.2.2.2 (Cl 83 [.int x0, .int x1] h.1 h.2.1) r := Ev_T (As := [.int x0, .int x1]) (q := 3) iX6_hasTask_5 (by decide +kernel) (by decide) (x := mnI_X6_hasTask) (x2 := mnI_X7_isWithin) rfl rfl rfl (by decide +kernel) (Nat.le_of_ble_eq_true rfl) rfl
theorem iX6_hasTask_8 : mn_ins 47 8 = some (6, false, .ireturn, 1) := by decide +kernel
theorem eX6_hasTask_8 (hx : x = 0 ∨ x = 1) : Ev 47 8 (ls) [.int x] h r ↔ r = (h, .inl (some (.int x))) := ev_zret iX6_hasTask_8 (X := mnI_X6_hasTask) rfl rfl hx
theorem iX6_hasUnjoinedTask_0 : mn_ins 48 0 = some (6, false, .iload_n 1, 1) := by decide +kernel
theorem eX6_hasUnjoinedTask_0 : Ev 48 0 (a0 :: some (.int x) :: ls) (st) h r ↔ Ev 48 1 (a0 :: some (.int x) :: ls) (.int x :: st) h r := ev_iload_n iX6_hasUnjoinedTask_0 rfl
theorem iX6_hasUnjoinedTask_1 : mn_ins 48 1 = some (6, false, .aload_n 0, 1) := by decide +kernel
theorem eX6_hasUnjoinedTask_1 : Ev 48 1 (some (.ref a) :: ls) (st) h r ↔ Ev 48 2 (some (.ref a) :: ls) (.ref a :: st) h r := ev_aload_n iX6_hasUnjoinedTask_1 rfl rfl
theorem iX6_hasUnjoinedTask_2 : mn_ins 48 2 = some (6, false, .getfield 41, 3) := by decide +kernel
theorem eX6_hasUnjoinedTask_2 : Ev 48 2 (ls) (.ref a :: st) h r ↔ Evk 48 5 ls (mn_gf h a 6 5) st h r := ev_getf iX6_hasUnjoinedTask_2 (by decide +kernel)
theorem iX6_hasUnjoinedTask_5 : mn_ins 48 5 = some (6, false, .invokestatic 45, 3) := by decide +kernel
theorem eX6_hasUnjoinedTask_5 : Ev 48 5 (ls) (.int x1 :: .int x0 :: st) h r ↔ Evr false (decide (mn_cats st ≤ 8)) 48 5 ls st h.2.2.1 h.2.2.2 (Cl 83 [.int x0, .int x1] h.1 h.2.1) r := Ev_T (As := [.int x0, .int x1]) (q := 3) iX6_hasUnjoinedTask_5 (by decide +kernel) (by decide) (x := mnI_X6_hasUnjoinedTask) (x2 := mnI_X7_isWithin) rfl rfl rfl (by decide +kernel) (Nat.le_of_ble_eq_true rfl) rfl
theorem iX6_hasUnjoinedTask_8 : mn_ins 48 8 = some (6, false, .ifCond .eq 20, 3) := by decide +kernel
theorem eX6_hasUnjoinedTask_8 : Ev 48 8 (ls) (.int x :: st) h r ↔ if x = nI 0 then Ev 48 28 (ls) (st) h r else Ev 48 11 (ls) (st) h r := ev_ifeq iX6_hasUnjoinedTask_8 (by decide)
theorem iX6_hasUnjoinedTask_11 : mn_ins 48 11 = some (6, false, .aload_n 0, 1) := by decide +kernel
theorem eX6_hasUnjoinedTask_11 : Ev 48 11 (some (.ref a) :: ls) (st) h r ↔ Ev 48 12 (some (.ref a) :: ls) (.ref a :: st) h r := ev_aload_n iX6_hasUnjoinedTask_11 rfl rfl
theorem iX6_hasUnjoinedTask_12 : mn_ins 48 12 = some (6, false, .getfield 11, 3) := by decide +kernel
theorem eX6_hasUnjoinedTask_12 : Ev 48 12 (ls) (.ref a :: st) h r ↔ Evk 48 15 ls (mn_gf h a 6 1) st h r := ev_getf iX6_hasUnjoinedTask_12 (by decide +kernel)
theorem iX6_hasUnjoinedTask_15 : mn_ins 48 15 = some (6, false, .iload_n 1, 1) := by decide +kernel
theorem eX6_hasUnjoinedTask_15 : Ev 48 15 (a0 :: some (.int x) :: ls) (st) h r ↔ Ev 48 16 (a0 :: some (.int x) :: ls) (.int x :: st) h r := ev_iload_n iX6_hasUnjoinedTask_15 rfl
theorem iX6_hasUnjoinedTask_16 : mn_ins 48 16 = some (6, false, .aaload, 1) := by decide +kernel
theorem eX6_hasUnjoinedTask_16 : Ev 48 16 (ls) (.int x :: .ref a :: st) h r ↔ Evk 48 17 ls (mn_aq h a x) st h r := ev_aald iX6_hasUnjoinedTask_16
theorem iX6_hasUnjoinedTask_17 : mn_ins 48 17 = some (6, false, .getfield 49, 3) := by decide +kernel
theorem eX6_hasUnjoinedTask_17 : Ev 48 17 (ls) (.ref a :: st) h r ↔ Evk 48 20 ls (mn_gf h a 5 4) st h r := ev_getf iX6_hasUnjoinedTask_17 (by decide +kernel)
theorem iX6_hasUnjoinedTask_20 : mn_ins 48 20 = some (6, false, .iconst 3, 1) := by decide +kernel
theorem eX6_hasUnjoinedTask_20 : Ev 48 20 (ls) (st) h r ↔ Ev 48 21 (ls) (.int (nI 3) :: st) h r := ev_iconst iX6_hasUnjoinedTask_20 (by decide)
theorem iX6_hasUnjoinedTask_21 : mn_ins 48 21 = some (6, false, .if_icmp .eq 7, 3) := by decide +kernel
theorem eX6_hasUnjoinedTask_21 : Ev 48 21 (ls) (.int y :: .int x :: st) h r ↔ if x = y then Ev 48 28 (ls) (st) h r else Ev 48 24 (ls) (st) h r := ev_cmpeq iX6_hasUnjoinedTask_21 (by decide)
theorem iX6_hasUnjoinedTask_24 : mn_ins 48 24 = some (6, false, .iconst 1, 1) := by decide +kernel
theorem eX6_hasUnjoinedTask_24 : Ev 48 24 (ls) (st) h r ↔ Ev 48 25 (ls) (.int (nI 1) :: st) h r := ev_iconst iX6_hasUnjoinedTask_24 (by decide)
theorem iX6_hasUnjoinedTask_25 : mn_ins 48 25 = some (6, false, .goto 4, 3) := by decide +kernel
theorem eX6_hasUnjoinedTask_25 : Ev 48 25 (ls) (st) h r ↔ Ev 48 29 (ls) (st) h r := ev_goto iX6_hasUnjoinedTask_25 (by decide)
theorem iX6_hasUnjoinedTask_28 : mn_ins 48 28 = some (6, false, .iconst 0, 1) := by decide +kernel
theorem eX6_hasUnjoinedTask_28 : Ev 48 28 (ls) (st) h r ↔ Ev 48 29 (ls) (.int (nI 0) :: st) h r := ev_iconst iX6_hasUnjoinedTask_28 (by decide)
theorem iX6_hasUnjoinedTask_29 : mn_ins 48 29 = some (6, false, .ireturn, 1) := by decide +kernel
theorem eX6_hasUnjoinedTask_29 (hx : x = 0 ∨ x = 1) : Ev 48 29 (ls) [.int x] h r ↔ r = (h, .inl (some (.int x))) := ev_zret iX6_hasUnjoinedTask_29 (X := mnI_X6_hasUnjoinedTask) rfl rfl hx
theorem iX6_forget_0 : mn_ins 49 0 = some (6, false, .aload_n 0, 1) := by decide +kernel
theorem eX6_forget_0 : Ev 49 0 (some (.ref a) :: ls) (st) h r ↔ Ev 49 1 (some (.ref a) :: ls) (.ref a :: st) h r := ev_aload_n iX6_forget_0 rfl rfl
theorem iX6_forget_1 : mn_ins 49 1 = some (6, false, .iconst 0, 1) := by decide +kernel
theorem eX6_forget_1 : Ev 49 1 (ls) (st) h r ↔ Ev 49 2 (ls) (.int (nI 0) :: st) h r := ev_iconst iX6_forget_1 (by decide)
theorem iX6_forget_2 : mn_ins 49 2 = some (6, false, .putfield 41, 3) := by decide +kernel
theorem eX6_forget_2 : Ev 49 2 (ls) (w :: .ref a :: st) h r ↔ Evh 49 5 ls st (mn_pf h a 6 5 w) r := ev_putf iX6_forget_2 (by decide +kernel) (by decide +kernel)
theorem iX6_forget_5 : mn_ins 49 5 = some (6, false, .aload_n 0, 1) := by decide +kernel
theorem eX6_forget_5 : Ev 49 5 (some (.ref a) :: ls) (st) h r ↔ Ev 49 6 (some (.ref a) :: ls) (.ref a :: st) h r := ev_aload_n iX6_forget_5 rfl rfl
theorem iX6_forget_6 : mn_ins 49 6 = some (6, false, .iconst 0, 1) := by decide +kernel
theorem eX6_forget_6 : Ev 49 6 (ls) (st) h r ↔ Ev 49 7 (ls) (.int (nI 0) :: st) h r := ev_iconst iX6_forget_6 (by decide)
theorem iX6_forget_7 : mn_ins 49 7 = some (6, false, .putfield 52, 3) := by decide +kernel
theorem eX6_forget_7 : Ev 49 7 (ls) (w :: .ref a :: st) h r ↔ Evh 49 10 ls st (mn_pf h a 6 6 w) r := ev_putf iX6_forget_7 (by decide +kernel) (by decide +kernel)
theorem iX6_forget_10 : mn_ins 49 10 = some (6, false, .aload_n 0, 1) := by decide +kernel
theorem eX6_forget_10 : Ev 49 10 (some (.ref a) :: ls) (st) h r ↔ Ev 49 11 (some (.ref a) :: ls) (.ref a :: st) h r := ev_aload_n iX6_forget_10 rfl rfl
theorem iX6_forget_11 : mn_ins 49 11 = some (6, false, .iconst 0, 1) := by decide +kernel
theorem eX6_forget_11 : Ev 49 11 (ls) (st) h r ↔ Ev 49 12 (ls) (.int (nI 0) :: st) h r := ev_iconst iX6_forget_11 (by decide)
theorem iX6_forget_12 : mn_ins 49 12 = some (6, false, .putfield 55, 3) := by decide +kernel
theorem eX6_forget_12 : Ev 49 12 (ls) (w :: .ref a :: st) h r ↔ Evh 49 15 ls st (mn_pf h a 6 7 w) r := ev_putf iX6_forget_12 (by decide +kernel) (by decide +kernel)
theorem iX6_forget_15 : mn_ins 49 15 = some (6, false, .aload_n 0, 1) := by decide +kernel
theorem eX6_forget_15 : Ev 49 15 (some (.ref a) :: ls) (st) h r ↔ Ev 49 16 (some (.ref a) :: ls) (.ref a :: st) h r := ev_aload_n iX6_forget_15 rfl rfl
theorem iX6_forget_16 : mn_ins 49 16 = some (6, false, .iconst 0, 1) := by decide +kernel
theorem eX6_forget_16 : Ev 49 16 (ls) (st) h r ↔ Ev 49 17 (ls) (.int (nI 0) :: st) h r := ev_iconst iX6_forget_16 (by decide)
theorem iX6_forget_17 : mn_ins 49 17 = some (6, false, .putfield 58, 3) := by decide +kernel
theorem eX6_forget_17 : Ev 49 17 (ls) (w :: .ref a :: st) h r ↔ Evh 49 20 ls st (mn_pf h a 6 8 w) r := ev_putf iX6_forget_17 (by decide +kernel) (by decide +kernel)
theorem iX6_forget_20 : mn_ins 49 20 = some (6, false, .return_, 1) := by decide +kernel
theorem eX6_forget_20 : Ev 49 20 (ls) [] h r ↔ r = (h, .inl none) := ev_vret iX6_forget_20 (X := mnI_X6_forget) rfl rfl
theorem iX6_begin_0 : mn_ins 50 0 = some (6, false, .aload_n 0, 1) := by decide +kernel
theorem eX6_begin_0 : Ev 50 0 (some (.ref a) :: ls) (st) h r ↔ Ev 50 1 (some (.ref a) :: ls) (.ref a :: st) h r := ev_aload_n iX6_begin_0 rfl rfl
theorem iX6_begin_1 : mn_ins 50 1 = some (6, false, .invokevirtual 61, 3) := by decide +kernel
theorem eX6_begin_1 : Ev 50 1 (ls) (.ref b :: st) h r ↔ Evr true (decide (mn_cats st ≤ 8) && mn_isc h b 6) 50 1 ls st h.2.2.1 h.2.2.2 (Cl 49 (.ref b :: []) h.1 h.2.1) r := Ev_V (As := []) iX6_begin_1 (by decide +kernel) (x := mnI_X6_begin) (x2 := mnI_X6_forget) rfl rfl rfl (by decide +kernel) (Nat.le_of_ble_eq_true rfl) rfl
theorem iX6_begin_4 : mn_ins 50 4 = some (6, false, .aload_n 0, 1) := by decide +kernel
theorem eX6_begin_4 : Ev 50 4 (some (.ref a) :: ls) (st) h r ↔ Ev 50 5 (some (.ref a) :: ls) (.ref a :: st) h r := ev_aload_n iX6_begin_4 rfl rfl
theorem iX6_begin_5 : mn_ins 50 5 = some (6, false, .getfield 11, 3) := by decide +kernel
theorem eX6_begin_5 : Ev 50 5 (ls) (.ref a :: st) h r ↔ Evk 50 8 ls (mn_gf h a 6 1) st h r := ev_getf iX6_begin_5 (by decide +kernel)
theorem iX6_begin_8 : mn_ins 50 8 = some (6, false, .iconst 0, 1) := by decide +kernel
theorem eX6_begin_8 : Ev 50 8 (ls) (st) h r ↔ Ev 50 9 (ls) (.int (nI 0) :: st) h r := ev_iconst iX6_begin_8 (by decide)
theorem iX6_begin_9 : mn_ins 50 9 = some (6, false, .aaload, 1) := by decide +kernel
theorem eX6_begin_9 : Ev 50 9 (ls) (.int x :: .ref a :: st) h r ↔ Evk 50 10 ls (mn_aq h a x) st h r := ev_aald iX6_begin_9
theorem iX6_begin_10 : mn_ins 50 10 = some (6, false, .aconst_null, 1) := by decide +kernel
theorem eX6_begin_10 : Ev 50 10 (ls) (st) h r ↔ Ev 50 11 (ls) (.null :: st) h r := ev_null iX6_begin_10
theorem iX6_begin_11 : mn_ins 50 11 = some (6, false, .aconst_null, 1) := by decide +kernel
theorem eX6_begin_11 : Ev 50 11 (ls) (st) h r ↔ Ev 50 12 (ls) (.null :: st) h r := ev_null iX6_begin_11
theorem iX6_begin_12 : mn_ins 50 12 = some (6, false, .aload_n 0, 1) := by decide +kernel
theorem eX6_begin_12 : Ev 50 12 (some (.ref a) :: ls) (st) h r ↔ Ev 50 13 (some (.ref a) :: ls) (.ref a :: st) h r := ev_aload_n iX6_begin_12 rfl rfl
theorem iX6_begin_13 : mn_ins 50 13 = some (6, false, .aconst_null, 1) := by decide +kernel
theorem eX6_begin_13 : Ev 50 13 (ls) (st) h r ↔ Ev 50 14 (ls) (.null :: st) h r := ev_null iX6_begin_13
theorem iX6_begin_14 : mn_ins 50 14 = some (6, false, .invokevirtual 64, 3) := by decide +kernel
theorem EgX6_begin_14 (hw3 : (mn_r w3).isSome = true) : Ev 50 14 (ls) (w3 :: .ref b :: st) h r ↔ Evr true (decide (mn_cats st ≤ 8) && mn_isc h b 6) 50 14 ls st h.2.2.1 h.2.2.2 (Cl 51 (.ref b :: [w3]) h.1 h.2.1) r := Ev_V (As := [w3]) iX6_begin_14 (by decide +kernel) (x := mnI_X6_begin) (x2 := mnI_X6_openSegment) rfl rfl rfl (by decide +kernel) (by rcases mn_r_is hw3 with ⟨_, rfl⟩ | rfl <;> exact Nat.le_of_ble_eq_true rfl) rfl
theorem eX6_begin_14 {cw3 : Nat} : Ev 50 14 (ls) ((.ref cw3) :: .ref b :: st) h r ↔ Evr true (decide (mn_cats st ≤ 8) && mn_isc h b 6) 50 14 ls st h.2.2.1 h.2.2.2 (Cl 51 (.ref b :: [(.ref cw3)]) h.1 h.2.1) r := EgX6_begin_14 rfl
theorem iX6_begin_17 : mn_ins 50 17 = some (6, false, .invokevirtual 68, 3) := by decide +kernel
theorem EgX6_begin_17 (hw3 : (mn_r w3).isSome = true) (hw4 : (mn_r w4).isSome = true) (hw5 : (mn_r w5).isSome = true) : Ev 50 17 (ls) (w5 :: w4 :: w3 :: .ref b :: st) h r ↔ Evr true (decide (mn_cats st ≤ 8) && mn_isc h b 5) 50 17 ls st h.2.2.1 h.2.2.2 (Cl 41 (.ref b :: [w3, w4, w5]) h.1 h.2.1) r := Ev_V (As := [w3, w4, w5]) iX6_begin_17 (by decide +kernel) (x := mnI_X6_begin) (x2 := mnI_X5_begin) rfl rfl rfl (by decide +kernel) (by rcases mn_r_is hw3 with ⟨_, rfl⟩ | rfl <;> rcases mn_r_is hw4 with ⟨_, rfl⟩ | rfl <;> rcases mn_r_is hw5 with ⟨_, rfl⟩ | rfl <;> exact Nat.le_of_ble_eq_true rfl) rfl
theorem eX6_begin_17 {cw3 : Nat} {cw4 : Nat} {cw5 : Nat} : Ev 50 17 (ls) ((.ref cw5) :: (.ref cw4) :: (.ref cw3) :: .ref b :: st) h r ↔ Evr true (decide (mn_cats st ≤ 8) && mn_isc h b 5) 50 17 ls st h.2.2.1 h.2.2.2 (Cl 41 (.ref b :: [(.ref cw3), (.ref cw4), (.ref cw5)]) h.1 h.2.1) r := EgX6_begin_17 rfl rfl rfl
theorem iX6_begin_20 : mn_ins 50 20 = some (6, false, .aload_n 0, 1) := by decide +kernel
theorem eX6_begin_20 : Ev 50 20 (some (.ref a) :: ls) (st) h r ↔ Ev 50 21 (some (.ref a) :: ls) (.ref a :: st) h r := ev_aload_n iX6_begin_20 rfl rfl
theorem iX6_begin_21 : mn_ins 50 21 = some (6, false, .getfield 11, 3) := by decide +kernel
theorem eX6_begin_21 : Ev 50 21 (ls) (.ref a :: st) h r ↔ Evk 50 24 ls (mn_gf h a 6 1) st h r := ev_getf iX6_begin_21 (by decide +kernel)
theorem iX6_begin_24 : mn_ins 50 24 = some (6, false, .iconst 0, 1) := by decide +kernel
theorem eX6_begin_24 : Ev 50 24 (ls) (st) h r ↔ Ev 50 25 (ls) (.int (nI 0) :: st) h r := ev_iconst iX6_begin_24 (by decide)
theorem iX6_begin_25 : mn_ins 50 25 = some (6, false, .aaload, 1) := by decide +kernel
theorem eX6_begin_25 : Ev 50 25 (ls) (.int x :: .ref a :: st) h r ↔ Evk 50 26 ls (mn_aq h a x) st h r := ev_aald iX6_begin_25
theorem iX6_begin_26 : mn_ins 50 26 = some (6, false, .getfield 72, 3) := by decide +kernel
theorem eX6_begin_26 : Ev 50 26 (ls) (.ref a :: st) h r ↔ Evk 50 29 ls (mn_gf h a 5 1) st h r := ev_getf iX6_begin_26 (by decide +kernel)
theorem iX6_begin_29 : mn_ins 50 29 = some (6, false, .aload_n 0, 1) := by decide +kernel
theorem eX6_begin_29 : Ev 50 29 (some (.ref a) :: ls) (st) h r ↔ Ev 50 30 (some (.ref a) :: ls) (.ref a :: st) h r := ev_aload_n iX6_begin_29 rfl rfl
theorem iX6_begin_30 : mn_ins 50 30 = some (6, false, .getfield 33, 3) := by decide +kernel
theorem eX6_begin_30 : Ev 50 30 (ls) (.ref a :: st) h r ↔ Evk 50 33 ls (mn_gf h a 6 0) st h r := ev_getf iX6_begin_30 (by decide +kernel)
theorem iX6_begin_33 : mn_ins 50 33 = some (6, false, .iconst 0, 1) := by decide +kernel
theorem eX6_begin_33 : Ev 50 33 (ls) (st) h r ↔ Ev 50 34 (ls) (.int (nI 0) :: st) h r := ev_iconst iX6_begin_33 (by decide)
theorem iX6_begin_34 : mn_ins 50 34 = some (6, false, .invokevirtual 75, 3) := by decide +kernel
theorem eX6_begin_34 : Ev 50 34 (ls) (.int x0 :: .ref b :: st) h r ↔ Evr true (decide (mn_cats st ≤ 8) && mn_isc h b 3) 50 34 ls st h.2.2.1 h.2.2.2 (Cl 27 (.ref b :: [.int x0]) h.1 h.2.1) r := Ev_V (As := [.int x0]) iX6_begin_34 (by decide +kernel) (x := mnI_X6_begin) (x2 := mnI_X3_blockAt) rfl rfl rfl (by decide +kernel) (Nat.le_of_ble_eq_true rfl) rfl
theorem iX6_begin_37 : mn_ins 50 37 = some (6, false, .lconst 0, 1) := by decide +kernel
theorem eX6_begin_37 : Ev 50 37 (ls) (st) h r ↔ Ev 50 38 (ls) (.long 0 :: st) h r := ev_lconst iX6_begin_37 (by decide)
theorem iX6_begin_38 : mn_ins 50 38 = some (6, false, .invokevirtual 81, 3) := by decide +kernel
theorem EgX6_begin_38 (hw3 : (mn_r w3).isSome = true) : Ev 50 38 (ls) (.long u1 :: w3 :: .ref b :: st) h r ↔ Evr true (decide (mn_cats st ≤ 8) && mn_isc h b 2) 50 38 ls st h.2.2.1 h.2.2.2 (Cl 12 (.ref b :: [w3, .long u1]) h.1 h.2.1) r := Ev_V (As := [w3, .long u1]) iX6_begin_38 (by decide +kernel) (x := mnI_X6_begin) (x2 := mnI_X2_begin) rfl rfl rfl (by decide +kernel) (by rcases mn_r_is hw3 with ⟨_, rfl⟩ | rfl <;> exact Nat.le_of_ble_eq_true rfl) rfl
theorem eX6_begin_38 {cw3 : Nat} : Ev 50 38 (ls) (.long u1 :: (.ref cw3) :: .ref b :: st) h r ↔ Evr true (decide (mn_cats st ≤ 8) && mn_isc h b 2) 50 38 ls st h.2.2.1 h.2.2.2 (Cl 12 (.ref b :: [(.ref cw3), .long u1]) h.1 h.2.1) r := EgX6_begin_38 rfl
theorem iX6_begin_41 : mn_ins 50 41 = some (6, false, .aload_n 0, 1) := by decide +kernel
theorem eX6_begin_41 : Ev 50 41 (some (.ref a) :: ls) (st) h r ↔ Ev 50 42 (some (.ref a) :: ls) (.ref a :: st) h r := ev_aload_n iX6_begin_41 rfl rfl
theorem iX6_begin_42 : mn_ins 50 42 = some (6, false, .iconst 1, 1) := by decide +kernel
theorem eX6_begin_42 : Ev 50 42 (ls) (st) h r ↔ Ev 50 43 (ls) (.int (nI 1) :: st) h r := ev_iconst iX6_begin_42 (by decide)
theorem iX6_begin_43 : mn_ins 50 43 = some (6, false, .putfield 41, 3) := by decide +kernel
theorem eX6_begin_43 : Ev 50 43 (ls) (w :: .ref a :: st) h r ↔ Evh 50 46 ls st (mn_pf h a 6 5 w) r := ev_putf iX6_begin_43 (by decide +kernel) (by decide +kernel)
theorem iX6_begin_46 : mn_ins 50 46 = some (6, false, .return_, 1) := by decide +kernel
theorem eX6_begin_46 : Ev 50 46 (ls) [] h r ↔ r = (h, .inl none) := ev_vret iX6_begin_46 (X := mnI_X6_begin) rfl rfl
theorem iX6_openSegment_0 : mn_ins 51 0 = some (6, false, .aload_n 0, 1) := by decide +kernel
theorem eX6_openSegment_0 : Ev 51 0 (some (.ref a) :: ls) (st) h r ↔ Ev 51 1 (some (.ref a) :: ls) (.ref a :: st) h r := ev_aload_n iX6_openSegment_0 rfl rfl
theorem iX6_openSegment_1 : mn_ins 51 1 = some (6, false, .getfield 52, 3) := by decide +kernel
theorem eX6_openSegment_1 : Ev 51 1 (ls) (.ref a :: st) h r ↔ Evk 51 4 ls (mn_gf h a 6 6) st h r := ev_getf iX6_openSegment_1 (by decide +kernel)
theorem iX6_openSegment_4 : mn_ins 51 4 = some (6, false, .aload_n 0, 1) := by decide +kernel
theorem eX6_openSegment_4 : Ev 51 4 (some (.ref a) :: ls) (st) h r ↔ Ev 51 5 (some (.ref a) :: ls) (.ref a :: st) h r := ev_aload_n iX6_openSegment_4 rfl rfl
theorem iX6_openSegment_5 : mn_ins 51 5 = some (6, false, .getfield 22, 3) := by decide +kernel
theorem eX6_openSegment_5 : Ev 51 5 (ls) (.ref a :: st) h r ↔ Evk 51 8 ls (mn_gf h a 6 3) st h r := ev_getf iX6_openSegment_5 (by decide +kernel)
theorem iX6_openSegment_8 : mn_ins 51 8 = some (6, false, .arraylength, 1) := by decide +kernel
theorem eX6_openSegment_8 : Ev 51 8 (ls) (.ref a :: st) h r ↔ Evk 51 9 ls (mn_len h a) st h r := ev_alen iX6_openSegment_8
theorem iX6_openSegment_9 : mn_ins 51 9 = some (6, false, .if_icmp .lt 5, 3) := by decide +kernel
theorem eX6_openSegment_9 : Ev 51 9 (ls) (.int y :: .int x :: st) h r ↔ if x < y then Ev 51 14 (ls) (st) h r else Ev 51 12 (ls) (st) h r := ev_cmplt iX6_openSegment_9 (by decide)
theorem iX6_openSegment_12 : mn_ins 51 12 = some (6, false, .aload_n 1, 1) := by decide +kernel
theorem eX6_openSegment_12 : Ev 51 12 (a0 :: some (.ref a) :: ls) (st) h r ↔ Ev 51 13 (a0 :: some (.ref a) :: ls) (.ref a :: st) h r := ev_aload_n iX6_openSegment_12 rfl rfl
theorem eX6_openSegment_12n : Ev 51 12 (a0 :: some (.null) :: ls) (st) h r ↔ Ev 51 13 (a0 :: some (.null) :: ls) (.null :: st) h r := ev_aload_n iX6_openSegment_12 rfl rfl
theorem eX6_openSegment_12t : Ev 51 12 (a0 :: some (tkv o1) :: ls) (st) h r ↔ Ev 51 13 (a0 :: some (tkv o1) :: ls) (tkv o1 :: st) h r := ev_aload_n iX6_openSegment_12 rfl tkv_r
theorem eX6_openSegment_12s : Ev 51 12 (a0 :: some (sgv o1) :: ls) (st) h r ↔ Ev 51 13 (a0 :: some (sgv o1) :: ls) (sgv o1 :: st) h r := ev_aload_n iX6_openSegment_12 rfl sgv_r
theorem eX6_openSegment_12c : Ev 51 12 (a0 :: some (cdv o1) :: ls) (st) h r ↔ Ev 51 13 (a0 :: some (cdv o1) :: ls) (cdv o1 :: st) h r := ev_aload_n iX6_openSegment_12 rfl cdv_r
theorem iX6_openSegment_13 : mn_ins 51 13 = some (6, false, .areturn, 1) := by decide +kernel
theorem eX6_openSegment_13 : Ev 51 13 (ls) [.ref a] h r ↔ r = (h, .inl (some (.ref a))) := ev_aret iX6_openSegment_13 (X := mnI_X6_openSegment) rfl rfl rfl
theorem eX6_openSegment_13n : Ev 51 13 (ls) [.null] h r ↔ r = (h, .inl (some (.null))) := ev_aret iX6_openSegment_13 (X := mnI_X6_openSegment) rfl rfl rfl
theorem eX6_openSegment_13t : Ev 51 13 (ls) [tkv o1] h r ↔ r = (h, .inl (some (tkv o1))) := ev_aret iX6_openSegment_13 (X := mnI_X6_openSegment) rfl rfl tkv_r
theorem eX6_openSegment_13s : Ev 51 13 (ls) [sgv o1] h r ↔ r = (h, .inl (some (sgv o1))) := ev_aret iX6_openSegment_13 (X := mnI_X6_openSegment) rfl rfl sgv_r
theorem eX6_openSegment_13c : Ev 51 13 (ls) [cdv o1] h r ↔ r = (h, .inl (some (cdv o1))) := ev_aret iX6_openSegment_13 (X := mnI_X6_openSegment) rfl rfl cdv_r
theorem iX6_openSegment_14 : mn_ins 51 14 = some (6, false, .aload_n 0, 1) := by decide +kernel
theorem eX6_openSegment_14 : Ev 51 14 (some (.ref a) :: ls) (st) h r ↔ Ev 51 15 (some (.ref a) :: ls) (.ref a :: st) h r := ev_aload_n iX6_openSegment_14 rfl rfl
theorem iX6_openSegment_15 : mn_ins 51 15 = some (6, false, .getfield 22, 3) := by decide +kernel
theorem eX6_openSegment_15 : Ev 51 15 (ls) (.ref a :: st) h r ↔ Evk 51 18 ls (mn_gf h a 6 3) st h r := ev_getf iX6_openSegment_15 (by decide +kernel)
theorem iX6_openSegment_18 : mn_ins 51 18 = some (6, false, .aload_n 0, 1) := by decide +kernel
theorem eX6_openSegment_18 : Ev 51 18 (some (.ref a) :: ls) (st) h r ↔ Ev 51 19 (some (.ref a) :: ls) (.ref a :: st) h r := ev_aload_n iX6_openSegment_18 rfl rfl
theorem iX6_openSegment_19 : mn_ins 51 19 = some (6, false, .getfield 52, 3) := by decide +kernel
theorem eX6_openSegment_19 : Ev 51 19 (ls) (.ref a :: st) h r ↔ Evk 51 22 ls (mn_gf h a 6 6) st h r := ev_getf iX6_openSegment_19 (by decide +kernel)
theorem iX6_openSegment_22 : mn_ins 51 22 = some (6, false, .aaload, 1) := by decide +kernel
theorem eX6_openSegment_22 : Ev 51 22 (ls) (.int x :: .ref a :: st) h r ↔ Evk 51 23 ls (mn_aq h a x) st h r := ev_aald iX6_openSegment_22
theorem iX6_openSegment_23 : mn_ins 51 23 = some (6, false, .astore_n 2, 1) := by decide +kernel
theorem eX6_openSegment_23 : Ev 51 23 (a0 :: a1 :: a2 :: ls) (.ref a :: st) h r ↔ Ev 51 24 (a0 :: mn_k a1 :: some (.ref a) :: ls) (st) h r := ev_astore_n iX6_openSegment_23 (by show 2 < _; simp only [List.length_cons]; omega) rfl
theorem eX6_openSegment_23n : Ev 51 23 (a0 :: a1 :: a2 :: ls) (.null :: st) h r ↔ Ev 51 24 (a0 :: mn_k a1 :: some (.null) :: ls) (st) h r := ev_astore_n iX6_openSegment_23 (by show 2 < _; simp only [List.length_cons]; omega) rfl
theorem eX6_openSegment_23t : Ev 51 23 (a0 :: a1 :: a2 :: ls) (tkv o1 :: st) h r ↔ Ev 51 24 (a0 :: mn_k a1 :: some (tkv o1) :: ls) (st) h r := ev_astore_n iX6_openSegment_23 (by show 2 < _; simp only [List.length_cons]; omega) tkv_r
theorem eX6_openSegment_23s : Ev 51 23 (a0 :: a1 :: a2 :: ls) (sgv o1 :: st) h r ↔ Ev 51 24 (a0 :: mn_k a1 :: some (sgv o1) :: ls) (st) h r := ev_astore_n iX6_openSegment_23 (by show 2 < _; simp only [List.length_cons]; omega) sgv_r
theorem eX6_openSegment_23c : Ev 51 23 (a0 :: a1 :: a2 :: ls) (cdv o1 :: st) h r ↔ Ev 51 24 (a0 :: mn_k a1 :: some (cdv o1) :: ls) (st) h r := ev_astore_n iX6_openSegment_23 (by show 2 < _; simp only [List.length_cons]; omega) cdv_r
theorem iX6_openSegment_24 : mn_ins 51 24 = some (6, false, .aload_n 0, 1) := by decide +kernel
theorem eX6_openSegment_24 : Ev 51 24 (some (.ref a) :: ls) (st) h r ↔ Ev 51 25 (some (.ref a) :: ls) (.ref a :: st) h r := ev_aload_n iX6_openSegment_24 rfl rfl
theorem iX6_openSegment_25 : mn_ins 51 25 = some (6, false, .dup, 1) := by decide +kernel
theorem eX6_openSegment_25 : Ev 51 25 (ls) (.ref a :: st) h r ↔ Ev 51 26 (ls) (.ref a :: .ref a :: st) h r := ev_dup iX6_openSegment_25 rfl
theorem iX6_openSegment_26 : mn_ins 51 26 = some (6, false, .getfield 52, 3) := by decide +kernel
theorem eX6_openSegment_26 : Ev 51 26 (ls) (.ref a :: st) h r ↔ Evk 51 29 ls (mn_gf h a 6 6) st h r := ev_getf iX6_openSegment_26 (by decide +kernel)
theorem iX6_openSegment_29 : mn_ins 51 29 = some (6, false, .iconst 1, 1) := by decide +kernel
theorem eX6_openSegment_29 : Ev 51 29 (ls) (st) h r ↔ Ev 51 30 (ls) (.int (nI 1) :: st) h r := ev_iconst iX6_openSegment_29 (by decide)
theorem iX6_openSegment_30 : mn_ins 51 30 = some (6, false, .iadd, 1) := by decide +kernel
theorem eX6_openSegment_30 : Ev 51 30 (ls) (.int y :: .int x :: st) h r ↔ Ev 51 31 (ls) (.int (x + y) :: st) h r := ev_iadd iX6_openSegment_30
theorem iX6_openSegment_31 : mn_ins 51 31 = some (6, false, .putfield 52, 3) := by decide +kernel
theorem eX6_openSegment_31 : Ev 51 31 (ls) (w :: .ref a :: st) h r ↔ Evh 51 34 ls st (mn_pf h a 6 6 w) r := ev_putf iX6_openSegment_31 (by decide +kernel) (by decide +kernel)
theorem iX6_openSegment_34 : mn_ins 51 34 = some (6, false, .aload_n 2, 1) := by decide +kernel
theorem eX6_openSegment_34 : Ev 51 34 (a0 :: a1 :: some (.ref a) :: ls) (st) h r ↔ Ev 51 35 (a0 :: a1 :: some (.ref a) :: ls) (.ref a :: st) h r := ev_aload_n iX6_openSegment_34 rfl rfl
theorem eX6_openSegment_34n : Ev 51 34 (a0 :: a1 :: some (.null) :: ls) (st) h r ↔ Ev 51 35 (a0 :: a1 :: some (.null) :: ls) (.null :: st) h r := ev_aload_n iX6_openSegment_34 rfl rfl
theorem eX6_openSegment_34t : Ev 51 34 (a0 :: a1 :: some (tkv o1) :: ls) (st) h r ↔ Ev 51 35 (a0 :: a1 :: some (tkv o1) :: ls) (tkv o1 :: st) h r := ev_aload_n iX6_openSegment_34 rfl tkv_r
theorem eX6_openSegment_34s : Ev 51 34 (a0 :: a1 :: some (sgv o1) :: ls) (st) h r ↔ Ev 51 35 (a0 :: a1 :: some (sgv o1) :: ls) (sgv o1 :: st) h r := ev_aload_n iX6_openSegment_34 rfl sgv_r
theorem eX6_openSegment_34c : Ev 51 34 (a0 :: a1 :: some (cdv o1) :: ls) (st) h r ↔ Ev 51 35 (a0 :: a1 :: some (cdv o1) :: ls) (cdv o1 :: st) h r := ev_aload_n iX6_openSegment_34 rfl cdv_r
theorem iX6_openSegment_35 : mn_ins 51 35 = some (6, false, .aload_n 1, 1) := by decide +kernel
theorem eX6_openSegment_35 : Ev 51 35 (a0 :: some (.ref a) :: ls) (st) h r ↔ Ev 51 36 (a0 :: some (.ref a) :: ls) (.ref a :: st) h r := ev_aload_n iX6_openSegment_35 rfl rfl
theorem eX6_openSegment_35n : Ev 51 35 (a0 :: some (.null) :: ls) (st) h r ↔ Ev 51 36 (a0 :: some (.null) :: ls) (.null :: st) h r := ev_aload_n iX6_openSegment_35 rfl rfl
theorem eX6_openSegment_35t : Ev 51 35 (a0 :: some (tkv o1) :: ls) (st) h r ↔ Ev 51 36 (a0 :: some (tkv o1) :: ls) (tkv o1 :: st) h r := ev_aload_n iX6_openSegment_35 rfl tkv_r
theorem eX6_openSegment_35s : Ev 51 35 (a0 :: some (sgv o1) :: ls) (st) h r ↔ Ev 51 36 (a0 :: some (sgv o1) :: ls) (sgv o1 :: st) h r := ev_aload_n iX6_openSegment_35 rfl sgv_r
theorem eX6_openSegment_35c : Ev 51 35 (a0 :: some (cdv o1) :: ls) (st) h r ↔ Ev 51 36 (a0 :: some (cdv o1) :: ls) (cdv o1 :: st) h r := ev_aload_n iX6_openSegment_35 rfl cdv_r
theorem iX6_openSegment_36 : mn_ins 51 36 = some (6, false, .invokevirtual 84, 3) := by decide +kernel
theorem EgX6_openSegment_36 (hw3 : (mn_r w3).isSome = true) : Ev 51 36 (ls) (w3 :: .ref b :: st) h r ↔ Evr true (decide (mn_cats st ≤ 8) && mn_isc h b 4) 51 36 ls st h.2.2.1 h.2.2.2 (Cl 33 (.ref b :: [w3]) h.1 h.2.1) r := Ev_V (As := [w3]) iX6_openSegment_36 (by decide +kernel) (x := mnI_X6_openSegment) (x2 := mnI_X4_begin) rfl rfl rfl (by decide +kernel) (by rcases mn_r_is hw3 with ⟨_, rfl⟩ | rfl <;> exact Nat.le_of_ble_eq_true rfl) rfl
theorem eX6_openSegment_36 {cw3 : Nat} : Ev 51 36 (ls) ((.ref cw3) :: .ref b :: st) h r ↔ Evr true (decide (mn_cats st ≤ 8) && mn_isc h b 4) 51 36 ls st h.2.2.1 h.2.2.2 (Cl 33 (.ref b :: [(.ref cw3)]) h.1 h.2.1) r := EgX6_openSegment_36 rfl
theorem iX6_openSegment_39 : mn_ins 51 39 = some (6, false, .aload_n 2, 1) := by decide +kernel
theorem eX6_openSegment_39 : Ev 51 39 (a0 :: a1 :: some (.ref a) :: ls) (st) h r ↔ Ev 51 40 (a0 :: a1 :: some (.ref a) :: ls) (.ref a :: st) h r := ev_aload_n iX6_openSegment_39 rfl rfl
theorem eX6_openSegment_39n : Ev 51 39 (a0 :: a1 :: some (.null) :: ls) (st) h r ↔ Ev 51 40 (a0 :: a1 :: some (.null) :: ls) (.null :: st) h r := ev_aload_n iX6_openSegment_39 rfl rfl
theorem eX6_openSegment_39t : Ev 51 39 (a0 :: a1 :: some (tkv o1) :: ls) (st) h r ↔ Ev 51 40 (a0 :: a1 :: some (tkv o1) :: ls) (tkv o1 :: st) h r := ev_aload_n iX6_openSegment_39 rfl tkv_r
theorem eX6_openSegment_39s : Ev 51 39 (a0 :: a1 :: some (sgv o1) :: ls) (st) h r ↔ Ev 51 40 (a0 :: a1 :: some (sgv o1) :: ls) (sgv o1 :: st) h r := ev_aload_n iX6_openSegment_39 rfl sgv_r
theorem eX6_openSegment_39c : Ev 51 39 (a0 :: a1 :: some (cdv o1) :: ls) (st) h r ↔ Ev 51 40 (a0 :: a1 :: some (cdv o1) :: ls) (cdv o1 :: st) h r := ev_aload_n iX6_openSegment_39 rfl cdv_r
theorem iX6_openSegment_40 : mn_ins 51 40 = some (6, false, .areturn, 1) := by decide +kernel
theorem eX6_openSegment_40 : Ev 51 40 (ls) [.ref a] h r ↔ r = (h, .inl (some (.ref a))) := ev_aret iX6_openSegment_40 (X := mnI_X6_openSegment) rfl rfl rfl
theorem eX6_openSegment_40n : Ev 51 40 (ls) [.null] h r ↔ r = (h, .inl (some (.null))) := ev_aret iX6_openSegment_40 (X := mnI_X6_openSegment) rfl rfl rfl
theorem eX6_openSegment_40t : Ev 51 40 (ls) [tkv o1] h r ↔ r = (h, .inl (some (tkv o1))) := ev_aret iX6_openSegment_40 (X := mnI_X6_openSegment) rfl rfl tkv_r
theorem eX6_openSegment_40s : Ev 51 40 (ls) [sgv o1] h r ↔ r = (h, .inl (some (sgv o1))) := ev_aret iX6_openSegment_40 (X := mnI_X6_openSegment) rfl rfl sgv_r
theorem eX6_openSegment_40c : Ev 51 40 (ls) [cdv o1] h r ↔ r = (h, .inl (some (cdv o1))) := ev_aret iX6_openSegment_40 (X := mnI_X6_openSegment) rfl rfl cdv_r
theorem iX6_findReady_0 : mn_ins 52 0 = some (6, false, .iconst 0, 1) := by decide +kernel
theorem eX6_findReady_0 : Ev 52 0 (ls) (st) h r ↔ Ev 52 1 (ls) (.int (nI 0) :: st) h r := ev_iconst iX6_findReady_0 (by decide)
theorem iX6_findReady_1 : mn_ins 52 1 = some (6, false, .istore_n 1, 1) := by decide +kernel
theorem eX6_findReady_1 : Ev 52 1 (a0 :: a1 :: ls) (.int x :: st) h r ↔ Ev 52 2 (mn_k a0 :: some (.int x) :: ls) (st) h r := ev_istore_n iX6_findReady_1 (by show 1 < _; simp only [List.length_cons]; omega)
theorem iX6_findReady_2 : mn_ins 52 2 = some (6, false, .iconst 0, 1) := by decide +kernel
theorem eX6_findReady_2 : Ev 52 2 (ls) (st) h r ↔ Ev 52 3 (ls) (.int (nI 0) :: st) h r := ev_iconst iX6_findReady_2 (by decide)
theorem iX6_findReady_3 : mn_ins 52 3 = some (6, false, .istore_n 2, 1) := by decide +kernel
theorem eX6_findReady_3 : Ev 52 3 (a0 :: a1 :: a2 :: ls) (.int x :: st) h r ↔ Ev 52 4 (a0 :: mn_k a1 :: some (.int x) :: ls) (st) h r := ev_istore_n iX6_findReady_3 (by show 2 < _; simp only [List.length_cons]; omega)
theorem iX6_findReady_4 : mn_ins 52 4 = some (6, false, .iload_n 2, 1) := by decide +kernel
theorem eX6_findReady_4 : Ev 52 4 (a0 :: a1 :: some (.int x) :: ls) (st) h r ↔ Ev 52 5 (a0 :: a1 :: some (.int x) :: ls) (.int x :: st) h r := ev_iload_n iX6_findReady_4 rfl
theorem iX6_findReady_5 : mn_ins 52 5 = some (6, false, .aload_n 0, 1) := by decide +kernel
theorem eX6_findReady_5 : Ev 52 5 (some (.ref a) :: ls) (st) h r ↔ Ev 52 6 (some (.ref a) :: ls) (.ref a :: st) h r := ev_aload_n iX6_findReady_5 rfl rfl
theorem iX6_findReady_6 : mn_ins 52 6 = some (6, false, .getfield 41, 3) := by decide +kernel
theorem eX6_findReady_6 : Ev 52 6 (ls) (.ref a :: st) h r ↔ Evk 52 9 ls (mn_gf h a 6 5) st h r := ev_getf iX6_findReady_6 (by decide +kernel)
theorem iX6_findReady_9 : mn_ins 52 9 = some (6, false, .if_icmp .ge 49, 3) := by decide +kernel
theorem eX6_findReady_9 : Ev 52 9 (ls) (.int y :: .int x :: st) h r ↔ if y ≤ x then Ev 52 58 (ls) (st) h r else Ev 52 12 (ls) (st) h r := ev_cmpge iX6_findReady_9 (by decide)
theorem iX6_findReady_12 : mn_ins 52 12 = some (6, false, .aload_n 0, 1) := by decide +kernel
theorem eX6_findReady_12 : Ev 52 12 (some (.ref a) :: ls) (st) h r ↔ Ev 52 13 (some (.ref a) :: ls) (.ref a :: st) h r := ev_aload_n iX6_findReady_12 rfl rfl
theorem iX6_findReady_13 : mn_ins 52 13 = some (6, false, .getfield 11, 3) := by decide +kernel
theorem eX6_findReady_13 : Ev 52 13 (ls) (.ref a :: st) h r ↔ Evk 52 16 ls (mn_gf h a 6 1) st h r := ev_getf iX6_findReady_13 (by decide +kernel)
theorem iX6_findReady_16 : mn_ins 52 16 = some (6, false, .iload_n 2, 1) := by decide +kernel
theorem eX6_findReady_16 : Ev 52 16 (a0 :: a1 :: some (.int x) :: ls) (st) h r ↔ Ev 52 17 (a0 :: a1 :: some (.int x) :: ls) (.int x :: st) h r := ev_iload_n iX6_findReady_16 rfl
theorem iX6_findReady_17 : mn_ins 52 17 = some (6, false, .aaload, 1) := by decide +kernel
theorem eX6_findReady_17 : Ev 52 17 (ls) (.int x :: .ref a :: st) h r ↔ Evk 52 18 ls (mn_aq h a x) st h r := ev_aald iX6_findReady_17
theorem iX6_findReady_18 : mn_ins 52 18 = some (6, false, .getfield 49, 3) := by decide +kernel
theorem eX6_findReady_18 : Ev 52 18 (ls) (.ref a :: st) h r ↔ Evk 52 21 ls (mn_gf h a 5 4) st h r := ev_getf iX6_findReady_18 (by decide +kernel)
theorem iX6_findReady_21 : mn_ins 52 21 = some (6, false, .ifCond .ne 31, 3) := by decide +kernel
theorem eX6_findReady_21 : Ev 52 21 (ls) (.int x :: st) h r ↔ if x = nI 0 then Ev 52 24 (ls) (st) h r else Ev 52 52 (ls) (st) h r := ev_ifne iX6_findReady_21 (by decide)
theorem iX6_findReady_24 : mn_ins 52 24 = some (6, false, .aload_n 0, 1) := by decide +kernel
theorem eX6_findReady_24 : Ev 52 24 (some (.ref a) :: ls) (st) h r ↔ Ev 52 25 (some (.ref a) :: ls) (.ref a :: st) h r := ev_aload_n iX6_findReady_24 rfl rfl
theorem iX6_findReady_25 : mn_ins 52 25 = some (6, false, .aload_n 0, 1) := by decide +kernel
theorem eX6_findReady_25 : Ev 52 25 (some (.ref a) :: ls) (st) h r ↔ Ev 52 26 (some (.ref a) :: ls) (.ref a :: st) h r := ev_aload_n iX6_findReady_25 rfl rfl
theorem iX6_findReady_26 : mn_ins 52 26 = some (6, false, .getfield 11, 3) := by decide +kernel
theorem eX6_findReady_26 : Ev 52 26 (ls) (.ref a :: st) h r ↔ Evk 52 29 ls (mn_gf h a 6 1) st h r := ev_getf iX6_findReady_26 (by decide +kernel)
theorem iX6_findReady_29 : mn_ins 52 29 = some (6, false, .iload_n 2, 1) := by decide +kernel
theorem eX6_findReady_29 : Ev 52 29 (a0 :: a1 :: some (.int x) :: ls) (st) h r ↔ Ev 52 30 (a0 :: a1 :: some (.int x) :: ls) (.int x :: st) h r := ev_iload_n iX6_findReady_29 rfl
theorem iX6_findReady_30 : mn_ins 52 30 = some (6, false, .aaload, 1) := by decide +kernel
theorem eX6_findReady_30 : Ev 52 30 (ls) (.int x :: .ref a :: st) h r ↔ Evk 52 31 ls (mn_aq h a x) st h r := ev_aald iX6_findReady_30
theorem iX6_findReady_31 : mn_ins 52 31 = some (6, false, .invokevirtual 87, 3) := by decide +kernel
theorem EgX6_findReady_31 (hw3 : (mn_r w3).isSome = true) : Ev 52 31 (ls) (w3 :: .ref b :: st) h r ↔ Evr true (decide (mn_cats st ≤ 8) && mn_isc h b 6) 52 31 ls st h.2.2.1 h.2.2.2 (Cl 53 (.ref b :: [w3]) h.1 h.2.1) r := Ev_V (As := [w3]) iX6_findReady_31 (by decide +kernel) (x := mnI_X6_findReady) (x2 := mnI_X6_waits) rfl rfl rfl (by decide +kernel) (by rcases mn_r_is hw3 with ⟨_, rfl⟩ | rfl <;> exact Nat.le_of_ble_eq_true rfl) rfl
theorem eX6_findReady_31 {cw3 : Nat} : Ev 52 31 (ls) ((.ref cw3) :: .ref b :: st) h r ↔ Evr true (decide (mn_cats st ≤ 8) && mn_isc h b 6) 52 31 ls st h.2.2.1 h.2.2.2 (Cl 53 (.ref b :: [(.ref cw3)]) h.1 h.2.1) r := EgX6_findReady_31 rfl
theorem iX6_findReady_34 : mn_ins 52 34 = some (6, false, .ifCond .ne 18, 3) := by decide +kernel
theorem eX6_findReady_34 : Ev 52 34 (ls) (.int x :: st) h r ↔ if x = nI 0 then Ev 52 37 (ls) (st) h r else Ev 52 52 (ls) (st) h r := ev_ifne iX6_findReady_34 (by decide)
theorem iX6_findReady_37 : mn_ins 52 37 = some (6, false, .aload_n 0, 1) := by decide +kernel
theorem eX6_findReady_37 : Ev 52 37 (some (.ref a) :: ls) (st) h r ↔ Ev 52 38 (some (.ref a) :: ls) (.ref a :: st) h r := ev_aload_n iX6_findReady_37 rfl rfl
theorem iX6_findReady_38 : mn_ins 52 38 = some (6, false, .getfield 17, 3) := by decide +kernel
theorem eX6_findReady_38 : Ev 52 38 (ls) (.ref a :: st) h r ↔ Evk 52 41 ls (mn_gf h a 6 2) st h r := ev_getf iX6_findReady_38 (by decide +kernel)
theorem iX6_findReady_41 : mn_ins 52 41 = some (6, false, .iload_n 1, 1) := by decide +kernel
theorem eX6_findReady_41 : Ev 52 41 (a0 :: some (.int x) :: ls) (st) h r ↔ Ev 52 42 (a0 :: some (.int x) :: ls) (.int x :: st) h r := ev_iload_n iX6_findReady_41 rfl
theorem iX6_findReady_42 : mn_ins 52 42 = some (6, false, .aload_n 0, 1) := by decide +kernel
theorem eX6_findReady_42 : Ev 52 42 (some (.ref a) :: ls) (st) h r ↔ Ev 52 43 (some (.ref a) :: ls) (.ref a :: st) h r := ev_aload_n iX6_findReady_42 rfl rfl
theorem iX6_findReady_43 : mn_ins 52 43 = some (6, false, .getfield 11, 3) := by decide +kernel
theorem eX6_findReady_43 : Ev 52 43 (ls) (.ref a :: st) h r ↔ Evk 52 46 ls (mn_gf h a 6 1) st h r := ev_getf iX6_findReady_43 (by decide +kernel)
theorem iX6_findReady_46 : mn_ins 52 46 = some (6, false, .iload_n 2, 1) := by decide +kernel
theorem eX6_findReady_46 : Ev 52 46 (a0 :: a1 :: some (.int x) :: ls) (st) h r ↔ Ev 52 47 (a0 :: a1 :: some (.int x) :: ls) (.int x :: st) h r := ev_iload_n iX6_findReady_46 rfl
theorem iX6_findReady_47 : mn_ins 52 47 = some (6, false, .aaload, 1) := by decide +kernel
theorem eX6_findReady_47 : Ev 52 47 (ls) (.int x :: .ref a :: st) h r ↔ Evk 52 48 ls (mn_aq h a x) st h r := ev_aald iX6_findReady_47
theorem iX6_findReady_48 : mn_ins 52 48 = some (6, false, .aastore, 1) := by decide +kernel
theorem eX6_findReady_48 : Ev 52 48 (ls) (.ref b :: .int x :: .ref a :: st) h r ↔ Evh 52 49 ls st (mn_asq h a x b) r := ev_aast iX6_findReady_48
theorem iX6_findReady_49 : mn_ins 52 49 = some (6, false, .iinc 1 1, 3) := by decide +kernel
theorem eX6_findReady_49 : Ev 52 49 (a0 :: some (.int x) :: ls) (st) h r ↔ Ev 52 52 (mn_k a0 :: some (.int (x + (nI 1))) :: ls) (st) h r := ev_iinc iX6_findReady_49 rfl (by decide)
theorem iX6_findReady_52 : mn_ins 52 52 = some (6, false, .iinc 2 1, 3) := by decide +kernel
theorem eX6_findReady_52 : Ev 52 52 (a0 :: a1 :: some (.int x) :: ls) (st) h r ↔ Ev 52 55 (a0 :: mn_k a1 :: some (.int (x + (nI 1))) :: ls) (st) h r := ev_iinc iX6_findReady_52 rfl (by decide)
theorem iX6_findReady_55 : mn_ins 52 55 = some (6, false, .goto (-51), 3) := by decide +kernel
theorem eX6_findReady_55 : Ev 52 55 (ls) (st) h r ↔ Ev 52 4 (ls) (st) h r := ev_goto iX6_findReady_55 (by decide)
theorem iX6_findReady_58 : mn_ins 52 58 = some (6, false, .iload_n 1, 1) := by decide +kernel
theorem eX6_findReady_58 : Ev 52 58 (a0 :: some (.int x) :: ls) (st) h r ↔ Ev 52 59 (a0 :: some (.int x) :: ls) (.int x :: st) h r := ev_iload_n iX6_findReady_58 rfl
theorem iX6_findReady_59 : mn_ins 52 59 = some (6, false, .ireturn, 1) := by decide +kernel
theorem eX6_findReady_59 : Ev 52 59 (ls) [.int x] h r ↔ r = (h, .inl (some (.int x))) := ev_iret iX6_findReady_59 (X := mnI_X6_findReady) rfl rfl
theorem iX6_waits_0 : mn_ins 53 0 = some (6, false, .aload_n 1, 1) := by decide +kernel
theorem eX6_waits_0 : Ev 53 0 (a0 :: some (.ref a) :: ls) (st) h r ↔ Ev 53 1 (a0 :: some (.ref a) :: ls) (.ref a :: st) h r := ev_aload_n iX6_waits_0 rfl rfl
theorem eX6_waits_0n : Ev 53 0 (a0 :: some (.null) :: ls) (st) h r ↔ Ev 53 1 (a0 :: some (.null) :: ls) (.null :: st) h r := ev_aload_n iX6_waits_0 rfl rfl
theorem eX6_waits_0t : Ev 53 0 (a0 :: some (tkv o1) :: ls) (st) h r ↔ Ev 53 1 (a0 :: some (tkv o1) :: ls) (tkv o1 :: st) h r := ev_aload_n iX6_waits_0 rfl tkv_r
theorem eX6_waits_0s : Ev 53 0 (a0 :: some (sgv o1) :: ls) (st) h r ↔ Ev 53 1 (a0 :: some (sgv o1) :: ls) (sgv o1 :: st) h r := ev_aload_n iX6_waits_0 rfl sgv_r
theorem eX6_waits_0c : Ev 53 0 (a0 :: some (cdv o1) :: ls) (st) h r ↔ Ev 53 1 (a0 :: some (cdv o1) :: ls) (cdv o1 :: st) h r := ev_aload_n iX6_waits_0 rfl cdv_r
theorem iX6_waits_1 : mn_ins 53 1 = some (6, false, .getfield 72, 3) := by decide +kernel
theorem eX6_waits_1 : Ev 53 1 (ls) (.ref a :: st) h r ↔ Evk 53 4 ls (mn_gf h a 5 1) st h r := ev_getf iX6_waits_1 (by decide +kernel)
theorem iX6_waits_4 : mn_ins 53 4 = some (6, false, .invokevirtual 91, 3) := by decide +kernel
theorem eX6_waits_4 : Ev 53 4 (ls) (.ref b :: st) h r ↔ Evr true (decide (mn_cats st ≤ 8) && mn_isc h b 2) 53 4 ls st h.2.2.1 h.2.2.2 (Cl 13 (.ref b :: []) h.1 h.2.1) r := Ev_V (As := []) iX6_waits_4 (by decide +kernel) (x := mnI_X6_waits) (x2 := mnI_X2_operation) rfl rfl rfl (by decide +kernel) (Nat.le_of_ble_eq_true rfl) rfl
theorem iX6_waits_7 : mn_ins 53 7 = some (6, false, .bipush 14, 2) := by decide +kernel
theorem eX6_waits_7 : Ev 53 7 (ls) (st) h r ↔ Ev 53 9 (ls) (.int (nI 14) :: st) h r := ev_bipush iX6_waits_7 (by decide)
theorem iX6_waits_9 : mn_ins 53 9 = some (6, false, .if_icmp .ne 16, 3) := by decide +kernel
theorem eX6_waits_9 : Ev 53 9 (ls) (.int y :: .int x :: st) h r ↔ if x = y then Ev 53 12 (ls) (st) h r else Ev 53 25 (ls) (st) h r := ev_cmpne iX6_waits_9 (by decide)
theorem iX6_waits_12 : mn_ins 53 12 = some (6, false, .aload_n 0, 1) := by decide +kernel
theorem eX6_waits_12 : Ev 53 12 (some (.ref a) :: ls) (st) h r ↔ Ev 53 13 (some (.ref a) :: ls) (.ref a :: st) h r := ev_aload_n iX6_waits_12 rfl rfl
theorem iX6_waits_13 : mn_ins 53 13 = some (6, false, .aload_n 1, 1) := by decide +kernel
theorem eX6_waits_13 : Ev 53 13 (a0 :: some (.ref a) :: ls) (st) h r ↔ Ev 53 14 (a0 :: some (.ref a) :: ls) (.ref a :: st) h r := ev_aload_n iX6_waits_13 rfl rfl
theorem eX6_waits_13n : Ev 53 13 (a0 :: some (.null) :: ls) (st) h r ↔ Ev 53 14 (a0 :: some (.null) :: ls) (.null :: st) h r := ev_aload_n iX6_waits_13 rfl rfl
theorem eX6_waits_13t : Ev 53 13 (a0 :: some (tkv o1) :: ls) (st) h r ↔ Ev 53 14 (a0 :: some (tkv o1) :: ls) (tkv o1 :: st) h r := ev_aload_n iX6_waits_13 rfl tkv_r
theorem eX6_waits_13s : Ev 53 13 (a0 :: some (sgv o1) :: ls) (st) h r ↔ Ev 53 14 (a0 :: some (sgv o1) :: ls) (sgv o1 :: st) h r := ev_aload_n iX6_waits_13 rfl sgv_r
theorem eX6_waits_13c : Ev 53 13 (a0 :: some (cdv o1) :: ls) (st) h r ↔ Ev 53 14 (a0 :: some (cdv o1) :: ls) (cdv o1 :: st) h r := ev_aload_n iX6_waits_13 rfl cdv_r
theorem iX6_waits_14 : mn_ins 53 14 = some (6, false, .invokevirtual 95, 3) := by decide +kernel
theorem EgX6_waits_14 (hw3 : (mn_r w3).isSome = true) : Ev 53 14 (ls) (w3 :: .ref b :: st) h r ↔ Evr true (decide (mn_cats st ≤ 8) && mn_isc h b 6) 53 14 ls st h.2.2.1 h.2.2.2 (Cl 58 (.ref b :: [w3]) h.1 h.2.1) r := Ev_V (As := [w3]) iX6_waits_14 (by decide +kernel) (x := mnI_X6_waits) (x2 := mnI_X6_joinHindrance) rfl rfl rfl (by decide +kernel) (by rcases mn_r_is hw3 with ⟨_, rfl⟩ | rfl <;> exact Nat.le_of_ble_eq_true rfl) rfl
theorem eX6_waits_14 {cw3 : Nat} : Ev 53 14 (ls) ((.ref cw3) :: .ref b :: st) h r ↔ Evr true (decide (mn_cats st ≤ 8) && mn_isc h b 6) 53 14 ls st h.2.2.1 h.2.2.2 (Cl 58 (.ref b :: [(.ref cw3)]) h.1 h.2.1) r := EgX6_waits_14 rfl
theorem iX6_waits_17 : mn_ins 53 17 = some (6, false, .iconst (-1), 1) := by decide +kernel
theorem eX6_waits_17 : Ev 53 17 (ls) (st) h r ↔ Ev 53 18 (ls) (.int (-1) :: st) h r := ev_iconst iX6_waits_17 (by decide)
theorem iX6_waits_18 : mn_ins 53 18 = some (6, false, .if_icmp .ne 7, 3) := by decide +kernel
theorem eX6_waits_18 : Ev 53 18 (ls) (.int y :: .int x :: st) h r ↔ if x = y then Ev 53 21 (ls) (st) h r else Ev 53 25 (ls) (st) h r := ev_cmpne iX6_waits_18 (by decide)
theorem iX6_waits_21 : mn_ins 53 21 = some (6, false, .iconst 1, 1) := by decide +kernel
theorem eX6_waits_21 : Ev 53 21 (ls) (st) h r ↔ Ev 53 22 (ls) (.int (nI 1) :: st) h r := ev_iconst iX6_waits_21 (by decide)
theorem iX6_waits_22 : mn_ins 53 22 = some (6, false, .goto 4, 3) := by decide +kernel
theorem eX6_waits_22 : Ev 53 22 (ls) (st) h r ↔ Ev 53 26 (ls) (st) h r := ev_goto iX6_waits_22 (by decide)
theorem iX6_waits_25 : mn_ins 53 25 = some (6, false, .iconst 0, 1) := by decide +kernel
theorem eX6_waits_25 : Ev 53 25 (ls) (st) h r ↔ Ev 53 26 (ls) (.int (nI 0) :: st) h r := ev_iconst iX6_waits_25 (by decide)
theorem iX6_waits_26 : mn_ins 53 26 = some (6, false, .ireturn, 1) := by decide +kernel
theorem eX6_waits_26 (hx : x = 0 ∨ x = 1) : Ev 53 26 (ls) [.int x] h r ↔ r = (h, .inl (some (.int x))) := ev_zret iX6_waits_26 (X := mnI_X6_waits) rfl rfl hx
theorem iX6_advance_0 : mn_ins 54 0 = some (6, false, .aload_n 0, 1) := by decide +kernel
theorem eX6_advance_0 : Ev 54 0 (some (.ref a) :: ls) (st) h r ↔ Ev 54 1 (some (.ref a) :: ls) (.ref a :: st) h r := ev_aload_n iX6_advance_0 rfl rfl
theorem iX6_advance_1 : mn_ins 54 1 = some (6, false, .getfield 55, 3) := by decide +kernel
theorem eX6_advance_1 : Ev 54 1 (ls) (.ref a :: st) h r ↔ Evk 54 4 ls (mn_gf h a 6 7) st h r := ev_getf iX6_advance_1 (by decide +kernel)
theorem iX6_advance_4 : mn_ins 54 4 = some (6, false, .sipush 2000, 3) := by decide +kernel
theorem eX6_advance_4 : Ev 54 4 (ls) (st) h r ↔ Ev 54 7 (ls) (.int (nI 2000) :: st) h r := ev_sipush iX6_advance_4 (by decide)
theorem iX6_advance_7 : mn_ins 54 7 = some (6, false, .if_icmp .lt 10, 3) := by decide +kernel
theorem eX6_advance_7 : Ev 54 7 (ls) (.int y :: .int x :: st) h r ↔ if x < y then Ev 54 17 (ls) (st) h r else Ev 54 10 (ls) (st) h r := ev_cmplt iX6_advance_7 (by decide)
theorem iX6_advance_10 : mn_ins 54 10 = some (6, false, .aload_n 1, 1) := by decide +kernel
theorem eX6_advance_10 : Ev 54 10 (a0 :: some (.ref a) :: ls) (st) h r ↔ Ev 54 11 (a0 :: some (.ref a) :: ls) (.ref a :: st) h r := ev_aload_n iX6_advance_10 rfl rfl
theorem eX6_advance_10n : Ev 54 10 (a0 :: some (.null) :: ls) (st) h r ↔ Ev 54 11 (a0 :: some (.null) :: ls) (.null :: st) h r := ev_aload_n iX6_advance_10 rfl rfl
theorem eX6_advance_10t : Ev 54 10 (a0 :: some (tkv o1) :: ls) (st) h r ↔ Ev 54 11 (a0 :: some (tkv o1) :: ls) (tkv o1 :: st) h r := ev_aload_n iX6_advance_10 rfl tkv_r
theorem eX6_advance_10s : Ev 54 10 (a0 :: some (sgv o1) :: ls) (st) h r ↔ Ev 54 11 (a0 :: some (sgv o1) :: ls) (sgv o1 :: st) h r := ev_aload_n iX6_advance_10 rfl sgv_r
theorem eX6_advance_10c : Ev 54 10 (a0 :: some (cdv o1) :: ls) (st) h r ↔ Ev 54 11 (a0 :: some (cdv o1) :: ls) (cdv o1 :: st) h r := ev_aload_n iX6_advance_10 rfl cdv_r
theorem iX6_advance_11 : mn_ins 54 11 = some (6, false, .iconst 4, 1) := by decide +kernel
theorem eX6_advance_11 : Ev 54 11 (ls) (st) h r ↔ Ev 54 12 (ls) (.int (nI 4) :: st) h r := ev_iconst iX6_advance_11 (by decide)
theorem iX6_advance_12 : mn_ins 54 12 = some (6, false, .invokevirtual 99, 3) := by decide +kernel
theorem eX6_advance_12 : Ev 54 12 (ls) (.int x0 :: .ref b :: st) h r ↔ Evr true (decide (mn_cats st ≤ 8) && mn_isc h b 5) 54 12 ls st h.2.2.1 h.2.2.2 (Cl 42 (.ref b :: [.int x0]) h.1 h.2.1) r := Ev_V (As := [.int x0]) iX6_advance_12 (by decide +kernel) (x := mnI_X6_advance) (x2 := mnI_X5_fail) rfl rfl rfl (by decide +kernel) (Nat.le_of_ble_eq_true rfl) rfl
theorem iX6_advance_15 : mn_ins 54 15 = some (6, false, .iconst 0, 1) := by decide +kernel
theorem eX6_advance_15 : Ev 54 15 (ls) (st) h r ↔ Ev 54 16 (ls) (.int (nI 0) :: st) h r := ev_iconst iX6_advance_15 (by decide)
theorem iX6_advance_16 : mn_ins 54 16 = some (6, false, .ireturn, 1) := by decide +kernel
theorem eX6_advance_16 (hx : x = 0 ∨ x = 1) : Ev 54 16 (ls) [.int x] h r ↔ r = (h, .inl (some (.int x))) := ev_zret iX6_advance_16 (X := mnI_X6_advance) rfl rfl hx
theorem iX6_advance_17 : mn_ins 54 17 = some (6, false, .aload_n 0, 1) := by decide +kernel
theorem eX6_advance_17 : Ev 54 17 (some (.ref a) :: ls) (st) h r ↔ Ev 54 18 (some (.ref a) :: ls) (.ref a :: st) h r := ev_aload_n iX6_advance_17 rfl rfl
theorem iX6_advance_18 : mn_ins 54 18 = some (6, false, .dup, 1) := by decide +kernel
theorem eX6_advance_18 : Ev 54 18 (ls) (.ref a :: st) h r ↔ Ev 54 19 (ls) (.ref a :: .ref a :: st) h r := ev_dup iX6_advance_18 rfl
theorem iX6_advance_19 : mn_ins 54 19 = some (6, false, .getfield 55, 3) := by decide +kernel
theorem eX6_advance_19 : Ev 54 19 (ls) (.ref a :: st) h r ↔ Evk 54 22 ls (mn_gf h a 6 7) st h r := ev_getf iX6_advance_19 (by decide +kernel)
theorem iX6_advance_22 : mn_ins 54 22 = some (6, false, .iconst 1, 1) := by decide +kernel
theorem eX6_advance_22 : Ev 54 22 (ls) (st) h r ↔ Ev 54 23 (ls) (.int (nI 1) :: st) h r := ev_iconst iX6_advance_22 (by decide)
theorem iX6_advance_23 : mn_ins 54 23 = some (6, false, .iadd, 1) := by decide +kernel
theorem eX6_advance_23 : Ev 54 23 (ls) (.int y :: .int x :: st) h r ↔ Ev 54 24 (ls) (.int (x + y) :: st) h r := ev_iadd iX6_advance_23
theorem iX6_advance_24 : mn_ins 54 24 = some (6, false, .putfield 55, 3) := by decide +kernel
theorem eX6_advance_24 : Ev 54 24 (ls) (w :: .ref a :: st) h r ↔ Evh 54 27 ls st (mn_pf h a 6 7 w) r := ev_putf iX6_advance_24 (by decide +kernel) (by decide +kernel)
theorem iX6_advance_27 : mn_ins 54 27 = some (6, false, .aload_n 1, 1) := by decide +kernel
theorem eX6_advance_27 : Ev 54 27 (a0 :: some (.ref a) :: ls) (st) h r ↔ Ev 54 28 (a0 :: some (.ref a) :: ls) (.ref a :: st) h r := ev_aload_n iX6_advance_27 rfl rfl
theorem eX6_advance_27n : Ev 54 27 (a0 :: some (.null) :: ls) (st) h r ↔ Ev 54 28 (a0 :: some (.null) :: ls) (.null :: st) h r := ev_aload_n iX6_advance_27 rfl rfl
theorem eX6_advance_27t : Ev 54 27 (a0 :: some (tkv o1) :: ls) (st) h r ↔ Ev 54 28 (a0 :: some (tkv o1) :: ls) (tkv o1 :: st) h r := ev_aload_n iX6_advance_27 rfl tkv_r
theorem eX6_advance_27s : Ev 54 27 (a0 :: some (sgv o1) :: ls) (st) h r ↔ Ev 54 28 (a0 :: some (sgv o1) :: ls) (sgv o1 :: st) h r := ev_aload_n iX6_advance_27 rfl sgv_r
theorem eX6_advance_27c : Ev 54 27 (a0 :: some (cdv o1) :: ls) (st) h r ↔ Ev 54 28 (a0 :: some (cdv o1) :: ls) (cdv o1 :: st) h r := ev_aload_n iX6_advance_27 rfl cdv_r
theorem iX6_advance_28 : mn_ins 54 28 = some (6, false, .dup, 1) := by decide +kernel
theorem eX6_advance_28 : Ev 54 28 (ls) (.ref a :: st) h r ↔ Ev 54 29 (ls) (.ref a :: .ref a :: st) h r := ev_dup iX6_advance_28 rfl
theorem iX6_advance_29 : mn_ins 54 29 = some (6, false, .getfield 102, 3) := by decide +kernel
theorem eX6_advance_29 : Ev 54 29 (ls) (.ref a :: st) h r ↔ Evk 54 32 ls (mn_gf h a 5 6) st h r := ev_getf iX6_advance_29 (by decide +kernel)
theorem iX6_advance_32 : mn_ins 54 32 = some (6, false, .iconst 1, 1) := by decide +kernel
theorem eX6_advance_32 : Ev 54 32 (ls) (st) h r ↔ Ev 54 33 (ls) (.int (nI 1) :: st) h r := ev_iconst iX6_advance_32 (by decide)
theorem iX6_advance_33 : mn_ins 54 33 = some (6, false, .iadd, 1) := by decide +kernel
theorem eX6_advance_33 : Ev 54 33 (ls) (.int y :: .int x :: st) h r ↔ Ev 54 34 (ls) (.int (x + y) :: st) h r := ev_iadd iX6_advance_33
theorem iX6_advance_34 : mn_ins 54 34 = some (6, false, .putfield 102, 3) := by decide +kernel
theorem eX6_advance_34 : Ev 54 34 (ls) (w :: .ref a :: st) h r ↔ Evh 54 37 ls st (mn_pf h a 5 6 w) r := ev_putf iX6_advance_34 (by decide +kernel) (by decide +kernel)
theorem iX6_advance_37 : mn_ins 54 37 = some (6, false, .aload_n 1, 1) := by decide +kernel
theorem eX6_advance_37 : Ev 54 37 (a0 :: some (.ref a) :: ls) (st) h r ↔ Ev 54 38 (a0 :: some (.ref a) :: ls) (.ref a :: st) h r := ev_aload_n iX6_advance_37 rfl rfl
theorem eX6_advance_37n : Ev 54 37 (a0 :: some (.null) :: ls) (st) h r ↔ Ev 54 38 (a0 :: some (.null) :: ls) (.null :: st) h r := ev_aload_n iX6_advance_37 rfl rfl
theorem eX6_advance_37t : Ev 54 37 (a0 :: some (tkv o1) :: ls) (st) h r ↔ Ev 54 38 (a0 :: some (tkv o1) :: ls) (tkv o1 :: st) h r := ev_aload_n iX6_advance_37 rfl tkv_r
theorem eX6_advance_37s : Ev 54 37 (a0 :: some (sgv o1) :: ls) (st) h r ↔ Ev 54 38 (a0 :: some (sgv o1) :: ls) (sgv o1 :: st) h r := ev_aload_n iX6_advance_37 rfl sgv_r
theorem eX6_advance_37c : Ev 54 37 (a0 :: some (cdv o1) :: ls) (st) h r ↔ Ev 54 38 (a0 :: some (cdv o1) :: ls) (cdv o1 :: st) h r := ev_aload_n iX6_advance_37 rfl cdv_r
theorem iX6_advance_38 : mn_ins 54 38 = some (6, false, .getfield 72, 3) := by decide +kernel
theorem eX6_advance_38 : Ev 54 38 (ls) (.ref a :: st) h r ↔ Evk 54 41 ls (mn_gf h a 5 1) st h r := ev_getf iX6_advance_38 (by decide +kernel)
theorem iX6_advance_41 : mn_ins 54 41 = some (6, false, .astore_n 2, 1) := by decide +kernel
theorem eX6_advance_41 : Ev 54 41 (a0 :: a1 :: a2 :: ls) (.ref a :: st) h r ↔ Ev 54 42 (a0 :: mn_k a1 :: some (.ref a) :: ls) (st) h r := ev_astore_n iX6_advance_41 (by show 2 < _; simp only [List.length_cons]; omega) rfl
theorem eX6_advance_41n : Ev 54 41 (a0 :: a1 :: a2 :: ls) (.null :: st) h r ↔ Ev 54 42 (a0 :: mn_k a1 :: some (.null) :: ls) (st) h r := ev_astore_n iX6_advance_41 (by show 2 < _; simp only [List.length_cons]; omega) rfl
theorem eX6_advance_41t : Ev 54 41 (a0 :: a1 :: a2 :: ls) (tkv o1 :: st) h r ↔ Ev 54 42 (a0 :: mn_k a1 :: some (tkv o1) :: ls) (st) h r := ev_astore_n iX6_advance_41 (by show 2 < _; simp only [List.length_cons]; omega) tkv_r
theorem eX6_advance_41s : Ev 54 41 (a0 :: a1 :: a2 :: ls) (sgv o1 :: st) h r ↔ Ev 54 42 (a0 :: mn_k a1 :: some (sgv o1) :: ls) (st) h r := ev_astore_n iX6_advance_41 (by show 2 < _; simp only [List.length_cons]; omega) sgv_r
theorem eX6_advance_41c : Ev 54 41 (a0 :: a1 :: a2 :: ls) (cdv o1 :: st) h r ↔ Ev 54 42 (a0 :: mn_k a1 :: some (cdv o1) :: ls) (st) h r := ev_astore_n iX6_advance_41 (by show 2 < _; simp only [List.length_cons]; omega) cdv_r
theorem iX6_advance_42 : mn_ins 54 42 = some (6, false, .aload_n 2, 1) := by decide +kernel
theorem eX6_advance_42 : Ev 54 42 (a0 :: a1 :: some (.ref a) :: ls) (st) h r ↔ Ev 54 43 (a0 :: a1 :: some (.ref a) :: ls) (.ref a :: st) h r := ev_aload_n iX6_advance_42 rfl rfl
theorem eX6_advance_42n : Ev 54 42 (a0 :: a1 :: some (.null) :: ls) (st) h r ↔ Ev 54 43 (a0 :: a1 :: some (.null) :: ls) (.null :: st) h r := ev_aload_n iX6_advance_42 rfl rfl
theorem eX6_advance_42t : Ev 54 42 (a0 :: a1 :: some (tkv o1) :: ls) (st) h r ↔ Ev 54 43 (a0 :: a1 :: some (tkv o1) :: ls) (tkv o1 :: st) h r := ev_aload_n iX6_advance_42 rfl tkv_r
theorem eX6_advance_42s : Ev 54 42 (a0 :: a1 :: some (sgv o1) :: ls) (st) h r ↔ Ev 54 43 (a0 :: a1 :: some (sgv o1) :: ls) (sgv o1 :: st) h r := ev_aload_n iX6_advance_42 rfl sgv_r
theorem eX6_advance_42c : Ev 54 42 (a0 :: a1 :: some (cdv o1) :: ls) (st) h r ↔ Ev 54 43 (a0 :: a1 :: some (cdv o1) :: ls) (cdv o1 :: st) h r := ev_aload_n iX6_advance_42 rfl cdv_r
theorem iX6_advance_43 : mn_ins 54 43 = some (6, false, .invokevirtual 91, 3) := by decide +kernel
theorem eX6_advance_43 : Ev 54 43 (ls) (.ref b :: st) h r ↔ Evr true (decide (mn_cats st ≤ 8) && mn_isc h b 2) 54 43 ls st h.2.2.1 h.2.2.2 (Cl 13 (.ref b :: []) h.1 h.2.1) r := Ev_V (As := []) iX6_advance_43 (by decide +kernel) (x := mnI_X6_advance) (x2 := mnI_X2_operation) rfl rfl rfl (by decide +kernel) (Nat.le_of_ble_eq_true rfl) rfl
theorem iX6_advance_46 : mn_ins 54 46 = some (6, false, .tableswitch 154 3 16 #[70, 92, 154, 154, 154, 154, 154, 154, 154, 154, 114, 122, 130, 138], 70) := by decide +kernel
theorem eX6_advance_46_c3 : Ev 54 46 (ls) (.int (nI 3) :: st) h r ↔ Ev 54 116 (ls) (st) h r := ev_tsIn iX6_advance_46 (by decide) (off := 70) (by decide) (by decide)
theorem eX6_advance_46_c4 : Ev 54 46 (ls) (.int (nI 4) :: st) h r ↔ Ev 54 138 (ls) (st) h r := ev_tsIn iX6_advance_46 (by decide) (off := 92) (by decide) (by decide)
theorem eX6_advance_46_c5 : Ev 54 46 (ls) (.int (nI 5) :: st) h r ↔ Ev 54 200 (ls) (st) h r := ev_tsIn iX6_advance_46 (by decide) (off := 154) (by decide) (by decide)
theorem eX6_advance_46_c6 : Ev 54 46 (ls) (.int (nI 6) :: st) h r ↔ Ev 54 200 (ls) (st) h r := ev_tsIn iX6_advance_46 (by decide) (off := 154) (by decide) (by decide)
theorem eX6_advance_46_c7 : Ev 54 46 (ls) (.int (nI 7) :: st) h r ↔ Ev 54 200 (ls) (st) h r := ev_tsIn iX6_advance_46 (by decide) (off := 154) (by decide) (by decide)
theorem eX6_advance_46_c8 : Ev 54 46 (ls) (.int (nI 8) :: st) h r ↔ Ev 54 200 (ls) (st) h r := ev_tsIn iX6_advance_46 (by decide) (off := 154) (by decide) (by decide)
theorem eX6_advance_46_c9 : Ev 54 46 (ls) (.int (nI 9) :: st) h r ↔ Ev 54 200 (ls) (st) h r := ev_tsIn iX6_advance_46 (by decide) (off := 154) (by decide) (by decide)
theorem eX6_advance_46_c10 : Ev 54 46 (ls) (.int (nI 10) :: st) h r ↔ Ev 54 200 (ls) (st) h r := ev_tsIn iX6_advance_46 (by decide) (off := 154) (by decide) (by decide)
theorem eX6_advance_46_c11 : Ev 54 46 (ls) (.int (nI 11) :: st) h r ↔ Ev 54 200 (ls) (st) h r := ev_tsIn iX6_advance_46 (by decide) (off := 154) (by decide) (by decide)
theorem eX6_advance_46_c12 : Ev 54 46 (ls) (.int (nI 12) :: st) h r ↔ Ev 54 200 (ls) (st) h r := ev_tsIn iX6_advance_46 (by decide) (off := 154) (by decide) (by decide)
theorem eX6_advance_46_c13 : Ev 54 46 (ls) (.int (nI 13) :: st) h r ↔ Ev 54 160 (ls) (st) h r := ev_tsIn iX6_advance_46 (by decide) (off := 114) (by decide) (by decide)
theorem eX6_advance_46_c14 : Ev 54 46 (ls) (.int (nI 14) :: st) h r ↔ Ev 54 168 (ls) (st) h r := ev_tsIn iX6_advance_46 (by decide) (off := 122) (by decide) (by decide)
theorem eX6_advance_46_c15 : Ev 54 46 (ls) (.int (nI 15) :: st) h r ↔ Ev 54 176 (ls) (st) h r := ev_tsIn iX6_advance_46 (by decide) (off := 130) (by decide) (by decide)
theorem eX6_advance_46_c16 : Ev 54 46 (ls) (.int (nI 16) :: st) h r ↔ Ev 54 184 (ls) (st) h r := ev_tsIn iX6_advance_46 (by decide) (off := 138) (by decide) (by decide)
theorem eX6_advance_46_c0 : Ev 54 46 (ls) (.int (nI 0) :: st) h r ↔ Ev 54 200 (ls) (st) h r := ev_tsOut iX6_advance_46 (by decide) (by decide)
theorem eX6_advance_46_c1 : Ev 54 46 (ls) (.int (nI 1) :: st) h r ↔ Ev 54 200 (ls) (st) h r := ev_tsOut iX6_advance_46 (by decide) (by decide)
theorem eX6_advance_46_c2 : Ev 54 46 (ls) (.int (nI 2) :: st) h r ↔ Ev 54 200 (ls) (st) h r := ev_tsOut iX6_advance_46 (by decide) (by decide)
theorem eX6_advance_46_c17 : Ev 54 46 (ls) (.int (nI 17) :: st) h r ↔ Ev 54 200 (ls) (st) h r := ev_tsOut iX6_advance_46 (by decide) (by decide)
theorem eX6_advance_46_c18 : Ev 54 46 (ls) (.int (nI 18) :: st) h r ↔ Ev 54 200 (ls) (st) h r := ev_tsOut iX6_advance_46 (by decide) (by decide)
theorem eX6_advance_46_c19 : Ev 54 46 (ls) (.int (nI 19) :: st) h r ↔ Ev 54 200 (ls) (st) h r := ev_tsOut iX6_advance_46 (by decide) (by decide)
theorem eX6_advance_46_d (hx : x.toInt < 3 ∨ 16 < x.toInt) : Ev 54 46 (ls) (.int x :: st) h r ↔ Ev 54 200 (ls) (st) h r := ev_tsOut iX6_advance_46 hx (by decide)
theorem iX6_advance_116 : mn_ins 54 116 = some (6, false, .aload_n 2, 1) := by decide +kernel
theorem eX6_advance_116 : Ev 54 116 (a0 :: a1 :: some (.ref a) :: ls) (st) h r ↔ Ev 54 117 (a0 :: a1 :: some (.ref a) :: ls) (.ref a :: st) h r := ev_aload_n iX6_advance_116 rfl rfl
theorem eX6_advance_116n : Ev 54 116 (a0 :: a1 :: some (.null) :: ls) (st) h r ↔ Ev 54 117 (a0 :: a1 :: some (.null) :: ls) (.null :: st) h r := ev_aload_n iX6_advance_116 rfl rfl
theorem eX6_advance_116t : Ev 54 116 (a0 :: a1 :: some (tkv o1) :: ls) (st) h r ↔ Ev 54 117 (a0 :: a1 :: some (tkv o1) :: ls) (tkv o1 :: st) h r := ev_aload_n iX6_advance_116 rfl tkv_r
theorem eX6_advance_116s : Ev 54 116 (a0 :: a1 :: some (sgv o1) :: ls) (st) h r ↔ Ev 54 117 (a0 :: a1 :: some (sgv o1) :: ls) (sgv o1 :: st) h r := ev_aload_n iX6_advance_116 rfl sgv_r
theorem eX6_advance_116c : Ev 54 116 (a0 :: a1 :: some (cdv o1) :: ls) (st) h r ↔ Ev 54 117 (a0 :: a1 :: some (cdv o1) :: ls) (cdv o1 :: st) h r := ev_aload_n iX6_advance_116 rfl cdv_r
theorem iX6_advance_117 : mn_ins 54 117 = some (6, false, .aload_n 1, 1) := by decide +kernel
theorem eX6_advance_117 : Ev 54 117 (a0 :: some (.ref a) :: ls) (st) h r ↔ Ev 54 118 (a0 :: some (.ref a) :: ls) (.ref a :: st) h r := ev_aload_n iX6_advance_117 rfl rfl
theorem eX6_advance_117n : Ev 54 117 (a0 :: some (.null) :: ls) (st) h r ↔ Ev 54 118 (a0 :: some (.null) :: ls) (.null :: st) h r := ev_aload_n iX6_advance_117 rfl rfl
theorem eX6_advance_117t : Ev 54 117 (a0 :: some (tkv o1) :: ls) (st) h r ↔ Ev 54 118 (a0 :: some (tkv o1) :: ls) (tkv o1 :: st) h r := ev_aload_n iX6_advance_117 rfl tkv_r
theorem eX6_advance_117s : Ev 54 117 (a0 :: some (sgv o1) :: ls) (st) h r ↔ Ev 54 118 (a0 :: some (sgv o1) :: ls) (sgv o1 :: st) h r := ev_aload_n iX6_advance_117 rfl sgv_r
theorem eX6_advance_117c : Ev 54 117 (a0 :: some (cdv o1) :: ls) (st) h r ↔ Ev 54 118 (a0 :: some (cdv o1) :: ls) (cdv o1 :: st) h r := ev_aload_n iX6_advance_117 rfl cdv_r
theorem iX6_advance_118 : mn_ins 54 118 = some (6, false, .getfield 103, 3) := by decide +kernel
theorem eX6_advance_118 : Ev 54 118 (ls) (.ref a :: st) h r ↔ Evk 54 121 ls (mn_gf h a 5 11) st h r := ev_getf iX6_advance_118 (by decide +kernel)
theorem iX6_advance_121 : mn_ins 54 121 = some (6, false, .aload_n 2, 1) := by decide +kernel
theorem eX6_advance_121 : Ev 54 121 (a0 :: a1 :: some (.ref a) :: ls) (st) h r ↔ Ev 54 122 (a0 :: a1 :: some (.ref a) :: ls) (.ref a :: st) h r := ev_aload_n iX6_advance_121 rfl rfl
theorem eX6_advance_121n : Ev 54 121 (a0 :: a1 :: some (.null) :: ls) (st) h r ↔ Ev 54 122 (a0 :: a1 :: some (.null) :: ls) (.null :: st) h r := ev_aload_n iX6_advance_121 rfl rfl
theorem eX6_advance_121t : Ev 54 121 (a0 :: a1 :: some (tkv o1) :: ls) (st) h r ↔ Ev 54 122 (a0 :: a1 :: some (tkv o1) :: ls) (tkv o1 :: st) h r := ev_aload_n iX6_advance_121 rfl tkv_r
theorem eX6_advance_121s : Ev 54 121 (a0 :: a1 :: some (sgv o1) :: ls) (st) h r ↔ Ev 54 122 (a0 :: a1 :: some (sgv o1) :: ls) (sgv o1 :: st) h r := ev_aload_n iX6_advance_121 rfl sgv_r
theorem eX6_advance_121c : Ev 54 121 (a0 :: a1 :: some (cdv o1) :: ls) (st) h r ↔ Ev 54 122 (a0 :: a1 :: some (cdv o1) :: ls) (cdv o1 :: st) h r := ev_aload_n iX6_advance_121 rfl cdv_r
theorem iX6_advance_122 : mn_ins 54 122 = some (6, false, .invokevirtual 107, 3) := by decide +kernel
theorem eX6_advance_122 : Ev 54 122 (ls) (.ref b :: st) h r ↔ Evr true (decide (mn_cats st ≤ 8) && mn_isc h b 2) 54 122 ls st h.2.2.1 h.2.2.2 (Cl 14 (.ref b :: []) h.1 h.2.1) r := Ev_V (As := []) iX6_advance_122 (by decide +kernel) (x := mnI_X6_advance) (x2 := mnI_X2_argument) rfl rfl rfl (by decide +kernel) (Nat.le_of_ble_eq_true rfl) rfl
theorem iX6_advance_125 : mn_ins 54 125 = some (6, false, .invokevirtual 110, 3) := by decide +kernel
theorem eX6_advance_125 : Ev 54 125 (ls) (.int x0 :: .ref b :: st) h r ↔ Evr true (decide (mn_cats st ≤ 8) && mn_isc h b 4) 54 125 ls st h.2.2.1 h.2.2.2 (Cl 36 (.ref b :: [.int x0]) h.1 h.2.1) r := Ev_V (As := [.int x0]) iX6_advance_125 (by decide +kernel) (x := mnI_X6_advance) (x2 := mnI_X4_lookUp) rfl rfl rfl (by decide +kernel) (Nat.le_of_ble_eq_true rfl) rfl
theorem iX6_advance_128 : mn_ins 54 128 = some (6, false, .invokevirtual 114, 3) := by decide +kernel
theorem eX6_advance_128 : Ev 54 128 (ls) (.long u0 :: .ref b :: st) h r ↔ Evr true (decide (mn_cats st ≤ 8) && mn_isc h b 2) 54 128 ls st h.2.2.1 h.2.2.2 (Cl 16 (.ref b :: [.long u0]) h.1 h.2.1) r := Ev_V (As := [.long u0]) iX6_advance_128 (by decide +kernel) (x := mnI_X6_advance) (x2 := mnI_X2_push) rfl rfl rfl (by decide +kernel) (Nat.le_of_ble_eq_true rfl) rfl
theorem iX6_advance_131 : mn_ins 54 131 = some (6, false, .aload_n 2, 1) := by decide +kernel
theorem eX6_advance_131 : Ev 54 131 (a0 :: a1 :: some (.ref a) :: ls) (st) h r ↔ Ev 54 132 (a0 :: a1 :: some (.ref a) :: ls) (.ref a :: st) h r := ev_aload_n iX6_advance_131 rfl rfl
theorem eX6_advance_131n : Ev 54 131 (a0 :: a1 :: some (.null) :: ls) (st) h r ↔ Ev 54 132 (a0 :: a1 :: some (.null) :: ls) (.null :: st) h r := ev_aload_n iX6_advance_131 rfl rfl
theorem eX6_advance_131t : Ev 54 131 (a0 :: a1 :: some (tkv o1) :: ls) (st) h r ↔ Ev 54 132 (a0 :: a1 :: some (tkv o1) :: ls) (tkv o1 :: st) h r := ev_aload_n iX6_advance_131 rfl tkv_r
theorem eX6_advance_131s : Ev 54 131 (a0 :: a1 :: some (sgv o1) :: ls) (st) h r ↔ Ev 54 132 (a0 :: a1 :: some (sgv o1) :: ls) (sgv o1 :: st) h r := ev_aload_n iX6_advance_131 rfl sgv_r
theorem eX6_advance_131c : Ev 54 131 (a0 :: a1 :: some (cdv o1) :: ls) (st) h r ↔ Ev 54 132 (a0 :: a1 :: some (cdv o1) :: ls) (cdv o1 :: st) h r := ev_aload_n iX6_advance_131 rfl cdv_r
theorem iX6_advance_132 : mn_ins 54 132 = some (6, false, .invokevirtual 118, 3) := by decide +kernel
theorem eX6_advance_132 : Ev 54 132 (ls) (.ref b :: st) h r ↔ Evr true (decide (mn_cats st ≤ 8) && mn_isc h b 2) 54 132 ls st h.2.2.1 h.2.2.2 (Cl 15 (.ref b :: []) h.1 h.2.1) r := Ev_V (As := []) iX6_advance_132 (by decide +kernel) (x := mnI_X6_advance) (x2 := mnI_X2_moveOn) rfl rfl rfl (by decide +kernel) (Nat.le_of_ble_eq_true rfl) rfl
theorem iX6_advance_135 : mn_ins 54 135 = some (6, false, .goto 69, 3) := by decide +kernel
theorem eX6_advance_135 : Ev 54 135 (ls) (st) h r ↔ Ev 54 204 (ls) (st) h r := ev_goto iX6_advance_135 (by decide)
theorem iX6_advance_138 : mn_ins 54 138 = some (6, false, .aload_n 1, 1) := by decide +kernel
theorem eX6_advance_138 : Ev 54 138 (a0 :: some (.ref a) :: ls) (st) h r ↔ Ev 54 139 (a0 :: some (.ref a) :: ls) (.ref a :: st) h r := ev_aload_n iX6_advance_138 rfl rfl
theorem eX6_advance_138n : Ev 54 138 (a0 :: some (.null) :: ls) (st) h r ↔ Ev 54 139 (a0 :: some (.null) :: ls) (.null :: st) h r := ev_aload_n iX6_advance_138 rfl rfl
theorem eX6_advance_138t : Ev 54 138 (a0 :: some (tkv o1) :: ls) (st) h r ↔ Ev 54 139 (a0 :: some (tkv o1) :: ls) (tkv o1 :: st) h r := ev_aload_n iX6_advance_138 rfl tkv_r
theorem eX6_advance_138s : Ev 54 138 (a0 :: some (sgv o1) :: ls) (st) h r ↔ Ev 54 139 (a0 :: some (sgv o1) :: ls) (sgv o1 :: st) h r := ev_aload_n iX6_advance_138 rfl sgv_r
theorem eX6_advance_138c : Ev 54 138 (a0 :: some (cdv o1) :: ls) (st) h r ↔ Ev 54 139 (a0 :: some (cdv o1) :: ls) (cdv o1 :: st) h r := ev_aload_n iX6_advance_138 rfl cdv_r
theorem iX6_advance_139 : mn_ins 54 139 = some (6, false, .getfield 103, 3) := by decide +kernel
theorem eX6_advance_139 : Ev 54 139 (ls) (.ref a :: st) h r ↔ Evk 54 142 ls (mn_gf h a 5 11) st h r := ev_getf iX6_advance_139 (by decide +kernel)
theorem iX6_advance_142 : mn_ins 54 142 = some (6, false, .aload_n 2, 1) := by decide +kernel
theorem eX6_advance_142 : Ev 54 142 (a0 :: a1 :: some (.ref a) :: ls) (st) h r ↔ Ev 54 143 (a0 :: a1 :: some (.ref a) :: ls) (.ref a :: st) h r := ev_aload_n iX6_advance_142 rfl rfl
theorem eX6_advance_142n : Ev 54 142 (a0 :: a1 :: some (.null) :: ls) (st) h r ↔ Ev 54 143 (a0 :: a1 :: some (.null) :: ls) (.null :: st) h r := ev_aload_n iX6_advance_142 rfl rfl
theorem eX6_advance_142t : Ev 54 142 (a0 :: a1 :: some (tkv o1) :: ls) (st) h r ↔ Ev 54 143 (a0 :: a1 :: some (tkv o1) :: ls) (tkv o1 :: st) h r := ev_aload_n iX6_advance_142 rfl tkv_r
theorem eX6_advance_142s : Ev 54 142 (a0 :: a1 :: some (sgv o1) :: ls) (st) h r ↔ Ev 54 143 (a0 :: a1 :: some (sgv o1) :: ls) (sgv o1 :: st) h r := ev_aload_n iX6_advance_142 rfl sgv_r
theorem eX6_advance_142c : Ev 54 142 (a0 :: a1 :: some (cdv o1) :: ls) (st) h r ↔ Ev 54 143 (a0 :: a1 :: some (cdv o1) :: ls) (cdv o1 :: st) h r := ev_aload_n iX6_advance_142 rfl cdv_r
theorem iX6_advance_143 : mn_ins 54 143 = some (6, false, .invokevirtual 107, 3) := by decide +kernel
theorem eX6_advance_143 : Ev 54 143 (ls) (.ref b :: st) h r ↔ Evr true (decide (mn_cats st ≤ 8) && mn_isc h b 2) 54 143 ls st h.2.2.1 h.2.2.2 (Cl 14 (.ref b :: []) h.1 h.2.1) r := Ev_V (As := []) iX6_advance_143 (by decide +kernel) (x := mnI_X6_advance) (x2 := mnI_X2_argument) rfl rfl rfl (by decide +kernel) (Nat.le_of_ble_eq_true rfl) rfl
theorem iX6_advance_146 : mn_ins 54 146 = some (6, false, .aload_n 2, 1) := by decide +kernel
theorem eX6_advance_146 : Ev 54 146 (a0 :: a1 :: some (.ref a) :: ls) (st) h r ↔ Ev 54 147 (a0 :: a1 :: some (.ref a) :: ls) (.ref a :: st) h r := ev_aload_n iX6_advance_146 rfl rfl
theorem eX6_advance_146n : Ev 54 146 (a0 :: a1 :: some (.null) :: ls) (st) h r ↔ Ev 54 147 (a0 :: a1 :: some (.null) :: ls) (.null :: st) h r := ev_aload_n iX6_advance_146 rfl rfl
theorem eX6_advance_146t : Ev 54 146 (a0 :: a1 :: some (tkv o1) :: ls) (st) h r ↔ Ev 54 147 (a0 :: a1 :: some (tkv o1) :: ls) (tkv o1 :: st) h r := ev_aload_n iX6_advance_146 rfl tkv_r
theorem eX6_advance_146s : Ev 54 146 (a0 :: a1 :: some (sgv o1) :: ls) (st) h r ↔ Ev 54 147 (a0 :: a1 :: some (sgv o1) :: ls) (sgv o1 :: st) h r := ev_aload_n iX6_advance_146 rfl sgv_r
theorem eX6_advance_146c : Ev 54 146 (a0 :: a1 :: some (cdv o1) :: ls) (st) h r ↔ Ev 54 147 (a0 :: a1 :: some (cdv o1) :: ls) (cdv o1 :: st) h r := ev_aload_n iX6_advance_146 rfl cdv_r
theorem iX6_advance_147 : mn_ins 54 147 = some (6, false, .invokevirtual 121, 3) := by decide +kernel
theorem eX6_advance_147 : Ev 54 147 (ls) (.ref b :: st) h r ↔ Evr true (decide (mn_cats st ≤ 8) && mn_isc h b 2) 54 147 ls st h.2.2.1 h.2.2.2 (Cl 17 (.ref b :: []) h.1 h.2.1) r := Ev_V (As := []) iX6_advance_147 (by decide +kernel) (x := mnI_X6_advance) (x2 := mnI_X2_pop) rfl rfl rfl (by decide +kernel) (Nat.le_of_ble_eq_true rfl) rfl
theorem iX6_advance_150 : mn_ins 54 150 = some (6, false, .invokevirtual 125, 3) := by decide +kernel
theorem eX6_advance_150 : Ev 54 150 (ls) (.long u1 :: .int x0 :: .ref b :: st) h r ↔ Evr true (decide (mn_cats st ≤ 8) && mn_isc h b 4) 54 150 ls st h.2.2.1 h.2.2.2 (Cl 35 (.ref b :: [.int x0, .long u1]) h.1 h.2.1) r := Ev_V (As := [.int x0, .long u1]) iX6_advance_150 (by decide +kernel) (x := mnI_X6_advance) (x2 := mnI_X4_put) rfl rfl rfl (by decide +kernel) (Nat.le_of_ble_eq_true rfl) rfl
theorem iX6_advance_153 : mn_ins 54 153 = some (6, false, .aload_n 2, 1) := by decide +kernel
theorem eX6_advance_153 : Ev 54 153 (a0 :: a1 :: some (.ref a) :: ls) (st) h r ↔ Ev 54 154 (a0 :: a1 :: some (.ref a) :: ls) (.ref a :: st) h r := ev_aload_n iX6_advance_153 rfl rfl
theorem eX6_advance_153n : Ev 54 153 (a0 :: a1 :: some (.null) :: ls) (st) h r ↔ Ev 54 154 (a0 :: a1 :: some (.null) :: ls) (.null :: st) h r := ev_aload_n iX6_advance_153 rfl rfl
theorem eX6_advance_153t : Ev 54 153 (a0 :: a1 :: some (tkv o1) :: ls) (st) h r ↔ Ev 54 154 (a0 :: a1 :: some (tkv o1) :: ls) (tkv o1 :: st) h r := ev_aload_n iX6_advance_153 rfl tkv_r
theorem eX6_advance_153s : Ev 54 153 (a0 :: a1 :: some (sgv o1) :: ls) (st) h r ↔ Ev 54 154 (a0 :: a1 :: some (sgv o1) :: ls) (sgv o1 :: st) h r := ev_aload_n iX6_advance_153 rfl sgv_r
theorem eX6_advance_153c : Ev 54 153 (a0 :: a1 :: some (cdv o1) :: ls) (st) h r ↔ Ev 54 154 (a0 :: a1 :: some (cdv o1) :: ls) (cdv o1 :: st) h r := ev_aload_n iX6_advance_153 rfl cdv_r
theorem iX6_advance_154 : mn_ins 54 154 = some (6, false, .invokevirtual 118, 3) := by decide +kernel
theorem eX6_advance_154 : Ev 54 154 (ls) (.ref b :: st) h r ↔ Evr true (decide (mn_cats st ≤ 8) && mn_isc h b 2) 54 154 ls st h.2.2.1 h.2.2.2 (Cl 15 (.ref b :: []) h.1 h.2.1) r := Ev_V (As := []) iX6_advance_154 (by decide +kernel) (x := mnI_X6_advance) (x2 := mnI_X2_moveOn) rfl rfl rfl (by decide +kernel) (Nat.le_of_ble_eq_true rfl) rfl
theorem iX6_advance_157 : mn_ins 54 157 = some (6, false, .goto 47, 3) := by decide +kernel
theorem eX6_advance_157 : Ev 54 157 (ls) (st) h r ↔ Ev 54 204 (ls) (st) h r := ev_goto iX6_advance_157 (by decide)
theorem iX6_advance_160 : mn_ins 54 160 = some (6, false, .aload_n 0, 1) := by decide +kernel
theorem eX6_advance_160 : Ev 54 160 (some (.ref a) :: ls) (st) h r ↔ Ev 54 161 (some (.ref a) :: ls) (.ref a :: st) h r := ev_aload_n iX6_advance_160 rfl rfl
theorem iX6_advance_161 : mn_ins 54 161 = some (6, false, .aload_n 1, 1) := by decide +kernel
theorem eX6_advance_161 : Ev 54 161 (a0 :: some (.ref a) :: ls) (st) h r ↔ Ev 54 162 (a0 :: some (.ref a) :: ls) (.ref a :: st) h r := ev_aload_n iX6_advance_161 rfl rfl
theorem eX6_advance_161n : Ev 54 161 (a0 :: some (.null) :: ls) (st) h r ↔ Ev 54 162 (a0 :: some (.null) :: ls) (.null :: st) h r := ev_aload_n iX6_advance_161 rfl rfl
theorem eX6_advance_161t : Ev 54 161 (a0 :: some (tkv o1) :: ls) (st) h r ↔ Ev 54 162 (a0 :: some (tkv o1) :: ls) (tkv o1 :: st) h r := ev_aload_n iX6_advance_161 rfl tkv_r
theorem eX6_advance_161s : Ev 54 161 (a0 :: some (sgv o1) :: ls) (st) h r ↔ Ev 54 162 (a0 :: some (sgv o1) :: ls) (sgv o1 :: st) h r := ev_aload_n iX6_advance_161 rfl sgv_r
theorem eX6_advance_161c : Ev 54 161 (a0 :: some (cdv o1) :: ls) (st) h r ↔ Ev 54 162 (a0 :: some (cdv o1) :: ls) (cdv o1 :: st) h r := ev_aload_n iX6_advance_161 rfl cdv_r
theorem iX6_advance_162 : mn_ins 54 162 = some (6, false, .invokevirtual 129, 3) := by decide +kernel
theorem EgX6_advance_162 (hw3 : (mn_r w3).isSome = true) : Ev 54 162 (ls) (w3 :: .ref b :: st) h r ↔ Evr true (decide (mn_cats st ≤ 8) && mn_isc h b 6) 54 162 ls st h.2.2.1 h.2.2.2 (Cl 56 (.ref b :: [w3]) h.1 h.2.1) r := Ev_V (As := [w3]) iX6_advance_162 (by decide +kernel) (x := mnI_X6_advance) (x2 := mnI_X6_fork) rfl rfl rfl (by decide +kernel) (by rcases mn_r_is hw3 with ⟨_, rfl⟩ | rfl <;> exact Nat.le_of_ble_eq_true rfl) rfl
theorem eX6_advance_162 {cw3 : Nat} : Ev 54 162 (ls) ((.ref cw3) :: .ref b :: st) h r ↔ Evr true (decide (mn_cats st ≤ 8) && mn_isc h b 6) 54 162 ls st h.2.2.1 h.2.2.2 (Cl 56 (.ref b :: [(.ref cw3)]) h.1 h.2.1) r := EgX6_advance_162 rfl
theorem iX6_advance_165 : mn_ins 54 165 = some (6, false, .goto 39, 3) := by decide +kernel
theorem eX6_advance_165 : Ev 54 165 (ls) (st) h r ↔ Ev 54 204 (ls) (st) h r := ev_goto iX6_advance_165 (by decide)
theorem iX6_advance_168 : mn_ins 54 168 = some (6, false, .aload_n 0, 1) := by decide +kernel
theorem eX6_advance_168 : Ev 54 168 (some (.ref a) :: ls) (st) h r ↔ Ev 54 169 (some (.ref a) :: ls) (.ref a :: st) h r := ev_aload_n iX6_advance_168 rfl rfl
theorem iX6_advance_169 : mn_ins 54 169 = some (6, false, .aload_n 1, 1) := by decide +kernel
theorem eX6_advance_169 : Ev 54 169 (a0 :: some (.ref a) :: ls) (st) h r ↔ Ev 54 170 (a0 :: some (.ref a) :: ls) (.ref a :: st) h r := ev_aload_n iX6_advance_169 rfl rfl
theorem eX6_advance_169n : Ev 54 169 (a0 :: some (.null) :: ls) (st) h r ↔ Ev 54 170 (a0 :: some (.null) :: ls) (.null :: st) h r := ev_aload_n iX6_advance_169 rfl rfl
theorem eX6_advance_169t : Ev 54 169 (a0 :: some (tkv o1) :: ls) (st) h r ↔ Ev 54 170 (a0 :: some (tkv o1) :: ls) (tkv o1 :: st) h r := ev_aload_n iX6_advance_169 rfl tkv_r
theorem eX6_advance_169s : Ev 54 169 (a0 :: some (sgv o1) :: ls) (st) h r ↔ Ev 54 170 (a0 :: some (sgv o1) :: ls) (sgv o1 :: st) h r := ev_aload_n iX6_advance_169 rfl sgv_r
theorem eX6_advance_169c : Ev 54 169 (a0 :: some (cdv o1) :: ls) (st) h r ↔ Ev 54 170 (a0 :: some (cdv o1) :: ls) (cdv o1 :: st) h r := ev_aload_n iX6_advance_169 rfl cdv_r
theorem iX6_advance_170 : mn_ins 54 170 = some (6, false, .invokevirtual 133, 3) := by decide +kernel
theorem EgX6_advance_170 (hw3 : (mn_r w3).isSome = true) : Ev 54 170 (ls) (w3 :: .ref b :: st) h r ↔ Evr true (decide (mn_cats st ≤ 8) && mn_isc h b 6) 54 170 ls st h.2.2.1 h.2.2.2 (Cl 57 (.ref b :: [w3]) h.1 h.2.1) r := Ev_V (As := [w3]) iX6_advance_170 (by decide +kernel) (x := mnI_X6_advance) (x2 := mnI_X6_join) rfl rfl rfl (by decide +kernel) (by rcases mn_r_is hw3 with ⟨_, rfl⟩ | rfl <;> exact Nat.le_of_ble_eq_true rfl) rfl
theorem eX6_advance_170 {cw3 : Nat} : Ev 54 170 (ls) ((.ref cw3) :: .ref b :: st) h r ↔ Evr true (decide (mn_cats st ≤ 8) && mn_isc h b 6) 54 170 ls st h.2.2.1 h.2.2.2 (Cl 57 (.ref b :: [(.ref cw3)]) h.1 h.2.1) r := EgX6_advance_170 rfl
theorem iX6_advance_173 : mn_ins 54 173 = some (6, false, .goto 31, 3) := by decide +kernel
theorem eX6_advance_173 : Ev 54 173 (ls) (st) h r ↔ Ev 54 204 (ls) (st) h r := ev_goto iX6_advance_173 (by decide)
theorem iX6_advance_176 : mn_ins 54 176 = some (6, false, .aload_n 0, 1) := by decide +kernel
theorem eX6_advance_176 : Ev 54 176 (some (.ref a) :: ls) (st) h r ↔ Ev 54 177 (some (.ref a) :: ls) (.ref a :: st) h r := ev_aload_n iX6_advance_176 rfl rfl
theorem iX6_advance_177 : mn_ins 54 177 = some (6, false, .aload_n 1, 1) := by decide +kernel
theorem eX6_advance_177 : Ev 54 177 (a0 :: some (.ref a) :: ls) (st) h r ↔ Ev 54 178 (a0 :: some (.ref a) :: ls) (.ref a :: st) h r := ev_aload_n iX6_advance_177 rfl rfl
theorem eX6_advance_177n : Ev 54 177 (a0 :: some (.null) :: ls) (st) h r ↔ Ev 54 178 (a0 :: some (.null) :: ls) (.null :: st) h r := ev_aload_n iX6_advance_177 rfl rfl
theorem eX6_advance_177t : Ev 54 177 (a0 :: some (tkv o1) :: ls) (st) h r ↔ Ev 54 178 (a0 :: some (tkv o1) :: ls) (tkv o1 :: st) h r := ev_aload_n iX6_advance_177 rfl tkv_r
theorem eX6_advance_177s : Ev 54 177 (a0 :: some (sgv o1) :: ls) (st) h r ↔ Ev 54 178 (a0 :: some (sgv o1) :: ls) (sgv o1 :: st) h r := ev_aload_n iX6_advance_177 rfl sgv_r
theorem eX6_advance_177c : Ev 54 177 (a0 :: some (cdv o1) :: ls) (st) h r ↔ Ev 54 178 (a0 :: some (cdv o1) :: ls) (cdv o1 :: st) h r := ev_aload_n iX6_advance_177 rfl cdv_r
theorem iX6_advance_178 : mn_ins 54 178 = some (6, false, .invokevirtual 136, 3) := by decide +kernel
theorem EgX6_advance_178 (hw3 : (mn_r w3).isSome = true) : Ev 54 178 (ls) (w3 :: .ref b :: st) h r ↔ Evr true (decide (mn_cats st ≤ 8) && mn_isc h b 6) 54 178 ls st h.2.2.1 h.2.2.2 (Cl 55 (.ref b :: [w3]) h.1 h.2.1) r := Ev_V (As := [w3]) iX6_advance_178 (by decide +kernel) (x := mnI_X6_advance) (x2 := mnI_X6_printTop) rfl rfl rfl (by decide +kernel) (by rcases mn_r_is hw3 with ⟨_, rfl⟩ | rfl <;> exact Nat.le_of_ble_eq_true rfl) rfl
theorem eX6_advance_178 {cw3 : Nat} : Ev 54 178 (ls) ((.ref cw3) :: .ref b :: st) h r ↔ Evr true (decide (mn_cats st ≤ 8) && mn_isc h b 6) 54 178 ls st h.2.2.1 h.2.2.2 (Cl 55 (.ref b :: [(.ref cw3)]) h.1 h.2.1) r := EgX6_advance_178 rfl
theorem iX6_advance_181 : mn_ins 54 181 = some (6, false, .goto 23, 3) := by decide +kernel
theorem eX6_advance_181 : Ev 54 181 (ls) (st) h r ↔ Ev 54 204 (ls) (st) h r := ev_goto iX6_advance_181 (by decide)
theorem iX6_advance_184 : mn_ins 54 184 = some (6, false, .aload_n 1, 1) := by decide +kernel
theorem eX6_advance_184 : Ev 54 184 (a0 :: some (.ref a) :: ls) (st) h r ↔ Ev 54 185 (a0 :: some (.ref a) :: ls) (.ref a :: st) h r := ev_aload_n iX6_advance_184 rfl rfl
theorem eX6_advance_184n : Ev 54 184 (a0 :: some (.null) :: ls) (st) h r ↔ Ev 54 185 (a0 :: some (.null) :: ls) (.null :: st) h r := ev_aload_n iX6_advance_184 rfl rfl
theorem eX6_advance_184t : Ev 54 184 (a0 :: some (tkv o1) :: ls) (st) h r ↔ Ev 54 185 (a0 :: some (tkv o1) :: ls) (tkv o1 :: st) h r := ev_aload_n iX6_advance_184 rfl tkv_r
theorem eX6_advance_184s : Ev 54 184 (a0 :: some (sgv o1) :: ls) (st) h r ↔ Ev 54 185 (a0 :: some (sgv o1) :: ls) (sgv o1 :: st) h r := ev_aload_n iX6_advance_184 rfl sgv_r
theorem eX6_advance_184c : Ev 54 184 (a0 :: some (cdv o1) :: ls) (st) h r ↔ Ev 54 185 (a0 :: some (cdv o1) :: ls) (cdv o1 :: st) h r := ev_aload_n iX6_advance_184 rfl cdv_r
theorem iX6_advance_185 : mn_ins 54 185 = some (6, false, .aload_n 2, 1) := by decide +kernel
theorem eX6_advance_185 : Ev 54 185 (a0 :: a1 :: some (.ref a) :: ls) (st) h r ↔ Ev 54 186 (a0 :: a1 :: some (.ref a) :: ls) (.ref a :: st) h r := ev_aload_n iX6_advance_185 rfl rfl
theorem eX6_advance_185n : Ev 54 185 (a0 :: a1 :: some (.null) :: ls) (st) h r ↔ Ev 54 186 (a0 :: a1 :: some (.null) :: ls) (.null :: st) h r := ev_aload_n iX6_advance_185 rfl rfl
theorem eX6_advance_185t : Ev 54 185 (a0 :: a1 :: some (tkv o1) :: ls) (st) h r ↔ Ev 54 186 (a0 :: a1 :: some (tkv o1) :: ls) (tkv o1 :: st) h r := ev_aload_n iX6_advance_185 rfl tkv_r
theorem eX6_advance_185s : Ev 54 185 (a0 :: a1 :: some (sgv o1) :: ls) (st) h r ↔ Ev 54 186 (a0 :: a1 :: some (sgv o1) :: ls) (sgv o1 :: st) h r := ev_aload_n iX6_advance_185 rfl sgv_r
theorem eX6_advance_185c : Ev 54 185 (a0 :: a1 :: some (cdv o1) :: ls) (st) h r ↔ Ev 54 186 (a0 :: a1 :: some (cdv o1) :: ls) (cdv o1 :: st) h r := ev_aload_n iX6_advance_185 rfl cdv_r
theorem iX6_advance_186 : mn_ins 54 186 = some (6, false, .invokevirtual 121, 3) := by decide +kernel
theorem eX6_advance_186 : Ev 54 186 (ls) (.ref b :: st) h r ↔ Evr true (decide (mn_cats st ≤ 8) && mn_isc h b 2) 54 186 ls st h.2.2.1 h.2.2.2 (Cl 17 (.ref b :: []) h.1 h.2.1) r := Ev_V (As := []) iX6_advance_186 (by decide +kernel) (x := mnI_X6_advance) (x2 := mnI_X2_pop) rfl rfl rfl (by decide +kernel) (Nat.le_of_ble_eq_true rfl) rfl
theorem iX6_advance_189 : mn_ins 54 189 = some (6, false, .putfield 139, 3) := by decide +kernel
theorem eX6_advance_189 : Ev 54 189 (ls) (w :: .ref a :: st) h r ↔ Evh 54 192 ls st (mn_pf h a 5 7 w) r := ev_putf iX6_advance_189 (by decide +kernel) (by decide +kernel)
theorem iX6_advance_192 : mn_ins 54 192 = some (6, false, .aload_n 1, 1) := by decide +kernel
theorem eX6_advance_192 : Ev 54 192 (a0 :: some (.ref a) :: ls) (st) h r ↔ Ev 54 193 (a0 :: some (.ref a) :: ls) (.ref a :: st) h r := ev_aload_n iX6_advance_192 rfl rfl
theorem eX6_advance_192n : Ev 54 192 (a0 :: some (.null) :: ls) (st) h r ↔ Ev 54 193 (a0 :: some (.null) :: ls) (.null :: st) h r := ev_aload_n iX6_advance_192 rfl rfl
theorem eX6_advance_192t : Ev 54 192 (a0 :: some (tkv o1) :: ls) (st) h r ↔ Ev 54 193 (a0 :: some (tkv o1) :: ls) (tkv o1 :: st) h r := ev_aload_n iX6_advance_192 rfl tkv_r
theorem eX6_advance_192s : Ev 54 192 (a0 :: some (sgv o1) :: ls) (st) h r ↔ Ev 54 193 (a0 :: some (sgv o1) :: ls) (sgv o1 :: st) h r := ev_aload_n iX6_advance_192 rfl sgv_r
theorem eX6_advance_192c : Ev 54 192 (a0 :: some (cdv o1) :: ls) (st) h r ↔ Ev 54 193 (a0 :: some (cdv o1) :: ls) (cdv o1 :: st) h r := ev_aload_n iX6_advance_192 rfl cdv_r
theorem iX6_advance_193 : mn_ins 54 193 = some (6, false, .iconst 1, 1) := by decide +kernel
theorem eX6_advance_193 : Ev 54 193 (ls) (st) h r ↔ Ev 54 194 (ls) (.int (nI 1) :: st) h r := ev_iconst iX6_advance_193 (by decide)
theorem iX6_advance_194 : mn_ins 54 194 = some (6, false, .putfield 49, 3) := by decide +kernel
theorem eX6_advance_194 : Ev 54 194 (ls) (w :: .ref a :: st) h r ↔ Evh 54 197 ls st (mn_pf h a 5 4 w) r := ev_putf iX6_advance_194 (by decide +kernel) (by decide +kernel)
theorem iX6_advance_197 : mn_ins 54 197 = some (6, false, .goto 7, 3) := by decide +kernel
theorem eX6_advance_197 : Ev 54 197 (ls) (st) h r ↔ Ev 54 204 (ls) (st) h r := ev_goto iX6_advance_197 (by decide)
theorem iX6_advance_200 : mn_ins 54 200 = some (6, false, .aload_n 2, 1) := by decide +kernel
theorem eX6_advance_200 : Ev 54 200 (a0 :: a1 :: some (.ref a) :: ls) (st) h r ↔ Ev 54 201 (a0 :: a1 :: some (.ref a) :: ls) (.ref a :: st) h r := ev_aload_n iX6_advance_200 rfl rfl
theorem eX6_advance_200n : Ev 54 200 (a0 :: a1 :: some (.null) :: ls) (st) h r ↔ Ev 54 201 (a0 :: a1 :: some (.null) :: ls) (.null :: st) h r := ev_aload_n iX6_advance_200 rfl rfl
theorem eX6_advance_200t : Ev 54 200 (a0 :: a1 :: some (tkv o1) :: ls) (st) h r ↔ Ev 54 201 (a0 :: a1 :: some (tkv o1) :: ls) (tkv o1 :: st) h r := ev_aload_n iX6_advance_200 rfl tkv_r
theorem eX6_advance_200s : Ev 54 200 (a0 :: a1 :: some (sgv o1) :: ls) (st) h r ↔ Ev 54 201 (a0 :: a1 :: some (sgv o1) :: ls) (sgv o1 :: st) h r := ev_aload_n iX6_advance_200 rfl sgv_r
theorem eX6_advance_200c : Ev 54 200 (a0 :: a1 :: some (cdv o1) :: ls) (st) h r ↔ Ev 54 201 (a0 :: a1 :: some (cdv o1) :: ls) (cdv o1 :: st) h r := ev_aload_n iX6_advance_200 rfl cdv_r
theorem iX6_advance_201 : mn_ins 54 201 = some (6, false, .invokevirtual 143, 3) := by decide +kernel
theorem eX6_advance_201 : Ev 54 201 (ls) (.ref b :: st) h r ↔ Evr true (decide (mn_cats st ≤ 8) && mn_isc h b 2) 54 201 ls st h.2.2.1 h.2.2.2 (Cl 19 (.ref b :: []) h.1 h.2.1) r := Ev_V (As := []) iX6_advance_201 (by decide +kernel) (x := mnI_X6_advance) (x2 := mnI_X2_go) rfl rfl rfl (by decide +kernel) (Nat.le_of_ble_eq_true rfl) rfl
theorem iX6_advance_204 : mn_ins 54 204 = some (6, false, .iconst 1, 1) := by decide +kernel
theorem eX6_advance_204 : Ev 54 204 (ls) (st) h r ↔ Ev 54 205 (ls) (.int (nI 1) :: st) h r := ev_iconst iX6_advance_204 (by decide)
theorem iX6_advance_205 : mn_ins 54 205 = some (6, false, .ireturn, 1) := by decide +kernel
theorem eX6_advance_205 (hx : x = 0 ∨ x = 1) : Ev 54 205 (ls) [.int x] h r ↔ r = (h, .inl (some (.int x))) := ev_zret iX6_advance_205 (X := mnI_X6_advance) rfl rfl hx
theorem iX6_printTop_0 : mn_ins 55 0 = some (6, false, .aload_n 1, 1) := by decide +kernel
theorem eX6_printTop_0 : Ev 55 0 (a0 :: some (.ref a) :: ls) (st) h r ↔ Ev 55 1 (a0 :: some (.ref a) :: ls) (.ref a :: st) h r := ev_aload_n iX6_printTop_0 rfl rfl
theorem eX6_printTop_0n : Ev 55 0 (a0 :: some (.null) :: ls) (st) h r ↔ Ev 55 1 (a0 :: some (.null) :: ls) (.null :: st) h r := ev_aload_n iX6_printTop_0 rfl rfl
theorem eX6_printTop_0t : Ev 55 0 (a0 :: some (tkv o1) :: ls) (st) h r ↔ Ev 55 1 (a0 :: some (tkv o1) :: ls) (tkv o1 :: st) h r := ev_aload_n iX6_printTop_0 rfl tkv_r
theorem eX6_printTop_0s : Ev 55 0 (a0 :: some (sgv o1) :: ls) (st) h r ↔ Ev 55 1 (a0 :: some (sgv o1) :: ls) (sgv o1 :: st) h r := ev_aload_n iX6_printTop_0 rfl sgv_r
theorem eX6_printTop_0c : Ev 55 0 (a0 :: some (cdv o1) :: ls) (st) h r ↔ Ev 55 1 (a0 :: some (cdv o1) :: ls) (cdv o1 :: st) h r := ev_aload_n iX6_printTop_0 rfl cdv_r
theorem iX6_printTop_1 : mn_ins 55 1 = some (6, false, .iconst 1, 1) := by decide +kernel
theorem eX6_printTop_1 : Ev 55 1 (ls) (st) h r ↔ Ev 55 2 (ls) (.int (nI 1) :: st) h r := ev_iconst iX6_printTop_1 (by decide)
theorem iX6_printTop_2 : mn_ins 55 2 = some (6, false, .invokevirtual 146, 3) := by decide +kernel
theorem eX6_printTop_2 : Ev 55 2 (ls) (.int x0 :: .ref b :: st) h r ↔ Evr true (decide (mn_cats st ≤ 8) && mn_isc h b 5) 55 2 ls st h.2.2.1 h.2.2.2 (Cl 43 (.ref b :: [.int x0]) h.1 h.2.1) r := Ev_V (As := [.int x0]) iX6_printTop_2 (by decide +kernel) (x := mnI_X6_printTop) (x2 := mnI_X5_canPrint) rfl rfl rfl (by decide +kernel) (Nat.le_of_ble_eq_true rfl) rfl
theorem iX6_printTop_5 : mn_ins 55 5 = some (6, false, .ifCond .ne 9, 3) := by decide +kernel
theorem eX6_printTop_5 : Ev 55 5 (ls) (.int x :: st) h r ↔ if x = nI 0 then Ev 55 8 (ls) (st) h r else Ev 55 14 (ls) (st) h r := ev_ifne iX6_printTop_5 (by decide)
theorem iX6_printTop_8 : mn_ins 55 8 = some (6, false, .aload_n 1, 1) := by decide +kernel
theorem eX6_printTop_8 : Ev 55 8 (a0 :: some (.ref a) :: ls) (st) h r ↔ Ev 55 9 (a0 :: some (.ref a) :: ls) (.ref a :: st) h r := ev_aload_n iX6_printTop_8 rfl rfl
theorem eX6_printTop_8n : Ev 55 8 (a0 :: some (.null) :: ls) (st) h r ↔ Ev 55 9 (a0 :: some (.null) :: ls) (.null :: st) h r := ev_aload_n iX6_printTop_8 rfl rfl
theorem eX6_printTop_8t : Ev 55 8 (a0 :: some (tkv o1) :: ls) (st) h r ↔ Ev 55 9 (a0 :: some (tkv o1) :: ls) (tkv o1 :: st) h r := ev_aload_n iX6_printTop_8 rfl tkv_r
theorem eX6_printTop_8s : Ev 55 8 (a0 :: some (sgv o1) :: ls) (st) h r ↔ Ev 55 9 (a0 :: some (sgv o1) :: ls) (sgv o1 :: st) h r := ev_aload_n iX6_printTop_8 rfl sgv_r
theorem eX6_printTop_8c : Ev 55 8 (a0 :: some (cdv o1) :: ls) (st) h r ↔ Ev 55 9 (a0 :: some (cdv o1) :: ls) (cdv o1 :: st) h r := ev_aload_n iX6_printTop_8 rfl cdv_r
theorem iX6_printTop_9 : mn_ins 55 9 = some (6, false, .iconst 4, 1) := by decide +kernel
theorem eX6_printTop_9 : Ev 55 9 (ls) (st) h r ↔ Ev 55 10 (ls) (.int (nI 4) :: st) h r := ev_iconst iX6_printTop_9 (by decide)
theorem iX6_printTop_10 : mn_ins 55 10 = some (6, false, .invokevirtual 99, 3) := by decide +kernel
theorem eX6_printTop_10 : Ev 55 10 (ls) (.int x0 :: .ref b :: st) h r ↔ Evr true (decide (mn_cats st ≤ 8) && mn_isc h b 5) 55 10 ls st h.2.2.1 h.2.2.2 (Cl 42 (.ref b :: [.int x0]) h.1 h.2.1) r := Ev_V (As := [.int x0]) iX6_printTop_10 (by decide +kernel) (x := mnI_X6_printTop) (x2 := mnI_X5_fail) rfl rfl rfl (by decide +kernel) (Nat.le_of_ble_eq_true rfl) rfl
theorem iX6_printTop_13 : mn_ins 55 13 = some (6, false, .return_, 1) := by decide +kernel
theorem eX6_printTop_13 : Ev 55 13 (ls) [] h r ↔ r = (h, .inl none) := ev_vret iX6_printTop_13 (X := mnI_X6_printTop) rfl rfl
theorem iX6_printTop_14 : mn_ins 55 14 = some (6, false, .aload_n 1, 1) := by decide +kernel
theorem eX6_printTop_14 : Ev 55 14 (a0 :: some (.ref a) :: ls) (st) h r ↔ Ev 55 15 (a0 :: some (.ref a) :: ls) (.ref a :: st) h r := ev_aload_n iX6_printTop_14 rfl rfl
theorem eX6_printTop_14n : Ev 55 14 (a0 :: some (.null) :: ls) (st) h r ↔ Ev 55 15 (a0 :: some (.null) :: ls) (.null :: st) h r := ev_aload_n iX6_printTop_14 rfl rfl
theorem eX6_printTop_14t : Ev 55 14 (a0 :: some (tkv o1) :: ls) (st) h r ↔ Ev 55 15 (a0 :: some (tkv o1) :: ls) (tkv o1 :: st) h r := ev_aload_n iX6_printTop_14 rfl tkv_r
theorem eX6_printTop_14s : Ev 55 14 (a0 :: some (sgv o1) :: ls) (st) h r ↔ Ev 55 15 (a0 :: some (sgv o1) :: ls) (sgv o1 :: st) h r := ev_aload_n iX6_printTop_14 rfl sgv_r
theorem eX6_printTop_14c : Ev 55 14 (a0 :: some (cdv o1) :: ls) (st) h r ↔ Ev 55 15 (a0 :: some (cdv o1) :: ls) (cdv o1 :: st) h r := ev_aload_n iX6_printTop_14 rfl cdv_r
theorem iX6_printTop_15 : mn_ins 55 15 = some (6, false, .aload_n 1, 1) := by decide +kernel
theorem eX6_printTop_15 : Ev 55 15 (a0 :: some (.ref a) :: ls) (st) h r ↔ Ev 55 16 (a0 :: some (.ref a) :: ls) (.ref a :: st) h r := ev_aload_n iX6_printTop_15 rfl rfl
theorem eX6_printTop_15n : Ev 55 15 (a0 :: some (.null) :: ls) (st) h r ↔ Ev 55 16 (a0 :: some (.null) :: ls) (.null :: st) h r := ev_aload_n iX6_printTop_15 rfl rfl
theorem eX6_printTop_15t : Ev 55 15 (a0 :: some (tkv o1) :: ls) (st) h r ↔ Ev 55 16 (a0 :: some (tkv o1) :: ls) (tkv o1 :: st) h r := ev_aload_n iX6_printTop_15 rfl tkv_r
theorem eX6_printTop_15s : Ev 55 15 (a0 :: some (sgv o1) :: ls) (st) h r ↔ Ev 55 16 (a0 :: some (sgv o1) :: ls) (sgv o1 :: st) h r := ev_aload_n iX6_printTop_15 rfl sgv_r
theorem eX6_printTop_15c : Ev 55 15 (a0 :: some (cdv o1) :: ls) (st) h r ↔ Ev 55 16 (a0 :: some (cdv o1) :: ls) (cdv o1 :: st) h r := ev_aload_n iX6_printTop_15 rfl cdv_r
theorem iX6_printTop_16 : mn_ins 55 16 = some (6, false, .getfield 72, 3) := by decide +kernel
theorem eX6_printTop_16 : Ev 55 16 (ls) (.ref a :: st) h r ↔ Evk 55 19 ls (mn_gf h a 5 1) st h r := ev_getf iX6_printTop_16 (by decide +kernel)
theorem iX6_printTop_19 : mn_ins 55 19 = some (6, false, .invokevirtual 121, 3) := by decide +kernel
theorem eX6_printTop_19 : Ev 55 19 (ls) (.ref b :: st) h r ↔ Evr true (decide (mn_cats st ≤ 8) && mn_isc h b 2) 55 19 ls st h.2.2.1 h.2.2.2 (Cl 17 (.ref b :: []) h.1 h.2.1) r := Ev_V (As := []) iX6_printTop_19 (by decide +kernel) (x := mnI_X6_printTop) (x2 := mnI_X2_pop) rfl rfl rfl (by decide +kernel) (Nat.le_of_ble_eq_true rfl) rfl
theorem iX6_printTop_22 : mn_ins 55 22 = some (6, false, .invokevirtual 150, 3) := by decide +kernel
theorem eX6_printTop_22 : Ev 55 22 (ls) (.long u0 :: .ref b :: st) h r ↔ Evr true (decide (mn_cats st ≤ 8) && mn_isc h b 5) 55 22 ls st h.2.2.1 h.2.2.2 (Cl 44 (.ref b :: [.long u0]) h.1 h.2.1) r := Ev_V (As := [.long u0]) iX6_printTop_22 (by decide +kernel) (x := mnI_X6_printTop) (x2 := mnI_X5_appendPrint) rfl rfl rfl (by decide +kernel) (Nat.le_of_ble_eq_true rfl) rfl
theorem iX6_printTop_25 : mn_ins 55 25 = some (6, false, .aload_n 1, 1) := by decide +kernel
theorem eX6_printTop_25 : Ev 55 25 (a0 :: some (.ref a) :: ls) (st) h r ↔ Ev 55 26 (a0 :: some (.ref a) :: ls) (.ref a :: st) h r := ev_aload_n iX6_printTop_25 rfl rfl
theorem eX6_printTop_25n : Ev 55 25 (a0 :: some (.null) :: ls) (st) h r ↔ Ev 55 26 (a0 :: some (.null) :: ls) (.null :: st) h r := ev_aload_n iX6_printTop_25 rfl rfl
theorem eX6_printTop_25t : Ev 55 25 (a0 :: some (tkv o1) :: ls) (st) h r ↔ Ev 55 26 (a0 :: some (tkv o1) :: ls) (tkv o1 :: st) h r := ev_aload_n iX6_printTop_25 rfl tkv_r
theorem eX6_printTop_25s : Ev 55 25 (a0 :: some (sgv o1) :: ls) (st) h r ↔ Ev 55 26 (a0 :: some (sgv o1) :: ls) (sgv o1 :: st) h r := ev_aload_n iX6_printTop_25 rfl sgv_r
theorem eX6_printTop_25c : Ev 55 25 (a0 :: some (cdv o1) :: ls) (st) h r ↔ Ev 55 26 (a0 :: some (cdv o1) :: ls) (cdv o1 :: st) h r := ev_aload_n iX6_printTop_25 rfl cdv_r
theorem iX6_printTop_26 : mn_ins 55 26 = some (6, false, .getfield 72, 3) := by decide +kernel
theorem eX6_printTop_26 : Ev 55 26 (ls) (.ref a :: st) h r ↔ Evk 55 29 ls (mn_gf h a 5 1) st h r := ev_getf iX6_printTop_26 (by decide +kernel)
theorem iX6_printTop_29 : mn_ins 55 29 = some (6, false, .invokevirtual 118, 3) := by decide +kernel
theorem eX6_printTop_29 : Ev 55 29 (ls) (.ref b :: st) h r ↔ Evr true (decide (mn_cats st ≤ 8) && mn_isc h b 2) 55 29 ls st h.2.2.1 h.2.2.2 (Cl 15 (.ref b :: []) h.1 h.2.1) r := Ev_V (As := []) iX6_printTop_29 (by decide +kernel) (x := mnI_X6_printTop) (x2 := mnI_X2_moveOn) rfl rfl rfl (by decide +kernel) (Nat.le_of_ble_eq_true rfl) rfl
theorem iX6_printTop_32 : mn_ins 55 32 = some (6, false, .return_, 1) := by decide +kernel
theorem eX6_printTop_32 : Ev 55 32 (ls) [] h r ↔ r = (h, .inl none) := ev_vret iX6_printTop_32 (X := mnI_X6_printTop) rfl rfl
theorem iX6_fork_0 : mn_ins 56 0 = some (6, false, .aload_n 0, 1) := by decide +kernel
theorem eX6_fork_0 : Ev 56 0 (some (.ref a) :: ls) (st) h r ↔ Ev 56 1 (some (.ref a) :: ls) (.ref a :: st) h r := ev_aload_n iX6_fork_0 rfl rfl
theorem iX6_fork_1 : mn_ins 56 1 = some (6, false, .getfield 41, 3) := by decide +kernel
theorem eX6_fork_1 : Ev 56 1 (ls) (.ref a :: st) h r ↔ Evk 56 4 ls (mn_gf h a 6 5) st h r := ev_getf iX6_fork_1 (by decide +kernel)
theorem iX6_fork_4 : mn_ins 56 4 = some (6, false, .bipush 12, 2) := by decide +kernel
theorem eX6_fork_4 : Ev 56 4 (ls) (st) h r ↔ Ev 56 6 (ls) (.int (nI 12) :: st) h r := ev_bipush iX6_fork_4 (by decide)
theorem iX6_fork_6 : mn_ins 56 6 = some (6, false, .if_icmp .lt 9, 3) := by decide +kernel
theorem eX6_fork_6 : Ev 56 6 (ls) (.int y :: .int x :: st) h r ↔ if x < y then Ev 56 15 (ls) (st) h r else Ev 56 9 (ls) (st) h r := ev_cmplt iX6_fork_6 (by decide)
theorem iX6_fork_9 : mn_ins 56 9 = some (6, false, .aload_n 1, 1) := by decide +kernel
theorem eX6_fork_9 : Ev 56 9 (a0 :: some (.ref a) :: ls) (st) h r ↔ Ev 56 10 (a0 :: some (.ref a) :: ls) (.ref a :: st) h r := ev_aload_n iX6_fork_9 rfl rfl
theorem eX6_fork_9n : Ev 56 9 (a0 :: some (.null) :: ls) (st) h r ↔ Ev 56 10 (a0 :: some (.null) :: ls) (.null :: st) h r := ev_aload_n iX6_fork_9 rfl rfl
theorem eX6_fork_9t : Ev 56 9 (a0 :: some (tkv o1) :: ls) (st) h r ↔ Ev 56 10 (a0 :: some (tkv o1) :: ls) (tkv o1 :: st) h r := ev_aload_n iX6_fork_9 rfl tkv_r
theorem eX6_fork_9s : Ev 56 9 (a0 :: some (sgv o1) :: ls) (st) h r ↔ Ev 56 10 (a0 :: some (sgv o1) :: ls) (sgv o1 :: st) h r := ev_aload_n iX6_fork_9 rfl sgv_r
theorem eX6_fork_9c : Ev 56 9 (a0 :: some (cdv o1) :: ls) (st) h r ↔ Ev 56 10 (a0 :: some (cdv o1) :: ls) (cdv o1 :: st) h r := ev_aload_n iX6_fork_9 rfl cdv_r
theorem iX6_fork_10 : mn_ins 56 10 = some (6, false, .iconst 3, 1) := by decide +kernel
theorem eX6_fork_10 : Ev 56 10 (ls) (st) h r ↔ Ev 56 11 (ls) (.int (nI 3) :: st) h r := ev_iconst iX6_fork_10 (by decide)
theorem iX6_fork_11 : mn_ins 56 11 = some (6, false, .invokevirtual 99, 3) := by decide +kernel
theorem eX6_fork_11 : Ev 56 11 (ls) (.int x0 :: .ref b :: st) h r ↔ Evr true (decide (mn_cats st ≤ 8) && mn_isc h b 5) 56 11 ls st h.2.2.1 h.2.2.2 (Cl 42 (.ref b :: [.int x0]) h.1 h.2.1) r := Ev_V (As := [.int x0]) iX6_fork_11 (by decide +kernel) (x := mnI_X6_fork) (x2 := mnI_X5_fail) rfl rfl rfl (by decide +kernel) (Nat.le_of_ble_eq_true rfl) rfl
theorem iX6_fork_14 : mn_ins 56 14 = some (6, false, .return_, 1) := by decide +kernel
theorem eX6_fork_14 : Ev 56 14 (ls) [] h r ↔ r = (h, .inl none) := ev_vret iX6_fork_14 (X := mnI_X6_fork) rfl rfl
theorem iX6_fork_15 : mn_ins 56 15 = some (6, false, .aload_n 0, 1) := by decide +kernel
theorem eX6_fork_15 : Ev 56 15 (some (.ref a) :: ls) (st) h r ↔ Ev 56 16 (some (.ref a) :: ls) (.ref a :: st) h r := ev_aload_n iX6_fork_15 rfl rfl
theorem iX6_fork_16 : mn_ins 56 16 = some (6, false, .getfield 11, 3) := by decide +kernel
theorem eX6_fork_16 : Ev 56 16 (ls) (.ref a :: st) h r ↔ Evk 56 19 ls (mn_gf h a 6 1) st h r := ev_getf iX6_fork_16 (by decide +kernel)
theorem iX6_fork_19 : mn_ins 56 19 = some (6, false, .aload_n 0, 1) := by decide +kernel
theorem eX6_fork_19 : Ev 56 19 (some (.ref a) :: ls) (st) h r ↔ Ev 56 20 (some (.ref a) :: ls) (.ref a :: st) h r := ev_aload_n iX6_fork_19 rfl rfl
theorem iX6_fork_20 : mn_ins 56 20 = some (6, false, .getfield 41, 3) := by decide +kernel
theorem eX6_fork_20 : Ev 56 20 (ls) (.ref a :: st) h r ↔ Evk 56 23 ls (mn_gf h a 6 5) st h r := ev_getf iX6_fork_20 (by decide +kernel)
theorem iX6_fork_23 : mn_ins 56 23 = some (6, false, .aaload, 1) := by decide +kernel
theorem eX6_fork_23 : Ev 56 23 (ls) (.int x :: .ref a :: st) h r ↔ Evk 56 24 ls (mn_aq h a x) st h r := ev_aald iX6_fork_23
theorem iX6_fork_24 : mn_ins 56 24 = some (6, false, .astore_n 2, 1) := by decide +kernel
theorem eX6_fork_24 : Ev 56 24 (a0 :: a1 :: a2 :: ls) (.ref a :: st) h r ↔ Ev 56 25 (a0 :: mn_k a1 :: some (.ref a) :: ls) (st) h r := ev_astore_n iX6_fork_24 (by show 2 < _; simp only [List.length_cons]; omega) rfl
theorem eX6_fork_24n : Ev 56 24 (a0 :: a1 :: a2 :: ls) (.null :: st) h r ↔ Ev 56 25 (a0 :: mn_k a1 :: some (.null) :: ls) (st) h r := ev_astore_n iX6_fork_24 (by show 2 < _; simp only [List.length_cons]; omega) rfl
theorem eX6_fork_24t : Ev 56 24 (a0 :: a1 :: a2 :: ls) (tkv o1 :: st) h r ↔ Ev 56 25 (a0 :: mn_k a1 :: some (tkv o1) :: ls) (st) h r := ev_astore_n iX6_fork_24 (by show 2 < _; simp only [List.length_cons]; omega) tkv_r
theorem eX6_fork_24s : Ev 56 24 (a0 :: a1 :: a2 :: ls) (sgv o1 :: st) h r ↔ Ev 56 25 (a0 :: mn_k a1 :: some (sgv o1) :: ls) (st) h r := ev_astore_n iX6_fork_24 (by show 2 < _; simp only [List.length_cons]; omega) sgv_r
theorem eX6_fork_24c : Ev 56 24 (a0 :: a1 :: a2 :: ls) (cdv o1 :: st) h r ↔ Ev 56 25 (a0 :: mn_k a1 :: some (cdv o1) :: ls) (st) h r := ev_astore_n iX6_fork_24 (by show 2 < _; simp only [List.length_cons]; omega) cdv_r
theorem iX6_fork_25 : mn_ins 56 25 = some (6, false, .aload_n 0, 1) := by decide +kernel
theorem eX6_fork_25 : Ev 56 25 (some (.ref a) :: ls) (st) h r ↔ Ev 56 26 (some (.ref a) :: ls) (.ref a :: st) h r := ev_aload_n iX6_fork_25 rfl rfl
theorem iX6_fork_26 : mn_ins 56 26 = some (6, false, .dup, 1) := by decide +kernel
theorem eX6_fork_26 : Ev 56 26 (ls) (.ref a :: st) h r ↔ Ev 56 27 (ls) (.ref a :: .ref a :: st) h r := ev_dup iX6_fork_26 rfl
theorem iX6_fork_27 : mn_ins 56 27 = some (6, false, .getfield 41, 3) := by decide +kernel
theorem eX6_fork_27 : Ev 56 27 (ls) (.ref a :: st) h r ↔ Evk 56 30 ls (mn_gf h a 6 5) st h r := ev_getf iX6_fork_27 (by decide +kernel)
theorem iX6_fork_30 : mn_ins 56 30 = some (6, false, .iconst 1, 1) := by decide +kernel
theorem eX6_fork_30 : Ev 56 30 (ls) (st) h r ↔ Ev 56 31 (ls) (.int (nI 1) :: st) h r := ev_iconst iX6_fork_30 (by decide)
theorem iX6_fork_31 : mn_ins 56 31 = some (6, false, .iadd, 1) := by decide +kernel
theorem eX6_fork_31 : Ev 56 31 (ls) (.int y :: .int x :: st) h r ↔ Ev 56 32 (ls) (.int (x + y) :: st) h r := ev_iadd iX6_fork_31
theorem iX6_fork_32 : mn_ins 56 32 = some (6, false, .putfield 41, 3) := by decide +kernel
theorem eX6_fork_32 : Ev 56 32 (ls) (w :: .ref a :: st) h r ↔ Evh 56 35 ls st (mn_pf h a 6 5 w) r := ev_putf iX6_fork_32 (by decide +kernel) (by decide +kernel)
theorem iX6_fork_35 : mn_ins 56 35 = some (6, false, .aload_n 1, 1) := by decide +kernel
theorem eX6_fork_35 : Ev 56 35 (a0 :: some (.ref a) :: ls) (st) h r ↔ Ev 56 36 (a0 :: some (.ref a) :: ls) (.ref a :: st) h r := ev_aload_n iX6_fork_35 rfl rfl
theorem eX6_fork_35n : Ev 56 35 (a0 :: some (.null) :: ls) (st) h r ↔ Ev 56 36 (a0 :: some (.null) :: ls) (.null :: st) h r := ev_aload_n iX6_fork_35 rfl rfl
theorem eX6_fork_35t : Ev 56 35 (a0 :: some (tkv o1) :: ls) (st) h r ↔ Ev 56 36 (a0 :: some (tkv o1) :: ls) (tkv o1 :: st) h r := ev_aload_n iX6_fork_35 rfl tkv_r
theorem eX6_fork_35s : Ev 56 35 (a0 :: some (sgv o1) :: ls) (st) h r ↔ Ev 56 36 (a0 :: some (sgv o1) :: ls) (sgv o1 :: st) h r := ev_aload_n iX6_fork_35 rfl sgv_r
theorem eX6_fork_35c : Ev 56 35 (a0 :: some (cdv o1) :: ls) (st) h r ↔ Ev 56 36 (a0 :: some (cdv o1) :: ls) (cdv o1 :: st) h r := ev_aload_n iX6_fork_35 rfl cdv_r
theorem iX6_fork_36 : mn_ins 56 36 = some (6, false, .getfield 103, 3) := by decide +kernel
theorem eX6_fork_36 : Ev 56 36 (ls) (.ref a :: st) h r ↔ Evk 56 39 ls (mn_gf h a 5 11) st h r := ev_getf iX6_fork_36 (by decide +kernel)
theorem iX6_fork_39 : mn_ins 56 39 = some (6, false, .astore_n 3, 1) := by decide +kernel
theorem eX6_fork_39 : Ev 56 39 (a0 :: a1 :: a2 :: a3 :: ls) (.ref a :: st) h r ↔ Ev 56 40 (a0 :: a1 :: mn_k a2 :: some (.ref a) :: ls) (st) h r := ev_astore_n iX6_fork_39 (by show 3 < _; simp only [List.length_cons]; omega) rfl
theorem eX6_fork_39n : Ev 56 39 (a0 :: a1 :: a2 :: a3 :: ls) (.null :: st) h r ↔ Ev 56 40 (a0 :: a1 :: mn_k a2 :: some (.null) :: ls) (st) h r := ev_astore_n iX6_fork_39 (by show 3 < _; simp only [List.length_cons]; omega) rfl
theorem eX6_fork_39t : Ev 56 39 (a0 :: a1 :: a2 :: a3 :: ls) (tkv o1 :: st) h r ↔ Ev 56 40 (a0 :: a1 :: mn_k a2 :: some (tkv o1) :: ls) (st) h r := ev_astore_n iX6_fork_39 (by show 3 < _; simp only [List.length_cons]; omega) tkv_r
theorem eX6_fork_39s : Ev 56 39 (a0 :: a1 :: a2 :: a3 :: ls) (sgv o1 :: st) h r ↔ Ev 56 40 (a0 :: a1 :: mn_k a2 :: some (sgv o1) :: ls) (st) h r := ev_astore_n iX6_fork_39 (by show 3 < _; simp only [List.length_cons]; omega) sgv_r
theorem eX6_fork_39c : Ev 56 39 (a0 :: a1 :: a2 :: a3 :: ls) (cdv o1 :: st) h r ↔ Ev 56 40 (a0 :: a1 :: mn_k a2 :: some (cdv o1) :: ls) (st) h r := ev_astore_n iX6_fork_39 (by show 3 < _; simp only [List.length_cons]; omega) cdv_r
theorem iX6_fork_40 : mn_ins 56 40 = some (6, false, .aload_n 2, 1) := by decide +kernel
theorem eX6_fork_40 : Ev 56 40 (a0 :: a1 :: some (.ref a) :: ls) (st) h r ↔ Ev 56 41 (a0 :: a1 :: some (.ref a) :: ls) (.ref a :: st) h r := ev_aload_n iX6_fork_40 rfl rfl
theorem eX6_fork_40n : Ev 56 40 (a0 :: a1 :: some (.null) :: ls) (st) h r ↔ Ev 56 41 (a0 :: a1 :: some (.null) :: ls) (.null :: st) h r := ev_aload_n iX6_fork_40 rfl rfl
theorem eX6_fork_40t : Ev 56 40 (a0 :: a1 :: some (tkv o1) :: ls) (st) h r ↔ Ev 56 41 (a0 :: a1 :: some (tkv o1) :: ls) (tkv o1 :: st) h r := ev_aload_n iX6_fork_40 rfl tkv_r
theorem eX6_fork_40s : Ev 56 40 (a0 :: a1 :: some (sgv o1) :: ls) (st) h r ↔ Ev 56 41 (a0 :: a1 :: some (sgv o1) :: ls) (sgv o1 :: st) h r := ev_aload_n iX6_fork_40 rfl sgv_r
theorem eX6_fork_40c : Ev 56 40 (a0 :: a1 :: some (cdv o1) :: ls) (st) h r ↔ Ev 56 41 (a0 :: a1 :: some (cdv o1) :: ls) (cdv o1 :: st) h r := ev_aload_n iX6_fork_40 rfl cdv_r
theorem iX6_fork_41 : mn_ins 56 41 = some (6, false, .aload_n 1, 1) := by decide +kernel
theorem eX6_fork_41 : Ev 56 41 (a0 :: some (.ref a) :: ls) (st) h r ↔ Ev 56 42 (a0 :: some (.ref a) :: ls) (.ref a :: st) h r := ev_aload_n iX6_fork_41 rfl rfl
theorem eX6_fork_41n : Ev 56 41 (a0 :: some (.null) :: ls) (st) h r ↔ Ev 56 42 (a0 :: some (.null) :: ls) (.null :: st) h r := ev_aload_n iX6_fork_41 rfl rfl
theorem eX6_fork_41t : Ev 56 41 (a0 :: some (tkv o1) :: ls) (st) h r ↔ Ev 56 42 (a0 :: some (tkv o1) :: ls) (tkv o1 :: st) h r := ev_aload_n iX6_fork_41 rfl tkv_r
theorem eX6_fork_41s : Ev 56 41 (a0 :: some (sgv o1) :: ls) (st) h r ↔ Ev 56 42 (a0 :: some (sgv o1) :: ls) (sgv o1 :: st) h r := ev_aload_n iX6_fork_41 rfl sgv_r
theorem eX6_fork_41c : Ev 56 41 (a0 :: some (cdv o1) :: ls) (st) h r ↔ Ev 56 42 (a0 :: some (cdv o1) :: ls) (cdv o1 :: st) h r := ev_aload_n iX6_fork_41 rfl cdv_r
theorem iX6_fork_42 : mn_ins 56 42 = some (6, false, .aload_n 3, 1) := by decide +kernel
theorem eX6_fork_42 : Ev 56 42 (a0 :: a1 :: a2 :: some (.ref a) :: ls) (st) h r ↔ Ev 56 43 (a0 :: a1 :: a2 :: some (.ref a) :: ls) (.ref a :: st) h r := ev_aload_n iX6_fork_42 rfl rfl
theorem eX6_fork_42n : Ev 56 42 (a0 :: a1 :: a2 :: some (.null) :: ls) (st) h r ↔ Ev 56 43 (a0 :: a1 :: a2 :: some (.null) :: ls) (.null :: st) h r := ev_aload_n iX6_fork_42 rfl rfl
theorem eX6_fork_42t : Ev 56 42 (a0 :: a1 :: a2 :: some (tkv o1) :: ls) (st) h r ↔ Ev 56 43 (a0 :: a1 :: a2 :: some (tkv o1) :: ls) (tkv o1 :: st) h r := ev_aload_n iX6_fork_42 rfl tkv_r
theorem eX6_fork_42s : Ev 56 42 (a0 :: a1 :: a2 :: some (sgv o1) :: ls) (st) h r ↔ Ev 56 43 (a0 :: a1 :: a2 :: some (sgv o1) :: ls) (sgv o1 :: st) h r := ev_aload_n iX6_fork_42 rfl sgv_r
theorem eX6_fork_42c : Ev 56 42 (a0 :: a1 :: a2 :: some (cdv o1) :: ls) (st) h r ↔ Ev 56 43 (a0 :: a1 :: a2 :: some (cdv o1) :: ls) (cdv o1 :: st) h r := ev_aload_n iX6_fork_42 rfl cdv_r
theorem iX6_fork_43 : mn_ins 56 43 = some (6, false, .aload_n 0, 1) := by decide +kernel
theorem eX6_fork_43 : Ev 56 43 (some (.ref a) :: ls) (st) h r ↔ Ev 56 44 (some (.ref a) :: ls) (.ref a :: st) h r := ev_aload_n iX6_fork_43 rfl rfl
theorem iX6_fork_44 : mn_ins 56 44 = some (6, false, .aload_n 3, 1) := by decide +kernel
theorem eX6_fork_44 : Ev 56 44 (a0 :: a1 :: a2 :: some (.ref a) :: ls) (st) h r ↔ Ev 56 45 (a0 :: a1 :: a2 :: some (.ref a) :: ls) (.ref a :: st) h r := ev_aload_n iX6_fork_44 rfl rfl
theorem eX6_fork_44n : Ev 56 44 (a0 :: a1 :: a2 :: some (.null) :: ls) (st) h r ↔ Ev 56 45 (a0 :: a1 :: a2 :: some (.null) :: ls) (.null :: st) h r := ev_aload_n iX6_fork_44 rfl rfl
theorem eX6_fork_44t : Ev 56 44 (a0 :: a1 :: a2 :: some (tkv o1) :: ls) (st) h r ↔ Ev 56 45 (a0 :: a1 :: a2 :: some (tkv o1) :: ls) (tkv o1 :: st) h r := ev_aload_n iX6_fork_44 rfl tkv_r
theorem eX6_fork_44s : Ev 56 44 (a0 :: a1 :: a2 :: some (sgv o1) :: ls) (st) h r ↔ Ev 56 45 (a0 :: a1 :: a2 :: some (sgv o1) :: ls) (sgv o1 :: st) h r := ev_aload_n iX6_fork_44 rfl sgv_r
theorem eX6_fork_44c : Ev 56 44 (a0 :: a1 :: a2 :: some (cdv o1) :: ls) (st) h r ↔ Ev 56 45 (a0 :: a1 :: a2 :: some (cdv o1) :: ls) (cdv o1 :: st) h r := ev_aload_n iX6_fork_44 rfl cdv_r
theorem iX6_fork_45 : mn_ins 56 45 = some (6, false, .invokevirtual 64, 3) := by decide +kernel
theorem EgX6_fork_45 (hw3 : (mn_r w3).isSome = true) : Ev 56 45 (ls) (w3 :: .ref b :: st) h r ↔ Evr true (decide (mn_cats st ≤ 8) && mn_isc h b 6) 56 45 ls st h.2.2.1 h.2.2.2 (Cl 51 (.ref b :: [w3]) h.1 h.2.1) r := Ev_V (As := [w3]) iX6_fork_45 (by decide +kernel) (x := mnI_X6_fork) (x2 := mnI_X6_openSegment) rfl rfl rfl (by decide +kernel) (by rcases mn_r_is hw3 with ⟨_, rfl⟩ | rfl <;> exact Nat.le_of_ble_eq_true rfl) rfl
theorem eX6_fork_45 {cw3 : Nat} : Ev 56 45 (ls) ((.ref cw3) :: .ref b :: st) h r ↔ Evr true (decide (mn_cats st ≤ 8) && mn_isc h b 6) 56 45 ls st h.2.2.1 h.2.2.2 (Cl 51 (.ref b :: [(.ref cw3)]) h.1 h.2.1) r := EgX6_fork_45 rfl
theorem iX6_fork_48 : mn_ins 56 48 = some (6, false, .invokevirtual 68, 3) := by decide +kernel
theorem EgX6_fork_48 (hw3 : (mn_r w3).isSome = true) (hw4 : (mn_r w4).isSome = true) (hw5 : (mn_r w5).isSome = true) : Ev 56 48 (ls) (w5 :: w4 :: w3 :: .ref b :: st) h r ↔ Evr true (decide (mn_cats st ≤ 8) && mn_isc h b 5) 56 48 ls st h.2.2.1 h.2.2.2 (Cl 41 (.ref b :: [w3, w4, w5]) h.1 h.2.1) r := Ev_V (As := [w3, w4, w5]) iX6_fork_48 (by decide +kernel) (x := mnI_X6_fork) (x2 := mnI_X5_begin) rfl rfl rfl (by decide +kernel) (by rcases mn_r_is hw3 with ⟨_, rfl⟩ | rfl <;> rcases mn_r_is hw4 with ⟨_, rfl⟩ | rfl <;> rcases mn_r_is hw5 with ⟨_, rfl⟩ | rfl <;> exact Nat.le_of_ble_eq_true rfl) rfl
theorem eX6_fork_48 {cw3 : Nat} {cw4 : Nat} {cw5 : Nat} : Ev 56 48 (ls) ((.ref cw5) :: (.ref cw4) :: (.ref cw3) :: .ref b :: st) h r ↔ Evr true (decide (mn_cats st ≤ 8) && mn_isc h b 5) 56 48 ls st h.2.2.1 h.2.2.2 (Cl 41 (.ref b :: [(.ref cw3), (.ref cw4), (.ref cw5)]) h.1 h.2.1) r := EgX6_fork_48 rfl rfl rfl
theorem iX6_fork_51 : mn_ins 56 51 = some (6, false, .aload_n 2, 1) := by decide +kernel
theorem eX6_fork_51 : Ev 56 51 (a0 :: a1 :: some (.ref a) :: ls) (st) h r ↔ Ev 56 52 (a0 :: a1 :: some (.ref a) :: ls) (.ref a :: st) h r := ev_aload_n iX6_fork_51 rfl rfl
theorem eX6_fork_51n : Ev 56 51 (a0 :: a1 :: some (.null) :: ls) (st) h r ↔ Ev 56 52 (a0 :: a1 :: some (.null) :: ls) (.null :: st) h r := ev_aload_n iX6_fork_51 rfl rfl
theorem eX6_fork_51t : Ev 56 51 (a0 :: a1 :: some (tkv o1) :: ls) (st) h r ↔ Ev 56 52 (a0 :: a1 :: some (tkv o1) :: ls) (tkv o1 :: st) h r := ev_aload_n iX6_fork_51 rfl tkv_r
theorem eX6_fork_51s : Ev 56 51 (a0 :: a1 :: some (sgv o1) :: ls) (st) h r ↔ Ev 56 52 (a0 :: a1 :: some (sgv o1) :: ls) (sgv o1 :: st) h r := ev_aload_n iX6_fork_51 rfl sgv_r
theorem eX6_fork_51c : Ev 56 51 (a0 :: a1 :: some (cdv o1) :: ls) (st) h r ↔ Ev 56 52 (a0 :: a1 :: some (cdv o1) :: ls) (cdv o1 :: st) h r := ev_aload_n iX6_fork_51 rfl cdv_r
theorem iX6_fork_52 : mn_ins 56 52 = some (6, false, .getfield 72, 3) := by decide +kernel
theorem eX6_fork_52 : Ev 56 52 (ls) (.ref a :: st) h r ↔ Evk 56 55 ls (mn_gf h a 5 1) st h r := ev_getf iX6_fork_52 (by decide +kernel)
theorem iX6_fork_55 : mn_ins 56 55 = some (6, false, .aload_n 0, 1) := by decide +kernel
theorem eX6_fork_55 : Ev 56 55 (some (.ref a) :: ls) (st) h r ↔ Ev 56 56 (some (.ref a) :: ls) (.ref a :: st) h r := ev_aload_n iX6_fork_55 rfl rfl
theorem iX6_fork_56 : mn_ins 56 56 = some (6, false, .getfield 33, 3) := by decide +kernel
theorem eX6_fork_56 : Ev 56 56 (ls) (.ref a :: st) h r ↔ Evk 56 59 ls (mn_gf h a 6 0) st h r := ev_getf iX6_fork_56 (by decide +kernel)
theorem iX6_fork_59 : mn_ins 56 59 = some (6, false, .aload_n 1, 1) := by decide +kernel
theorem eX6_fork_59 : Ev 56 59 (a0 :: some (.ref a) :: ls) (st) h r ↔ Ev 56 60 (a0 :: some (.ref a) :: ls) (.ref a :: st) h r := ev_aload_n iX6_fork_59 rfl rfl
theorem eX6_fork_59n : Ev 56 59 (a0 :: some (.null) :: ls) (st) h r ↔ Ev 56 60 (a0 :: some (.null) :: ls) (.null :: st) h r := ev_aload_n iX6_fork_59 rfl rfl
theorem eX6_fork_59t : Ev 56 59 (a0 :: some (tkv o1) :: ls) (st) h r ↔ Ev 56 60 (a0 :: some (tkv o1) :: ls) (tkv o1 :: st) h r := ev_aload_n iX6_fork_59 rfl tkv_r
theorem eX6_fork_59s : Ev 56 59 (a0 :: some (sgv o1) :: ls) (st) h r ↔ Ev 56 60 (a0 :: some (sgv o1) :: ls) (sgv o1 :: st) h r := ev_aload_n iX6_fork_59 rfl sgv_r
theorem eX6_fork_59c : Ev 56 59 (a0 :: some (cdv o1) :: ls) (st) h r ↔ Ev 56 60 (a0 :: some (cdv o1) :: ls) (cdv o1 :: st) h r := ev_aload_n iX6_fork_59 rfl cdv_r
theorem iX6_fork_60 : mn_ins 56 60 = some (6, false, .getfield 72, 3) := by decide +kernel
theorem eX6_fork_60 : Ev 56 60 (ls) (.ref a :: st) h r ↔ Evk 56 63 ls (mn_gf h a 5 1) st h r := ev_getf iX6_fork_60 (by decide +kernel)
theorem iX6_fork_63 : mn_ins 56 63 = some (6, false, .invokevirtual 107, 3) := by decide +kernel
theorem eX6_fork_63 : Ev 56 63 (ls) (.ref b :: st) h r ↔ Evr true (decide (mn_cats st ≤ 8) && mn_isc h b 2) 56 63 ls st h.2.2.1 h.2.2.2 (Cl 14 (.ref b :: []) h.1 h.2.1) r := Ev_V (As := []) iX6_fork_63 (by decide +kernel) (x := mnI_X6_fork) (x2 := mnI_X2_argument) rfl rfl rfl (by decide +kernel) (Nat.le_of_ble_eq_true rfl) rfl
theorem iX6_fork_66 : mn_ins 56 66 = some (6, false, .invokevirtual 75, 3) := by decide +kernel
theorem eX6_fork_66 : Ev 56 66 (ls) (.int x0 :: .ref b :: st) h r ↔ Evr true (decide (mn_cats st ≤ 8) && mn_isc h b 3) 56 66 ls st h.2.2.1 h.2.2.2 (Cl 27 (.ref b :: [.int x0]) h.1 h.2.1) r := Ev_V (As := [.int x0]) iX6_fork_66 (by decide +kernel) (x := mnI_X6_fork) (x2 := mnI_X3_blockAt) rfl rfl rfl (by decide +kernel) (Nat.le_of_ble_eq_true rfl) rfl
theorem iX6_fork_69 : mn_ins 56 69 = some (6, false, .aload_n 1, 1) := by decide +kernel
theorem eX6_fork_69 : Ev 56 69 (a0 :: some (.ref a) :: ls) (st) h r ↔ Ev 56 70 (a0 :: some (.ref a) :: ls) (.ref a :: st) h r := ev_aload_n iX6_fork_69 rfl rfl
theorem eX6_fork_69n : Ev 56 69 (a0 :: some (.null) :: ls) (st) h r ↔ Ev 56 70 (a0 :: some (.null) :: ls) (.null :: st) h r := ev_aload_n iX6_fork_69 rfl rfl
theorem eX6_fork_69t : Ev 56 69 (a0 :: some (tkv o1) :: ls) (st) h r ↔ Ev 56 70 (a0 :: some (tkv o1) :: ls) (tkv o1 :: st) h r := ev_aload_n iX6_fork_69 rfl tkv_r
theorem eX6_fork_69s : Ev 56 69 (a0 :: some (sgv o1) :: ls) (st) h r ↔ Ev 56 70 (a0 :: some (sgv o1) :: ls) (sgv o1 :: st) h r := ev_aload_n iX6_fork_69 rfl sgv_r
theorem eX6_fork_69c : Ev 56 69 (a0 :: some (cdv o1) :: ls) (st) h r ↔ Ev 56 70 (a0 :: some (cdv o1) :: ls) (cdv o1 :: st) h r := ev_aload_n iX6_fork_69 rfl cdv_r
theorem iX6_fork_70 : mn_ins 56 70 = some (6, false, .getfield 72, 3) := by decide +kernel
theorem eX6_fork_70 : Ev 56 70 (ls) (.ref a :: st) h r ↔ Evk 56 73 ls (mn_gf h a 5 1) st h r := ev_getf iX6_fork_70 (by decide +kernel)
theorem iX6_fork_73 : mn_ins 56 73 = some (6, false, .invokevirtual 121, 3) := by decide +kernel
theorem eX6_fork_73 : Ev 56 73 (ls) (.ref b :: st) h r ↔ Evr true (decide (mn_cats st ≤ 8) && mn_isc h b 2) 56 73 ls st h.2.2.1 h.2.2.2 (Cl 17 (.ref b :: []) h.1 h.2.1) r := Ev_V (As := []) iX6_fork_73 (by decide +kernel) (x := mnI_X6_fork) (x2 := mnI_X2_pop) rfl rfl rfl (by decide +kernel) (Nat.le_of_ble_eq_true rfl) rfl
theorem iX6_fork_76 : mn_ins 56 76 = some (6, false, .invokevirtual 81, 3) := by decide +kernel
theorem EgX6_fork_76 (hw3 : (mn_r w3).isSome = true) : Ev 56 76 (ls) (.long u1 :: w3 :: .ref b :: st) h r ↔ Evr true (decide (mn_cats st ≤ 8) && mn_isc h b 2) 56 76 ls st h.2.2.1 h.2.2.2 (Cl 12 (.ref b :: [w3, .long u1]) h.1 h.2.1) r := Ev_V (As := [w3, .long u1]) iX6_fork_76 (by decide +kernel) (x := mnI_X6_fork) (x2 := mnI_X2_begin) rfl rfl rfl (by decide +kernel) (by rcases mn_r_is hw3 with ⟨_, rfl⟩ | rfl <;> exact Nat.le_of_ble_eq_true rfl) rfl
theorem eX6_fork_76 {cw3 : Nat} : Ev 56 76 (ls) (.long u1 :: (.ref cw3) :: .ref b :: st) h r ↔ Evr true (decide (mn_cats st ≤ 8) && mn_isc h b 2) 56 76 ls st h.2.2.1 h.2.2.2 (Cl 12 (.ref b :: [(.ref cw3), .long u1]) h.1 h.2.1) r := EgX6_fork_76 rfl
theorem iX6_fork_79 : mn_ins 56 79 = some (6, false, .aload_n 1, 1) := by decide +kernel
theorem eX6_fork_79 : Ev 56 79 (a0 :: some (.ref a) :: ls) (st) h r ↔ Ev 56 80 (a0 :: some (.ref a) :: ls) (.ref a :: st) h r := ev_aload_n iX6_fork_79 rfl rfl
theorem eX6_fork_79n : Ev 56 79 (a0 :: some (.null) :: ls) (st) h r ↔ Ev 56 80 (a0 :: some (.null) :: ls) (.null :: st) h r := ev_aload_n iX6_fork_79 rfl rfl
theorem eX6_fork_79t : Ev 56 79 (a0 :: some (tkv o1) :: ls) (st) h r ↔ Ev 56 80 (a0 :: some (tkv o1) :: ls) (tkv o1 :: st) h r := ev_aload_n iX6_fork_79 rfl tkv_r
theorem eX6_fork_79s : Ev 56 79 (a0 :: some (sgv o1) :: ls) (st) h r ↔ Ev 56 80 (a0 :: some (sgv o1) :: ls) (sgv o1 :: st) h r := ev_aload_n iX6_fork_79 rfl sgv_r
theorem eX6_fork_79c : Ev 56 79 (a0 :: some (cdv o1) :: ls) (st) h r ↔ Ev 56 80 (a0 :: some (cdv o1) :: ls) (cdv o1 :: st) h r := ev_aload_n iX6_fork_79 rfl cdv_r
theorem iX6_fork_80 : mn_ins 56 80 = some (6, false, .aload_n 0, 1) := by decide +kernel
theorem eX6_fork_80 : Ev 56 80 (some (.ref a) :: ls) (st) h r ↔ Ev 56 81 (some (.ref a) :: ls) (.ref a :: st) h r := ev_aload_n iX6_fork_80 rfl rfl
theorem iX6_fork_81 : mn_ins 56 81 = some (6, false, .aload_n 3, 1) := by decide +kernel
theorem eX6_fork_81 : Ev 56 81 (a0 :: a1 :: a2 :: some (.ref a) :: ls) (st) h r ↔ Ev 56 82 (a0 :: a1 :: a2 :: some (.ref a) :: ls) (.ref a :: st) h r := ev_aload_n iX6_fork_81 rfl rfl
theorem eX6_fork_81n : Ev 56 81 (a0 :: a1 :: a2 :: some (.null) :: ls) (st) h r ↔ Ev 56 82 (a0 :: a1 :: a2 :: some (.null) :: ls) (.null :: st) h r := ev_aload_n iX6_fork_81 rfl rfl
theorem eX6_fork_81t : Ev 56 81 (a0 :: a1 :: a2 :: some (tkv o1) :: ls) (st) h r ↔ Ev 56 82 (a0 :: a1 :: a2 :: some (tkv o1) :: ls) (tkv o1 :: st) h r := ev_aload_n iX6_fork_81 rfl tkv_r
theorem eX6_fork_81s : Ev 56 81 (a0 :: a1 :: a2 :: some (sgv o1) :: ls) (st) h r ↔ Ev 56 82 (a0 :: a1 :: a2 :: some (sgv o1) :: ls) (sgv o1 :: st) h r := ev_aload_n iX6_fork_81 rfl sgv_r
theorem eX6_fork_81c : Ev 56 81 (a0 :: a1 :: a2 :: some (cdv o1) :: ls) (st) h r ↔ Ev 56 82 (a0 :: a1 :: a2 :: some (cdv o1) :: ls) (cdv o1 :: st) h r := ev_aload_n iX6_fork_81 rfl cdv_r
theorem iX6_fork_82 : mn_ins 56 82 = some (6, false, .invokevirtual 64, 3) := by decide +kernel
theorem EgX6_fork_82 (hw3 : (mn_r w3).isSome = true) : Ev 56 82 (ls) (w3 :: .ref b :: st) h r ↔ Evr true (decide (mn_cats st ≤ 8) && mn_isc h b 6) 56 82 ls st h.2.2.1 h.2.2.2 (Cl 51 (.ref b :: [w3]) h.1 h.2.1) r := Ev_V (As := [w3]) iX6_fork_82 (by decide +kernel) (x := mnI_X6_fork) (x2 := mnI_X6_openSegment) rfl rfl rfl (by decide +kernel) (by rcases mn_r_is hw3 with ⟨_, rfl⟩ | rfl <;> exact Nat.le_of_ble_eq_true rfl) rfl
theorem eX6_fork_82 {cw3 : Nat} : Ev 56 82 (ls) ((.ref cw3) :: .ref b :: st) h r ↔ Evr true (decide (mn_cats st ≤ 8) && mn_isc h b 6) 56 82 ls st h.2.2.1 h.2.2.2 (Cl 51 (.ref b :: [(.ref cw3)]) h.1 h.2.1) r := EgX6_fork_82 rfl
theorem iX6_fork_85 : mn_ins 56 85 = some (6, false, .putfield 103, 3) := by decide +kernel
theorem eX6_fork_85 : Ev 56 85 (ls) (w :: .ref a :: st) h r ↔ Evh 56 88 ls st (mn_pf h a 5 11 w) r := ev_putf iX6_fork_85 (by decide +kernel) (by decide +kernel)
theorem iX6_fork_88 : mn_ins 56 88 = some (6, false, .aload_n 1, 1) := by decide +kernel
theorem eX6_fork_88 : Ev 56 88 (a0 :: some (.ref a) :: ls) (st) h r ↔ Ev 56 89 (a0 :: some (.ref a) :: ls) (.ref a :: st) h r := ev_aload_n iX6_fork_88 rfl rfl
theorem eX6_fork_88n : Ev 56 88 (a0 :: some (.null) :: ls) (st) h r ↔ Ev 56 89 (a0 :: some (.null) :: ls) (.null :: st) h r := ev_aload_n iX6_fork_88 rfl rfl
theorem eX6_fork_88t : Ev 56 88 (a0 :: some (tkv o1) :: ls) (st) h r ↔ Ev 56 89 (a0 :: some (tkv o1) :: ls) (tkv o1 :: st) h r := ev_aload_n iX6_fork_88 rfl tkv_r
theorem eX6_fork_88s : Ev 56 88 (a0 :: some (sgv o1) :: ls) (st) h r ↔ Ev 56 89 (a0 :: some (sgv o1) :: ls) (sgv o1 :: st) h r := ev_aload_n iX6_fork_88 rfl sgv_r
theorem eX6_fork_88c : Ev 56 88 (a0 :: some (cdv o1) :: ls) (st) h r ↔ Ev 56 89 (a0 :: some (cdv o1) :: ls) (cdv o1 :: st) h r := ev_aload_n iX6_fork_88 rfl cdv_r
theorem iX6_fork_89 : mn_ins 56 89 = some (6, false, .getfield 72, 3) := by decide +kernel
theorem eX6_fork_89 : Ev 56 89 (ls) (.ref a :: st) h r ↔ Evk 56 92 ls (mn_gf h a 5 1) st h r := ev_getf iX6_fork_89 (by decide +kernel)
theorem iX6_fork_92 : mn_ins 56 92 = some (6, false, .aload_n 2, 1) := by decide +kernel
theorem eX6_fork_92 : Ev 56 92 (a0 :: a1 :: some (.ref a) :: ls) (st) h r ↔ Ev 56 93 (a0 :: a1 :: some (.ref a) :: ls) (.ref a :: st) h r := ev_aload_n iX6_fork_92 rfl rfl
theorem eX6_fork_92n : Ev 56 92 (a0 :: a1 :: some (.null) :: ls) (st) h r ↔ Ev 56 93 (a0 :: a1 :: some (.null) :: ls) (.null :: st) h r := ev_aload_n iX6_fork_92 rfl rfl
theorem eX6_fork_92t : Ev 56 92 (a0 :: a1 :: some (tkv o1) :: ls) (st) h r ↔ Ev 56 93 (a0 :: a1 :: some (tkv o1) :: ls) (tkv o1 :: st) h r := ev_aload_n iX6_fork_92 rfl tkv_r
theorem eX6_fork_92s : Ev 56 92 (a0 :: a1 :: some (sgv o1) :: ls) (st) h r ↔ Ev 56 93 (a0 :: a1 :: some (sgv o1) :: ls) (sgv o1 :: st) h r := ev_aload_n iX6_fork_92 rfl sgv_r
theorem eX6_fork_92c : Ev 56 92 (a0 :: a1 :: some (cdv o1) :: ls) (st) h r ↔ Ev 56 93 (a0 :: a1 :: some (cdv o1) :: ls) (cdv o1 :: st) h r := ev_aload_n iX6_fork_92 rfl cdv_r
theorem iX6_fork_93 : mn_ins 56 93 = some (6, false, .getfield 153, 3) := by decide +kernel
theorem eX6_fork_93 : Ev 56 93 (ls) (.ref a :: st) h r ↔ Evk 56 96 ls (mn_gf h a 5 0) st h r := ev_getf iX6_fork_93 (by decide +kernel)
theorem iX6_fork_96 : mn_ins 56 96 = some (6, false, .i2l, 1) := by decide +kernel
theorem eX6_fork_96 : Ev 56 96 (ls) (.int x :: st) h r ↔ Ev 56 97 (ls) (.long x.toInt64 :: st) h r := ev_i2l iX6_fork_96
theorem iX6_fork_97 : mn_ins 56 97 = some (6, false, .invokevirtual 114, 3) := by decide +kernel
theorem eX6_fork_97 : Ev 56 97 (ls) (.long u0 :: .ref b :: st) h r ↔ Evr true (decide (mn_cats st ≤ 8) && mn_isc h b 2) 56 97 ls st h.2.2.1 h.2.2.2 (Cl 16 (.ref b :: [.long u0]) h.1 h.2.1) r := Ev_V (As := [.long u0]) iX6_fork_97 (by decide +kernel) (x := mnI_X6_fork) (x2 := mnI_X2_push) rfl rfl rfl (by decide +kernel) (Nat.le_of_ble_eq_true rfl) rfl
theorem iX6_fork_100 : mn_ins 56 100 = some (6, false, .aload_n 1, 1) := by decide +kernel
theorem eX6_fork_100 : Ev 56 100 (a0 :: some (.ref a) :: ls) (st) h r ↔ Ev 56 101 (a0 :: some (.ref a) :: ls) (.ref a :: st) h r := ev_aload_n iX6_fork_100 rfl rfl
theorem eX6_fork_100n : Ev 56 100 (a0 :: some (.null) :: ls) (st) h r ↔ Ev 56 101 (a0 :: some (.null) :: ls) (.null :: st) h r := ev_aload_n iX6_fork_100 rfl rfl
theorem eX6_fork_100t : Ev 56 100 (a0 :: some (tkv o1) :: ls) (st) h r ↔ Ev 56 101 (a0 :: some (tkv o1) :: ls) (tkv o1 :: st) h r := ev_aload_n iX6_fork_100 rfl tkv_r
theorem eX6_fork_100s : Ev 56 100 (a0 :: some (sgv o1) :: ls) (st) h r ↔ Ev 56 101 (a0 :: some (sgv o1) :: ls) (sgv o1 :: st) h r := ev_aload_n iX6_fork_100 rfl sgv_r
theorem eX6_fork_100c : Ev 56 100 (a0 :: some (cdv o1) :: ls) (st) h r ↔ Ev 56 101 (a0 :: some (cdv o1) :: ls) (cdv o1 :: st) h r := ev_aload_n iX6_fork_100 rfl cdv_r
theorem iX6_fork_101 : mn_ins 56 101 = some (6, false, .getfield 72, 3) := by decide +kernel
theorem eX6_fork_101 : Ev 56 101 (ls) (.ref a :: st) h r ↔ Evk 56 104 ls (mn_gf h a 5 1) st h r := ev_getf iX6_fork_101 (by decide +kernel)
theorem iX6_fork_104 : mn_ins 56 104 = some (6, false, .invokevirtual 118, 3) := by decide +kernel
theorem eX6_fork_104 : Ev 56 104 (ls) (.ref b :: st) h r ↔ Evr true (decide (mn_cats st ≤ 8) && mn_isc h b 2) 56 104 ls st h.2.2.1 h.2.2.2 (Cl 15 (.ref b :: []) h.1 h.2.1) r := Ev_V (As := []) iX6_fork_104 (by decide +kernel) (x := mnI_X6_fork) (x2 := mnI_X2_moveOn) rfl rfl rfl (by decide +kernel) (Nat.le_of_ble_eq_true rfl) rfl
theorem iX6_fork_107 : mn_ins 56 107 = some (6, false, .aload_n 0, 1) := by decide +kernel
theorem eX6_fork_107 : Ev 56 107 (some (.ref a) :: ls) (st) h r ↔ Ev 56 108 (some (.ref a) :: ls) (.ref a :: st) h r := ev_aload_n iX6_fork_107 rfl rfl
theorem iX6_fork_108 : mn_ins 56 108 = some (6, false, .invokevirtual 156, 3) := by decide +kernel
theorem eX6_fork_108 : Ev 56 108 (ls) (.ref b :: st) h r ↔ Evr true (decide (mn_cats st ≤ 8) && mn_isc h b 6) 56 108 ls st h.2.2.1 h.2.2.2 (Cl 63 (.ref b :: []) h.1 h.2.1) r := Ev_V (As := []) iX6_fork_108 (by decide +kernel) (x := mnI_X6_fork) (x2 := mnI_X6_layTogether) rfl rfl rfl (by decide +kernel) (Nat.le_of_ble_eq_true rfl) rfl
theorem iX6_fork_111 : mn_ins 56 111 = some (6, false, .return_, 1) := by decide +kernel
theorem eX6_fork_111 : Ev 56 111 (ls) [] h r ↔ r = (h, .inl none) := ev_vret iX6_fork_111 (X := mnI_X6_fork) rfl rfl
theorem iX6_join_0 : mn_ins 57 0 = some (6, false, .aload_n 0, 1) := by decide +kernel
theorem eX6_join_0 : Ev 57 0 (some (.ref a) :: ls) (st) h r ↔ Ev 57 1 (some (.ref a) :: ls) (.ref a :: st) h r := ev_aload_n iX6_join_0 rfl rfl
theorem iX6_join_1 : mn_ins 57 1 = some (6, false, .aload_n 1, 1) := by decide +kernel
theorem eX6_join_1 : Ev 57 1 (a0 :: some (.ref a) :: ls) (st) h r ↔ Ev 57 2 (a0 :: some (.ref a) :: ls) (.ref a :: st) h r := ev_aload_n iX6_join_1 rfl rfl
theorem eX6_join_1n : Ev 57 1 (a0 :: some (.null) :: ls) (st) h r ↔ Ev 57 2 (a0 :: some (.null) :: ls) (.null :: st) h r := ev_aload_n iX6_join_1 rfl rfl
theorem eX6_join_1t : Ev 57 1 (a0 :: some (tkv o1) :: ls) (st) h r ↔ Ev 57 2 (a0 :: some (tkv o1) :: ls) (tkv o1 :: st) h r := ev_aload_n iX6_join_1 rfl tkv_r
theorem eX6_join_1s : Ev 57 1 (a0 :: some (sgv o1) :: ls) (st) h r ↔ Ev 57 2 (a0 :: some (sgv o1) :: ls) (sgv o1 :: st) h r := ev_aload_n iX6_join_1 rfl sgv_r
theorem eX6_join_1c : Ev 57 1 (a0 :: some (cdv o1) :: ls) (st) h r ↔ Ev 57 2 (a0 :: some (cdv o1) :: ls) (cdv o1 :: st) h r := ev_aload_n iX6_join_1 rfl cdv_r
theorem iX6_join_2 : mn_ins 57 2 = some (6, false, .invokevirtual 95, 3) := by decide +kernel
theorem EgX6_join_2 (hw3 : (mn_r w3).isSome = true) : Ev 57 2 (ls) (w3 :: .ref b :: st) h r ↔ Evr true (decide (mn_cats st ≤ 8) && mn_isc h b 6) 57 2 ls st h.2.2.1 h.2.2.2 (Cl 58 (.ref b :: [w3]) h.1 h.2.1) r := Ev_V (As := [w3]) iX6_join_2 (by decide +kernel) (x := mnI_X6_join) (x2 := mnI_X6_joinHindrance) rfl rfl rfl (by decide +kernel) (by rcases mn_r_is hw3 with ⟨_, rfl⟩ | rfl <;> exact Nat.le_of_ble_eq_true rfl) rfl
theorem eX6_join_2 {cw3 : Nat} : Ev 57 2 (ls) ((.ref cw3) :: .ref b :: st) h r ↔ Evr true (decide (mn_cats st ≤ 8) && mn_isc h b 6) 57 2 ls st h.2.2.1 h.2.2.2 (Cl 58 (.ref b :: [(.ref cw3)]) h.1 h.2.1) r := EgX6_join_2 rfl
theorem iX6_join_5 : mn_ins 57 5 = some (6, false, .istore_n 2, 1) := by decide +kernel
theorem eX6_join_5 : Ev 57 5 (a0 :: a1 :: a2 :: ls) (.int x :: st) h r ↔ Ev 57 6 (a0 :: mn_k a1 :: some (.int x) :: ls) (st) h r := ev_istore_n iX6_join_5 (by show 2 < _; simp only [List.length_cons]; omega)
theorem iX6_join_6 : mn_ins 57 6 = some (6, false, .iload_n 2, 1) := by decide +kernel
theorem eX6_join_6 : Ev 57 6 (a0 :: a1 :: some (.int x) :: ls) (st) h r ↔ Ev 57 7 (a0 :: a1 :: some (.int x) :: ls) (.int x :: st) h r := ev_iload_n iX6_join_6 rfl
theorem iX6_join_7 : mn_ins 57 7 = some (6, false, .iconst (-1), 1) := by decide +kernel
theorem eX6_join_7 : Ev 57 7 (ls) (st) h r ↔ Ev 57 8 (ls) (.int (-1) :: st) h r := ev_iconst iX6_join_7 (by decide)
theorem iX6_join_8 : mn_ins 57 8 = some (6, false, .if_icmp .ne 4, 3) := by decide +kernel
theorem eX6_join_8 : Ev 57 8 (ls) (.int y :: .int x :: st) h r ↔ if x = y then Ev 57 11 (ls) (st) h r else Ev 57 12 (ls) (st) h r := ev_cmpne iX6_join_8 (by decide)
theorem iX6_join_11 : mn_ins 57 11 = some (6, false, .return_, 1) := by decide +kernel
theorem eX6_join_11 : Ev 57 11 (ls) [] h r ↔ r = (h, .inl none) := ev_vret iX6_join_11 (X := mnI_X6_join) rfl rfl
theorem iX6_join_12 : mn_ins 57 12 = some (6, false, .aload_n 0, 1) := by decide +kernel
theorem eX6_join_12 : Ev 57 12 (some (.ref a) :: ls) (st) h r ↔ Ev 57 13 (some (.ref a) :: ls) (.ref a :: st) h r := ev_aload_n iX6_join_12 rfl rfl
theorem iX6_join_13 : mn_ins 57 13 = some (6, false, .aload_n 1, 1) := by decide +kernel
theorem eX6_join_13 : Ev 57 13 (a0 :: some (.ref a) :: ls) (st) h r ↔ Ev 57 14 (a0 :: some (.ref a) :: ls) (.ref a :: st) h r := ev_aload_n iX6_join_13 rfl rfl
theorem eX6_join_13n : Ev 57 13 (a0 :: some (.null) :: ls) (st) h r ↔ Ev 57 14 (a0 :: some (.null) :: ls) (.null :: st) h r := ev_aload_n iX6_join_13 rfl rfl
theorem eX6_join_13t : Ev 57 13 (a0 :: some (tkv o1) :: ls) (st) h r ↔ Ev 57 14 (a0 :: some (tkv o1) :: ls) (tkv o1 :: st) h r := ev_aload_n iX6_join_13 rfl tkv_r
theorem eX6_join_13s : Ev 57 13 (a0 :: some (sgv o1) :: ls) (st) h r ↔ Ev 57 14 (a0 :: some (sgv o1) :: ls) (sgv o1 :: st) h r := ev_aload_n iX6_join_13 rfl sgv_r
theorem eX6_join_13c : Ev 57 13 (a0 :: some (cdv o1) :: ls) (st) h r ↔ Ev 57 14 (a0 :: some (cdv o1) :: ls) (cdv o1 :: st) h r := ev_aload_n iX6_join_13 rfl cdv_r
theorem iX6_join_14 : mn_ins 57 14 = some (6, false, .invokevirtual 159, 3) := by decide +kernel
theorem EgX6_join_14 (hw3 : (mn_r w3).isSome = true) : Ev 57 14 (ls) (w3 :: .ref b :: st) h r ↔ Evr true (decide (mn_cats st ≤ 8) && mn_isc h b 6) 57 14 ls st h.2.2.1 h.2.2.2 (Cl 59 (.ref b :: [w3]) h.1 h.2.1) r := Ev_V (As := [w3]) iX6_join_14 (by decide +kernel) (x := mnI_X6_join) (x2 := mnI_X6_taskToJoin) rfl rfl rfl (by decide +kernel) (by rcases mn_r_is hw3 with ⟨_, rfl⟩ | rfl <;> exact Nat.le_of_ble_eq_true rfl) rfl
theorem eX6_join_14 {cw3 : Nat} : Ev 57 14 (ls) ((.ref cw3) :: .ref b :: st) h r ↔ Evr true (decide (mn_cats st ≤ 8) && mn_isc h b 6) 57 14 ls st h.2.2.1 h.2.2.2 (Cl 59 (.ref b :: [(.ref cw3)]) h.1 h.2.1) r := EgX6_join_14 rfl
theorem iX6_join_17 : mn_ins 57 17 = some (6, false, .astore_n 3, 1) := by decide +kernel
theorem eX6_join_17 : Ev 57 17 (a0 :: a1 :: a2 :: a3 :: ls) (.ref a :: st) h r ↔ Ev 57 18 (a0 :: a1 :: mn_k a2 :: some (.ref a) :: ls) (st) h r := ev_astore_n iX6_join_17 (by show 3 < _; simp only [List.length_cons]; omega) rfl
theorem eX6_join_17n : Ev 57 17 (a0 :: a1 :: a2 :: a3 :: ls) (.null :: st) h r ↔ Ev 57 18 (a0 :: a1 :: mn_k a2 :: some (.null) :: ls) (st) h r := ev_astore_n iX6_join_17 (by show 3 < _; simp only [List.length_cons]; omega) rfl
theorem eX6_join_17t : Ev 57 17 (a0 :: a1 :: a2 :: a3 :: ls) (tkv o1 :: st) h r ↔ Ev 57 18 (a0 :: a1 :: mn_k a2 :: some (tkv o1) :: ls) (st) h r := ev_astore_n iX6_join_17 (by show 3 < _; simp only [List.length_cons]; omega) tkv_r
theorem eX6_join_17s : Ev 57 17 (a0 :: a1 :: a2 :: a3 :: ls) (sgv o1 :: st) h r ↔ Ev 57 18 (a0 :: a1 :: mn_k a2 :: some (sgv o1) :: ls) (st) h r := ev_astore_n iX6_join_17 (by show 3 < _; simp only [List.length_cons]; omega) sgv_r
theorem eX6_join_17c : Ev 57 17 (a0 :: a1 :: a2 :: a3 :: ls) (cdv o1 :: st) h r ↔ Ev 57 18 (a0 :: a1 :: mn_k a2 :: some (cdv o1) :: ls) (st) h r := ev_astore_n iX6_join_17 (by show 3 < _; simp only [List.length_cons]; omega) cdv_r
theorem iX6_join_18 : mn_ins 57 18 = some (6, false, .iload_n 2, 1) := by decide +kernel
theorem eX6_join_18 : Ev 57 18 (a0 :: a1 :: some (.int x) :: ls) (st) h r ↔ Ev 57 19 (a0 :: a1 :: some (.int x) :: ls) (.int x :: st) h r := ev_iload_n iX6_join_18 rfl
theorem iX6_join_19 : mn_ins 57 19 = some (6, false, .ifCond .ne 7, 3) := by decide +kernel
theorem eX6_join_19 : Ev 57 19 (ls) (.int x :: st) h r ↔ if x = nI 0 then Ev 57 22 (ls) (st) h r else Ev 57 26 (ls) (st) h r := ev_ifne iX6_join_19 (by decide)
theorem iX6_join_22 : mn_ins 57 22 = some (6, false, .aload_n 3, 1) := by decide +kernel
theorem eX6_join_22 : Ev 57 22 (a0 :: a1 :: a2 :: some (.ref a) :: ls) (st) h r ↔ Ev 57 23 (a0 :: a1 :: a2 :: some (.ref a) :: ls) (.ref a :: st) h r := ev_aload_n iX6_join_22 rfl rfl
theorem eX6_join_22n : Ev 57 22 (a0 :: a1 :: a2 :: some (.null) :: ls) (st) h r ↔ Ev 57 23 (a0 :: a1 :: a2 :: some (.null) :: ls) (.null :: st) h r := ev_aload_n iX6_join_22 rfl rfl
theorem eX6_join_22t : Ev 57 22 (a0 :: a1 :: a2 :: some (tkv o1) :: ls) (st) h r ↔ Ev 57 23 (a0 :: a1 :: a2 :: some (tkv o1) :: ls) (tkv o1 :: st) h r := ev_aload_n iX6_join_22 rfl tkv_r
theorem eX6_join_22s : Ev 57 22 (a0 :: a1 :: a2 :: some (sgv o1) :: ls) (st) h r ↔ Ev 57 23 (a0 :: a1 :: a2 :: some (sgv o1) :: ls) (sgv o1 :: st) h r := ev_aload_n iX6_join_22 rfl sgv_r
theorem eX6_join_22c : Ev 57 22 (a0 :: a1 :: a2 :: some (cdv o1) :: ls) (st) h r ↔ Ev 57 23 (a0 :: a1 :: a2 :: some (cdv o1) :: ls) (cdv o1 :: st) h r := ev_aload_n iX6_join_22 rfl cdv_r
theorem iX6_join_23 : mn_ins 57 23 = some (6, false, .ifnonnull 9, 3) := by decide +kernel
theorem eX6_join_23 : Ev 57 23 (ls) (va_rf o1 :: st) h r ↔ if o1 = none then Ev 57 26 (ls) (st) h r else Ev 57 32 (ls) (st) h r := ev_ifnonnull iX6_join_23 (by decide) (mr_rf _)
theorem eX6_join_23r : Ev 57 23 (ls) (.ref a :: st) h r ↔ Ev 57 32 (ls) (st) h r := (ev_ifnonnull (t := 32) (w := .ref a) (x := some a) iX6_join_23 (by decide) rfl).trans (by rw [if_neg (by simp)])
theorem eX6_join_23n : Ev 57 23 (ls) (.null :: st) h r ↔ Ev 57 26 (ls) (st) h r := (ev_ifnonnull (t := 32) (w := .null) (x := none) iX6_join_23 (by decide) rfl).trans (by rw [if_pos rfl])
theorem iX6_join_26 : mn_ins 57 26 = some (6, false, .aload_n 1, 1) := by decide +kernel
theorem eX6_join_26 : Ev 57 26 (a0 :: some (.ref a) :: ls) (st) h r ↔ Ev 57 27 (a0 :: some (.ref a) :: ls) (.ref a :: st) h r := ev_aload_n iX6_join_26 rfl rfl
theorem eX6_join_26n : Ev 57 26 (a0 :: some (.null) :: ls) (st) h r ↔ Ev 57 27 (a0 :: some (.null) :: ls) (.null :: st) h r := ev_aload_n iX6_join_26 rfl rfl
theorem eX6_join_26t : Ev 57 26 (a0 :: some (tkv o1) :: ls) (st) h r ↔ Ev 57 27 (a0 :: some (tkv o1) :: ls) (tkv o1 :: st) h r := ev_aload_n iX6_join_26 rfl tkv_r
theorem eX6_join_26s : Ev 57 26 (a0 :: some (sgv o1) :: ls) (st) h r ↔ Ev 57 27 (a0 :: some (sgv o1) :: ls) (sgv o1 :: st) h r := ev_aload_n iX6_join_26 rfl sgv_r
theorem eX6_join_26c : Ev 57 26 (a0 :: some (cdv o1) :: ls) (st) h r ↔ Ev 57 27 (a0 :: some (cdv o1) :: ls) (cdv o1 :: st) h r := ev_aload_n iX6_join_26 rfl cdv_r
theorem iX6_join_27 : mn_ins 57 27 = some (6, false, .iload_n 2, 1) := by decide +kernel
theorem eX6_join_27 : Ev 57 27 (a0 :: a1 :: some (.int x) :: ls) (st) h r ↔ Ev 57 28 (a0 :: a1 :: some (.int x) :: ls) (.int x :: st) h r := ev_iload_n iX6_join_27 rfl
theorem iX6_join_28 : mn_ins 57 28 = some (6, false, .invokevirtual 99, 3) := by decide +kernel
theorem eX6_join_28 : Ev 57 28 (ls) (.int x0 :: .ref b :: st) h r ↔ Evr true (decide (mn_cats st ≤ 8) && mn_isc h b 5) 57 28 ls st h.2.2.1 h.2.2.2 (Cl 42 (.ref b :: [.int x0]) h.1 h.2.1) r := Ev_V (As := [.int x0]) iX6_join_28 (by decide +kernel) (x := mnI_X6_join) (x2 := mnI_X5_fail) rfl rfl rfl (by decide +kernel) (Nat.le_of_ble_eq_true rfl) rfl
theorem iX6_join_31 : mn_ins 57 31 = some (6, false, .return_, 1) := by decide +kernel
theorem eX6_join_31 : Ev 57 31 (ls) [] h r ↔ r = (h, .inl none) := ev_vret iX6_join_31 (X := mnI_X6_join) rfl rfl
theorem iX6_join_32 : mn_ins 57 32 = some (6, false, .aload_n 0, 1) := by decide +kernel
theorem eX6_join_32 : Ev 57 32 (some (.ref a) :: ls) (st) h r ↔ Ev 57 33 (some (.ref a) :: ls) (.ref a :: st) h r := ev_aload_n iX6_join_32 rfl rfl
theorem iX6_join_33 : mn_ins 57 33 = some (6, false, .aload_n 1, 1) := by decide +kernel
theorem eX6_join_33 : Ev 57 33 (a0 :: some (.ref a) :: ls) (st) h r ↔ Ev 57 34 (a0 :: some (.ref a) :: ls) (.ref a :: st) h r := ev_aload_n iX6_join_33 rfl rfl
theorem eX6_join_33n : Ev 57 33 (a0 :: some (.null) :: ls) (st) h r ↔ Ev 57 34 (a0 :: some (.null) :: ls) (.null :: st) h r := ev_aload_n iX6_join_33 rfl rfl
theorem eX6_join_33t : Ev 57 33 (a0 :: some (tkv o1) :: ls) (st) h r ↔ Ev 57 34 (a0 :: some (tkv o1) :: ls) (tkv o1 :: st) h r := ev_aload_n iX6_join_33 rfl tkv_r
theorem eX6_join_33s : Ev 57 33 (a0 :: some (sgv o1) :: ls) (st) h r ↔ Ev 57 34 (a0 :: some (sgv o1) :: ls) (sgv o1 :: st) h r := ev_aload_n iX6_join_33 rfl sgv_r
theorem eX6_join_33c : Ev 57 33 (a0 :: some (cdv o1) :: ls) (st) h r ↔ Ev 57 34 (a0 :: some (cdv o1) :: ls) (cdv o1 :: st) h r := ev_aload_n iX6_join_33 rfl cdv_r
theorem iX6_join_34 : mn_ins 57 34 = some (6, false, .aload_n 3, 1) := by decide +kernel
theorem eX6_join_34 : Ev 57 34 (a0 :: a1 :: a2 :: some (.ref a) :: ls) (st) h r ↔ Ev 57 35 (a0 :: a1 :: a2 :: some (.ref a) :: ls) (.ref a :: st) h r := ev_aload_n iX6_join_34 rfl rfl
theorem eX6_join_34n : Ev 57 34 (a0 :: a1 :: a2 :: some (.null) :: ls) (st) h r ↔ Ev 57 35 (a0 :: a1 :: a2 :: some (.null) :: ls) (.null :: st) h r := ev_aload_n iX6_join_34 rfl rfl
theorem eX6_join_34t : Ev 57 34 (a0 :: a1 :: a2 :: some (tkv o1) :: ls) (st) h r ↔ Ev 57 35 (a0 :: a1 :: a2 :: some (tkv o1) :: ls) (tkv o1 :: st) h r := ev_aload_n iX6_join_34 rfl tkv_r
theorem eX6_join_34s : Ev 57 34 (a0 :: a1 :: a2 :: some (sgv o1) :: ls) (st) h r ↔ Ev 57 35 (a0 :: a1 :: a2 :: some (sgv o1) :: ls) (sgv o1 :: st) h r := ev_aload_n iX6_join_34 rfl sgv_r
theorem eX6_join_34c : Ev 57 34 (a0 :: a1 :: a2 :: some (cdv o1) :: ls) (st) h r ↔ Ev 57 35 (a0 :: a1 :: a2 :: some (cdv o1) :: ls) (cdv o1 :: st) h r := ev_aload_n iX6_join_34 rfl cdv_r
theorem iX6_join_35 : mn_ins 57 35 = some (6, false, .invokevirtual 163, 3) := by decide +kernel
theorem EgX6_join_35 (hw3 : (mn_r w3).isSome = true) (hw4 : (mn_r w4).isSome = true) : Ev 57 35 (ls) (w4 :: w3 :: .ref b :: st) h r ↔ Evr true (decide (mn_cats st ≤ 8) && mn_isc h b 6) 57 35 ls st h.2.2.1 h.2.2.2 (Cl 61 (.ref b :: [w3, w4]) h.1 h.2.1) r := Ev_V (As := [w3, w4]) iX6_join_35 (by decide +kernel) (x := mnI_X6_join) (x2 := mnI_X6_bringCells) rfl rfl rfl (by decide +kernel) (by rcases mn_r_is hw3 with ⟨_, rfl⟩ | rfl <;> rcases mn_r_is hw4 with ⟨_, rfl⟩ | rfl <;> exact Nat.le_of_ble_eq_true rfl) rfl
theorem eX6_join_35 {cw3 : Nat} {cw4 : Nat} : Ev 57 35 (ls) ((.ref cw4) :: (.ref cw3) :: .ref b :: st) h r ↔ Evr true (decide (mn_cats st ≤ 8) && mn_isc h b 6) 57 35 ls st h.2.2.1 h.2.2.2 (Cl 61 (.ref b :: [(.ref cw3), (.ref cw4)]) h.1 h.2.1) r := EgX6_join_35 rfl rfl
theorem iX6_join_38 : mn_ins 57 38 = some (6, false, .iconst 0, 1) := by decide +kernel
theorem eX6_join_38 : Ev 57 38 (ls) (st) h r ↔ Ev 57 39 (ls) (.int (nI 0) :: st) h r := ev_iconst iX6_join_38 (by decide)
theorem iX6_join_39 : mn_ins 57 39 = some (6, false, .istore 4, 2) := by decide +kernel
theorem eX6_join_39 : Ev 57 39 (a0 :: a1 :: a2 :: a3 :: a4 :: ls) (.int x :: st) h r ↔ Ev 57 41 (a0 :: a1 :: a2 :: mn_k a3 :: some (.int x) :: ls) (st) h r := ev_istore iX6_join_39 (by show 4 < _; simp only [List.length_cons]; omega)
theorem iX6_join_41 : mn_ins 57 41 = some (6, false, .iload 4, 2) := by decide +kernel
theorem eX6_join_41 : Ev 57 41 (a0 :: a1 :: a2 :: a3 :: some (.int x) :: ls) (st) h r ↔ Ev 57 43 (a0 :: a1 :: a2 :: a3 :: some (.int x) :: ls) (.int x :: st) h r := ev_iload iX6_join_41 rfl
theorem iX6_join_43 : mn_ins 57 43 = some (6, false, .aload_n 3, 1) := by decide +kernel
theorem eX6_join_43 : Ev 57 43 (a0 :: a1 :: a2 :: some (.ref a) :: ls) (st) h r ↔ Ev 57 44 (a0 :: a1 :: a2 :: some (.ref a) :: ls) (.ref a :: st) h r := ev_aload_n iX6_join_43 rfl rfl
theorem eX6_join_43n : Ev 57 43 (a0 :: a1 :: a2 :: some (.null) :: ls) (st) h r ↔ Ev 57 44 (a0 :: a1 :: a2 :: some (.null) :: ls) (.null :: st) h r := ev_aload_n iX6_join_43 rfl rfl
theorem eX6_join_43t : Ev 57 43 (a0 :: a1 :: a2 :: some (tkv o1) :: ls) (st) h r ↔ Ev 57 44 (a0 :: a1 :: a2 :: some (tkv o1) :: ls) (tkv o1 :: st) h r := ev_aload_n iX6_join_43 rfl tkv_r
theorem eX6_join_43s : Ev 57 43 (a0 :: a1 :: a2 :: some (sgv o1) :: ls) (st) h r ↔ Ev 57 44 (a0 :: a1 :: a2 :: some (sgv o1) :: ls) (sgv o1 :: st) h r := ev_aload_n iX6_join_43 rfl sgv_r
theorem eX6_join_43c : Ev 57 43 (a0 :: a1 :: a2 :: some (cdv o1) :: ls) (st) h r ↔ Ev 57 44 (a0 :: a1 :: a2 :: some (cdv o1) :: ls) (cdv o1 :: st) h r := ev_aload_n iX6_join_43 rfl cdv_r
theorem iX6_join_44 : mn_ins 57 44 = some (6, false, .getfield 167, 3) := by decide +kernel
theorem eX6_join_44 : Ev 57 44 (ls) (.ref a :: st) h r ↔ Evk 57 47 ls (mn_gf h a 5 3) st h r := ev_getf iX6_join_44 (by decide +kernel)
theorem iX6_join_47 : mn_ins 57 47 = some (6, false, .if_icmp .ge 20, 3) := by decide +kernel
theorem eX6_join_47 : Ev 57 47 (ls) (.int y :: .int x :: st) h r ↔ if y ≤ x then Ev 57 67 (ls) (st) h r else Ev 57 50 (ls) (st) h r := ev_cmpge iX6_join_47 (by decide)
theorem iX6_join_50 : mn_ins 57 50 = some (6, false, .aload_n 1, 1) := by decide +kernel
theorem eX6_join_50 : Ev 57 50 (a0 :: some (.ref a) :: ls) (st) h r ↔ Ev 57 51 (a0 :: some (.ref a) :: ls) (.ref a :: st) h r := ev_aload_n iX6_join_50 rfl rfl
theorem eX6_join_50n : Ev 57 50 (a0 :: some (.null) :: ls) (st) h r ↔ Ev 57 51 (a0 :: some (.null) :: ls) (.null :: st) h r := ev_aload_n iX6_join_50 rfl rfl
theorem eX6_join_50t : Ev 57 50 (a0 :: some (tkv o1) :: ls) (st) h r ↔ Ev 57 51 (a0 :: some (tkv o1) :: ls) (tkv o1 :: st) h r := ev_aload_n iX6_join_50 rfl tkv_r
theorem eX6_join_50s : Ev 57 50 (a0 :: some (sgv o1) :: ls) (st) h r ↔ Ev 57 51 (a0 :: some (sgv o1) :: ls) (sgv o1 :: st) h r := ev_aload_n iX6_join_50 rfl sgv_r
theorem eX6_join_50c : Ev 57 50 (a0 :: some (cdv o1) :: ls) (st) h r ↔ Ev 57 51 (a0 :: some (cdv o1) :: ls) (cdv o1 :: st) h r := ev_aload_n iX6_join_50 rfl cdv_r
theorem iX6_join_51 : mn_ins 57 51 = some (6, false, .aload_n 3, 1) := by decide +kernel
theorem eX6_join_51 : Ev 57 51 (a0 :: a1 :: a2 :: some (.ref a) :: ls) (st) h r ↔ Ev 57 52 (a0 :: a1 :: a2 :: some (.ref a) :: ls) (.ref a :: st) h r := ev_aload_n iX6_join_51 rfl rfl
theorem eX6_join_51n : Ev 57 51 (a0 :: a1 :: a2 :: some (.null) :: ls) (st) h r ↔ Ev 57 52 (a0 :: a1 :: a2 :: some (.null) :: ls) (.null :: st) h r := ev_aload_n iX6_join_51 rfl rfl
theorem eX6_join_51t : Ev 57 51 (a0 :: a1 :: a2 :: some (tkv o1) :: ls) (st) h r ↔ Ev 57 52 (a0 :: a1 :: a2 :: some (tkv o1) :: ls) (tkv o1 :: st) h r := ev_aload_n iX6_join_51 rfl tkv_r
theorem eX6_join_51s : Ev 57 51 (a0 :: a1 :: a2 :: some (sgv o1) :: ls) (st) h r ↔ Ev 57 52 (a0 :: a1 :: a2 :: some (sgv o1) :: ls) (sgv o1 :: st) h r := ev_aload_n iX6_join_51 rfl sgv_r
theorem eX6_join_51c : Ev 57 51 (a0 :: a1 :: a2 :: some (cdv o1) :: ls) (st) h r ↔ Ev 57 52 (a0 :: a1 :: a2 :: some (cdv o1) :: ls) (cdv o1 :: st) h r := ev_aload_n iX6_join_51 rfl cdv_r
theorem iX6_join_52 : mn_ins 57 52 = some (6, false, .getfield 170, 3) := by decide +kernel
theorem eX6_join_52 : Ev 57 52 (ls) (.ref a :: st) h r ↔ Evk 57 55 ls (mn_gf h a 5 2) st h r := ev_getf iX6_join_52 (by decide +kernel)
theorem iX6_join_55 : mn_ins 57 55 = some (6, false, .iload 4, 2) := by decide +kernel
theorem eX6_join_55 : Ev 57 55 (a0 :: a1 :: a2 :: a3 :: some (.int x) :: ls) (st) h r ↔ Ev 57 57 (a0 :: a1 :: a2 :: a3 :: some (.int x) :: ls) (.int x :: st) h r := ev_iload iX6_join_55 rfl
theorem iX6_join_57 : mn_ins 57 57 = some (6, false, .laload, 1) := by decide +kernel
theorem eX6_join_57 : Ev 57 57 (ls) (.int x :: .ref a :: st) h r ↔ Evk 57 58 ls (mn_al h a 1 x) st h r := ev_lald iX6_join_57
theorem iX6_join_58 : mn_ins 57 58 = some (6, false, .invokevirtual 150, 3) := by decide +kernel
theorem eX6_join_58 : Ev 57 58 (ls) (.long u0 :: .ref b :: st) h r ↔ Evr true (decide (mn_cats st ≤ 8) && mn_isc h b 5) 57 58 ls st h.2.2.1 h.2.2.2 (Cl 44 (.ref b :: [.long u0]) h.1 h.2.1) r := Ev_V (As := [.long u0]) iX6_join_58 (by decide +kernel) (x := mnI_X6_join) (x2 := mnI_X5_appendPrint) rfl rfl rfl (by decide +kernel) (Nat.le_of_ble_eq_true rfl) rfl
theorem iX6_join_61 : mn_ins 57 61 = some (6, false, .iinc 4 1, 3) := by decide +kernel
theorem eX6_join_61 : Ev 57 61 (a0 :: a1 :: a2 :: a3 :: some (.int x) :: ls) (st) h r ↔ Ev 57 64 (a0 :: a1 :: a2 :: mn_k a3 :: some (.int (x + (nI 1))) :: ls) (st) h r := ev_iinc iX6_join_61 rfl (by decide)
theorem iX6_join_64 : mn_ins 57 64 = some (6, false, .goto (-23), 3) := by decide +kernel
theorem eX6_join_64 : Ev 57 64 (ls) (st) h r ↔ Ev 57 41 (ls) (st) h r := ev_goto iX6_join_64 (by decide)
theorem iX6_join_67 : mn_ins 57 67 = some (6, false, .aload_n 3, 1) := by decide +kernel
theorem eX6_join_67 : Ev 57 67 (a0 :: a1 :: a2 :: some (.ref a) :: ls) (st) h r ↔ Ev 57 68 (a0 :: a1 :: a2 :: some (.ref a) :: ls) (.ref a :: st) h r := ev_aload_n iX6_join_67 rfl rfl
theorem eX6_join_67n : Ev 57 67 (a0 :: a1 :: a2 :: some (.null) :: ls) (st) h r ↔ Ev 57 68 (a0 :: a1 :: a2 :: some (.null) :: ls) (.null :: st) h r := ev_aload_n iX6_join_67 rfl rfl
theorem eX6_join_67t : Ev 57 67 (a0 :: a1 :: a2 :: some (tkv o1) :: ls) (st) h r ↔ Ev 57 68 (a0 :: a1 :: a2 :: some (tkv o1) :: ls) (tkv o1 :: st) h r := ev_aload_n iX6_join_67 rfl tkv_r
theorem eX6_join_67s : Ev 57 67 (a0 :: a1 :: a2 :: some (sgv o1) :: ls) (st) h r ↔ Ev 57 68 (a0 :: a1 :: a2 :: some (sgv o1) :: ls) (sgv o1 :: st) h r := ev_aload_n iX6_join_67 rfl sgv_r
theorem eX6_join_67c : Ev 57 67 (a0 :: a1 :: a2 :: some (cdv o1) :: ls) (st) h r ↔ Ev 57 68 (a0 :: a1 :: a2 :: some (cdv o1) :: ls) (cdv o1 :: st) h r := ev_aload_n iX6_join_67 rfl cdv_r
theorem iX6_join_68 : mn_ins 57 68 = some (6, false, .iconst 3, 1) := by decide +kernel
theorem eX6_join_68 : Ev 57 68 (ls) (st) h r ↔ Ev 57 69 (ls) (.int (nI 3) :: st) h r := ev_iconst iX6_join_68 (by decide)
theorem iX6_join_69 : mn_ins 57 69 = some (6, false, .putfield 49, 3) := by decide +kernel
theorem eX6_join_69 : Ev 57 69 (ls) (w :: .ref a :: st) h r ↔ Evh 57 72 ls st (mn_pf h a 5 4 w) r := ev_putf iX6_join_69 (by decide +kernel) (by decide +kernel)
theorem iX6_join_72 : mn_ins 57 72 = some (6, false, .aload_n 3, 1) := by decide +kernel
theorem eX6_join_72 : Ev 57 72 (a0 :: a1 :: a2 :: some (.ref a) :: ls) (st) h r ↔ Ev 57 73 (a0 :: a1 :: a2 :: some (.ref a) :: ls) (.ref a :: st) h r := ev_aload_n iX6_join_72 rfl rfl
theorem eX6_join_72n : Ev 57 72 (a0 :: a1 :: a2 :: some (.null) :: ls) (st) h r ↔ Ev 57 73 (a0 :: a1 :: a2 :: some (.null) :: ls) (.null :: st) h r := ev_aload_n iX6_join_72 rfl rfl
theorem eX6_join_72t : Ev 57 72 (a0 :: a1 :: a2 :: some (tkv o1) :: ls) (st) h r ↔ Ev 57 73 (a0 :: a1 :: a2 :: some (tkv o1) :: ls) (tkv o1 :: st) h r := ev_aload_n iX6_join_72 rfl tkv_r
theorem eX6_join_72s : Ev 57 72 (a0 :: a1 :: a2 :: some (sgv o1) :: ls) (st) h r ↔ Ev 57 73 (a0 :: a1 :: a2 :: some (sgv o1) :: ls) (sgv o1 :: st) h r := ev_aload_n iX6_join_72 rfl sgv_r
theorem eX6_join_72c : Ev 57 72 (a0 :: a1 :: a2 :: some (cdv o1) :: ls) (st) h r ↔ Ev 57 73 (a0 :: a1 :: a2 :: some (cdv o1) :: ls) (cdv o1 :: st) h r := ev_aload_n iX6_join_72 rfl cdv_r
theorem iX6_join_73 : mn_ins 57 73 = some (6, false, .aload_n 1, 1) := by decide +kernel
theorem eX6_join_73 : Ev 57 73 (a0 :: some (.ref a) :: ls) (st) h r ↔ Ev 57 74 (a0 :: some (.ref a) :: ls) (.ref a :: st) h r := ev_aload_n iX6_join_73 rfl rfl
theorem eX6_join_73n : Ev 57 73 (a0 :: some (.null) :: ls) (st) h r ↔ Ev 57 74 (a0 :: some (.null) :: ls) (.null :: st) h r := ev_aload_n iX6_join_73 rfl rfl
theorem eX6_join_73t : Ev 57 73 (a0 :: some (tkv o1) :: ls) (st) h r ↔ Ev 57 74 (a0 :: some (tkv o1) :: ls) (tkv o1 :: st) h r := ev_aload_n iX6_join_73 rfl tkv_r
theorem eX6_join_73s : Ev 57 73 (a0 :: some (sgv o1) :: ls) (st) h r ↔ Ev 57 74 (a0 :: some (sgv o1) :: ls) (sgv o1 :: st) h r := ev_aload_n iX6_join_73 rfl sgv_r
theorem eX6_join_73c : Ev 57 73 (a0 :: some (cdv o1) :: ls) (st) h r ↔ Ev 57 74 (a0 :: some (cdv o1) :: ls) (cdv o1 :: st) h r := ev_aload_n iX6_join_73 rfl cdv_r
theorem iX6_join_74 : mn_ins 57 74 = some (6, false, .putfield 174, 3) := by decide +kernel
theorem eX6_join_74 : Ev 57 74 (ls) (w :: .ref a :: st) h r ↔ Evh 57 77 ls st (mn_pf h a 5 9 w) r := ev_putf iX6_join_74 (by decide +kernel) (by decide +kernel)
theorem iX6_join_77 : mn_ins 57 77 = some (6, false, .aload_n 1, 1) := by decide +kernel
theorem eX6_join_77 : Ev 57 77 (a0 :: some (.ref a) :: ls) (st) h r ↔ Ev 57 78 (a0 :: some (.ref a) :: ls) (.ref a :: st) h r := ev_aload_n iX6_join_77 rfl rfl
theorem eX6_join_77n : Ev 57 77 (a0 :: some (.null) :: ls) (st) h r ↔ Ev 57 78 (a0 :: some (.null) :: ls) (.null :: st) h r := ev_aload_n iX6_join_77 rfl rfl
theorem eX6_join_77t : Ev 57 77 (a0 :: some (tkv o1) :: ls) (st) h r ↔ Ev 57 78 (a0 :: some (tkv o1) :: ls) (tkv o1 :: st) h r := ev_aload_n iX6_join_77 rfl tkv_r
theorem eX6_join_77s : Ev 57 77 (a0 :: some (sgv o1) :: ls) (st) h r ↔ Ev 57 78 (a0 :: some (sgv o1) :: ls) (sgv o1 :: st) h r := ev_aload_n iX6_join_77 rfl sgv_r
theorem eX6_join_77c : Ev 57 77 (a0 :: some (cdv o1) :: ls) (st) h r ↔ Ev 57 78 (a0 :: some (cdv o1) :: ls) (cdv o1 :: st) h r := ev_aload_n iX6_join_77 rfl cdv_r
theorem iX6_join_78 : mn_ins 57 78 = some (6, false, .getfield 72, 3) := by decide +kernel
theorem eX6_join_78 : Ev 57 78 (ls) (.ref a :: st) h r ↔ Evk 57 81 ls (mn_gf h a 5 1) st h r := ev_getf iX6_join_78 (by decide +kernel)
theorem iX6_join_81 : mn_ins 57 81 = some (6, false, .invokevirtual 121, 3) := by decide +kernel
theorem eX6_join_81 : Ev 57 81 (ls) (.ref b :: st) h r ↔ Evr true (decide (mn_cats st ≤ 8) && mn_isc h b 2) 57 81 ls st h.2.2.1 h.2.2.2 (Cl 17 (.ref b :: []) h.1 h.2.1) r := Ev_V (As := []) iX6_join_81 (by decide +kernel) (x := mnI_X6_join) (x2 := mnI_X2_pop) rfl rfl rfl (by decide +kernel) (Nat.le_of_ble_eq_true rfl) rfl
theorem iX6_join_84 : mn_ins 57 84 = some (6, false, .pop2, 1) := by decide +kernel
theorem eX6_join_84 : Ev 57 84 (ls) (.long u :: st) h r ↔ Ev 57 85 (ls) (st) h r := ev_pop2 iX6_join_84
theorem iX6_join_85 : mn_ins 57 85 = some (6, false, .aload_n 1, 1) := by decide +kernel
theorem eX6_join_85 : Ev 57 85 (a0 :: some (.ref a) :: ls) (st) h r ↔ Ev 57 86 (a0 :: some (.ref a) :: ls) (.ref a :: st) h r := ev_aload_n iX6_join_85 rfl rfl
theorem eX6_join_85n : Ev 57 85 (a0 :: some (.null) :: ls) (st) h r ↔ Ev 57 86 (a0 :: some (.null) :: ls) (.null :: st) h r := ev_aload_n iX6_join_85 rfl rfl
theorem eX6_join_85t : Ev 57 85 (a0 :: some (tkv o1) :: ls) (st) h r ↔ Ev 57 86 (a0 :: some (tkv o1) :: ls) (tkv o1 :: st) h r := ev_aload_n iX6_join_85 rfl tkv_r
theorem eX6_join_85s : Ev 57 85 (a0 :: some (sgv o1) :: ls) (st) h r ↔ Ev 57 86 (a0 :: some (sgv o1) :: ls) (sgv o1 :: st) h r := ev_aload_n iX6_join_85 rfl sgv_r
theorem eX6_join_85c : Ev 57 85 (a0 :: some (cdv o1) :: ls) (st) h r ↔ Ev 57 86 (a0 :: some (cdv o1) :: ls) (cdv o1 :: st) h r := ev_aload_n iX6_join_85 rfl cdv_r
theorem iX6_join_86 : mn_ins 57 86 = some (6, false, .getfield 72, 3) := by decide +kernel
theorem eX6_join_86 : Ev 57 86 (ls) (.ref a :: st) h r ↔ Evk 57 89 ls (mn_gf h a 5 1) st h r := ev_getf iX6_join_86 (by decide +kernel)
theorem iX6_join_89 : mn_ins 57 89 = some (6, false, .aload_n 3, 1) := by decide +kernel
theorem eX6_join_89 : Ev 57 89 (a0 :: a1 :: a2 :: some (.ref a) :: ls) (st) h r ↔ Ev 57 90 (a0 :: a1 :: a2 :: some (.ref a) :: ls) (.ref a :: st) h r := ev_aload_n iX6_join_89 rfl rfl
theorem eX6_join_89n : Ev 57 89 (a0 :: a1 :: a2 :: some (.null) :: ls) (st) h r ↔ Ev 57 90 (a0 :: a1 :: a2 :: some (.null) :: ls) (.null :: st) h r := ev_aload_n iX6_join_89 rfl rfl
theorem eX6_join_89t : Ev 57 89 (a0 :: a1 :: a2 :: some (tkv o1) :: ls) (st) h r ↔ Ev 57 90 (a0 :: a1 :: a2 :: some (tkv o1) :: ls) (tkv o1 :: st) h r := ev_aload_n iX6_join_89 rfl tkv_r
theorem eX6_join_89s : Ev 57 89 (a0 :: a1 :: a2 :: some (sgv o1) :: ls) (st) h r ↔ Ev 57 90 (a0 :: a1 :: a2 :: some (sgv o1) :: ls) (sgv o1 :: st) h r := ev_aload_n iX6_join_89 rfl sgv_r
theorem eX6_join_89c : Ev 57 89 (a0 :: a1 :: a2 :: some (cdv o1) :: ls) (st) h r ↔ Ev 57 90 (a0 :: a1 :: a2 :: some (cdv o1) :: ls) (cdv o1 :: st) h r := ev_aload_n iX6_join_89 rfl cdv_r
theorem iX6_join_90 : mn_ins 57 90 = some (6, false, .getfield 139, 3) := by decide +kernel
theorem eX6_join_90 : Ev 57 90 (ls) (.ref a :: st) h r ↔ Evk 57 93 ls (mn_gf h a 5 7) st h r := ev_getf iX6_join_90 (by decide +kernel)
theorem iX6_join_93 : mn_ins 57 93 = some (6, false, .invokevirtual 114, 3) := by decide +kernel
theorem eX6_join_93 : Ev 57 93 (ls) (.long u0 :: .ref b :: st) h r ↔ Evr true (decide (mn_cats st ≤ 8) && mn_isc h b 2) 57 93 ls st h.2.2.1 h.2.2.2 (Cl 16 (.ref b :: [.long u0]) h.1 h.2.1) r := Ev_V (As := [.long u0]) iX6_join_93 (by decide +kernel) (x := mnI_X6_join) (x2 := mnI_X2_push) rfl rfl rfl (by decide +kernel) (Nat.le_of_ble_eq_true rfl) rfl
theorem iX6_join_96 : mn_ins 57 96 = some (6, false, .aload_n 1, 1) := by decide +kernel
theorem eX6_join_96 : Ev 57 96 (a0 :: some (.ref a) :: ls) (st) h r ↔ Ev 57 97 (a0 :: some (.ref a) :: ls) (.ref a :: st) h r := ev_aload_n iX6_join_96 rfl rfl
theorem eX6_join_96n : Ev 57 96 (a0 :: some (.null) :: ls) (st) h r ↔ Ev 57 97 (a0 :: some (.null) :: ls) (.null :: st) h r := ev_aload_n iX6_join_96 rfl rfl
theorem eX6_join_96t : Ev 57 96 (a0 :: some (tkv o1) :: ls) (st) h r ↔ Ev 57 97 (a0 :: some (tkv o1) :: ls) (tkv o1 :: st) h r := ev_aload_n iX6_join_96 rfl tkv_r
theorem eX6_join_96s : Ev 57 96 (a0 :: some (sgv o1) :: ls) (st) h r ↔ Ev 57 97 (a0 :: some (sgv o1) :: ls) (sgv o1 :: st) h r := ev_aload_n iX6_join_96 rfl sgv_r
theorem eX6_join_96c : Ev 57 96 (a0 :: some (cdv o1) :: ls) (st) h r ↔ Ev 57 97 (a0 :: some (cdv o1) :: ls) (cdv o1 :: st) h r := ev_aload_n iX6_join_96 rfl cdv_r
theorem iX6_join_97 : mn_ins 57 97 = some (6, false, .getfield 72, 3) := by decide +kernel
theorem eX6_join_97 : Ev 57 97 (ls) (.ref a :: st) h r ↔ Evk 57 100 ls (mn_gf h a 5 1) st h r := ev_getf iX6_join_97 (by decide +kernel)
theorem iX6_join_100 : mn_ins 57 100 = some (6, false, .invokevirtual 118, 3) := by decide +kernel
theorem eX6_join_100 : Ev 57 100 (ls) (.ref b :: st) h r ↔ Evr true (decide (mn_cats st ≤ 8) && mn_isc h b 2) 57 100 ls st h.2.2.1 h.2.2.2 (Cl 15 (.ref b :: []) h.1 h.2.1) r := Ev_V (As := []) iX6_join_100 (by decide +kernel) (x := mnI_X6_join) (x2 := mnI_X2_moveOn) rfl rfl rfl (by decide +kernel) (Nat.le_of_ble_eq_true rfl) rfl
theorem iX6_join_103 : mn_ins 57 103 = some (6, false, .aload_n 0, 1) := by decide +kernel
theorem eX6_join_103 : Ev 57 103 (some (.ref a) :: ls) (st) h r ↔ Ev 57 104 (some (.ref a) :: ls) (.ref a :: st) h r := ev_aload_n iX6_join_103 rfl rfl
theorem iX6_join_104 : mn_ins 57 104 = some (6, false, .invokevirtual 156, 3) := by decide +kernel
theorem eX6_join_104 : Ev 57 104 (ls) (.ref b :: st) h r ↔ Evr true (decide (mn_cats st ≤ 8) && mn_isc h b 6) 57 104 ls st h.2.2.1 h.2.2.2 (Cl 63 (.ref b :: []) h.1 h.2.1) r := Ev_V (As := []) iX6_join_104 (by decide +kernel) (x := mnI_X6_join) (x2 := mnI_X6_layTogether) rfl rfl rfl (by decide +kernel) (Nat.le_of_ble_eq_true rfl) rfl
theorem iX6_join_107 : mn_ins 57 107 = some (6, false, .return_, 1) := by decide +kernel
theorem eX6_join_107 : Ev 57 107 (ls) [] h r ↔ r = (h, .inl none) := ev_vret iX6_join_107 (X := mnI_X6_join) rfl rfl
theorem iX6_joinHindrance_0 : mn_ins 58 0 = some (6, false, .aload_n 0, 1) := by decide +kernel
theorem eX6_joinHindrance_0 : Ev 58 0 (some (.ref a) :: ls) (st) h r ↔ Ev 58 1 (some (.ref a) :: ls) (.ref a :: st) h r := ev_aload_n iX6_joinHindrance_0 rfl rfl
theorem iX6_joinHindrance_1 : mn_ins 58 1 = some (6, false, .aload_n 1, 1) := by decide +kernel
theorem eX6_joinHindrance_1 : Ev 58 1 (a0 :: some (.ref a) :: ls) (st) h r ↔ Ev 58 2 (a0 :: some (.ref a) :: ls) (.ref a :: st) h r := ev_aload_n iX6_joinHindrance_1 rfl rfl
theorem eX6_joinHindrance_1n : Ev 58 1 (a0 :: some (.null) :: ls) (st) h r ↔ Ev 58 2 (a0 :: some (.null) :: ls) (.null :: st) h r := ev_aload_n iX6_joinHindrance_1 rfl rfl
theorem eX6_joinHindrance_1t : Ev 58 1 (a0 :: some (tkv o1) :: ls) (st) h r ↔ Ev 58 2 (a0 :: some (tkv o1) :: ls) (tkv o1 :: st) h r := ev_aload_n iX6_joinHindrance_1 rfl tkv_r
theorem eX6_joinHindrance_1s : Ev 58 1 (a0 :: some (sgv o1) :: ls) (st) h r ↔ Ev 58 2 (a0 :: some (sgv o1) :: ls) (sgv o1 :: st) h r := ev_aload_n iX6_joinHindrance_1 rfl sgv_r
theorem eX6_joinHindrance_1c : Ev 58 1 (a0 :: some (cdv o1) :: ls) (st) h r ↔ Ev 58 2 (a0 :: some (cdv o1) :: ls) (cdv o1 :: st) h r := ev_aload_n iX6_joinHindrance_1 rfl cdv_r
theorem iX6_joinHindrance_2 : mn_ins 58 2 = some (6, false, .invokevirtual 159, 3) := by decide +kernel
theorem EgX6_joinHindrance_2 (hw3 : (mn_r w3).isSome = true) : Ev 58 2 (ls) (w3 :: .ref b :: st) h r ↔ Evr true (decide (mn_cats st ≤ 8) && mn_isc h b 6) 58 2 ls st h.2.2.1 h.2.2.2 (Cl 59 (.ref b :: [w3]) h.1 h.2.1) r := Ev_V (As := [w3]) iX6_joinHindrance_2 (by decide +kernel) (x := mnI_X6_joinHindrance) (x2 := mnI_X6_taskToJoin) rfl rfl rfl (by decide +kernel) (by rcases mn_r_is hw3 with ⟨_, rfl⟩ | rfl <;> exact Nat.le_of_ble_eq_true rfl) rfl
theorem eX6_joinHindrance_2 {cw3 : Nat} : Ev 58 2 (ls) ((.ref cw3) :: .ref b :: st) h r ↔ Evr true (decide (mn_cats st ≤ 8) && mn_isc h b 6) 58 2 ls st h.2.2.1 h.2.2.2 (Cl 59 (.ref b :: [(.ref cw3)]) h.1 h.2.1) r := EgX6_joinHindrance_2 rfl
theorem iX6_joinHindrance_5 : mn_ins 58 5 = some (6, false, .astore_n 2, 1) := by decide +kernel
theorem eX6_joinHindrance_5 : Ev 58 5 (a0 :: a1 :: a2 :: ls) (.ref a :: st) h r ↔ Ev 58 6 (a0 :: mn_k a1 :: some (.ref a) :: ls) (st) h r := ev_astore_n iX6_joinHindrance_5 (by show 2 < _; simp only [List.length_cons]; omega) rfl
theorem eX6_joinHindrance_5n : Ev 58 5 (a0 :: a1 :: a2 :: ls) (.null :: st) h r ↔ Ev 58 6 (a0 :: mn_k a1 :: some (.null) :: ls) (st) h r := ev_astore_n iX6_joinHindrance_5 (by show 2 < _; simp only [List.length_cons]; omega) rfl
theorem eX6_joinHindrance_5t : Ev 58 5 (a0 :: a1 :: a2 :: ls) (tkv o1 :: st) h r ↔ Ev 58 6 (a0 :: mn_k a1 :: some (tkv o1) :: ls) (st) h r := ev_astore_n iX6_joinHindrance_5 (by show 2 < _; simp only [List.length_cons]; omega) tkv_r
theorem eX6_joinHindrance_5s : Ev 58 5 (a0 :: a1 :: a2 :: ls) (sgv o1 :: st) h r ↔ Ev 58 6 (a0 :: mn_k a1 :: some (sgv o1) :: ls) (st) h r := ev_astore_n iX6_joinHindrance_5 (by show 2 < _; simp only [List.length_cons]; omega) sgv_r
theorem eX6_joinHindrance_5c : Ev 58 5 (a0 :: a1 :: a2 :: ls) (cdv o1 :: st) h r ↔ Ev 58 6 (a0 :: mn_k a1 :: some (cdv o1) :: ls) (st) h r := ev_astore_n iX6_joinHindrance_5 (by show 2 < _; simp only [List.length_cons]; omega) cdv_r
theorem iX6_joinHindrance_6 : mn_ins 58 6 = some (6, false, .aload_n 2, 1) := by decide +kernel
theorem eX6_joinHindrance_6 : Ev 58 6 (a0 :: a1 :: some (.ref a) :: ls) (st) h r ↔ Ev 58 7 (a0 :: a1 :: some (.ref a) :: ls) (.ref a :: st) h r := ev_aload_n iX6_joinHindrance_6 rfl rfl
theorem eX6_joinHindrance_6n : Ev 58 6 (a0 :: a1 :: some (.null) :: ls) (st) h r ↔ Ev 58 7 (a0 :: a1 :: some (.null) :: ls) (.null :: st) h r := ev_aload_n iX6_joinHindrance_6 rfl rfl
theorem eX6_joinHindrance_6t : Ev 58 6 (a0 :: a1 :: some (tkv o1) :: ls) (st) h r ↔ Ev 58 7 (a0 :: a1 :: some (tkv o1) :: ls) (tkv o1 :: st) h r := ev_aload_n iX6_joinHindrance_6 rfl tkv_r
theorem eX6_joinHindrance_6s : Ev 58 6 (a0 :: a1 :: some (sgv o1) :: ls) (st) h r ↔ Ev 58 7 (a0 :: a1 :: some (sgv o1) :: ls) (sgv o1 :: st) h r := ev_aload_n iX6_joinHindrance_6 rfl sgv_r
theorem eX6_joinHindrance_6c : Ev 58 6 (a0 :: a1 :: some (cdv o1) :: ls) (st) h r ↔ Ev 58 7 (a0 :: a1 :: some (cdv o1) :: ls) (cdv o1 :: st) h r := ev_aload_n iX6_joinHindrance_6 rfl cdv_r
theorem iX6_joinHindrance_7 : mn_ins 58 7 = some (6, false, .ifnonnull 5, 3) := by decide +kernel
theorem eX6_joinHindrance_7 : Ev 58 7 (ls) (va_rf o1 :: st) h r ↔ if o1 = none then Ev 58 10 (ls) (st) h r else Ev 58 12 (ls) (st) h r := ev_ifnonnull iX6_joinHindrance_7 (by decide) (mr_rf _)
theorem eX6_joinHindrance_7r : Ev 58 7 (ls) (.ref a :: st) h r ↔ Ev 58 12 (ls) (st) h r := (ev_ifnonnull (t := 12) (w := .ref a) (x := some a) iX6_joinHindrance_7 (by decide) rfl).trans (by rw [if_neg (by simp)])
theorem eX6_joinHindrance_7n : Ev 58 7 (ls) (.null :: st) h r ↔ Ev 58 10 (ls) (st) h r := (ev_ifnonnull (t := 12) (w := .null) (x := none) iX6_joinHindrance_7 (by decide) rfl).trans (by rw [if_pos rfl])
theorem iX6_joinHindrance_10 : mn_ins 58 10 = some (6, false, .iconst 1, 1) := by decide +kernel
theorem eX6_joinHindrance_10 : Ev 58 10 (ls) (st) h r ↔ Ev 58 11 (ls) (.int (nI 1) :: st) h r := ev_iconst iX6_joinHindrance_10 (by decide)
theorem iX6_joinHindrance_11 : mn_ins 58 11 = some (6, false, .ireturn, 1) := by decide +kernel
theorem eX6_joinHindrance_11 : Ev 58 11 (ls) [.int x] h r ↔ r = (h, .inl (some (.int x))) := ev_iret iX6_joinHindrance_11 (X := mnI_X6_joinHindrance) rfl rfl
theorem iX6_joinHindrance_12 : mn_ins 58 12 = some (6, false, .aload_n 2, 1) := by decide +kernel
theorem eX6_joinHindrance_12 : Ev 58 12 (a0 :: a1 :: some (.ref a) :: ls) (st) h r ↔ Ev 58 13 (a0 :: a1 :: some (.ref a) :: ls) (.ref a :: st) h r := ev_aload_n iX6_joinHindrance_12 rfl rfl
theorem eX6_joinHindrance_12n : Ev 58 12 (a0 :: a1 :: some (.null) :: ls) (st) h r ↔ Ev 58 13 (a0 :: a1 :: some (.null) :: ls) (.null :: st) h r := ev_aload_n iX6_joinHindrance_12 rfl rfl
theorem eX6_joinHindrance_12t : Ev 58 12 (a0 :: a1 :: some (tkv o1) :: ls) (st) h r ↔ Ev 58 13 (a0 :: a1 :: some (tkv o1) :: ls) (tkv o1 :: st) h r := ev_aload_n iX6_joinHindrance_12 rfl tkv_r
theorem eX6_joinHindrance_12s : Ev 58 12 (a0 :: a1 :: some (sgv o1) :: ls) (st) h r ↔ Ev 58 13 (a0 :: a1 :: some (sgv o1) :: ls) (sgv o1 :: st) h r := ev_aload_n iX6_joinHindrance_12 rfl sgv_r
theorem eX6_joinHindrance_12c : Ev 58 12 (a0 :: a1 :: some (cdv o1) :: ls) (st) h r ↔ Ev 58 13 (a0 :: a1 :: some (cdv o1) :: ls) (cdv o1 :: st) h r := ev_aload_n iX6_joinHindrance_12 rfl cdv_r
theorem iX6_joinHindrance_13 : mn_ins 58 13 = some (6, false, .getfield 49, 3) := by decide +kernel
theorem eX6_joinHindrance_13 : Ev 58 13 (ls) (.ref a :: st) h r ↔ Evk 58 16 ls (mn_gf h a 5 4) st h r := ev_getf iX6_joinHindrance_13 (by decide +kernel)
theorem iX6_joinHindrance_16 : mn_ins 58 16 = some (6, false, .tableswitch 41 0 3 #[34, 41, 36, 32], 32) := by decide +kernel
theorem eX6_joinHindrance_16_c0 : Ev 58 16 (ls) (.int (nI 0) :: st) h r ↔ Ev 58 50 (ls) (st) h r := ev_tsIn iX6_joinHindrance_16 (by decide) (off := 34) (by decide) (by decide)
theorem eX6_joinHindrance_16_c1 : Ev 58 16 (ls) (.int (nI 1) :: st) h r ↔ Ev 58 57 (ls) (st) h r := ev_tsIn iX6_joinHindrance_16 (by decide) (off := 41) (by decide) (by decide)
theorem eX6_joinHindrance_16_c2 : Ev 58 16 (ls) (.int (nI 2) :: st) h r ↔ Ev 58 52 (ls) (st) h r := ev_tsIn iX6_joinHindrance_16 (by decide) (off := 36) (by decide) (by decide)
theorem eX6_joinHindrance_16_c3 : Ev 58 16 (ls) (.int (nI 3) :: st) h r ↔ Ev 58 48 (ls) (st) h r := ev_tsIn iX6_joinHindrance_16 (by decide) (off := 32) (by decide) (by decide)
theorem eX6_joinHindrance_16_c4 : Ev 58 16 (ls) (.int (nI 4) :: st) h r ↔ Ev 58 57 (ls) (st) h r := ev_tsOut iX6_joinHindrance_16 (by decide) (by decide)
theorem eX6_joinHindrance_16_c5 : Ev 58 16 (ls) (.int (nI 5) :: st) h r ↔ Ev 58 57 (ls) (st) h r := ev_tsOut iX6_joinHindrance_16 (by decide) (by decide)
theorem eX6_joinHindrance_16_c6 : Ev 58 16 (ls) (.int (nI 6) :: st) h r ↔ Ev 58 57 (ls) (st) h r := ev_tsOut iX6_joinHindrance_16 (by decide) (by decide)
theorem eX6_joinHindrance_16_c7 : Ev 58 16 (ls) (.int (nI 7) :: st) h r ↔ Ev 58 57 (ls) (st) h r := ev_tsOut iX6_joinHindrance_16 (by decide) (by decide)
theorem eX6_joinHindrance_16_c8 : Ev 58 16 (ls) (.int (nI 8) :: st) h r ↔ Ev 58 57 (ls) (st) h r := ev_tsOut iX6_joinHindrance_16 (by decide) (by decide)
theorem eX6_joinHindrance_16_c9 : Ev 58 16 (ls) (.int (nI 9) :: st) h r ↔ Ev 58 57 (ls) (st) h r := ev_tsOut iX6_joinHindrance_16 (by decide) (by decide)
theorem eX6_joinHindrance_16_c10 : Ev 58 16 (ls) (.int (nI 10) :: st) h r ↔ Ev 58 57 (ls) (st) h r := ev_tsOut iX6_joinHindrance_16 (by decide) (by decide)
theorem eX6_joinHindrance_16_c11 : Ev 58 16 (ls) (.int (nI 11) :: st) h r ↔ Ev 58 57 (ls) (st) h r := ev_tsOut iX6_joinHindrance_16 (by decide) (by decide)
theorem eX6_joinHindrance_16_c12 : Ev 58 16 (ls) (.int (nI 12) :: st) h r ↔ Ev 58 57 (ls) (st) h r := ev_tsOut iX6_joinHindrance_16 (by decide) (by decide)
theorem eX6_joinHindrance_16_c13 : Ev 58 16 (ls) (.int (nI 13) :: st) h r ↔ Ev 58 57 (ls) (st) h r := ev_tsOut iX6_joinHindrance_16 (by decide) (by decide)
theorem eX6_joinHindrance_16_c14 : Ev 58 16 (ls) (.int (nI 14) :: st) h r ↔ Ev 58 57 (ls) (st) h r := ev_tsOut iX6_joinHindrance_16 (by decide) (by decide)
theorem eX6_joinHindrance_16_c15 : Ev 58 16 (ls) (.int (nI 15) :: st) h r ↔ Ev 58 57 (ls) (st) h r := ev_tsOut iX6_joinHindrance_16 (by decide) (by decide)
theorem eX6_joinHindrance_16_c16 : Ev 58 16 (ls) (.int (nI 16) :: st) h r ↔ Ev 58 57 (ls) (st) h r := ev_tsOut iX6_joinHindrance_16 (by decide) (by decide)
theorem eX6_joinHindrance_16_c17 : Ev 58 16 (ls) (.int (nI 17) :: st) h r ↔ Ev 58 57 (ls) (st) h r := ev_tsOut iX6_joinHindrance_16 (by decide) (by decide)
theorem eX6_joinHindrance_16_c18 : Ev 58 16 (ls) (.int (nI 18) :: st) h r ↔ Ev 58 57 (ls) (st) h r := ev_tsOut iX6_joinHindrance_16 (by decide) (by decide)
theorem eX6_joinHindrance_16_c19 : Ev 58 16 (ls) (.int (nI 19) :: st) h r ↔ Ev 58 57 (ls) (st) h r := ev_tsOut iX6_joinHindrance_16 (by decide) (by decide)
theorem eX6_joinHindrance_16_d (hx : x.toInt < 0 ∨ 3 < x.toInt) : Ev 58 16 (ls) (.int x :: st) h r ↔ Ev 58 57 (ls) (st) h r := ev_tsOut iX6_joinHindrance_16 hx (by decide)
theorem iX6_joinHindrance_48 : mn_ins 58 48 = some (6, false, .iconst 2, 1) := by decide +kernel
theorem eX6_joinHindrance_48 : Ev 58 48 (ls) (st) h r ↔ Ev 58 49 (ls) (.int (nI 2) :: st) h r := ev_iconst iX6_joinHindrance_48 (by decide)
theorem iX6_joinHindrance_49 : mn_ins 58 49 = some (6, false, .ireturn, 1) := by decide +kernel
theorem eX6_joinHindrance_49 : Ev 58 49 (ls) [.int x] h r ↔ r = (h, .inl (some (.int x))) := ev_iret iX6_joinHindrance_49 (X := mnI_X6_joinHindrance) rfl rfl
theorem iX6_joinHindrance_50 : mn_ins 58 50 = some (6, false, .iconst (-1), 1) := by decide +kernel
theorem eX6_joinHindrance_50 : Ev 58 50 (ls) (st) h r ↔ Ev 58 51 (ls) (.int (-1) :: st) h r := ev_iconst iX6_joinHindrance_50 (by decide)
theorem iX6_joinHindrance_51 : mn_ins 58 51 = some (6, false, .ireturn, 1) := by decide +kernel
theorem eX6_joinHindrance_51 : Ev 58 51 (ls) [.int x] h r ↔ r = (h, .inl (some (.int x))) := ev_iret iX6_joinHindrance_51 (X := mnI_X6_joinHindrance) rfl rfl
theorem iX6_joinHindrance_52 : mn_ins 58 52 = some (6, false, .aload_n 2, 1) := by decide +kernel
theorem eX6_joinHindrance_52 : Ev 58 52 (a0 :: a1 :: some (.ref a) :: ls) (st) h r ↔ Ev 58 53 (a0 :: a1 :: some (.ref a) :: ls) (.ref a :: st) h r := ev_aload_n iX6_joinHindrance_52 rfl rfl
theorem eX6_joinHindrance_52n : Ev 58 52 (a0 :: a1 :: some (.null) :: ls) (st) h r ↔ Ev 58 53 (a0 :: a1 :: some (.null) :: ls) (.null :: st) h r := ev_aload_n iX6_joinHindrance_52 rfl rfl
theorem eX6_joinHindrance_52t : Ev 58 52 (a0 :: a1 :: some (tkv o1) :: ls) (st) h r ↔ Ev 58 53 (a0 :: a1 :: some (tkv o1) :: ls) (tkv o1 :: st) h r := ev_aload_n iX6_joinHindrance_52 rfl tkv_r
theorem eX6_joinHindrance_52s : Ev 58 52 (a0 :: a1 :: some (sgv o1) :: ls) (st) h r ↔ Ev 58 53 (a0 :: a1 :: some (sgv o1) :: ls) (sgv o1 :: st) h r := ev_aload_n iX6_joinHindrance_52 rfl sgv_r
theorem eX6_joinHindrance_52c : Ev 58 52 (a0 :: a1 :: some (cdv o1) :: ls) (st) h r ↔ Ev 58 53 (a0 :: a1 :: some (cdv o1) :: ls) (cdv o1 :: st) h r := ev_aload_n iX6_joinHindrance_52 rfl cdv_r
theorem iX6_joinHindrance_53 : mn_ins 58 53 = some (6, false, .getfield 178, 3) := by decide +kernel
theorem eX6_joinHindrance_53 : Ev 58 53 (ls) (.ref a :: st) h r ↔ Evk 58 56 ls (mn_gf h a 5 5) st h r := ev_getf iX6_joinHindrance_53 (by decide +kernel)
theorem iX6_joinHindrance_56 : mn_ins 58 56 = some (6, false, .ireturn, 1) := by decide +kernel
theorem eX6_joinHindrance_56 : Ev 58 56 (ls) [.int x] h r ↔ r = (h, .inl (some (.int x))) := ev_iret iX6_joinHindrance_56 (X := mnI_X6_joinHindrance) rfl rfl
theorem iX6_joinHindrance_57 : mn_ins 58 57 = some (6, false, .aload_n 1, 1) := by decide +kernel
theorem eX6_joinHindrance_57 : Ev 58 57 (a0 :: some (.ref a) :: ls) (st) h r ↔ Ev 58 58 (a0 :: some (.ref a) :: ls) (.ref a :: st) h r := ev_aload_n iX6_joinHindrance_57 rfl rfl
theorem eX6_joinHindrance_57n : Ev 58 57 (a0 :: some (.null) :: ls) (st) h r ↔ Ev 58 58 (a0 :: some (.null) :: ls) (.null :: st) h r := ev_aload_n iX6_joinHindrance_57 rfl rfl
theorem eX6_joinHindrance_57t : Ev 58 57 (a0 :: some (tkv o1) :: ls) (st) h r ↔ Ev 58 58 (a0 :: some (tkv o1) :: ls) (tkv o1 :: st) h r := ev_aload_n iX6_joinHindrance_57 rfl tkv_r
theorem eX6_joinHindrance_57s : Ev 58 57 (a0 :: some (sgv o1) :: ls) (st) h r ↔ Ev 58 58 (a0 :: some (sgv o1) :: ls) (sgv o1 :: st) h r := ev_aload_n iX6_joinHindrance_57 rfl sgv_r
theorem eX6_joinHindrance_57c : Ev 58 57 (a0 :: some (cdv o1) :: ls) (st) h r ↔ Ev 58 58 (a0 :: some (cdv o1) :: ls) (cdv o1 :: st) h r := ev_aload_n iX6_joinHindrance_57 rfl cdv_r
theorem iX6_joinHindrance_58 : mn_ins 58 58 = some (6, false, .aload_n 2, 1) := by decide +kernel
theorem eX6_joinHindrance_58 : Ev 58 58 (a0 :: a1 :: some (.ref a) :: ls) (st) h r ↔ Ev 58 59 (a0 :: a1 :: some (.ref a) :: ls) (.ref a :: st) h r := ev_aload_n iX6_joinHindrance_58 rfl rfl
theorem eX6_joinHindrance_58n : Ev 58 58 (a0 :: a1 :: some (.null) :: ls) (st) h r ↔ Ev 58 59 (a0 :: a1 :: some (.null) :: ls) (.null :: st) h r := ev_aload_n iX6_joinHindrance_58 rfl rfl
theorem eX6_joinHindrance_58t : Ev 58 58 (a0 :: a1 :: some (tkv o1) :: ls) (st) h r ↔ Ev 58 59 (a0 :: a1 :: some (tkv o1) :: ls) (tkv o1 :: st) h r := ev_aload_n iX6_joinHindrance_58 rfl tkv_r
theorem eX6_joinHindrance_58s : Ev 58 58 (a0 :: a1 :: some (sgv o1) :: ls) (st) h r ↔ Ev 58 59 (a0 :: a1 :: some (sgv o1) :: ls) (sgv o1 :: st) h r := ev_aload_n iX6_joinHindrance_58 rfl sgv_r
theorem eX6_joinHindrance_58c : Ev 58 58 (a0 :: a1 :: some (cdv o1) :: ls) (st) h r ↔ Ev 58 59 (a0 :: a1 :: some (cdv o1) :: ls) (cdv o1 :: st) h r := ev_aload_n iX6_joinHindrance_58 rfl cdv_r
theorem iX6_joinHindrance_59 : mn_ins 58 59 = some (6, false, .getfield 167, 3) := by decide +kernel
theorem eX6_joinHindrance_59 : Ev 58 59 (ls) (.ref a :: st) h r ↔ Evk 58 62 ls (mn_gf h a 5 3) st h r := ev_getf iX6_joinHindrance_59 (by decide +kernel)
theorem iX6_joinHindrance_62 : mn_ins 58 62 = some (6, false, .invokevirtual 146, 3) := by decide +kernel
theorem eX6_joinHindrance_62 : Ev 58 62 (ls) (.int x0 :: .ref b :: st) h r ↔ Evr true (decide (mn_cats st ≤ 8) && mn_isc h b 5) 58 62 ls st h.2.2.1 h.2.2.2 (Cl 43 (.ref b :: [.int x0]) h.1 h.2.1) r := Ev_V (As := [.int x0]) iX6_joinHindrance_62 (by decide +kernel) (x := mnI_X6_joinHindrance) (x2 := mnI_X5_canPrint) rfl rfl rfl (by decide +kernel) (Nat.le_of_ble_eq_true rfl) rfl
theorem iX6_joinHindrance_65 : mn_ins 58 65 = some (6, false, .ifCond .eq 7, 3) := by decide +kernel
theorem eX6_joinHindrance_65 : Ev 58 65 (ls) (.int x :: st) h r ↔ if x = nI 0 then Ev 58 72 (ls) (st) h r else Ev 58 68 (ls) (st) h r := ev_ifeq iX6_joinHindrance_65 (by decide)
theorem iX6_joinHindrance_68 : mn_ins 58 68 = some (6, false, .iconst 0, 1) := by decide +kernel
theorem eX6_joinHindrance_68 : Ev 58 68 (ls) (st) h r ↔ Ev 58 69 (ls) (.int (nI 0) :: st) h r := ev_iconst iX6_joinHindrance_68 (by decide)
theorem iX6_joinHindrance_69 : mn_ins 58 69 = some (6, false, .goto 4, 3) := by decide +kernel
theorem eX6_joinHindrance_69 : Ev 58 69 (ls) (st) h r ↔ Ev 58 73 (ls) (st) h r := ev_goto iX6_joinHindrance_69 (by decide)
theorem iX6_joinHindrance_72 : mn_ins 58 72 = some (6, false, .iconst 4, 1) := by decide +kernel
theorem eX6_joinHindrance_72 : Ev 58 72 (ls) (st) h r ↔ Ev 58 73 (ls) (.int (nI 4) :: st) h r := ev_iconst iX6_joinHindrance_72 (by decide)
theorem iX6_joinHindrance_73 : mn_ins 58 73 = some (6, false, .ireturn, 1) := by decide +kernel
theorem eX6_joinHindrance_73 : Ev 58 73 (ls) [.int x] h r ↔ r = (h, .inl (some (.int x))) := ev_iret iX6_joinHindrance_73 (X := mnI_X6_joinHindrance) rfl rfl
theorem iX6_taskToJoin_0 : mn_ins 59 0 = some (6, false, .aload_n 1, 1) := by decide +kernel
theorem eX6_taskToJoin_0 : Ev 59 0 (a0 :: some (.ref a) :: ls) (st) h r ↔ Ev 59 1 (a0 :: some (.ref a) :: ls) (.ref a :: st) h r := ev_aload_n iX6_taskToJoin_0 rfl rfl
theorem eX6_taskToJoin_0n : Ev 59 0 (a0 :: some (.null) :: ls) (st) h r ↔ Ev 59 1 (a0 :: some (.null) :: ls) (.null :: st) h r := ev_aload_n iX6_taskToJoin_0 rfl rfl
theorem eX6_taskToJoin_0t : Ev 59 0 (a0 :: some (tkv o1) :: ls) (st) h r ↔ Ev 59 1 (a0 :: some (tkv o1) :: ls) (tkv o1 :: st) h r := ev_aload_n iX6_taskToJoin_0 rfl tkv_r
theorem eX6_taskToJoin_0s : Ev 59 0 (a0 :: some (sgv o1) :: ls) (st) h r ↔ Ev 59 1 (a0 :: some (sgv o1) :: ls) (sgv o1 :: st) h r := ev_aload_n iX6_taskToJoin_0 rfl sgv_r
theorem eX6_taskToJoin_0c : Ev 59 0 (a0 :: some (cdv o1) :: ls) (st) h r ↔ Ev 59 1 (a0 :: some (cdv o1) :: ls) (cdv o1 :: st) h r := ev_aload_n iX6_taskToJoin_0 rfl cdv_r
theorem iX6_taskToJoin_1 : mn_ins 59 1 = some (6, false, .getfield 72, 3) := by decide +kernel
theorem eX6_taskToJoin_1 : Ev 59 1 (ls) (.ref a :: st) h r ↔ Evk 59 4 ls (mn_gf h a 5 1) st h r := ev_getf iX6_taskToJoin_1 (by decide +kernel)
theorem iX6_taskToJoin_4 : mn_ins 59 4 = some (6, false, .invokevirtual 181, 3) := by decide +kernel
theorem eX6_taskToJoin_4 : Ev 59 4 (ls) (.ref b :: st) h r ↔ Evr true (decide (mn_cats st ≤ 8) && mn_isc h b 2) 59 4 ls st h.2.2.1 h.2.2.2 (Cl 18 (.ref b :: []) h.1 h.2.1) r := Ev_V (As := []) iX6_taskToJoin_4 (by decide +kernel) (x := mnI_X6_taskToJoin) (x2 := mnI_X2_top) rfl rfl rfl (by decide +kernel) (Nat.le_of_ble_eq_true rfl) rfl
theorem iX6_taskToJoin_7 : mn_ins 59 7 = some (6, false, .lstore_n 2, 1) := by decide +kernel
theorem eX6_taskToJoin_7 : Ev 59 7 (a0 :: a1 :: a2 :: a3 :: ls) (.long u :: st) h r ↔ Ev 59 8 (a0 :: mn_k a1 :: some (.long u) :: none :: ls) (st) h r := ev_lstore_n iX6_taskToJoin_7 (by show 3 < _; simp only [List.length_cons]; omega)
theorem iX6_taskToJoin_8 : mn_ins 59 8 = some (6, false, .lload_n 2, 1) := by decide +kernel
theorem eX6_taskToJoin_8 : Ev 59 8 (a0 :: a1 :: some (.long u) :: ls) (st) h r ↔ Ev 59 9 (a0 :: a1 :: some (.long u) :: ls) (.long u :: st) h r := ev_lload_n iX6_taskToJoin_8 rfl
theorem iX6_taskToJoin_9 : mn_ins 59 9 = some (6, false, .lconst 1, 1) := by decide +kernel
theorem eX6_taskToJoin_9 : Ev 59 9 (ls) (st) h r ↔ Ev 59 10 (ls) (.long 1 :: st) h r := ev_lconst iX6_taskToJoin_9 (by decide)
theorem iX6_taskToJoin_10 : mn_ins 59 10 = some (6, false, .lcmp, 1) := by decide +kernel
theorem eX6_taskToJoin_10 : Ev 59 10 (ls) (.long v :: .long u :: st) h r ↔ Ev 59 11 (ls) (.int (lg_cmp u v) :: st) h r := ev_lcmp iX6_taskToJoin_10
theorem iX6_taskToJoin_11 : mn_ins 59 11 = some (6, false, .ifCond .lt 13, 3) := by decide +kernel
theorem eX6_taskToJoin_11 : Ev 59 11 (ls) (.int x :: st) h r ↔ if x < nI 0 then Ev 59 24 (ls) (st) h r else Ev 59 14 (ls) (st) h r := ev_iflt iX6_taskToJoin_11 (by decide)
theorem iX6_taskToJoin_14 : mn_ins 59 14 = some (6, false, .lload_n 2, 1) := by decide +kernel
theorem eX6_taskToJoin_14 : Ev 59 14 (a0 :: a1 :: some (.long u) :: ls) (st) h r ↔ Ev 59 15 (a0 :: a1 :: some (.long u) :: ls) (.long u :: st) h r := ev_lload_n iX6_taskToJoin_14 rfl
theorem iX6_taskToJoin_15 : mn_ins 59 15 = some (6, false, .aload_n 0, 1) := by decide +kernel
theorem eX6_taskToJoin_15 : Ev 59 15 (some (.ref a) :: ls) (st) h r ↔ Ev 59 16 (some (.ref a) :: ls) (.ref a :: st) h r := ev_aload_n iX6_taskToJoin_15 rfl rfl
theorem iX6_taskToJoin_16 : mn_ins 59 16 = some (6, false, .getfield 41, 3) := by decide +kernel
theorem eX6_taskToJoin_16 : Ev 59 16 (ls) (.ref a :: st) h r ↔ Evk 59 19 ls (mn_gf h a 6 5) st h r := ev_getf iX6_taskToJoin_16 (by decide +kernel)
theorem iX6_taskToJoin_19 : mn_ins 59 19 = some (6, false, .i2l, 1) := by decide +kernel
theorem eX6_taskToJoin_19 : Ev 59 19 (ls) (.int x :: st) h r ↔ Ev 59 20 (ls) (.long x.toInt64 :: st) h r := ev_i2l iX6_taskToJoin_19
theorem iX6_taskToJoin_20 : mn_ins 59 20 = some (6, false, .lcmp, 1) := by decide +kernel
theorem eX6_taskToJoin_20 : Ev 59 20 (ls) (.long v :: .long u :: st) h r ↔ Ev 59 21 (ls) (.int (lg_cmp u v) :: st) h r := ev_lcmp iX6_taskToJoin_20
theorem iX6_taskToJoin_21 : mn_ins 59 21 = some (6, false, .ifCond .lt 5, 3) := by decide +kernel
theorem eX6_taskToJoin_21 : Ev 59 21 (ls) (.int x :: st) h r ↔ if x < nI 0 then Ev 59 26 (ls) (st) h r else Ev 59 24 (ls) (st) h r := ev_iflt iX6_taskToJoin_21 (by decide)
theorem iX6_taskToJoin_24 : mn_ins 59 24 = some (6, false, .aconst_null, 1) := by decide +kernel
theorem eX6_taskToJoin_24 : Ev 59 24 (ls) (st) h r ↔ Ev 59 25 (ls) (.null :: st) h r := ev_null iX6_taskToJoin_24
theorem iX6_taskToJoin_25 : mn_ins 59 25 = some (6, false, .areturn, 1) := by decide +kernel
theorem eX6_taskToJoin_25 : Ev 59 25 (ls) [.ref a] h r ↔ r = (h, .inl (some (.ref a))) := ev_aret iX6_taskToJoin_25 (X := mnI_X6_taskToJoin) rfl rfl rfl
theorem eX6_taskToJoin_25n : Ev 59 25 (ls) [.null] h r ↔ r = (h, .inl (some (.null))) := ev_aret iX6_taskToJoin_25 (X := mnI_X6_taskToJoin) rfl rfl rfl
theorem eX6_taskToJoin_25t : Ev 59 25 (ls) [tkv o1] h r ↔ r = (h, .inl (some (tkv o1))) := ev_aret iX6_taskToJoin_25 (X := mnI_X6_taskToJoin) rfl rfl tkv_r
theorem eX6_taskToJoin_25s : Ev 59 25 (ls) [sgv o1] h r ↔ r = (h, .inl (some (sgv o1))) := ev_aret iX6_taskToJoin_25 (X := mnI_X6_taskToJoin) rfl rfl sgv_r
theorem eX6_taskToJoin_25c : Ev 59 25 (ls) [cdv o1] h r ↔ r = (h, .inl (some (cdv o1))) := ev_aret iX6_taskToJoin_25 (X := mnI_X6_taskToJoin) rfl rfl cdv_r
theorem iX6_taskToJoin_26 : mn_ins 59 26 = some (6, false, .aload_n 0, 1) := by decide +kernel
theorem eX6_taskToJoin_26 : Ev 59 26 (some (.ref a) :: ls) (st) h r ↔ Ev 59 27 (some (.ref a) :: ls) (.ref a :: st) h r := ev_aload_n iX6_taskToJoin_26 rfl rfl
theorem iX6_taskToJoin_27 : mn_ins 59 27 = some (6, false, .getfield 11, 3) := by decide +kernel
theorem eX6_taskToJoin_27 : Ev 59 27 (ls) (.ref a :: st) h r ↔ Evk 59 30 ls (mn_gf h a 6 1) st h r := ev_getf iX6_taskToJoin_27 (by decide +kernel)
theorem iX6_taskToJoin_30 : mn_ins 59 30 = some (6, false, .lload_n 2, 1) := by decide +kernel
theorem eX6_taskToJoin_30 : Ev 59 30 (a0 :: a1 :: some (.long u) :: ls) (st) h r ↔ Ev 59 31 (a0 :: a1 :: some (.long u) :: ls) (.long u :: st) h r := ev_lload_n iX6_taskToJoin_30 rfl
theorem iX6_taskToJoin_31 : mn_ins 59 31 = some (6, false, .l2i, 1) := by decide +kernel
theorem eX6_taskToJoin_31 : Ev 59 31 (ls) (.long u :: st) h r ↔ Ev 59 32 (ls) (.int u.toInt32 :: st) h r := ev_l2i iX6_taskToJoin_31
theorem iX6_taskToJoin_32 : mn_ins 59 32 = some (6, false, .aaload, 1) := by decide +kernel
theorem eX6_taskToJoin_32 : Ev 59 32 (ls) (.int x :: .ref a :: st) h r ↔ Evk 59 33 ls (mn_aq h a x) st h r := ev_aald iX6_taskToJoin_32
theorem iX6_taskToJoin_33 : mn_ins 59 33 = some (6, false, .astore 4, 2) := by decide +kernel
theorem eX6_taskToJoin_33 : Ev 59 33 (a0 :: a1 :: a2 :: a3 :: a4 :: ls) (.ref a :: st) h r ↔ Ev 59 35 (a0 :: a1 :: a2 :: mn_k a3 :: some (.ref a) :: ls) (st) h r := ev_astore iX6_taskToJoin_33 (by show 4 < _; simp only [List.length_cons]; omega) rfl
theorem eX6_taskToJoin_33n : Ev 59 33 (a0 :: a1 :: a2 :: a3 :: a4 :: ls) (.null :: st) h r ↔ Ev 59 35 (a0 :: a1 :: a2 :: mn_k a3 :: some (.null) :: ls) (st) h r := ev_astore iX6_taskToJoin_33 (by show 4 < _; simp only [List.length_cons]; omega) rfl
theorem eX6_taskToJoin_33t : Ev 59 33 (a0 :: a1 :: a2 :: a3 :: a4 :: ls) (tkv o1 :: st) h r ↔ Ev 59 35 (a0 :: a1 :: a2 :: mn_k a3 :: some (tkv o1) :: ls) (st) h r := ev_astore iX6_taskToJoin_33 (by show 4 < _; simp only [List.length_cons]; omega) tkv_r
theorem eX6_taskToJoin_33s : Ev 59 33 (a0 :: a1 :: a2 :: a3 :: a4 :: ls) (sgv o1 :: st) h r ↔ Ev 59 35 (a0 :: a1 :: a2 :: mn_k a3 :: some (sgv o1) :: ls) (st) h r := ev_astore iX6_taskToJoin_33 (by show 4 < _; simp only [List.length_cons]; omega) sgv_r
theorem eX6_taskToJoin_33c : Ev 59 33 (a0 :: a1 :: a2 :: a3 :: a4 :: ls) (cdv o1 :: st) h r ↔ Ev 59 35 (a0 :: a1 :: a2 :: mn_k a3 :: some (cdv o1) :: ls) (st) h r := ev_astore iX6_taskToJoin_33 (by show 4 < _; simp only [List.length_cons]; omega) cdv_r
theorem iX6_taskToJoin_35 : mn_ins 59 35 = some (6, false, .aload 4, 2) := by decide +kernel
theorem eX6_taskToJoin_35 : Ev 59 35 (a0 :: a1 :: a2 :: a3 :: some (.ref a) :: ls) (st) h r ↔ Ev 59 37 (a0 :: a1 :: a2 :: a3 :: some (.ref a) :: ls) (.ref a :: st) h r := ev_aload iX6_taskToJoin_35 rfl rfl
theorem eX6_taskToJoin_35n : Ev 59 35 (a0 :: a1 :: a2 :: a3 :: some (.null) :: ls) (st) h r ↔ Ev 59 37 (a0 :: a1 :: a2 :: a3 :: some (.null) :: ls) (.null :: st) h r := ev_aload iX6_taskToJoin_35 rfl rfl
theorem eX6_taskToJoin_35t : Ev 59 35 (a0 :: a1 :: a2 :: a3 :: some (tkv o1) :: ls) (st) h r ↔ Ev 59 37 (a0 :: a1 :: a2 :: a3 :: some (tkv o1) :: ls) (tkv o1 :: st) h r := ev_aload iX6_taskToJoin_35 rfl tkv_r
theorem eX6_taskToJoin_35s : Ev 59 35 (a0 :: a1 :: a2 :: a3 :: some (sgv o1) :: ls) (st) h r ↔ Ev 59 37 (a0 :: a1 :: a2 :: a3 :: some (sgv o1) :: ls) (sgv o1 :: st) h r := ev_aload iX6_taskToJoin_35 rfl sgv_r
theorem eX6_taskToJoin_35c : Ev 59 35 (a0 :: a1 :: a2 :: a3 :: some (cdv o1) :: ls) (st) h r ↔ Ev 59 37 (a0 :: a1 :: a2 :: a3 :: some (cdv o1) :: ls) (cdv o1 :: st) h r := ev_aload iX6_taskToJoin_35 rfl cdv_r
theorem iX6_taskToJoin_37 : mn_ins 59 37 = some (6, false, .getfield 184, 3) := by decide +kernel
theorem eX6_taskToJoin_37 : Ev 59 37 (ls) (.ref a :: st) h r ↔ Evk 59 40 ls (mn_gf h a 5 8) st h r := ev_getf iX6_taskToJoin_37 (by decide +kernel)
theorem iX6_taskToJoin_40 : mn_ins 59 40 = some (6, false, .invokestatic 187, 3) := by decide +kernel
theorem EgX6_taskToJoin_40 (hw3 : (mn_r w3).isSome = true) : Ev 59 40 (ls) (w3 :: st) h r ↔ Evr false (decide (mn_cats st ≤ 8)) 59 40 ls st h.2.2.1 h.2.2.2 (Cl 60 [w3] h.1 h.2.1) r := Ev_T (As := [w3]) (q := 1) iX6_taskToJoin_40 (by decide +kernel) (by decide) (x := mnI_X6_taskToJoin) (x2 := mnI_X6_heirOf) rfl rfl rfl (by decide +kernel) (by rcases mn_r_is hw3 with ⟨_, rfl⟩ | rfl <;> exact Nat.le_of_ble_eq_true rfl) rfl
theorem eX6_taskToJoin_40 {cw3 : Nat} : Ev 59 40 (ls) ((.ref cw3) :: st) h r ↔ Evr false (decide (mn_cats st ≤ 8)) 59 40 ls st h.2.2.1 h.2.2.2 (Cl 60 [(.ref cw3)] h.1 h.2.1) r := EgX6_taskToJoin_40 rfl
theorem iX6_taskToJoin_43 : mn_ins 59 43 = some (6, false, .aload_n 1, 1) := by decide +kernel
theorem eX6_taskToJoin_43 : Ev 59 43 (a0 :: some (.ref a) :: ls) (st) h r ↔ Ev 59 44 (a0 :: some (.ref a) :: ls) (.ref a :: st) h r := ev_aload_n iX6_taskToJoin_43 rfl rfl
theorem eX6_taskToJoin_43n : Ev 59 43 (a0 :: some (.null) :: ls) (st) h r ↔ Ev 59 44 (a0 :: some (.null) :: ls) (.null :: st) h r := ev_aload_n iX6_taskToJoin_43 rfl rfl
theorem eX6_taskToJoin_43t : Ev 59 43 (a0 :: some (tkv o1) :: ls) (st) h r ↔ Ev 59 44 (a0 :: some (tkv o1) :: ls) (tkv o1 :: st) h r := ev_aload_n iX6_taskToJoin_43 rfl tkv_r
theorem eX6_taskToJoin_43s : Ev 59 43 (a0 :: some (sgv o1) :: ls) (st) h r ↔ Ev 59 44 (a0 :: some (sgv o1) :: ls) (sgv o1 :: st) h r := ev_aload_n iX6_taskToJoin_43 rfl sgv_r
theorem eX6_taskToJoin_43c : Ev 59 43 (a0 :: some (cdv o1) :: ls) (st) h r ↔ Ev 59 44 (a0 :: some (cdv o1) :: ls) (cdv o1 :: st) h r := ev_aload_n iX6_taskToJoin_43 rfl cdv_r
theorem iX6_taskToJoin_44 : mn_ins 59 44 = some (6, false, .if_acmp .ne 8, 3) := by decide +kernel
theorem eX6_taskToJoin_44 (h3 : 3 ≤ a) : Ev 59 44 (ls) (.ref b :: .ref a :: st) h r ↔ if a = b then Ev 59 47 (ls) (st) h r else Ev 59 52 (ls) (st) h r := (ev_acmpne (t := 52) (x := some a) (y := some b) iX6_taskToJoin_44 (by decide) rfl rfl (mn_r3_of h3)).trans (by simp only [Option.some.injEq])
theorem eX6_taskToJoin_44n : Ev 59 44 (ls) (.ref b :: .null :: st) h r ↔ Ev 59 52 (ls) (st) h r := (ev_acmpne (t := 52) (x := none) (y := some b) iX6_taskToJoin_44 (by decide) rfl rfl rfl).trans (by rw [if_neg (by simp)])
theorem iX6_taskToJoin_47 : mn_ins 59 47 = some (6, false, .aload 4, 2) := by decide +kernel
theorem eX6_taskToJoin_47 : Ev 59 47 (a0 :: a1 :: a2 :: a3 :: some (.ref a) :: ls) (st) h r ↔ Ev 59 49 (a0 :: a1 :: a2 :: a3 :: some (.ref a) :: ls) (.ref a :: st) h r := ev_aload iX6_taskToJoin_47 rfl rfl
theorem eX6_taskToJoin_47n : Ev 59 47 (a0 :: a1 :: a2 :: a3 :: some (.null) :: ls) (st) h r ↔ Ev 59 49 (a0 :: a1 :: a2 :: a3 :: some (.null) :: ls) (.null :: st) h r := ev_aload iX6_taskToJoin_47 rfl rfl
theorem eX6_taskToJoin_47t : Ev 59 47 (a0 :: a1 :: a2 :: a3 :: some (tkv o1) :: ls) (st) h r ↔ Ev 59 49 (a0 :: a1 :: a2 :: a3 :: some (tkv o1) :: ls) (tkv o1 :: st) h r := ev_aload iX6_taskToJoin_47 rfl tkv_r
theorem eX6_taskToJoin_47s : Ev 59 47 (a0 :: a1 :: a2 :: a3 :: some (sgv o1) :: ls) (st) h r ↔ Ev 59 49 (a0 :: a1 :: a2 :: a3 :: some (sgv o1) :: ls) (sgv o1 :: st) h r := ev_aload iX6_taskToJoin_47 rfl sgv_r
theorem eX6_taskToJoin_47c : Ev 59 47 (a0 :: a1 :: a2 :: a3 :: some (cdv o1) :: ls) (st) h r ↔ Ev 59 49 (a0 :: a1 :: a2 :: a3 :: some (cdv o1) :: ls) (cdv o1 :: st) h r := ev_aload iX6_taskToJoin_47 rfl cdv_r
theorem iX6_taskToJoin_49 : mn_ins 59 49 = some (6, false, .goto 4, 3) := by decide +kernel
theorem eX6_taskToJoin_49 : Ev 59 49 (ls) (st) h r ↔ Ev 59 53 (ls) (st) h r := ev_goto iX6_taskToJoin_49 (by decide)
theorem iX6_taskToJoin_52 : mn_ins 59 52 = some (6, false, .aconst_null, 1) := by decide +kernel
theorem eX6_taskToJoin_52 : Ev 59 52 (ls) (st) h r ↔ Ev 59 53 (ls) (.null :: st) h r := ev_null iX6_taskToJoin_52
theorem iX6_taskToJoin_53 : mn_ins 59 53 = some (6, false, .areturn, 1) := by decide +kernel
theorem eX6_taskToJoin_53 : Ev 59 53 (ls) [.ref a] h r ↔ r = (h, .inl (some (.ref a))) := ev_aret iX6_taskToJoin_53 (X := mnI_X6_taskToJoin) rfl rfl rfl
theorem eX6_taskToJoin_53n : Ev 59 53 (ls) [.null] h r ↔ r = (h, .inl (some (.null))) := ev_aret iX6_taskToJoin_53 (X := mnI_X6_taskToJoin) rfl rfl rfl
theorem eX6_taskToJoin_53t : Ev 59 53 (ls) [tkv o1] h r ↔ r = (h, .inl (some (tkv o1))) := ev_aret iX6_taskToJoin_53 (X := mnI_X6_taskToJoin) rfl rfl tkv_r
theorem eX6_taskToJoin_53s : Ev 59 53 (ls) [sgv o1] h r ↔ r = (h, .inl (some (sgv o1))) := ev_aret iX6_taskToJoin_53 (X := mnI_X6_taskToJoin) rfl rfl sgv_r
theorem eX6_taskToJoin_53c : Ev 59 53 (ls) [cdv o1] h r ↔ r = (h, .inl (some (cdv o1))) := ev_aret iX6_taskToJoin_53 (X := mnI_X6_taskToJoin) rfl rfl cdv_r
theorem iX6_heirOf_0 : mn_ins 60 0 = some (6, false, .aload_n 0, 1) := by decide +kernel
theorem eX6_heirOf_0 : Ev 60 0 (some (.ref a) :: ls) (st) h r ↔ Ev 60 1 (some (.ref a) :: ls) (.ref a :: st) h r := ev_aload_n iX6_heirOf_0 rfl rfl
theorem eX6_heirOf_0n : Ev 60 0 (some (.null) :: ls) (st) h r ↔ Ev 60 1 (some (.null) :: ls) (.null :: st) h r := ev_aload_n iX6_heirOf_0 rfl rfl
theorem eX6_heirOf_0t : Ev 60 0 (some (tkv o1) :: ls) (st) h r ↔ Ev 60 1 (some (tkv o1) :: ls) (tkv o1 :: st) h r := ev_aload_n iX6_heirOf_0 rfl tkv_r
theorem eX6_heirOf_0s : Ev 60 0 (some (sgv o1) :: ls) (st) h r ↔ Ev 60 1 (some (sgv o1) :: ls) (sgv o1 :: st) h r := ev_aload_n iX6_heirOf_0 rfl sgv_r
theorem eX6_heirOf_0c : Ev 60 0 (some (cdv o1) :: ls) (st) h r ↔ Ev 60 1 (some (cdv o1) :: ls) (cdv o1 :: st) h r := ev_aload_n iX6_heirOf_0 rfl cdv_r
theorem iX6_heirOf_1 : mn_ins 60 1 = some (6, false, .astore_n 1, 1) := by decide +kernel
theorem eX6_heirOf_1 : Ev 60 1 (a0 :: a1 :: ls) (.ref a :: st) h r ↔ Ev 60 2 (mn_k a0 :: some (.ref a) :: ls) (st) h r := ev_astore_n iX6_heirOf_1 (by show 1 < _; simp only [List.length_cons]; omega) rfl
theorem eX6_heirOf_1n : Ev 60 1 (a0 :: a1 :: ls) (.null :: st) h r ↔ Ev 60 2 (mn_k a0 :: some (.null) :: ls) (st) h r := ev_astore_n iX6_heirOf_1 (by show 1 < _; simp only [List.length_cons]; omega) rfl
theorem eX6_heirOf_1t : Ev 60 1 (a0 :: a1 :: ls) (tkv o1 :: st) h r ↔ Ev 60 2 (mn_k a0 :: some (tkv o1) :: ls) (st) h r := ev_astore_n iX6_heirOf_1 (by show 1 < _; simp only [List.length_cons]; omega) tkv_r
theorem eX6_heirOf_1s : Ev 60 1 (a0 :: a1 :: ls) (sgv o1 :: st) h r ↔ Ev 60 2 (mn_k a0 :: some (sgv o1) :: ls) (st) h r := ev_astore_n iX6_heirOf_1 (by show 1 < _; simp only [List.length_cons]; omega) sgv_r
theorem eX6_heirOf_1c : Ev 60 1 (a0 :: a1 :: ls) (cdv o1 :: st) h r ↔ Ev 60 2 (mn_k a0 :: some (cdv o1) :: ls) (st) h r := ev_astore_n iX6_heirOf_1 (by show 1 < _; simp only [List.length_cons]; omega) cdv_r
theorem iX6_heirOf_2 : mn_ins 60 2 = some (6, false, .iconst 0, 1) := by decide +kernel
theorem eX6_heirOf_2 : Ev 60 2 (ls) (st) h r ↔ Ev 60 3 (ls) (.int (nI 0) :: st) h r := ev_iconst iX6_heirOf_2 (by decide)
theorem iX6_heirOf_3 : mn_ins 60 3 = some (6, false, .istore_n 2, 1) := by decide +kernel
theorem eX6_heirOf_3 : Ev 60 3 (a0 :: a1 :: a2 :: ls) (.int x :: st) h r ↔ Ev 60 4 (a0 :: mn_k a1 :: some (.int x) :: ls) (st) h r := ev_istore_n iX6_heirOf_3 (by show 2 < _; simp only [List.length_cons]; omega)
theorem iX6_heirOf_4 : mn_ins 60 4 = some (6, false, .iload_n 2, 1) := by decide +kernel
theorem eX6_heirOf_4 : Ev 60 4 (a0 :: a1 :: some (.int x) :: ls) (st) h r ↔ Ev 60 5 (a0 :: a1 :: some (.int x) :: ls) (.int x :: st) h r := ev_iload_n iX6_heirOf_4 rfl
theorem iX6_heirOf_5 : mn_ins 60 5 = some (6, false, .bipush 12, 2) := by decide +kernel
theorem eX6_heirOf_5 : Ev 60 5 (ls) (st) h r ↔ Ev 60 7 (ls) (.int (nI 12) :: st) h r := ev_bipush iX6_heirOf_5 (by decide)
theorem iX6_heirOf_7 : mn_ins 60 7 = some (6, false, .if_icmp .ge 25, 3) := by decide +kernel
theorem eX6_heirOf_7 : Ev 60 7 (ls) (.int y :: .int x :: st) h r ↔ if y ≤ x then Ev 60 32 (ls) (st) h r else Ev 60 10 (ls) (st) h r := ev_cmpge iX6_heirOf_7 (by decide)
theorem iX6_heirOf_10 : mn_ins 60 10 = some (6, false, .aload_n 1, 1) := by decide +kernel
theorem eX6_heirOf_10 : Ev 60 10 (a0 :: some (.ref a) :: ls) (st) h r ↔ Ev 60 11 (a0 :: some (.ref a) :: ls) (.ref a :: st) h r := ev_aload_n iX6_heirOf_10 rfl rfl
theorem eX6_heirOf_10n : Ev 60 10 (a0 :: some (.null) :: ls) (st) h r ↔ Ev 60 11 (a0 :: some (.null) :: ls) (.null :: st) h r := ev_aload_n iX6_heirOf_10 rfl rfl
theorem eX6_heirOf_10t : Ev 60 10 (a0 :: some (tkv o1) :: ls) (st) h r ↔ Ev 60 11 (a0 :: some (tkv o1) :: ls) (tkv o1 :: st) h r := ev_aload_n iX6_heirOf_10 rfl tkv_r
theorem eX6_heirOf_10s : Ev 60 10 (a0 :: some (sgv o1) :: ls) (st) h r ↔ Ev 60 11 (a0 :: some (sgv o1) :: ls) (sgv o1 :: st) h r := ev_aload_n iX6_heirOf_10 rfl sgv_r
theorem eX6_heirOf_10c : Ev 60 10 (a0 :: some (cdv o1) :: ls) (st) h r ↔ Ev 60 11 (a0 :: some (cdv o1) :: ls) (cdv o1 :: st) h r := ev_aload_n iX6_heirOf_10 rfl cdv_r
theorem iX6_heirOf_11 : mn_ins 60 11 = some (6, false, .ifnull 21, 3) := by decide +kernel
theorem eX6_heirOf_11 : Ev 60 11 (ls) (va_rf o1 :: st) h r ↔ if o1 = none then Ev 60 32 (ls) (st) h r else Ev 60 14 (ls) (st) h r := ev_ifnull iX6_heirOf_11 (by decide) (mr_rf _)
theorem eX6_heirOf_11r : Ev 60 11 (ls) (.ref a :: st) h r ↔ Ev 60 14 (ls) (st) h r := (ev_ifnull (t := 32) (w := .ref a) (x := some a) iX6_heirOf_11 (by decide) rfl).trans (by rw [if_neg (by simp)])
theorem eX6_heirOf_11n : Ev 60 11 (ls) (.null :: st) h r ↔ Ev 60 32 (ls) (st) h r := (ev_ifnull (t := 32) (w := .null) (x := none) iX6_heirOf_11 (by decide) rfl).trans (by rw [if_pos rfl])
theorem iX6_heirOf_14 : mn_ins 60 14 = some (6, false, .aload_n 1, 1) := by decide +kernel
theorem eX6_heirOf_14 : Ev 60 14 (a0 :: some (.ref a) :: ls) (st) h r ↔ Ev 60 15 (a0 :: some (.ref a) :: ls) (.ref a :: st) h r := ev_aload_n iX6_heirOf_14 rfl rfl
theorem eX6_heirOf_14n : Ev 60 14 (a0 :: some (.null) :: ls) (st) h r ↔ Ev 60 15 (a0 :: some (.null) :: ls) (.null :: st) h r := ev_aload_n iX6_heirOf_14 rfl rfl
theorem eX6_heirOf_14t : Ev 60 14 (a0 :: some (tkv o1) :: ls) (st) h r ↔ Ev 60 15 (a0 :: some (tkv o1) :: ls) (tkv o1 :: st) h r := ev_aload_n iX6_heirOf_14 rfl tkv_r
theorem eX6_heirOf_14s : Ev 60 14 (a0 :: some (sgv o1) :: ls) (st) h r ↔ Ev 60 15 (a0 :: some (sgv o1) :: ls) (sgv o1 :: st) h r := ev_aload_n iX6_heirOf_14 rfl sgv_r
theorem eX6_heirOf_14c : Ev 60 14 (a0 :: some (cdv o1) :: ls) (st) h r ↔ Ev 60 15 (a0 :: some (cdv o1) :: ls) (cdv o1 :: st) h r := ev_aload_n iX6_heirOf_14 rfl cdv_r
theorem iX6_heirOf_15 : mn_ins 60 15 = some (6, false, .getfield 174, 3) := by decide +kernel
theorem eX6_heirOf_15 : Ev 60 15 (ls) (.ref a :: st) h r ↔ Evk 60 18 ls (mn_gf h a 5 9) st h r := ev_getf iX6_heirOf_15 (by decide +kernel)
theorem iX6_heirOf_18 : mn_ins 60 18 = some (6, false, .ifnull 14, 3) := by decide +kernel
theorem eX6_heirOf_18 : Ev 60 18 (ls) (va_rf o1 :: st) h r ↔ if o1 = none then Ev 60 32 (ls) (st) h r else Ev 60 21 (ls) (st) h r := ev_ifnull iX6_heirOf_18 (by decide) (mr_rf _)
theorem eX6_heirOf_18r : Ev 60 18 (ls) (.ref a :: st) h r ↔ Ev 60 21 (ls) (st) h r := (ev_ifnull (t := 32) (w := .ref a) (x := some a) iX6_heirOf_18 (by decide) rfl).trans (by rw [if_neg (by simp)])
theorem eX6_heirOf_18n : Ev 60 18 (ls) (.null :: st) h r ↔ Ev 60 32 (ls) (st) h r := (ev_ifnull (t := 32) (w := .null) (x := none) iX6_heirOf_18 (by decide) rfl).trans (by rw [if_pos rfl])
theorem iX6_heirOf_21 : mn_ins 60 21 = some (6, false, .aload_n 1, 1) := by decide +kernel
theorem eX6_heirOf_21 : Ev 60 21 (a0 :: some (.ref a) :: ls) (st) h r ↔ Ev 60 22 (a0 :: some (.ref a) :: ls) (.ref a :: st) h r := ev_aload_n iX6_heirOf_21 rfl rfl
theorem eX6_heirOf_21n : Ev 60 21 (a0 :: some (.null) :: ls) (st) h r ↔ Ev 60 22 (a0 :: some (.null) :: ls) (.null :: st) h r := ev_aload_n iX6_heirOf_21 rfl rfl
theorem eX6_heirOf_21t : Ev 60 21 (a0 :: some (tkv o1) :: ls) (st) h r ↔ Ev 60 22 (a0 :: some (tkv o1) :: ls) (tkv o1 :: st) h r := ev_aload_n iX6_heirOf_21 rfl tkv_r
theorem eX6_heirOf_21s : Ev 60 21 (a0 :: some (sgv o1) :: ls) (st) h r ↔ Ev 60 22 (a0 :: some (sgv o1) :: ls) (sgv o1 :: st) h r := ev_aload_n iX6_heirOf_21 rfl sgv_r
theorem eX6_heirOf_21c : Ev 60 21 (a0 :: some (cdv o1) :: ls) (st) h r ↔ Ev 60 22 (a0 :: some (cdv o1) :: ls) (cdv o1 :: st) h r := ev_aload_n iX6_heirOf_21 rfl cdv_r
theorem iX6_heirOf_22 : mn_ins 60 22 = some (6, false, .getfield 174, 3) := by decide +kernel
theorem eX6_heirOf_22 : Ev 60 22 (ls) (.ref a :: st) h r ↔ Evk 60 25 ls (mn_gf h a 5 9) st h r := ev_getf iX6_heirOf_22 (by decide +kernel)
theorem iX6_heirOf_25 : mn_ins 60 25 = some (6, false, .astore_n 1, 1) := by decide +kernel
theorem eX6_heirOf_25 : Ev 60 25 (a0 :: a1 :: ls) (.ref a :: st) h r ↔ Ev 60 26 (mn_k a0 :: some (.ref a) :: ls) (st) h r := ev_astore_n iX6_heirOf_25 (by show 1 < _; simp only [List.length_cons]; omega) rfl
theorem eX6_heirOf_25n : Ev 60 25 (a0 :: a1 :: ls) (.null :: st) h r ↔ Ev 60 26 (mn_k a0 :: some (.null) :: ls) (st) h r := ev_astore_n iX6_heirOf_25 (by show 1 < _; simp only [List.length_cons]; omega) rfl
theorem eX6_heirOf_25t : Ev 60 25 (a0 :: a1 :: ls) (tkv o1 :: st) h r ↔ Ev 60 26 (mn_k a0 :: some (tkv o1) :: ls) (st) h r := ev_astore_n iX6_heirOf_25 (by show 1 < _; simp only [List.length_cons]; omega) tkv_r
theorem eX6_heirOf_25s : Ev 60 25 (a0 :: a1 :: ls) (sgv o1 :: st) h r ↔ Ev 60 26 (mn_k a0 :: some (sgv o1) :: ls) (st) h r := ev_astore_n iX6_heirOf_25 (by show 1 < _; simp only [List.length_cons]; omega) sgv_r
theorem eX6_heirOf_25c : Ev 60 25 (a0 :: a1 :: ls) (cdv o1 :: st) h r ↔ Ev 60 26 (mn_k a0 :: some (cdv o1) :: ls) (st) h r := ev_astore_n iX6_heirOf_25 (by show 1 < _; simp only [List.length_cons]; omega) cdv_r
theorem iX6_heirOf_26 : mn_ins 60 26 = some (6, false, .iinc 2 1, 3) := by decide +kernel
theorem eX6_heirOf_26 : Ev 60 26 (a0 :: a1 :: some (.int x) :: ls) (st) h r ↔ Ev 60 29 (a0 :: mn_k a1 :: some (.int (x + (nI 1))) :: ls) (st) h r := ev_iinc iX6_heirOf_26 rfl (by decide)
theorem iX6_heirOf_29 : mn_ins 60 29 = some (6, false, .goto (-25), 3) := by decide +kernel
theorem eX6_heirOf_29 : Ev 60 29 (ls) (st) h r ↔ Ev 60 4 (ls) (st) h r := ev_goto iX6_heirOf_29 (by decide)
theorem iX6_heirOf_32 : mn_ins 60 32 = some (6, false, .aload_n 1, 1) := by decide +kernel
theorem eX6_heirOf_32 : Ev 60 32 (a0 :: some (.ref a) :: ls) (st) h r ↔ Ev 60 33 (a0 :: some (.ref a) :: ls) (.ref a :: st) h r := ev_aload_n iX6_heirOf_32 rfl rfl
theorem eX6_heirOf_32n : Ev 60 32 (a0 :: some (.null) :: ls) (st) h r ↔ Ev 60 33 (a0 :: some (.null) :: ls) (.null :: st) h r := ev_aload_n iX6_heirOf_32 rfl rfl
theorem eX6_heirOf_32t : Ev 60 32 (a0 :: some (tkv o1) :: ls) (st) h r ↔ Ev 60 33 (a0 :: some (tkv o1) :: ls) (tkv o1 :: st) h r := ev_aload_n iX6_heirOf_32 rfl tkv_r
theorem eX6_heirOf_32s : Ev 60 32 (a0 :: some (sgv o1) :: ls) (st) h r ↔ Ev 60 33 (a0 :: some (sgv o1) :: ls) (sgv o1 :: st) h r := ev_aload_n iX6_heirOf_32 rfl sgv_r
theorem eX6_heirOf_32c : Ev 60 32 (a0 :: some (cdv o1) :: ls) (st) h r ↔ Ev 60 33 (a0 :: some (cdv o1) :: ls) (cdv o1 :: st) h r := ev_aload_n iX6_heirOf_32 rfl cdv_r
theorem iX6_heirOf_33 : mn_ins 60 33 = some (6, false, .areturn, 1) := by decide +kernel
theorem eX6_heirOf_33 : Ev 60 33 (ls) [.ref a] h r ↔ r = (h, .inl (some (.ref a))) := ev_aret iX6_heirOf_33 (X := mnI_X6_heirOf) rfl rfl rfl
theorem eX6_heirOf_33n : Ev 60 33 (ls) [.null] h r ↔ r = (h, .inl (some (.null))) := ev_aret iX6_heirOf_33 (X := mnI_X6_heirOf) rfl rfl rfl
theorem eX6_heirOf_33t : Ev 60 33 (ls) [tkv o1] h r ↔ r = (h, .inl (some (tkv o1))) := ev_aret iX6_heirOf_33 (X := mnI_X6_heirOf) rfl rfl tkv_r
theorem eX6_heirOf_33s : Ev 60 33 (ls) [sgv o1] h r ↔ r = (h, .inl (some (sgv o1))) := ev_aret iX6_heirOf_33 (X := mnI_X6_heirOf) rfl rfl sgv_r
theorem eX6_heirOf_33c : Ev 60 33 (ls) [cdv o1] h r ↔ r = (h, .inl (some (cdv o1))) := ev_aret iX6_heirOf_33 (X := mnI_X6_heirOf) rfl rfl cdv_r
theorem iX6_bringCells_0 : mn_ins 61 0 = some (6, false, .aload_n 2, 1) := by decide +kernel
theorem eX6_bringCells_0 : Ev 61 0 (a0 :: a1 :: some (.ref a) :: ls) (st) h r ↔ Ev 61 1 (a0 :: a1 :: some (.ref a) :: ls) (.ref a :: st) h r := ev_aload_n iX6_bringCells_0 rfl rfl
theorem eX6_bringCells_0n : Ev 61 0 (a0 :: a1 :: some (.null) :: ls) (st) h r ↔ Ev 61 1 (a0 :: a1 :: some (.null) :: ls) (.null :: st) h r := ev_aload_n iX6_bringCells_0 rfl rfl
theorem eX6_bringCells_0t : Ev 61 0 (a0 :: a1 :: some (tkv o1) :: ls) (st) h r ↔ Ev 61 1 (a0 :: a1 :: some (tkv o1) :: ls) (tkv o1 :: st) h r := ev_aload_n iX6_bringCells_0 rfl tkv_r
theorem eX6_bringCells_0s : Ev 61 0 (a0 :: a1 :: some (sgv o1) :: ls) (st) h r ↔ Ev 61 1 (a0 :: a1 :: some (sgv o1) :: ls) (sgv o1 :: st) h r := ev_aload_n iX6_bringCells_0 rfl sgv_r
theorem eX6_bringCells_0c : Ev 61 0 (a0 :: a1 :: some (cdv o1) :: ls) (st) h r ↔ Ev 61 1 (a0 :: a1 :: some (cdv o1) :: ls) (cdv o1 :: st) h r := ev_aload_n iX6_bringCells_0 rfl cdv_r
theorem iX6_bringCells_1 : mn_ins 61 1 = some (6, false, .getfield 103, 3) := by decide +kernel
theorem eX6_bringCells_1 : Ev 61 1 (ls) (.ref a :: st) h r ↔ Evk 61 4 ls (mn_gf h a 5 11) st h r := ev_getf iX6_bringCells_1 (by decide +kernel)
theorem iX6_bringCells_4 : mn_ins 61 4 = some (6, false, .aload_n 2, 1) := by decide +kernel
theorem eX6_bringCells_4 : Ev 61 4 (a0 :: a1 :: some (.ref a) :: ls) (st) h r ↔ Ev 61 5 (a0 :: a1 :: some (.ref a) :: ls) (.ref a :: st) h r := ev_aload_n iX6_bringCells_4 rfl rfl
theorem eX6_bringCells_4n : Ev 61 4 (a0 :: a1 :: some (.null) :: ls) (st) h r ↔ Ev 61 5 (a0 :: a1 :: some (.null) :: ls) (.null :: st) h r := ev_aload_n iX6_bringCells_4 rfl rfl
theorem eX6_bringCells_4t : Ev 61 4 (a0 :: a1 :: some (tkv o1) :: ls) (st) h r ↔ Ev 61 5 (a0 :: a1 :: some (tkv o1) :: ls) (tkv o1 :: st) h r := ev_aload_n iX6_bringCells_4 rfl tkv_r
theorem eX6_bringCells_4s : Ev 61 4 (a0 :: a1 :: some (sgv o1) :: ls) (st) h r ↔ Ev 61 5 (a0 :: a1 :: some (sgv o1) :: ls) (sgv o1 :: st) h r := ev_aload_n iX6_bringCells_4 rfl sgv_r
theorem eX6_bringCells_4c : Ev 61 4 (a0 :: a1 :: some (cdv o1) :: ls) (st) h r ↔ Ev 61 5 (a0 :: a1 :: some (cdv o1) :: ls) (cdv o1 :: st) h r := ev_aload_n iX6_bringCells_4 rfl cdv_r
theorem iX6_bringCells_5 : mn_ins 61 5 = some (6, false, .getfield 190, 3) := by decide +kernel
theorem eX6_bringCells_5 : Ev 61 5 (ls) (.ref a :: st) h r ↔ Evk 61 8 ls (mn_gf h a 5 10) st h r := ev_getf iX6_bringCells_5 (by decide +kernel)
theorem iX6_bringCells_8 : mn_ins 61 8 = some (6, false, .invokevirtual 193, 3) := by decide +kernel
theorem EgX6_bringCells_8 (hw3 : (mn_r w3).isSome = true) : Ev 61 8 (ls) (w3 :: .ref b :: st) h r ↔ Evr true (decide (mn_cats st ≤ 8) && mn_isc h b 4) 61 8 ls st h.2.2.1 h.2.2.2 (Cl 38 (.ref b :: [w3]) h.1 h.2.1) r := Ev_V (As := [w3]) iX6_bringCells_8 (by decide +kernel) (x := mnI_X6_bringCells) (x2 := mnI_X4_writtenAbove) rfl rfl rfl (by decide +kernel) (by rcases mn_r_is hw3 with ⟨_, rfl⟩ | rfl <;> exact Nat.le_of_ble_eq_true rfl) rfl
theorem eX6_bringCells_8 {cw3 : Nat} : Ev 61 8 (ls) ((.ref cw3) :: .ref b :: st) h r ↔ Evr true (decide (mn_cats st ≤ 8) && mn_isc h b 4) 61 8 ls st h.2.2.1 h.2.2.2 (Cl 38 (.ref b :: [(.ref cw3)]) h.1 h.2.1) r := EgX6_bringCells_8 rfl
theorem iX6_bringCells_11 : mn_ins 61 11 = some (6, false, .istore_n 3, 1) := by decide +kernel
theorem eX6_bringCells_11 : Ev 61 11 (a0 :: a1 :: a2 :: a3 :: ls) (.int x :: st) h r ↔ Ev 61 12 (a0 :: a1 :: mn_k a2 :: some (.int x) :: ls) (st) h r := ev_istore_n iX6_bringCells_11 (by show 3 < _; simp only [List.length_cons]; omega)
theorem iX6_bringCells_12 : mn_ins 61 12 = some (6, false, .iconst 0, 1) := by decide +kernel
theorem eX6_bringCells_12 : Ev 61 12 (ls) (st) h r ↔ Ev 61 13 (ls) (.int (nI 0) :: st) h r := ev_iconst iX6_bringCells_12 (by decide)
theorem iX6_bringCells_13 : mn_ins 61 13 = some (6, false, .istore 4, 2) := by decide +kernel
theorem eX6_bringCells_13 : Ev 61 13 (a0 :: a1 :: a2 :: a3 :: a4 :: ls) (.int x :: st) h r ↔ Ev 61 15 (a0 :: a1 :: a2 :: mn_k a3 :: some (.int x) :: ls) (st) h r := ev_istore iX6_bringCells_13 (by show 4 < _; simp only [List.length_cons]; omega)
theorem iX6_bringCells_15 : mn_ins 61 15 = some (6, false, .iload 4, 2) := by decide +kernel
theorem eX6_bringCells_15 : Ev 61 15 (a0 :: a1 :: a2 :: a3 :: some (.int x) :: ls) (st) h r ↔ Ev 61 17 (a0 :: a1 :: a2 :: a3 :: some (.int x) :: ls) (.int x :: st) h r := ev_iload iX6_bringCells_15 rfl
theorem iX6_bringCells_17 : mn_ins 61 17 = some (6, false, .bipush 12, 2) := by decide +kernel
theorem eX6_bringCells_17 : Ev 61 17 (ls) (st) h r ↔ Ev 61 19 (ls) (.int (nI 12) :: st) h r := ev_bipush iX6_bringCells_17 (by decide)
theorem iX6_bringCells_19 : mn_ins 61 19 = some (6, false, .if_icmp .ge 132, 3) := by decide +kernel
theorem eX6_bringCells_19 : Ev 61 19 (ls) (.int y :: .int x :: st) h r ↔ if y ≤ x then Ev 61 151 (ls) (st) h r else Ev 61 22 (ls) (st) h r := ev_cmpge iX6_bringCells_19 (by decide)
theorem iX6_bringCells_22 : mn_ins 61 22 = some (6, false, .iload_n 3, 1) := by decide +kernel
theorem eX6_bringCells_22 : Ev 61 22 (a0 :: a1 :: a2 :: some (.int x) :: ls) (st) h r ↔ Ev 61 23 (a0 :: a1 :: a2 :: some (.int x) :: ls) (.int x :: st) h r := ev_iload_n iX6_bringCells_22 rfl
theorem iX6_bringCells_23 : mn_ins 61 23 = some (6, false, .iload 4, 2) := by decide +kernel
theorem eX6_bringCells_23 : Ev 61 23 (a0 :: a1 :: a2 :: a3 :: some (.int x) :: ls) (st) h r ↔ Ev 61 25 (a0 :: a1 :: a2 :: a3 :: some (.int x) :: ls) (.int x :: st) h r := ev_iload iX6_bringCells_23 rfl
theorem iX6_bringCells_25 : mn_ins 61 25 = some (6, false, .ishr, 1) := by decide +kernel
theorem eX6_bringCells_25 : Ev 61 25 (ls) (.int y :: .int x :: st) h r ↔ Ev 61 26 (ls) (.int (x >>> (y &&& 31)) :: st) h r := ev_ishr iX6_bringCells_25
theorem iX6_bringCells_26 : mn_ins 61 26 = some (6, false, .iconst 1, 1) := by decide +kernel
theorem eX6_bringCells_26 : Ev 61 26 (ls) (st) h r ↔ Ev 61 27 (ls) (.int (nI 1) :: st) h r := ev_iconst iX6_bringCells_26 (by decide)
theorem iX6_bringCells_27 : mn_ins 61 27 = some (6, false, .iand, 1) := by decide +kernel
theorem eX6_bringCells_27 : Ev 61 27 (ls) (.int y :: .int x :: st) h r ↔ Ev 61 28 (ls) (.int (x &&& y) :: st) h r := ev_iand iX6_bringCells_27
theorem iX6_bringCells_28 : mn_ins 61 28 = some (6, false, .ifCond .eq 117, 3) := by decide +kernel
theorem eX6_bringCells_28 : Ev 61 28 (ls) (.int x :: st) h r ↔ if x = nI 0 then Ev 61 145 (ls) (st) h r else Ev 61 31 (ls) (st) h r := ev_ifeq iX6_bringCells_28 (by decide)
theorem iX6_bringCells_31 : mn_ins 61 31 = some (6, false, .aload_n 2, 1) := by decide +kernel
theorem eX6_bringCells_31 : Ev 61 31 (a0 :: a1 :: some (.ref a) :: ls) (st) h r ↔ Ev 61 32 (a0 :: a1 :: some (.ref a) :: ls) (.ref a :: st) h r := ev_aload_n iX6_bringCells_31 rfl rfl
theorem eX6_bringCells_31n : Ev 61 31 (a0 :: a1 :: some (.null) :: ls) (st) h r ↔ Ev 61 32 (a0 :: a1 :: some (.null) :: ls) (.null :: st) h r := ev_aload_n iX6_bringCells_31 rfl rfl
theorem eX6_bringCells_31t : Ev 61 31 (a0 :: a1 :: some (tkv o1) :: ls) (st) h r ↔ Ev 61 32 (a0 :: a1 :: some (tkv o1) :: ls) (tkv o1 :: st) h r := ev_aload_n iX6_bringCells_31 rfl tkv_r
theorem eX6_bringCells_31s : Ev 61 31 (a0 :: a1 :: some (sgv o1) :: ls) (st) h r ↔ Ev 61 32 (a0 :: a1 :: some (sgv o1) :: ls) (sgv o1 :: st) h r := ev_aload_n iX6_bringCells_31 rfl sgv_r
theorem eX6_bringCells_31c : Ev 61 31 (a0 :: a1 :: some (cdv o1) :: ls) (st) h r ↔ Ev 61 32 (a0 :: a1 :: some (cdv o1) :: ls) (cdv o1 :: st) h r := ev_aload_n iX6_bringCells_31 rfl cdv_r
theorem iX6_bringCells_32 : mn_ins 61 32 = some (6, false, .getfield 190, 3) := by decide +kernel
theorem eX6_bringCells_32 : Ev 61 32 (ls) (.ref a :: st) h r ↔ Evk 61 35 ls (mn_gf h a 5 10) st h r := ev_getf iX6_bringCells_32 (by decide +kernel)
theorem iX6_bringCells_35 : mn_ins 61 35 = some (6, false, .iload 4, 2) := by decide +kernel
theorem eX6_bringCells_35 : Ev 61 35 (a0 :: a1 :: a2 :: a3 :: some (.int x) :: ls) (st) h r ↔ Ev 61 37 (a0 :: a1 :: a2 :: a3 :: some (.int x) :: ls) (.int x :: st) h r := ev_iload iX6_bringCells_35 rfl
theorem iX6_bringCells_37 : mn_ins 61 37 = some (6, false, .invokevirtual 110, 3) := by decide +kernel
theorem eX6_bringCells_37 : Ev 61 37 (ls) (.int x0 :: .ref b :: st) h r ↔ Evr true (decide (mn_cats st ≤ 8) && mn_isc h b 4) 61 37 ls st h.2.2.1 h.2.2.2 (Cl 36 (.ref b :: [.int x0]) h.1 h.2.1) r := Ev_V (As := [.int x0]) iX6_bringCells_37 (by decide +kernel) (x := mnI_X6_bringCells) (x2 := mnI_X4_lookUp) rfl rfl rfl (by decide +kernel) (Nat.le_of_ble_eq_true rfl) rfl
theorem iX6_bringCells_40 : mn_ins 61 40 = some (6, false, .lstore 5, 2) := by decide +kernel
theorem eX6_bringCells_40 : Ev 61 40 (a0 :: a1 :: a2 :: a3 :: a4 :: a5 :: a6 :: ls) (.long u :: st) h r ↔ Ev 61 42 (a0 :: a1 :: a2 :: a3 :: mn_k a4 :: some (.long u) :: none :: ls) (st) h r := ev_lstore iX6_bringCells_40 (by show 6 < _; simp only [List.length_cons]; omega)
theorem iX6_bringCells_42 : mn_ins 61 42 = some (6, false, .aload_n 1, 1) := by decide +kernel
theorem eX6_bringCells_42 : Ev 61 42 (a0 :: some (.ref a) :: ls) (st) h r ↔ Ev 61 43 (a0 :: some (.ref a) :: ls) (.ref a :: st) h r := ev_aload_n iX6_bringCells_42 rfl rfl
theorem eX6_bringCells_42n : Ev 61 42 (a0 :: some (.null) :: ls) (st) h r ↔ Ev 61 43 (a0 :: some (.null) :: ls) (.null :: st) h r := ev_aload_n iX6_bringCells_42 rfl rfl
theorem eX6_bringCells_42t : Ev 61 42 (a0 :: some (tkv o1) :: ls) (st) h r ↔ Ev 61 43 (a0 :: some (tkv o1) :: ls) (tkv o1 :: st) h r := ev_aload_n iX6_bringCells_42 rfl tkv_r
theorem eX6_bringCells_42s : Ev 61 42 (a0 :: some (sgv o1) :: ls) (st) h r ↔ Ev 61 43 (a0 :: some (sgv o1) :: ls) (sgv o1 :: st) h r := ev_aload_n iX6_bringCells_42 rfl sgv_r
theorem eX6_bringCells_42c : Ev 61 42 (a0 :: some (cdv o1) :: ls) (st) h r ↔ Ev 61 43 (a0 :: some (cdv o1) :: ls) (cdv o1 :: st) h r := ev_aload_n iX6_bringCells_42 rfl cdv_r
theorem iX6_bringCells_43 : mn_ins 61 43 = some (6, false, .getfield 103, 3) := by decide +kernel
theorem eX6_bringCells_43 : Ev 61 43 (ls) (.ref a :: st) h r ↔ Evk 61 46 ls (mn_gf h a 5 11) st h r := ev_getf iX6_bringCells_43 (by decide +kernel)
theorem iX6_bringCells_46 : mn_ins 61 46 = some (6, false, .iload 4, 2) := by decide +kernel
theorem eX6_bringCells_46 : Ev 61 46 (a0 :: a1 :: a2 :: a3 :: some (.int x) :: ls) (st) h r ↔ Ev 61 48 (a0 :: a1 :: a2 :: a3 :: some (.int x) :: ls) (.int x :: st) h r := ev_iload iX6_bringCells_46 rfl
theorem iX6_bringCells_48 : mn_ins 61 48 = some (6, false, .invokevirtual 110, 3) := by decide +kernel
theorem eX6_bringCells_48 : Ev 61 48 (ls) (.int x0 :: .ref b :: st) h r ↔ Evr true (decide (mn_cats st ≤ 8) && mn_isc h b 4) 61 48 ls st h.2.2.1 h.2.2.2 (Cl 36 (.ref b :: [.int x0]) h.1 h.2.1) r := Ev_V (As := [.int x0]) iX6_bringCells_48 (by decide +kernel) (x := mnI_X6_bringCells) (x2 := mnI_X4_lookUp) rfl rfl rfl (by decide +kernel) (Nat.le_of_ble_eq_true rfl) rfl
theorem iX6_bringCells_51 : mn_ins 61 51 = some (6, false, .lstore 7, 2) := by decide +kernel
theorem eX6_bringCells_51 : Ev 61 51 (a0 :: a1 :: a2 :: a3 :: a4 :: a5 :: a6 :: a7 :: a8 :: ls) (.long u :: st) h r ↔ Ev 61 53 (a0 :: a1 :: a2 :: a3 :: a4 :: a5 :: mn_k a6 :: some (.long u) :: none :: ls) (st) h r := ev_lstore iX6_bringCells_51 (by show 8 < _; simp only [List.length_cons]; omega)
theorem iX6_bringCells_53 : mn_ins 61 53 = some (6, false, .aload_n 2, 1) := by decide +kernel
theorem eX6_bringCells_53 : Ev 61 53 (a0 :: a1 :: some (.ref a) :: ls) (st) h r ↔ Ev 61 54 (a0 :: a1 :: some (.ref a) :: ls) (.ref a :: st) h r := ev_aload_n iX6_bringCells_53 rfl rfl
theorem eX6_bringCells_53n : Ev 61 53 (a0 :: a1 :: some (.null) :: ls) (st) h r ↔ Ev 61 54 (a0 :: a1 :: some (.null) :: ls) (.null :: st) h r := ev_aload_n iX6_bringCells_53 rfl rfl
theorem eX6_bringCells_53t : Ev 61 53 (a0 :: a1 :: some (tkv o1) :: ls) (st) h r ↔ Ev 61 54 (a0 :: a1 :: some (tkv o1) :: ls) (tkv o1 :: st) h r := ev_aload_n iX6_bringCells_53 rfl tkv_r
theorem eX6_bringCells_53s : Ev 61 53 (a0 :: a1 :: some (sgv o1) :: ls) (st) h r ↔ Ev 61 54 (a0 :: a1 :: some (sgv o1) :: ls) (sgv o1 :: st) h r := ev_aload_n iX6_bringCells_53 rfl sgv_r
theorem eX6_bringCells_53c : Ev 61 53 (a0 :: a1 :: some (cdv o1) :: ls) (st) h r ↔ Ev 61 54 (a0 :: a1 :: some (cdv o1) :: ls) (cdv o1 :: st) h r := ev_aload_n iX6_bringCells_53 rfl cdv_r
theorem iX6_bringCells_54 : mn_ins 61 54 = some (6, false, .getfield 103, 3) := by decide +kernel
theorem eX6_bringCells_54 : Ev 61 54 (ls) (.ref a :: st) h r ↔ Evk 61 57 ls (mn_gf h a 5 11) st h r := ev_getf iX6_bringCells_54 (by decide +kernel)
theorem iX6_bringCells_57 : mn_ins 61 57 = some (6, false, .iload 4, 2) := by decide +kernel
theorem eX6_bringCells_57 : Ev 61 57 (a0 :: a1 :: a2 :: a3 :: some (.int x) :: ls) (st) h r ↔ Ev 61 59 (a0 :: a1 :: a2 :: a3 :: some (.int x) :: ls) (.int x :: st) h r := ev_iload iX6_bringCells_57 rfl
theorem iX6_bringCells_59 : mn_ins 61 59 = some (6, false, .invokevirtual 110, 3) := by decide +kernel
theorem eX6_bringCells_59 : Ev 61 59 (ls) (.int x0 :: .ref b :: st) h r ↔ Evr true (decide (mn_cats st ≤ 8) && mn_isc h b 4) 61 59 ls st h.2.2.1 h.2.2.2 (Cl 36 (.ref b :: [.int x0]) h.1 h.2.1) r := Ev_V (As := [.int x0]) iX6_bringCells_59 (by decide +kernel) (x := mnI_X6_bringCells) (x2 := mnI_X4_lookUp) rfl rfl rfl (by decide +kernel) (Nat.le_of_ble_eq_true rfl) rfl
theorem iX6_bringCells_62 : mn_ins 61 62 = some (6, false, .lstore 9, 2) := by decide +kernel
theorem eX6_bringCells_62 : Ev 61 62 (a0 :: a1 :: a2 :: a3 :: a4 :: a5 :: a6 :: a7 :: a8 :: a9 :: a10 :: ls) (.long u :: st) h r ↔ Ev 61 64 (a0 :: a1 :: a2 :: a3 :: a4 :: a5 :: a6 :: a7 :: mn_k a8 :: some (.long u) :: none :: ls) (st) h r := ev_lstore iX6_bringCells_62 (by show 10 < _; simp only [List.length_cons]; omega)
theorem iX6_bringCells_64 : mn_ins 61 64 = some (6, false, .aload_n 0, 1) := by decide +kernel
theorem eX6_bringCells_64 : Ev 61 64 (some (.ref a) :: ls) (st) h r ↔ Ev 61 65 (some (.ref a) :: ls) (.ref a :: st) h r := ev_aload_n iX6_bringCells_64 rfl rfl
theorem iX6_bringCells_65 : mn_ins 61 65 = some (6, false, .getfield 33, 3) := by decide +kernel
theorem eX6_bringCells_65 : Ev 61 65 (ls) (.ref a :: st) h r ↔ Evk 61 68 ls (mn_gf h a 6 0) st h r := ev_getf iX6_bringCells_65 (by decide +kernel)
theorem iX6_bringCells_68 : mn_ins 61 68 = some (6, false, .getfield 197, 3) := by decide +kernel
theorem eX6_bringCells_68 : Ev 61 68 (ls) (.ref a :: st) h r ↔ Evk 61 71 ls (mn_gf h a 3 2) st h r := ev_getf iX6_bringCells_68 (by decide +kernel)
theorem iX6_bringCells_71 : mn_ins 61 71 = some (6, false, .iload 4, 2) := by decide +kernel
theorem eX6_bringCells_71 : Ev 61 71 (a0 :: a1 :: a2 :: a3 :: some (.int x) :: ls) (st) h r ↔ Ev 61 73 (a0 :: a1 :: a2 :: a3 :: some (.int x) :: ls) (.int x :: st) h r := ev_iload iX6_bringCells_71 rfl
theorem iX6_bringCells_73 : mn_ins 61 73 = some (6, false, .iaload, 1) := by decide +kernel
theorem eX6_bringCells_73 : Ev 61 73 (ls) (.int x :: .ref a :: st) h r ↔ Evk 61 74 ls (mn_al h a 0 x) st h r := ev_iald iX6_bringCells_73
theorem iX6_bringCells_74 : mn_ins 61 74 = some (6, false, .iconst 3, 1) := by decide +kernel
theorem eX6_bringCells_74 : Ev 61 74 (ls) (st) h r ↔ Ev 61 75 (ls) (.int (nI 3) :: st) h r := ev_iconst iX6_bringCells_74 (by decide)
theorem iX6_bringCells_75 : mn_ins 61 75 = some (6, false, .if_icmp .ne 28, 3) := by decide +kernel
theorem eX6_bringCells_75 : Ev 61 75 (ls) (.int y :: .int x :: st) h r ↔ if x = y then Ev 61 78 (ls) (st) h r else Ev 61 103 (ls) (st) h r := ev_cmpne iX6_bringCells_75 (by decide)
theorem iX6_bringCells_78 : mn_ins 61 78 = some (6, false, .aload_n 0, 1) := by decide +kernel
theorem eX6_bringCells_78 : Ev 61 78 (some (.ref a) :: ls) (st) h r ↔ Ev 61 79 (some (.ref a) :: ls) (.ref a :: st) h r := ev_aload_n iX6_bringCells_78 rfl rfl
theorem iX6_bringCells_79 : mn_ins 61 79 = some (6, false, .getfield 29, 3) := by decide +kernel
theorem eX6_bringCells_79 : Ev 61 79 (ls) (.ref a :: st) h r ↔ Evk 61 82 ls (mn_gf h a 6 4) st h r := ev_getf iX6_bringCells_79 (by decide +kernel)
theorem iX6_bringCells_82 : mn_ins 61 82 = some (6, false, .aload_n 0, 1) := by decide +kernel
theorem eX6_bringCells_82 : Ev 61 82 (some (.ref a) :: ls) (st) h r ↔ Ev 61 83 (some (.ref a) :: ls) (.ref a :: st) h r := ev_aload_n iX6_bringCells_82 rfl rfl
theorem iX6_bringCells_83 : mn_ins 61 83 = some (6, false, .getfield 33, 3) := by decide +kernel
theorem eX6_bringCells_83 : Ev 61 83 (ls) (.ref a :: st) h r ↔ Evk 61 86 ls (mn_gf h a 6 0) st h r := ev_getf iX6_bringCells_83 (by decide +kernel)
theorem iX6_bringCells_86 : mn_ins 61 86 = some (6, false, .iload 4, 2) := by decide +kernel
theorem eX6_bringCells_86 : Ev 61 86 (a0 :: a1 :: a2 :: a3 :: some (.int x) :: ls) (st) h r ↔ Ev 61 88 (a0 :: a1 :: a2 :: a3 :: some (.int x) :: ls) (.int x :: st) h r := ev_iload iX6_bringCells_86 rfl
theorem iX6_bringCells_88 : mn_ins 61 88 = some (6, false, .invokevirtual 201, 3) := by decide +kernel
theorem eX6_bringCells_88 : Ev 61 88 (ls) (.int x0 :: .ref b :: st) h r ↔ Evr true (decide (mn_cats st ≤ 8) && mn_isc h b 3) 61 88 ls st h.2.2.1 h.2.2.2 (Cl 29 (.ref b :: [.int x0]) h.1 h.2.1) r := Ev_V (As := [.int x0]) iX6_bringCells_88 (by decide +kernel) (x := mnI_X6_bringCells) (x2 := mnI_X3_mergeOf) rfl rfl rfl (by decide +kernel) (Nat.le_of_ble_eq_true rfl) rfl
theorem iX6_bringCells_91 : mn_ins 61 91 = some (6, false, .lload 5, 2) := by decide +kernel
theorem eX6_bringCells_91 : Ev 61 91 (a0 :: a1 :: a2 :: a3 :: a4 :: some (.long u) :: ls) (st) h r ↔ Ev 61 93 (a0 :: a1 :: a2 :: a3 :: a4 :: some (.long u) :: ls) (.long u :: st) h r := ev_lload iX6_bringCells_91 rfl
theorem iX6_bringCells_93 : mn_ins 61 93 = some (6, false, .lload 7, 2) := by decide +kernel
theorem eX6_bringCells_93 : Ev 61 93 (a0 :: a1 :: a2 :: a3 :: a4 :: a5 :: a6 :: some (.long u) :: ls) (st) h r ↔ Ev 61 95 (a0 :: a1 :: a2 :: a3 :: a4 :: a5 :: a6 :: some (.long u) :: ls) (.long u :: st) h r := ev_lload iX6_bringCells_93 rfl
theorem iX6_bringCells_95 : mn_ins 61 95 = some (6, false, .lload 9, 2) := by decide +kernel
theorem eX6_bringCells_95 : Ev 61 95 (a0 :: a1 :: a2 :: a3 :: a4 :: a5 :: a6 :: a7 :: a8 :: some (.long u) :: ls) (st) h r ↔ Ev 61 97 (a0 :: a1 :: a2 :: a3 :: a4 :: a5 :: a6 :: a7 :: a8 :: some (.long u) :: ls) (.long u :: st) h r := ev_lload iX6_bringCells_95 rfl
theorem iX6_bringCells_97 : mn_ins 61 97 = some (6, false, .invokevirtual 204, 3) := by decide +kernel
theorem EgX6_bringCells_97 (hw3 : (mn_r w3).isSome = true) : Ev 61 97 (ls) (.long u3 :: .long u2 :: .long u1 :: w3 :: .ref b :: st) h r ↔ Evr true (decide (mn_cats st ≤ 8) && mn_isc h b 2) 61 97 ls st h.2.2.1 h.2.2.2 (Cl 21 (.ref b :: [w3, .long u1, .long u2, .long u3]) h.1 h.2.1) r := Ev_V (As := [w3, .long u1, .long u2, .long u3]) iX6_bringCells_97 (by decide +kernel) (x := mnI_X6_bringCells) (x2 := mnI_X2_outcome) rfl rfl rfl (by decide +kernel) (by rcases mn_r_is hw3 with ⟨_, rfl⟩ | rfl <;> exact Nat.le_of_ble_eq_true rfl) rfl
theorem eX6_bringCells_97 {cw3 : Nat} : Ev 61 97 (ls) (.long u3 :: .long u2 :: .long u1 :: (.ref cw3) :: .ref b :: st) h r ↔ Evr true (decide (mn_cats st ≤ 8) && mn_isc h b 2) 61 97 ls st h.2.2.1 h.2.2.2 (Cl 21 (.ref b :: [(.ref cw3), .long u1, .long u2, .long u3]) h.1 h.2.1) r := EgX6_bringCells_97 rfl
theorem iX6_bringCells_100 : mn_ins 61 100 = some (6, false, .goto 22, 3) := by decide +kernel
theorem eX6_bringCells_100 : Ev 61 100 (ls) (st) h r ↔ Ev 61 122 (ls) (st) h r := ev_goto iX6_bringCells_100 (by decide)
theorem iX6_bringCells_103 : mn_ins 61 103 = some (6, false, .aload_n 0, 1) := by decide +kernel
theorem eX6_bringCells_103 : Ev 61 103 (some (.ref a) :: ls) (st) h r ↔ Ev 61 104 (some (.ref a) :: ls) (.ref a :: st) h r := ev_aload_n iX6_bringCells_103 rfl rfl
theorem iX6_bringCells_104 : mn_ins 61 104 = some (6, false, .getfield 33, 3) := by decide +kernel
theorem eX6_bringCells_104 : Ev 61 104 (ls) (.ref a :: st) h r ↔ Evk 61 107 ls (mn_gf h a 6 0) st h r := ev_getf iX6_bringCells_104 (by decide +kernel)
theorem iX6_bringCells_107 : mn_ins 61 107 = some (6, false, .getfield 197, 3) := by decide +kernel
theorem eX6_bringCells_107 : Ev 61 107 (ls) (.ref a :: st) h r ↔ Evk 61 110 ls (mn_gf h a 3 2) st h r := ev_getf iX6_bringCells_107 (by decide +kernel)
theorem iX6_bringCells_110 : mn_ins 61 110 = some (6, false, .iload 4, 2) := by decide +kernel
theorem eX6_bringCells_110 : Ev 61 110 (a0 :: a1 :: a2 :: a3 :: some (.int x) :: ls) (st) h r ↔ Ev 61 112 (a0 :: a1 :: a2 :: a3 :: some (.int x) :: ls) (.int x :: st) h r := ev_iload iX6_bringCells_110 rfl
theorem iX6_bringCells_112 : mn_ins 61 112 = some (6, false, .iaload, 1) := by decide +kernel
theorem eX6_bringCells_112 : Ev 61 112 (ls) (.int x :: .ref a :: st) h r ↔ Evk 61 113 ls (mn_al h a 0 x) st h r := ev_iald iX6_bringCells_112
theorem iX6_bringCells_113 : mn_ins 61 113 = some (6, false, .lload 5, 2) := by decide +kernel
theorem eX6_bringCells_113 : Ev 61 113 (a0 :: a1 :: a2 :: a3 :: a4 :: some (.long u) :: ls) (st) h r ↔ Ev 61 115 (a0 :: a1 :: a2 :: a3 :: a4 :: some (.long u) :: ls) (.long u :: st) h r := ev_lload iX6_bringCells_113 rfl
theorem iX6_bringCells_115 : mn_ins 61 115 = some (6, false, .lload 7, 2) := by decide +kernel
theorem eX6_bringCells_115 : Ev 61 115 (a0 :: a1 :: a2 :: a3 :: a4 :: a5 :: a6 :: some (.long u) :: ls) (st) h r ↔ Ev 61 117 (a0 :: a1 :: a2 :: a3 :: a4 :: a5 :: a6 :: some (.long u) :: ls) (.long u :: st) h r := ev_lload iX6_bringCells_115 rfl
theorem iX6_bringCells_117 : mn_ins 61 117 = some (6, false, .lload 9, 2) := by decide +kernel
theorem eX6_bringCells_117 : Ev 61 117 (a0 :: a1 :: a2 :: a3 :: a4 :: a5 :: a6 :: a7 :: a8 :: some (.long u) :: ls) (st) h r ↔ Ev 61 119 (a0 :: a1 :: a2 :: a3 :: a4 :: a5 :: a6 :: a7 :: a8 :: some (.long u) :: ls) (.long u :: st) h r := ev_lload iX6_bringCells_117 rfl
theorem iX6_bringCells_119 : mn_ins 61 119 = some (6, false, .invokestatic 208, 3) := by decide +kernel
theorem eX6_bringCells_119 : Ev 61 119 (ls) (.long u3 :: .long u2 :: .long u1 :: .int x0 :: st) h r ↔ Evr false (decide (mn_cats st ≤ 8)) 61 119 ls st h.2.2.1 h.2.2.2 (Cl 62 [.int x0, .long u1, .long u2, .long u3] h.1 h.2.1) r := Ev_T (As := [.int x0, .long u1, .long u2, .long u3]) (q := 1) iX6_bringCells_119 (by decide +kernel) (by decide) (x := mnI_X6_bringCells) (x2 := mnI_X6_together) rfl rfl rfl (by decide +kernel) (Nat.le_of_ble_eq_true rfl) rfl
theorem iX6_bringCells_122 : mn_ins 61 122 = some (6, false, .lstore 11, 2) := by decide +kernel
theorem eX6_bringCells_122 : Ev 61 122 (a0 :: a1 :: a2 :: a3 :: a4 :: a5 :: a6 :: a7 :: a8 :: a9 :: a10 :: a11 :: a12 :: ls) (.long u :: st) h r ↔ Ev 61 124 (a0 :: a1 :: a2 :: a3 :: a4 :: a5 :: a6 :: a7 :: a8 :: a9 :: mn_k a10 :: some (.long u) :: none :: ls) (st) h r := ev_lstore iX6_bringCells_122 (by show 12 < _; simp only [List.length_cons]; omega)
theorem iX6_bringCells_124 : mn_ins 61 124 = some (6, false, .aload_n 1, 1) := by decide +kernel
theorem eX6_bringCells_124 : Ev 61 124 (a0 :: some (.ref a) :: ls) (st) h r ↔ Ev 61 125 (a0 :: some (.ref a) :: ls) (.ref a :: st) h r := ev_aload_n iX6_bringCells_124 rfl rfl
theorem eX6_bringCells_124n : Ev 61 124 (a0 :: some (.null) :: ls) (st) h r ↔ Ev 61 125 (a0 :: some (.null) :: ls) (.null :: st) h r := ev_aload_n iX6_bringCells_124 rfl rfl
theorem eX6_bringCells_124t : Ev 61 124 (a0 :: some (tkv o1) :: ls) (st) h r ↔ Ev 61 125 (a0 :: some (tkv o1) :: ls) (tkv o1 :: st) h r := ev_aload_n iX6_bringCells_124 rfl tkv_r
theorem eX6_bringCells_124s : Ev 61 124 (a0 :: some (sgv o1) :: ls) (st) h r ↔ Ev 61 125 (a0 :: some (sgv o1) :: ls) (sgv o1 :: st) h r := ev_aload_n iX6_bringCells_124 rfl sgv_r
theorem eX6_bringCells_124c : Ev 61 124 (a0 :: some (cdv o1) :: ls) (st) h r ↔ Ev 61 125 (a0 :: some (cdv o1) :: ls) (cdv o1 :: st) h r := ev_aload_n iX6_bringCells_124 rfl cdv_r
theorem iX6_bringCells_125 : mn_ins 61 125 = some (6, false, .getfield 103, 3) := by decide +kernel
theorem eX6_bringCells_125 : Ev 61 125 (ls) (.ref a :: st) h r ↔ Evk 61 128 ls (mn_gf h a 5 11) st h r := ev_getf iX6_bringCells_125 (by decide +kernel)
theorem iX6_bringCells_128 : mn_ins 61 128 = some (6, false, .iload 4, 2) := by decide +kernel
theorem eX6_bringCells_128 : Ev 61 128 (a0 :: a1 :: a2 :: a3 :: some (.int x) :: ls) (st) h r ↔ Ev 61 130 (a0 :: a1 :: a2 :: a3 :: some (.int x) :: ls) (.int x :: st) h r := ev_iload iX6_bringCells_128 rfl
theorem iX6_bringCells_130 : mn_ins 61 130 = some (6, false, .lload 11, 2) := by decide +kernel
theorem eX6_bringCells_130 : Ev 61 130 (a0 :: a1 :: a2 :: a3 :: a4 :: a5 :: a6 :: a7 :: a8 :: a9 :: a10 :: some (.long u) :: ls) (st) h r ↔ Ev 61 132 (a0 :: a1 :: a2 :: a3 :: a4 :: a5 :: a6 :: a7 :: a8 :: a9 :: a10 :: some (.long u) :: ls) (.long u :: st) h r := ev_lload iX6_bringCells_130 rfl
theorem iX6_bringCells_132 : mn_ins 61 132 = some (6, false, .invokevirtual 125, 3) := by decide +kernel
theorem eX6_bringCells_132 : Ev 61 132 (ls) (.long u1 :: .int x0 :: .ref b :: st) h r ↔ Evr true (decide (mn_cats st ≤ 8) && mn_isc h b 4) 61 132 ls st h.2.2.1 h.2.2.2 (Cl 35 (.ref b :: [.int x0, .long u1]) h.1 h.2.1) r := Ev_V (As := [.int x0, .long u1]) iX6_bringCells_132 (by decide +kernel) (x := mnI_X6_bringCells) (x2 := mnI_X4_put) rfl rfl rfl (by decide +kernel) (Nat.le_of_ble_eq_true rfl) rfl
theorem iX6_bringCells_135 : mn_ins 61 135 = some (6, false, .aload_n 0, 1) := by decide +kernel
theorem eX6_bringCells_135 : Ev 61 135 (some (.ref a) :: ls) (st) h r ↔ Ev 61 136 (some (.ref a) :: ls) (.ref a :: st) h r := ev_aload_n iX6_bringCells_135 rfl rfl
theorem iX6_bringCells_136 : mn_ins 61 136 = some (6, false, .dup, 1) := by decide +kernel
theorem eX6_bringCells_136 : Ev 61 136 (ls) (.ref a :: st) h r ↔ Ev 61 137 (ls) (.ref a :: .ref a :: st) h r := ev_dup iX6_bringCells_136 rfl
theorem iX6_bringCells_137 : mn_ins 61 137 = some (6, false, .getfield 58, 3) := by decide +kernel
theorem eX6_bringCells_137 : Ev 61 137 (ls) (.ref a :: st) h r ↔ Evk 61 140 ls (mn_gf h a 6 8) st h r := ev_getf iX6_bringCells_137 (by decide +kernel)
theorem iX6_bringCells_140 : mn_ins 61 140 = some (6, false, .iconst 1, 1) := by decide +kernel
theorem eX6_bringCells_140 : Ev 61 140 (ls) (st) h r ↔ Ev 61 141 (ls) (.int (nI 1) :: st) h r := ev_iconst iX6_bringCells_140 (by decide)
theorem iX6_bringCells_141 : mn_ins 61 141 = some (6, false, .iadd, 1) := by decide +kernel
theorem eX6_bringCells_141 : Ev 61 141 (ls) (.int y :: .int x :: st) h r ↔ Ev 61 142 (ls) (.int (x + y) :: st) h r := ev_iadd iX6_bringCells_141
theorem iX6_bringCells_142 : mn_ins 61 142 = some (6, false, .putfield 58, 3) := by decide +kernel
theorem eX6_bringCells_142 : Ev 61 142 (ls) (w :: .ref a :: st) h r ↔ Evh 61 145 ls st (mn_pf h a 6 8 w) r := ev_putf iX6_bringCells_142 (by decide +kernel) (by decide +kernel)
theorem iX6_bringCells_145 : mn_ins 61 145 = some (6, false, .iinc 4 1, 3) := by decide +kernel
theorem eX6_bringCells_145 : Ev 61 145 (a0 :: a1 :: a2 :: a3 :: some (.int x) :: ls) (st) h r ↔ Ev 61 148 (a0 :: a1 :: a2 :: mn_k a3 :: some (.int (x + (nI 1))) :: ls) (st) h r := ev_iinc iX6_bringCells_145 rfl (by decide)
theorem iX6_bringCells_148 : mn_ins 61 148 = some (6, false, .goto (-133), 3) := by decide +kernel
theorem eX6_bringCells_148 : Ev 61 148 (ls) (st) h r ↔ Ev 61 15 (ls) (st) h r := ev_goto iX6_bringCells_148 (by decide)
theorem iX6_bringCells_151 : mn_ins 61 151 = some (6, false, .return_, 1) := by decide +kernel
theorem eX6_bringCells_151 : Ev 61 151 (ls) [] h r ↔ r = (h, .inl none) := ev_vret iX6_bringCells_151 (X := mnI_X6_bringCells) rfl rfl
theorem iX6_together_0 : mn_ins 62 0 = some (6, false, .iload_n 0, 1) := by decide +kernel
theorem eX6_together_0 : Ev 62 0 (some (.int x) :: ls) (st) h r ↔ Ev 62 1 (some (.int x) :: ls) (.int x :: st) h r := ev_iload_n iX6_together_0 rfl
theorem iX6_together_1 : mn_ins 62 1 = some (6, false, .lookupswitch 50 #[(1, 27), (2, 34)], 27) := by decide +kernel
theorem eX6_together_1_c0 : Ev 62 1 (ls) (.int (nI 0) :: st) h r ↔ Ev 62 51 (ls) (st) h r := ev_lsw iX6_together_1 (by decide +kernel) (off := 50) (by decide +kernel) (by decide)
theorem eX6_together_1_c1 : Ev 62 1 (ls) (.int (nI 1) :: st) h r ↔ Ev 62 28 (ls) (st) h r := ev_lsw iX6_together_1 (by decide +kernel) (off := 27) (by decide +kernel) (by decide)
theorem eX6_together_1_c2 : Ev 62 1 (ls) (.int (nI 2) :: st) h r ↔ Ev 62 35 (ls) (st) h r := ev_lsw iX6_together_1 (by decide +kernel) (off := 34) (by decide +kernel) (by decide)
theorem eX6_together_1_c3 : Ev 62 1 (ls) (.int (nI 3) :: st) h r ↔ Ev 62 51 (ls) (st) h r := ev_lsw iX6_together_1 (by decide +kernel) (off := 50) (by decide +kernel) (by decide)
theorem eX6_together_1_c4 : Ev 62 1 (ls) (.int (nI 4) :: st) h r ↔ Ev 62 51 (ls) (st) h r := ev_lsw iX6_together_1 (by decide +kernel) (off := 50) (by decide +kernel) (by decide)
theorem eX6_together_1_c5 : Ev 62 1 (ls) (.int (nI 5) :: st) h r ↔ Ev 62 51 (ls) (st) h r := ev_lsw iX6_together_1 (by decide +kernel) (off := 50) (by decide +kernel) (by decide)
theorem eX6_together_1_c6 : Ev 62 1 (ls) (.int (nI 6) :: st) h r ↔ Ev 62 51 (ls) (st) h r := ev_lsw iX6_together_1 (by decide +kernel) (off := 50) (by decide +kernel) (by decide)
theorem eX6_together_1_c7 : Ev 62 1 (ls) (.int (nI 7) :: st) h r ↔ Ev 62 51 (ls) (st) h r := ev_lsw iX6_together_1 (by decide +kernel) (off := 50) (by decide +kernel) (by decide)
theorem iX6_together_28 : mn_ins 62 28 = some (6, false, .lload_n 3, 1) := by decide +kernel
theorem eX6_together_28 : Ev 62 28 (a0 :: a1 :: a2 :: some (.long u) :: ls) (st) h r ↔ Ev 62 29 (a0 :: a1 :: a2 :: some (.long u) :: ls) (.long u :: st) h r := ev_lload_n iX6_together_28 rfl
theorem iX6_together_29 : mn_ins 62 29 = some (6, false, .lload 5, 2) := by decide +kernel
theorem eX6_together_29 : Ev 62 29 (a0 :: a1 :: a2 :: a3 :: a4 :: some (.long u) :: ls) (st) h r ↔ Ev 62 31 (a0 :: a1 :: a2 :: a3 :: a4 :: some (.long u) :: ls) (.long u :: st) h r := ev_lload iX6_together_29 rfl
theorem iX6_together_31 : mn_ins 62 31 = some (6, false, .ladd, 1) := by decide +kernel
theorem eX6_together_31 : Ev 62 31 (ls) (.long v :: .long u :: st) h r ↔ Ev 62 32 (ls) (.long (u + v) :: st) h r := ev_ladd iX6_together_31
theorem iX6_together_32 : mn_ins 62 32 = some (6, false, .lload_n 1, 1) := by decide +kernel
theorem eX6_together_32 : Ev 62 32 (a0 :: some (.long u) :: ls) (st) h r ↔ Ev 62 33 (a0 :: some (.long u) :: ls) (.long u :: st) h r := ev_lload_n iX6_together_32 rfl
theorem iX6_together_33 : mn_ins 62 33 = some (6, false, .lsub, 1) := by decide +kernel
theorem eX6_together_33 : Ev 62 33 (ls) (.long v :: .long u :: st) h r ↔ Ev 62 34 (ls) (.long (u - v) :: st) h r := ev_lsub iX6_together_33
theorem iX6_together_34 : mn_ins 62 34 = some (6, false, .lreturn, 1) := by decide +kernel
theorem eX6_together_34 : Ev 62 34 (ls) [.long u] h r ↔ r = (h, .inl (some (.long u))) := ev_lret iX6_together_34 (X := mnI_X6_together) rfl rfl
theorem iX6_together_35 : mn_ins 62 35 = some (6, false, .lload_n 3, 1) := by decide +kernel
theorem eX6_together_35 : Ev 62 35 (a0 :: a1 :: a2 :: some (.long u) :: ls) (st) h r ↔ Ev 62 36 (a0 :: a1 :: a2 :: some (.long u) :: ls) (.long u :: st) h r := ev_lload_n iX6_together_35 rfl
theorem iX6_together_36 : mn_ins 62 36 = some (6, false, .lload 5, 2) := by decide +kernel
theorem eX6_together_36 : Ev 62 36 (a0 :: a1 :: a2 :: a3 :: a4 :: some (.long u) :: ls) (st) h r ↔ Ev 62 38 (a0 :: a1 :: a2 :: a3 :: a4 :: some (.long u) :: ls) (.long u :: st) h r := ev_lload iX6_together_36 rfl
theorem iX6_together_38 : mn_ins 62 38 = some (6, false, .land, 1) := by decide +kernel
theorem eX6_together_38 : Ev 62 38 (ls) (.long v :: .long u :: st) h r ↔ Ev 62 39 (ls) (.long (u &&& v) :: st) h r := ev_land iX6_together_38
theorem iX6_together_39 : mn_ins 62 39 = some (6, false, .lload_n 3, 1) := by decide +kernel
theorem eX6_together_39 : Ev 62 39 (a0 :: a1 :: a2 :: some (.long u) :: ls) (st) h r ↔ Ev 62 40 (a0 :: a1 :: a2 :: some (.long u) :: ls) (.long u :: st) h r := ev_lload_n iX6_together_39 rfl
theorem iX6_together_40 : mn_ins 62 40 = some (6, false, .lload 5, 2) := by decide +kernel
theorem eX6_together_40 : Ev 62 40 (a0 :: a1 :: a2 :: a3 :: a4 :: some (.long u) :: ls) (st) h r ↔ Ev 62 42 (a0 :: a1 :: a2 :: a3 :: a4 :: some (.long u) :: ls) (.long u :: st) h r := ev_lload iX6_together_40 rfl
theorem iX6_together_42 : mn_ins 62 42 = some (6, false, .lor, 1) := by decide +kernel
theorem eX6_together_42 : Ev 62 42 (ls) (.long v :: .long u :: st) h r ↔ Ev 62 43 (ls) (.long (u ||| v) :: st) h r := ev_lor iX6_together_42
theorem iX6_together_43 : mn_ins 62 43 = some (6, false, .lload_n 1, 1) := by decide +kernel
theorem eX6_together_43 : Ev 62 43 (a0 :: some (.long u) :: ls) (st) h r ↔ Ev 62 44 (a0 :: some (.long u) :: ls) (.long u :: st) h r := ev_lload_n iX6_together_43 rfl
theorem iX6_together_44 : mn_ins 62 44 = some (6, false, .ldc2_w 212, 3) := by decide +kernel
theorem eX6_together_44 : Ev 62 44 (ls) (st) h r ↔ Ev 62 47 (ls) (.long (-1) :: st) h r := ev_ldc2 iX6_together_44 (by decide +kernel)
theorem iX6_together_47 : mn_ins 62 47 = some (6, false, .lxor, 1) := by decide +kernel
theorem eX6_together_47 : Ev 62 47 (ls) (.long v :: .long u :: st) h r ↔ Ev 62 48 (ls) (.long (u ^^^ v) :: st) h r := ev_lxor iX6_together_47
theorem iX6_together_48 : mn_ins 62 48 = some (6, false, .land, 1) := by decide +kernel
theorem eX6_together_48 : Ev 62 48 (ls) (.long v :: .long u :: st) h r ↔ Ev 62 49 (ls) (.long (u &&& v) :: st) h r := ev_land iX6_together_48
theorem iX6_together_49 : mn_ins 62 49 = some (6, false, .lor, 1) := by decide +kernel
theorem eX6_together_49 : Ev 62 49 (ls) (.long v :: .long u :: st) h r ↔ Ev 62 50 (ls) (.long (u ||| v) :: st) h r := ev_lor iX6_together_49
theorem iX6_together_50 : mn_ins 62 50 = some (6, false, .lreturn, 1) := by decide +kernel
theorem eX6_together_50 : Ev 62 50 (ls) [.long u] h r ↔ r = (h, .inl (some (.long u))) := ev_lret iX6_together_50 (X := mnI_X6_together) rfl rfl
theorem iX6_together_51 : mn_ins 62 51 = some (6, false, .lload 5, 2) := by decide +kernel
theorem eX6_together_51 : Ev 62 51 (a0 :: a1 :: a2 :: a3 :: a4 :: some (.long u) :: ls) (st) h r ↔ Ev 62 53 (a0 :: a1 :: a2 :: a3 :: a4 :: some (.long u) :: ls) (.long u :: st) h r := ev_lload iX6_together_51 rfl
theorem iX6_together_53 : mn_ins 62 53 = some (6, false, .lreturn, 1) := by decide +kernel
theorem eX6_together_53 : Ev 62 53 (ls) [.long u] h r ↔ r = (h, .inl (some (.long u))) := ev_lret iX6_together_53 (X := mnI_X6_together) rfl rfl
theorem iX6_layTogether_0 : mn_ins 63 0 = some (6, false, .aload_n 0, 1) := by decide +kernel
theorem eX6_layTogether_0 : Ev 63 0 (some (.ref a) :: ls) (st) h r ↔ Ev 63 1 (some (.ref a) :: ls) (.ref a :: st) h r := ev_aload_n iX6_layTogether_0 rfl rfl
theorem iX6_layTogether_1 : mn_ins 63 1 = some (6, false, .invokevirtual 214, 3) := by decide +kernel
theorem eX6_layTogether_1 : Ev 63 1 (ls) (.ref b :: st) h r ↔ Evr true (decide (mn_cats st ≤ 8) && mn_isc h b 6) 63 1 ls st h.2.2.1 h.2.2.2 (Cl 64 (.ref b :: []) h.1 h.2.1) r := Ev_V (As := []) iX6_layTogether_1 (by decide +kernel) (x := mnI_X6_layTogether) (x2 := mnI_X6_markNeeded) rfl rfl rfl (by decide +kernel) (Nat.le_of_ble_eq_true rfl) rfl
theorem iX6_layTogether_4 : mn_ins 63 4 = some (6, false, .aload_n 0, 1) := by decide +kernel
theorem eX6_layTogether_4 : Ev 63 4 (some (.ref a) :: ls) (st) h r ↔ Ev 63 5 (some (.ref a) :: ls) (.ref a :: st) h r := ev_aload_n iX6_layTogether_4 rfl rfl
theorem iX6_layTogether_5 : mn_ins 63 5 = some (6, false, .getfield 52, 3) := by decide +kernel
theorem eX6_layTogether_5 : Ev 63 5 (ls) (.ref a :: st) h r ↔ Evk 63 8 ls (mn_gf h a 6 6) st h r := ev_getf iX6_layTogether_5 (by decide +kernel)
theorem iX6_layTogether_8 : mn_ins 63 8 = some (6, false, .iconst 1, 1) := by decide +kernel
theorem eX6_layTogether_8 : Ev 63 8 (ls) (st) h r ↔ Ev 63 9 (ls) (.int (nI 1) :: st) h r := ev_iconst iX6_layTogether_8 (by decide)
theorem iX6_layTogether_9 : mn_ins 63 9 = some (6, false, .isub, 1) := by decide +kernel
theorem eX6_layTogether_9 : Ev 63 9 (ls) (.int y :: .int x :: st) h r ↔ Ev 63 10 (ls) (.int (x - y) :: st) h r := ev_isub iX6_layTogether_9
theorem iX6_layTogether_10 : mn_ins 63 10 = some (6, false, .istore_n 1, 1) := by decide +kernel
theorem eX6_layTogether_10 : Ev 63 10 (a0 :: a1 :: ls) (.int x :: st) h r ↔ Ev 63 11 (mn_k a0 :: some (.int x) :: ls) (st) h r := ev_istore_n iX6_layTogether_10 (by show 1 < _; simp only [List.length_cons]; omega)
theorem iX6_layTogether_11 : mn_ins 63 11 = some (6, false, .iload_n 1, 1) := by decide +kernel
theorem eX6_layTogether_11 : Ev 63 11 (a0 :: some (.int x) :: ls) (st) h r ↔ Ev 63 12 (a0 :: some (.int x) :: ls) (.int x :: st) h r := ev_iload_n iX6_layTogether_11 rfl
theorem iX6_layTogether_12 : mn_ins 63 12 = some (6, false, .ifCond .lt 43, 3) := by decide +kernel
theorem eX6_layTogether_12 : Ev 63 12 (ls) (.int x :: st) h r ↔ if x < nI 0 then Ev 63 55 (ls) (st) h r else Ev 63 15 (ls) (st) h r := ev_iflt iX6_layTogether_12 (by decide)
theorem iX6_layTogether_15 : mn_ins 63 15 = some (6, false, .aload_n 0, 1) := by decide +kernel
theorem eX6_layTogether_15 : Ev 63 15 (some (.ref a) :: ls) (st) h r ↔ Ev 63 16 (some (.ref a) :: ls) (.ref a :: st) h r := ev_aload_n iX6_layTogether_15 rfl rfl
theorem iX6_layTogether_16 : mn_ins 63 16 = some (6, false, .getfield 22, 3) := by decide +kernel
theorem eX6_layTogether_16 : Ev 63 16 (ls) (.ref a :: st) h r ↔ Evk 63 19 ls (mn_gf h a 6 3) st h r := ev_getf iX6_layTogether_16 (by decide +kernel)
theorem iX6_layTogether_19 : mn_ins 63 19 = some (6, false, .iload_n 1, 1) := by decide +kernel
theorem eX6_layTogether_19 : Ev 63 19 (a0 :: some (.int x) :: ls) (st) h r ↔ Ev 63 20 (a0 :: some (.int x) :: ls) (.int x :: st) h r := ev_iload_n iX6_layTogether_19 rfl
theorem iX6_layTogether_20 : mn_ins 63 20 = some (6, false, .aaload, 1) := by decide +kernel
theorem eX6_layTogether_20 : Ev 63 20 (ls) (.int x :: .ref a :: st) h r ↔ Evk 63 21 ls (mn_aq h a x) st h r := ev_aald iX6_layTogether_20
theorem iX6_layTogether_21 : mn_ins 63 21 = some (6, false, .getfield 217, 3) := by decide +kernel
theorem eX6_layTogether_21 : Ev 63 21 (ls) (.ref a :: st) h r ↔ Evk 63 24 ls (mn_gf h a 4 3) st h r := ev_getf iX6_layTogether_21 (by decide +kernel)
theorem iX6_layTogether_24 : mn_ins 63 24 = some (6, false, .ifCond .eq 25, 3) := by decide +kernel
theorem eX6_layTogether_24 : Ev 63 24 (ls) (.int x :: st) h r ↔ if x = nI 0 then Ev 63 49 (ls) (st) h r else Ev 63 27 (ls) (st) h r := ev_ifeq iX6_layTogether_24 (by decide)
theorem iX6_layTogether_27 : mn_ins 63 27 = some (6, false, .aload_n 0, 1) := by decide +kernel
theorem eX6_layTogether_27 : Ev 63 27 (some (.ref a) :: ls) (st) h r ↔ Ev 63 28 (some (.ref a) :: ls) (.ref a :: st) h r := ev_aload_n iX6_layTogether_27 rfl rfl
theorem iX6_layTogether_28 : mn_ins 63 28 = some (6, false, .getfield 22, 3) := by decide +kernel
theorem eX6_layTogether_28 : Ev 63 28 (ls) (.ref a :: st) h r ↔ Evk 63 31 ls (mn_gf h a 6 3) st h r := ev_getf iX6_layTogether_28 (by decide +kernel)
theorem iX6_layTogether_31 : mn_ins 63 31 = some (6, false, .iload_n 1, 1) := by decide +kernel
theorem eX6_layTogether_31 : Ev 63 31 (a0 :: some (.int x) :: ls) (st) h r ↔ Ev 63 32 (a0 :: some (.int x) :: ls) (.int x :: st) h r := ev_iload_n iX6_layTogether_31 rfl
theorem iX6_layTogether_32 : mn_ins 63 32 = some (6, false, .aaload, 1) := by decide +kernel
theorem eX6_layTogether_32 : Ev 63 32 (ls) (.int x :: .ref a :: st) h r ↔ Evk 63 33 ls (mn_aq h a x) st h r := ev_aald iX6_layTogether_32
theorem iX6_layTogether_33 : mn_ins 63 33 = some (6, false, .getfield 221, 3) := by decide +kernel
theorem eX6_layTogether_33 : Ev 63 33 (ls) (.ref a :: st) h r ↔ Evk 63 36 ls (mn_gf h a 4 4) st h r := ev_getf iX6_layTogether_33 (by decide +kernel)
theorem iX6_layTogether_36 : mn_ins 63 36 = some (6, false, .ifCond .ne 13, 3) := by decide +kernel
theorem eX6_layTogether_36 : Ev 63 36 (ls) (.int x :: st) h r ↔ if x = nI 0 then Ev 63 39 (ls) (st) h r else Ev 63 49 (ls) (st) h r := ev_ifne iX6_layTogether_36 (by decide)
theorem iX6_layTogether_39 : mn_ins 63 39 = some (6, false, .aload_n 0, 1) := by decide +kernel
theorem eX6_layTogether_39 : Ev 63 39 (some (.ref a) :: ls) (st) h r ↔ Ev 63 40 (some (.ref a) :: ls) (.ref a :: st) h r := ev_aload_n iX6_layTogether_39 rfl rfl
theorem iX6_layTogether_40 : mn_ins 63 40 = some (6, false, .aload_n 0, 1) := by decide +kernel
theorem eX6_layTogether_40 : Ev 63 40 (some (.ref a) :: ls) (st) h r ↔ Ev 63 41 (some (.ref a) :: ls) (.ref a :: st) h r := ev_aload_n iX6_layTogether_40 rfl rfl
theorem iX6_layTogether_41 : mn_ins 63 41 = some (6, false, .getfield 22, 3) := by decide +kernel
theorem eX6_layTogether_41 : Ev 63 41 (ls) (.ref a :: st) h r ↔ Evk 63 44 ls (mn_gf h a 6 3) st h r := ev_getf iX6_layTogether_41 (by decide +kernel)
theorem iX6_layTogether_44 : mn_ins 63 44 = some (6, false, .iload_n 1, 1) := by decide +kernel
theorem eX6_layTogether_44 : Ev 63 44 (a0 :: some (.int x) :: ls) (st) h r ↔ Ev 63 45 (a0 :: some (.int x) :: ls) (.int x :: st) h r := ev_iload_n iX6_layTogether_44 rfl
theorem iX6_layTogether_45 : mn_ins 63 45 = some (6, false, .aaload, 1) := by decide +kernel
theorem eX6_layTogether_45 : Ev 63 45 (ls) (.int x :: .ref a :: st) h r ↔ Evk 63 46 ls (mn_aq h a x) st h r := ev_aald iX6_layTogether_45
theorem iX6_layTogether_46 : mn_ins 63 46 = some (6, false, .invokevirtual 224, 3) := by decide +kernel
theorem EgX6_layTogether_46 (hw3 : (mn_r w3).isSome = true) : Ev 63 46 (ls) (w3 :: .ref b :: st) h r ↔ Evr true (decide (mn_cats st ≤ 8) && mn_isc h b 6) 63 46 ls st h.2.2.1 h.2.2.2 (Cl 65 (.ref b :: [w3]) h.1 h.2.1) r := Ev_V (As := [w3]) iX6_layTogether_46 (by decide +kernel) (x := mnI_X6_layTogether) (x2 := mnI_X6_layAway) rfl rfl rfl (by decide +kernel) (by rcases mn_r_is hw3 with ⟨_, rfl⟩ | rfl <;> exact Nat.le_of_ble_eq_true rfl) rfl
theorem eX6_layTogether_46 {cw3 : Nat} : Ev 63 46 (ls) ((.ref cw3) :: .ref b :: st) h r ↔ Evr true (decide (mn_cats st ≤ 8) && mn_isc h b 6) 63 46 ls st h.2.2.1 h.2.2.2 (Cl 65 (.ref b :: [(.ref cw3)]) h.1 h.2.1) r := EgX6_layTogether_46 rfl
theorem iX6_layTogether_49 : mn_ins 63 49 = some (6, false, .iinc 1 (-1), 3) := by decide +kernel
theorem eX6_layTogether_49 : Ev 63 49 (a0 :: some (.int x) :: ls) (st) h r ↔ Ev 63 52 (mn_k a0 :: some (.int (x + (-1))) :: ls) (st) h r := ev_iinc iX6_layTogether_49 rfl (by decide)
theorem iX6_layTogether_52 : mn_ins 63 52 = some (6, false, .goto (-41), 3) := by decide +kernel
theorem eX6_layTogether_52 : Ev 63 52 (ls) (st) h r ↔ Ev 63 11 (ls) (st) h r := ev_goto iX6_layTogether_52 (by decide)
theorem iX6_layTogether_55 : mn_ins 63 55 = some (6, false, .return_, 1) := by decide +kernel
theorem eX6_layTogether_55 : Ev 63 55 (ls) [] h r ↔ r = (h, .inl none) := ev_vret iX6_layTogether_55 (X := mnI_X6_layTogether) rfl rfl
theorem iX6_markNeeded_0 : mn_ins 64 0 = some (6, false, .iconst 0, 1) := by decide +kernel
theorem eX6_markNeeded_0 : Ev 64 0 (ls) (st) h r ↔ Ev 64 1 (ls) (.int (nI 0) :: st) h r := ev_iconst iX6_markNeeded_0 (by decide)
theorem iX6_markNeeded_1 : mn_ins 64 1 = some (6, false, .istore_n 1, 1) := by decide +kernel
theorem eX6_markNeeded_1 : Ev 64 1 (a0 :: a1 :: ls) (.int x :: st) h r ↔ Ev 64 2 (mn_k a0 :: some (.int x) :: ls) (st) h r := ev_istore_n iX6_markNeeded_1 (by show 1 < _; simp only [List.length_cons]; omega)
theorem iX6_markNeeded_2 : mn_ins 64 2 = some (6, false, .iload_n 1, 1) := by decide +kernel
theorem eX6_markNeeded_2 : Ev 64 2 (a0 :: some (.int x) :: ls) (st) h r ↔ Ev 64 3 (a0 :: some (.int x) :: ls) (.int x :: st) h r := ev_iload_n iX6_markNeeded_2 rfl
theorem iX6_markNeeded_3 : mn_ins 64 3 = some (6, false, .aload_n 0, 1) := by decide +kernel
theorem eX6_markNeeded_3 : Ev 64 3 (some (.ref a) :: ls) (st) h r ↔ Ev 64 4 (some (.ref a) :: ls) (.ref a :: st) h r := ev_aload_n iX6_markNeeded_3 rfl rfl
theorem iX6_markNeeded_4 : mn_ins 64 4 = some (6, false, .getfield 52, 3) := by decide +kernel
theorem eX6_markNeeded_4 : Ev 64 4 (ls) (.ref a :: st) h r ↔ Evk 64 7 ls (mn_gf h a 6 6) st h r := ev_getf iX6_markNeeded_4 (by decide +kernel)
theorem iX6_markNeeded_7 : mn_ins 64 7 = some (6, false, .if_icmp .ge 19, 3) := by decide +kernel
theorem eX6_markNeeded_7 : Ev 64 7 (ls) (.int y :: .int x :: st) h r ↔ if y ≤ x then Ev 64 26 (ls) (st) h r else Ev 64 10 (ls) (st) h r := ev_cmpge iX6_markNeeded_7 (by decide)
theorem iX6_markNeeded_10 : mn_ins 64 10 = some (6, false, .aload_n 0, 1) := by decide +kernel
theorem eX6_markNeeded_10 : Ev 64 10 (some (.ref a) :: ls) (st) h r ↔ Ev 64 11 (some (.ref a) :: ls) (.ref a :: st) h r := ev_aload_n iX6_markNeeded_10 rfl rfl
theorem iX6_markNeeded_11 : mn_ins 64 11 = some (6, false, .getfield 22, 3) := by decide +kernel
theorem eX6_markNeeded_11 : Ev 64 11 (ls) (.ref a :: st) h r ↔ Evk 64 14 ls (mn_gf h a 6 3) st h r := ev_getf iX6_markNeeded_11 (by decide +kernel)
theorem iX6_markNeeded_14 : mn_ins 64 14 = some (6, false, .iload_n 1, 1) := by decide +kernel
theorem eX6_markNeeded_14 : Ev 64 14 (a0 :: some (.int x) :: ls) (st) h r ↔ Ev 64 15 (a0 :: some (.int x) :: ls) (.int x :: st) h r := ev_iload_n iX6_markNeeded_14 rfl
theorem iX6_markNeeded_15 : mn_ins 64 15 = some (6, false, .aaload, 1) := by decide +kernel
theorem eX6_markNeeded_15 : Ev 64 15 (ls) (.int x :: .ref a :: st) h r ↔ Evk 64 16 ls (mn_aq h a x) st h r := ev_aald iX6_markNeeded_15
theorem iX6_markNeeded_16 : mn_ins 64 16 = some (6, false, .iconst 0, 1) := by decide +kernel
theorem eX6_markNeeded_16 : Ev 64 16 (ls) (st) h r ↔ Ev 64 17 (ls) (.int (nI 0) :: st) h r := ev_iconst iX6_markNeeded_16 (by decide)
theorem iX6_markNeeded_17 : mn_ins 64 17 = some (6, false, .putfield 221, 3) := by decide +kernel
theorem eX6_markNeeded_17 : Ev 64 17 (ls) (w :: .ref a :: st) h r ↔ Evh 64 20 ls st (mn_pf h a 4 4 w) r := ev_putf iX6_markNeeded_17 (by decide +kernel) (by decide +kernel)
theorem iX6_markNeeded_20 : mn_ins 64 20 = some (6, false, .iinc 1 1, 3) := by decide +kernel
theorem eX6_markNeeded_20 : Ev 64 20 (a0 :: some (.int x) :: ls) (st) h r ↔ Ev 64 23 (mn_k a0 :: some (.int (x + (nI 1))) :: ls) (st) h r := ev_iinc iX6_markNeeded_20 rfl (by decide)
theorem iX6_markNeeded_23 : mn_ins 64 23 = some (6, false, .goto (-21), 3) := by decide +kernel
theorem eX6_markNeeded_23 : Ev 64 23 (ls) (st) h r ↔ Ev 64 2 (ls) (st) h r := ev_goto iX6_markNeeded_23 (by decide)
theorem iX6_markNeeded_26 : mn_ins 64 26 = some (6, false, .iconst 0, 1) := by decide +kernel
theorem eX6_markNeeded_26 : Ev 64 26 (ls) (st) h r ↔ Ev 64 27 (ls) (.int (nI 0) :: st) h r := ev_iconst iX6_markNeeded_26 (by decide)
theorem iX6_markNeeded_27 : mn_ins 64 27 = some (6, false, .istore_n 1, 1) := by decide +kernel
theorem eX6_markNeeded_27 : Ev 64 27 (a0 :: a1 :: ls) (.int x :: st) h r ↔ Ev 64 28 (mn_k a0 :: some (.int x) :: ls) (st) h r := ev_istore_n iX6_markNeeded_27 (by show 1 < _; simp only [List.length_cons]; omega)
theorem iX6_markNeeded_28 : mn_ins 64 28 = some (6, false, .iload_n 1, 1) := by decide +kernel
theorem eX6_markNeeded_28 : Ev 64 28 (a0 :: some (.int x) :: ls) (st) h r ↔ Ev 64 29 (a0 :: some (.int x) :: ls) (.int x :: st) h r := ev_iload_n iX6_markNeeded_28 rfl
theorem iX6_markNeeded_29 : mn_ins 64 29 = some (6, false, .aload_n 0, 1) := by decide +kernel
theorem eX6_markNeeded_29 : Ev 64 29 (some (.ref a) :: ls) (st) h r ↔ Ev 64 30 (some (.ref a) :: ls) (.ref a :: st) h r := ev_aload_n iX6_markNeeded_29 rfl rfl
theorem iX6_markNeeded_30 : mn_ins 64 30 = some (6, false, .getfield 41, 3) := by decide +kernel
theorem eX6_markNeeded_30 : Ev 64 30 (ls) (.ref a :: st) h r ↔ Evk 64 33 ls (mn_gf h a 6 5) st h r := ev_getf iX6_markNeeded_30 (by decide +kernel)
theorem iX6_markNeeded_33 : mn_ins 64 33 = some (6, false, .if_icmp .ge 60, 3) := by decide +kernel
theorem eX6_markNeeded_33 : Ev 64 33 (ls) (.int y :: .int x :: st) h r ↔ if y ≤ x then Ev 64 93 (ls) (st) h r else Ev 64 36 (ls) (st) h r := ev_cmpge iX6_markNeeded_33 (by decide)
theorem iX6_markNeeded_36 : mn_ins 64 36 = some (6, false, .aload_n 0, 1) := by decide +kernel
theorem eX6_markNeeded_36 : Ev 64 36 (some (.ref a) :: ls) (st) h r ↔ Ev 64 37 (some (.ref a) :: ls) (.ref a :: st) h r := ev_aload_n iX6_markNeeded_36 rfl rfl
theorem iX6_markNeeded_37 : mn_ins 64 37 = some (6, false, .getfield 11, 3) := by decide +kernel
theorem eX6_markNeeded_37 : Ev 64 37 (ls) (.ref a :: st) h r ↔ Evk 64 40 ls (mn_gf h a 6 1) st h r := ev_getf iX6_markNeeded_37 (by decide +kernel)
theorem iX6_markNeeded_40 : mn_ins 64 40 = some (6, false, .iload_n 1, 1) := by decide +kernel
theorem eX6_markNeeded_40 : Ev 64 40 (a0 :: some (.int x) :: ls) (st) h r ↔ Ev 64 41 (a0 :: some (.int x) :: ls) (.int x :: st) h r := ev_iload_n iX6_markNeeded_40 rfl
theorem iX6_markNeeded_41 : mn_ins 64 41 = some (6, false, .aaload, 1) := by decide +kernel
theorem eX6_markNeeded_41 : Ev 64 41 (ls) (.int x :: .ref a :: st) h r ↔ Evk 64 42 ls (mn_aq h a x) st h r := ev_aald iX6_markNeeded_41
theorem iX6_markNeeded_42 : mn_ins 64 42 = some (6, false, .getfield 49, 3) := by decide +kernel
theorem eX6_markNeeded_42 : Ev 64 42 (ls) (.ref a :: st) h r ↔ Evk 64 45 ls (mn_gf h a 5 4) st h r := ev_getf iX6_markNeeded_42 (by decide +kernel)
theorem iX6_markNeeded_45 : mn_ins 64 45 = some (6, false, .iconst 3, 1) := by decide +kernel
theorem eX6_markNeeded_45 : Ev 64 45 (ls) (st) h r ↔ Ev 64 46 (ls) (.int (nI 3) :: st) h r := ev_iconst iX6_markNeeded_45 (by decide)
theorem iX6_markNeeded_46 : mn_ins 64 46 = some (6, false, .if_icmp .eq 41, 3) := by decide +kernel
theorem eX6_markNeeded_46 : Ev 64 46 (ls) (.int y :: .int x :: st) h r ↔ if x = y then Ev 64 87 (ls) (st) h r else Ev 64 49 (ls) (st) h r := ev_cmpeq iX6_markNeeded_46 (by decide)
theorem iX6_markNeeded_49 : mn_ins 64 49 = some (6, false, .aload_n 0, 1) := by decide +kernel
theorem eX6_markNeeded_49 : Ev 64 49 (some (.ref a) :: ls) (st) h r ↔ Ev 64 50 (some (.ref a) :: ls) (.ref a :: st) h r := ev_aload_n iX6_markNeeded_49 rfl rfl
theorem iX6_markNeeded_50 : mn_ins 64 50 = some (6, false, .getfield 11, 3) := by decide +kernel
theorem eX6_markNeeded_50 : Ev 64 50 (ls) (.ref a :: st) h r ↔ Evk 64 53 ls (mn_gf h a 6 1) st h r := ev_getf iX6_markNeeded_50 (by decide +kernel)
theorem iX6_markNeeded_53 : mn_ins 64 53 = some (6, false, .iload_n 1, 1) := by decide +kernel
theorem eX6_markNeeded_53 : Ev 64 53 (a0 :: some (.int x) :: ls) (st) h r ↔ Ev 64 54 (a0 :: some (.int x) :: ls) (.int x :: st) h r := ev_iload_n iX6_markNeeded_53 rfl
theorem iX6_markNeeded_54 : mn_ins 64 54 = some (6, false, .aaload, 1) := by decide +kernel
theorem eX6_markNeeded_54 : Ev 64 54 (ls) (.int x :: .ref a :: st) h r ↔ Evk 64 55 ls (mn_aq h a x) st h r := ev_aald iX6_markNeeded_54
theorem iX6_markNeeded_55 : mn_ins 64 55 = some (6, false, .getfield 103, 3) := by decide +kernel
theorem eX6_markNeeded_55 : Ev 64 55 (ls) (.ref a :: st) h r ↔ Evk 64 58 ls (mn_gf h a 5 11) st h r := ev_getf iX6_markNeeded_55 (by decide +kernel)
theorem iX6_markNeeded_58 : mn_ins 64 58 = some (6, false, .iconst 1, 1) := by decide +kernel
theorem eX6_markNeeded_58 : Ev 64 58 (ls) (st) h r ↔ Ev 64 59 (ls) (.int (nI 1) :: st) h r := ev_iconst iX6_markNeeded_58 (by decide)
theorem iX6_markNeeded_59 : mn_ins 64 59 = some (6, false, .putfield 221, 3) := by decide +kernel
theorem eX6_markNeeded_59 : Ev 64 59 (ls) (w :: .ref a :: st) h r ↔ Evh 64 62 ls st (mn_pf h a 4 4 w) r := ev_putf iX6_markNeeded_59 (by decide +kernel) (by decide +kernel)
theorem iX6_markNeeded_62 : mn_ins 64 62 = some (6, false, .aload_n 0, 1) := by decide +kernel
theorem eX6_markNeeded_62 : Ev 64 62 (some (.ref a) :: ls) (st) h r ↔ Ev 64 63 (some (.ref a) :: ls) (.ref a :: st) h r := ev_aload_n iX6_markNeeded_62 rfl rfl
theorem iX6_markNeeded_63 : mn_ins 64 63 = some (6, false, .getfield 11, 3) := by decide +kernel
theorem eX6_markNeeded_63 : Ev 64 63 (ls) (.ref a :: st) h r ↔ Evk 64 66 ls (mn_gf h a 6 1) st h r := ev_getf iX6_markNeeded_63 (by decide +kernel)
theorem iX6_markNeeded_66 : mn_ins 64 66 = some (6, false, .iload_n 1, 1) := by decide +kernel
theorem eX6_markNeeded_66 : Ev 64 66 (a0 :: some (.int x) :: ls) (st) h r ↔ Ev 64 67 (a0 :: some (.int x) :: ls) (.int x :: st) h r := ev_iload_n iX6_markNeeded_66 rfl
theorem iX6_markNeeded_67 : mn_ins 64 67 = some (6, false, .aaload, 1) := by decide +kernel
theorem eX6_markNeeded_67 : Ev 64 67 (ls) (.int x :: .ref a :: st) h r ↔ Evk 64 68 ls (mn_aq h a x) st h r := ev_aald iX6_markNeeded_67
theorem iX6_markNeeded_68 : mn_ins 64 68 = some (6, false, .getfield 190, 3) := by decide +kernel
theorem eX6_markNeeded_68 : Ev 64 68 (ls) (.ref a :: st) h r ↔ Evk 64 71 ls (mn_gf h a 5 10) st h r := ev_getf iX6_markNeeded_68 (by decide +kernel)
theorem iX6_markNeeded_71 : mn_ins 64 71 = some (6, false, .ifnull 16, 3) := by decide +kernel
theorem eX6_markNeeded_71 : Ev 64 71 (ls) (va_rf o1 :: st) h r ↔ if o1 = none then Ev 64 87 (ls) (st) h r else Ev 64 74 (ls) (st) h r := ev_ifnull iX6_markNeeded_71 (by decide) (mr_rf _)
theorem eX6_markNeeded_71r : Ev 64 71 (ls) (.ref a :: st) h r ↔ Ev 64 74 (ls) (st) h r := (ev_ifnull (t := 87) (w := .ref a) (x := some a) iX6_markNeeded_71 (by decide) rfl).trans (by rw [if_neg (by simp)])
theorem eX6_markNeeded_71n : Ev 64 71 (ls) (.null :: st) h r ↔ Ev 64 87 (ls) (st) h r := (ev_ifnull (t := 87) (w := .null) (x := none) iX6_markNeeded_71 (by decide) rfl).trans (by rw [if_pos rfl])
theorem iX6_markNeeded_74 : mn_ins 64 74 = some (6, false, .aload_n 0, 1) := by decide +kernel
theorem eX6_markNeeded_74 : Ev 64 74 (some (.ref a) :: ls) (st) h r ↔ Ev 64 75 (some (.ref a) :: ls) (.ref a :: st) h r := ev_aload_n iX6_markNeeded_74 rfl rfl
theorem iX6_markNeeded_75 : mn_ins 64 75 = some (6, false, .getfield 11, 3) := by decide +kernel
theorem eX6_markNeeded_75 : Ev 64 75 (ls) (.ref a :: st) h r ↔ Evk 64 78 ls (mn_gf h a 6 1) st h r := ev_getf iX6_markNeeded_75 (by decide +kernel)
theorem iX6_markNeeded_78 : mn_ins 64 78 = some (6, false, .iload_n 1, 1) := by decide +kernel
theorem eX6_markNeeded_78 : Ev 64 78 (a0 :: some (.int x) :: ls) (st) h r ↔ Ev 64 79 (a0 :: some (.int x) :: ls) (.int x :: st) h r := ev_iload_n iX6_markNeeded_78 rfl
theorem iX6_markNeeded_79 : mn_ins 64 79 = some (6, false, .aaload, 1) := by decide +kernel
theorem eX6_markNeeded_79 : Ev 64 79 (ls) (.int x :: .ref a :: st) h r ↔ Evk 64 80 ls (mn_aq h a x) st h r := ev_aald iX6_markNeeded_79
theorem iX6_markNeeded_80 : mn_ins 64 80 = some (6, false, .getfield 190, 3) := by decide +kernel
theorem eX6_markNeeded_80 : Ev 64 80 (ls) (.ref a :: st) h r ↔ Evk 64 83 ls (mn_gf h a 5 10) st h r := ev_getf iX6_markNeeded_80 (by decide +kernel)
theorem iX6_markNeeded_83 : mn_ins 64 83 = some (6, false, .iconst 1, 1) := by decide +kernel
theorem eX6_markNeeded_83 : Ev 64 83 (ls) (st) h r ↔ Ev 64 84 (ls) (.int (nI 1) :: st) h r := ev_iconst iX6_markNeeded_83 (by decide)
theorem iX6_markNeeded_84 : mn_ins 64 84 = some (6, false, .putfield 221, 3) := by decide +kernel
theorem eX6_markNeeded_84 : Ev 64 84 (ls) (w :: .ref a :: st) h r ↔ Evh 64 87 ls st (mn_pf h a 4 4 w) r := ev_putf iX6_markNeeded_84 (by decide +kernel) (by decide +kernel)
theorem iX6_markNeeded_87 : mn_ins 64 87 = some (6, false, .iinc 1 1, 3) := by decide +kernel
theorem eX6_markNeeded_87 : Ev 64 87 (a0 :: some (.int x) :: ls) (st) h r ↔ Ev 64 90 (mn_k a0 :: some (.int (x + (nI 1))) :: ls) (st) h r := ev_iinc iX6_markNeeded_87 rfl (by decide)
theorem iX6_markNeeded_90 : mn_ins 64 90 = some (6, false, .goto (-62), 3) := by decide +kernel
theorem eX6_markNeeded_90 : Ev 64 90 (ls) (st) h r ↔ Ev 64 28 (ls) (st) h r := ev_goto iX6_markNeeded_90 (by decide)
theorem iX6_markNeeded_93 : mn_ins 64 93 = some (6, false, .return_, 1) := by decide +kernel
theorem eX6_markNeeded_93 : Ev 64 93 (ls) [] h r ↔ r = (h, .inl none) := ev_vret iX6_markNeeded_93 (X := mnI_X6_markNeeded) rfl rfl
theorem iX6_layAway_0 : mn_ins 65 0 = some (6, false, .iconst 0, 1) := by decide +kernel
theorem eX6_layAway_0 : Ev 65 0 (ls) (st) h r ↔ Ev 65 1 (ls) (.int (nI 0) :: st) h r := ev_iconst iX6_layAway_0 (by decide)
theorem iX6_layAway_1 : mn_ins 65 1 = some (6, false, .istore_n 2, 1) := by decide +kernel
theorem eX6_layAway_1 : Ev 65 1 (a0 :: a1 :: a2 :: ls) (.int x :: st) h r ↔ Ev 65 2 (a0 :: mn_k a1 :: some (.int x) :: ls) (st) h r := ev_istore_n iX6_layAway_1 (by show 2 < _; simp only [List.length_cons]; omega)
theorem iX6_layAway_2 : mn_ins 65 2 = some (6, false, .aconst_null, 1) := by decide +kernel
theorem eX6_layAway_2 : Ev 65 2 (ls) (st) h r ↔ Ev 65 3 (ls) (.null :: st) h r := ev_null iX6_layAway_2
theorem iX6_layAway_3 : mn_ins 65 3 = some (6, false, .astore_n 3, 1) := by decide +kernel
theorem eX6_layAway_3 : Ev 65 3 (a0 :: a1 :: a2 :: a3 :: ls) (.ref a :: st) h r ↔ Ev 65 4 (a0 :: a1 :: mn_k a2 :: some (.ref a) :: ls) (st) h r := ev_astore_n iX6_layAway_3 (by show 3 < _; simp only [List.length_cons]; omega) rfl
theorem eX6_layAway_3n : Ev 65 3 (a0 :: a1 :: a2 :: a3 :: ls) (.null :: st) h r ↔ Ev 65 4 (a0 :: a1 :: mn_k a2 :: some (.null) :: ls) (st) h r := ev_astore_n iX6_layAway_3 (by show 3 < _; simp only [List.length_cons]; omega) rfl
theorem eX6_layAway_3t : Ev 65 3 (a0 :: a1 :: a2 :: a3 :: ls) (tkv o1 :: st) h r ↔ Ev 65 4 (a0 :: a1 :: mn_k a2 :: some (tkv o1) :: ls) (st) h r := ev_astore_n iX6_layAway_3 (by show 3 < _; simp only [List.length_cons]; omega) tkv_r
theorem eX6_layAway_3s : Ev 65 3 (a0 :: a1 :: a2 :: a3 :: ls) (sgv o1 :: st) h r ↔ Ev 65 4 (a0 :: a1 :: mn_k a2 :: some (sgv o1) :: ls) (st) h r := ev_astore_n iX6_layAway_3 (by show 3 < _; simp only [List.length_cons]; omega) sgv_r
theorem eX6_layAway_3c : Ev 65 3 (a0 :: a1 :: a2 :: a3 :: ls) (cdv o1 :: st) h r ↔ Ev 65 4 (a0 :: a1 :: mn_k a2 :: some (cdv o1) :: ls) (st) h r := ev_astore_n iX6_layAway_3 (by show 3 < _; simp only [List.length_cons]; omega) cdv_r
theorem iX6_layAway_4 : mn_ins 65 4 = some (6, false, .iconst 0, 1) := by decide +kernel
theorem eX6_layAway_4 : Ev 65 4 (ls) (st) h r ↔ Ev 65 5 (ls) (.int (nI 0) :: st) h r := ev_iconst iX6_layAway_4 (by decide)
theorem iX6_layAway_5 : mn_ins 65 5 = some (6, false, .istore 4, 2) := by decide +kernel
theorem eX6_layAway_5 : Ev 65 5 (a0 :: a1 :: a2 :: a3 :: a4 :: ls) (.int x :: st) h r ↔ Ev 65 7 (a0 :: a1 :: a2 :: mn_k a3 :: some (.int x) :: ls) (st) h r := ev_istore iX6_layAway_5 (by show 4 < _; simp only [List.length_cons]; omega)
theorem iX6_layAway_7 : mn_ins 65 7 = some (6, false, .iload 4, 2) := by decide +kernel
theorem eX6_layAway_7 : Ev 65 7 (a0 :: a1 :: a2 :: a3 :: some (.int x) :: ls) (st) h r ↔ Ev 65 9 (a0 :: a1 :: a2 :: a3 :: some (.int x) :: ls) (.int x :: st) h r := ev_iload iX6_layAway_7 rfl
theorem iX6_layAway_9 : mn_ins 65 9 = some (6, false, .aload_n 0, 1) := by decide +kernel
theorem eX6_layAway_9 : Ev 65 9 (some (.ref a) :: ls) (st) h r ↔ Ev 65 10 (some (.ref a) :: ls) (.ref a :: st) h r := ev_aload_n iX6_layAway_9 rfl rfl
theorem iX6_layAway_10 : mn_ins 65 10 = some (6, false, .getfield 52, 3) := by decide +kernel
theorem eX6_layAway_10 : Ev 65 10 (ls) (.ref a :: st) h r ↔ Evk 65 13 ls (mn_gf h a 6 6) st h r := ev_getf iX6_layAway_10 (by decide +kernel)
theorem iX6_layAway_13 : mn_ins 65 13 = some (6, false, .if_icmp .ge 47, 3) := by decide +kernel
theorem eX6_layAway_13 : Ev 65 13 (ls) (.int y :: .int x :: st) h r ↔ if y ≤ x then Ev 65 60 (ls) (st) h r else Ev 65 16 (ls) (st) h r := ev_cmpge iX6_layAway_13 (by decide)
theorem iX6_layAway_16 : mn_ins 65 16 = some (6, false, .aload_n 0, 1) := by decide +kernel
theorem eX6_layAway_16 : Ev 65 16 (some (.ref a) :: ls) (st) h r ↔ Ev 65 17 (some (.ref a) :: ls) (.ref a :: st) h r := ev_aload_n iX6_layAway_16 rfl rfl
theorem iX6_layAway_17 : mn_ins 65 17 = some (6, false, .getfield 22, 3) := by decide +kernel
theorem eX6_layAway_17 : Ev 65 17 (ls) (.ref a :: st) h r ↔ Evk 65 20 ls (mn_gf h a 6 3) st h r := ev_getf iX6_layAway_17 (by decide +kernel)
theorem iX6_layAway_20 : mn_ins 65 20 = some (6, false, .iload 4, 2) := by decide +kernel
theorem eX6_layAway_20 : Ev 65 20 (a0 :: a1 :: a2 :: a3 :: some (.int x) :: ls) (st) h r ↔ Ev 65 22 (a0 :: a1 :: a2 :: a3 :: some (.int x) :: ls) (.int x :: st) h r := ev_iload iX6_layAway_20 rfl
theorem iX6_layAway_22 : mn_ins 65 22 = some (6, false, .aaload, 1) := by decide +kernel
theorem eX6_layAway_22 : Ev 65 22 (ls) (.int x :: .ref a :: st) h r ↔ Evk 65 23 ls (mn_aq h a x) st h r := ev_aald iX6_layAway_22
theorem iX6_layAway_23 : mn_ins 65 23 = some (6, false, .getfield 217, 3) := by decide +kernel
theorem eX6_layAway_23 : Ev 65 23 (ls) (.ref a :: st) h r ↔ Evk 65 26 ls (mn_gf h a 4 3) st h r := ev_getf iX6_layAway_23 (by decide +kernel)
theorem iX6_layAway_26 : mn_ins 65 26 = some (6, false, .ifCond .eq 28, 3) := by decide +kernel
theorem eX6_layAway_26 : Ev 65 26 (ls) (.int x :: st) h r ↔ if x = nI 0 then Ev 65 54 (ls) (st) h r else Ev 65 29 (ls) (st) h r := ev_ifeq iX6_layAway_26 (by decide)
theorem iX6_layAway_29 : mn_ins 65 29 = some (6, false, .aload_n 0, 1) := by decide +kernel
theorem eX6_layAway_29 : Ev 65 29 (some (.ref a) :: ls) (st) h r ↔ Ev 65 30 (some (.ref a) :: ls) (.ref a :: st) h r := ev_aload_n iX6_layAway_29 rfl rfl
theorem iX6_layAway_30 : mn_ins 65 30 = some (6, false, .getfield 22, 3) := by decide +kernel
theorem eX6_layAway_30 : Ev 65 30 (ls) (.ref a :: st) h r ↔ Evk 65 33 ls (mn_gf h a 6 3) st h r := ev_getf iX6_layAway_30 (by decide +kernel)
theorem iX6_layAway_33 : mn_ins 65 33 = some (6, false, .iload 4, 2) := by decide +kernel
theorem eX6_layAway_33 : Ev 65 33 (a0 :: a1 :: a2 :: a3 :: some (.int x) :: ls) (st) h r ↔ Ev 65 35 (a0 :: a1 :: a2 :: a3 :: some (.int x) :: ls) (.int x :: st) h r := ev_iload iX6_layAway_33 rfl
theorem iX6_layAway_35 : mn_ins 65 35 = some (6, false, .aaload, 1) := by decide +kernel
theorem eX6_layAway_35 : Ev 65 35 (ls) (.int x :: .ref a :: st) h r ↔ Evk 65 36 ls (mn_aq h a x) st h r := ev_aald iX6_layAway_35
theorem iX6_layAway_36 : mn_ins 65 36 = some (6, false, .getfield 227, 3) := by decide +kernel
theorem eX6_layAway_36 : Ev 65 36 (ls) (.ref a :: st) h r ↔ Evk 65 39 ls (mn_gf h a 4 2) st h r := ev_getf iX6_layAway_36 (by decide +kernel)
theorem iX6_layAway_39 : mn_ins 65 39 = some (6, false, .aload_n 1, 1) := by decide +kernel
theorem eX6_layAway_39 : Ev 65 39 (a0 :: some (.ref a) :: ls) (st) h r ↔ Ev 65 40 (a0 :: some (.ref a) :: ls) (.ref a :: st) h r := ev_aload_n iX6_layAway_39 rfl rfl
theorem eX6_layAway_39n : Ev 65 39 (a0 :: some (.null) :: ls) (st) h r ↔ Ev 65 40 (a0 :: some (.null) :: ls) (.null :: st) h r := ev_aload_n iX6_layAway_39 rfl rfl
theorem eX6_layAway_39t : Ev 65 39 (a0 :: some (tkv o1) :: ls) (st) h r ↔ Ev 65 40 (a0 :: some (tkv o1) :: ls) (tkv o1 :: st) h r := ev_aload_n iX6_layAway_39 rfl tkv_r
theorem eX6_layAway_39s : Ev 65 39 (a0 :: some (sgv o1) :: ls) (st) h r ↔ Ev 65 40 (a0 :: some (sgv o1) :: ls) (sgv o1 :: st) h r := ev_aload_n iX6_layAway_39 rfl sgv_r
theorem eX6_layAway_39c : Ev 65 39 (a0 :: some (cdv o1) :: ls) (st) h r ↔ Ev 65 40 (a0 :: some (cdv o1) :: ls) (cdv o1 :: st) h r := ev_aload_n iX6_layAway_39 rfl cdv_r
theorem iX6_layAway_40 : mn_ins 65 40 = some (6, false, .if_acmp .ne 14, 3) := by decide +kernel
theorem eX6_layAway_40 (h3 : 3 ≤ a) : Ev 65 40 (ls) (.ref b :: .ref a :: st) h r ↔ if a = b then Ev 65 43 (ls) (st) h r else Ev 65 54 (ls) (st) h r := (ev_acmpne (t := 54) (x := some a) (y := some b) iX6_layAway_40 (by decide) rfl rfl (mn_r3_of h3)).trans (by simp only [Option.some.injEq])
theorem eX6_layAway_40n : Ev 65 40 (ls) (.ref b :: .null :: st) h r ↔ Ev 65 54 (ls) (st) h r := (ev_acmpne (t := 54) (x := none) (y := some b) iX6_layAway_40 (by decide) rfl rfl rfl).trans (by rw [if_neg (by simp)])
theorem iX6_layAway_43 : mn_ins 65 43 = some (6, false, .aload_n 0, 1) := by decide +kernel
theorem eX6_layAway_43 : Ev 65 43 (some (.ref a) :: ls) (st) h r ↔ Ev 65 44 (some (.ref a) :: ls) (.ref a :: st) h r := ev_aload_n iX6_layAway_43 rfl rfl
theorem iX6_layAway_44 : mn_ins 65 44 = some (6, false, .getfield 22, 3) := by decide +kernel
theorem eX6_layAway_44 : Ev 65 44 (ls) (.ref a :: st) h r ↔ Evk 65 47 ls (mn_gf h a 6 3) st h r := ev_getf iX6_layAway_44 (by decide +kernel)
theorem iX6_layAway_47 : mn_ins 65 47 = some (6, false, .iload 4, 2) := by decide +kernel
theorem eX6_layAway_47 : Ev 65 47 (a0 :: a1 :: a2 :: a3 :: some (.int x) :: ls) (st) h r ↔ Ev 65 49 (a0 :: a1 :: a2 :: a3 :: some (.int x) :: ls) (.int x :: st) h r := ev_iload iX6_layAway_47 rfl
theorem iX6_layAway_49 : mn_ins 65 49 = some (6, false, .aaload, 1) := by decide +kernel
theorem eX6_layAway_49 : Ev 65 49 (ls) (.int x :: .ref a :: st) h r ↔ Evk 65 50 ls (mn_aq h a x) st h r := ev_aald iX6_layAway_49
theorem iX6_layAway_50 : mn_ins 65 50 = some (6, false, .astore_n 3, 1) := by decide +kernel
theorem eX6_layAway_50 : Ev 65 50 (a0 :: a1 :: a2 :: a3 :: ls) (.ref a :: st) h r ↔ Ev 65 51 (a0 :: a1 :: mn_k a2 :: some (.ref a) :: ls) (st) h r := ev_astore_n iX6_layAway_50 (by show 3 < _; simp only [List.length_cons]; omega) rfl
theorem eX6_layAway_50n : Ev 65 50 (a0 :: a1 :: a2 :: a3 :: ls) (.null :: st) h r ↔ Ev 65 51 (a0 :: a1 :: mn_k a2 :: some (.null) :: ls) (st) h r := ev_astore_n iX6_layAway_50 (by show 3 < _; simp only [List.length_cons]; omega) rfl
theorem eX6_layAway_50t : Ev 65 50 (a0 :: a1 :: a2 :: a3 :: ls) (tkv o1 :: st) h r ↔ Ev 65 51 (a0 :: a1 :: mn_k a2 :: some (tkv o1) :: ls) (st) h r := ev_astore_n iX6_layAway_50 (by show 3 < _; simp only [List.length_cons]; omega) tkv_r
theorem eX6_layAway_50s : Ev 65 50 (a0 :: a1 :: a2 :: a3 :: ls) (sgv o1 :: st) h r ↔ Ev 65 51 (a0 :: a1 :: mn_k a2 :: some (sgv o1) :: ls) (st) h r := ev_astore_n iX6_layAway_50 (by show 3 < _; simp only [List.length_cons]; omega) sgv_r
theorem eX6_layAway_50c : Ev 65 50 (a0 :: a1 :: a2 :: a3 :: ls) (cdv o1 :: st) h r ↔ Ev 65 51 (a0 :: a1 :: mn_k a2 :: some (cdv o1) :: ls) (st) h r := ev_astore_n iX6_layAway_50 (by show 3 < _; simp only [List.length_cons]; omega) cdv_r
theorem iX6_layAway_51 : mn_ins 65 51 = some (6, false, .iinc 2 1, 3) := by decide +kernel
theorem eX6_layAway_51 : Ev 65 51 (a0 :: a1 :: some (.int x) :: ls) (st) h r ↔ Ev 65 54 (a0 :: mn_k a1 :: some (.int (x + (nI 1))) :: ls) (st) h r := ev_iinc iX6_layAway_51 rfl (by decide)
theorem iX6_layAway_54 : mn_ins 65 54 = some (6, false, .iinc 4 1, 3) := by decide +kernel
theorem eX6_layAway_54 : Ev 65 54 (a0 :: a1 :: a2 :: a3 :: some (.int x) :: ls) (st) h r ↔ Ev 65 57 (a0 :: a1 :: a2 :: mn_k a3 :: some (.int (x + (nI 1))) :: ls) (st) h r := ev_iinc iX6_layAway_54 rfl (by decide)
theorem iX6_layAway_57 : mn_ins 65 57 = some (6, false, .goto (-50), 3) := by decide +kernel
theorem eX6_layAway_57 : Ev 65 57 (ls) (st) h r ↔ Ev 65 7 (ls) (st) h r := ev_goto iX6_layAway_57 (by decide)
theorem iX6_layAway_60 : mn_ins 65 60 = some (6, false, .iload_n 2, 1) := by decide +kernel
theorem eX6_layAway_60 : Ev 65 60 (a0 :: a1 :: some (.int x) :: ls) (st) h r ↔ Ev 65 61 (a0 :: a1 :: some (.int x) :: ls) (.int x :: st) h r := ev_iload_n iX6_layAway_60 rfl
theorem iX6_layAway_61 : mn_ins 65 61 = some (6, false, .ifCond .ne 11, 3) := by decide +kernel
theorem eX6_layAway_61 : Ev 65 61 (ls) (.int x :: st) h r ↔ if x = nI 0 then Ev 65 64 (ls) (st) h r else Ev 65 72 (ls) (st) h r := ev_ifne iX6_layAway_61 (by decide)
theorem iX6_layAway_64 : mn_ins 65 64 = some (6, false, .aload_n 1, 1) := by decide +kernel
theorem eX6_layAway_64 : Ev 65 64 (a0 :: some (.ref a) :: ls) (st) h r ↔ Ev 65 65 (a0 :: some (.ref a) :: ls) (.ref a :: st) h r := ev_aload_n iX6_layAway_64 rfl rfl
theorem eX6_layAway_64n : Ev 65 64 (a0 :: some (.null) :: ls) (st) h r ↔ Ev 65 65 (a0 :: some (.null) :: ls) (.null :: st) h r := ev_aload_n iX6_layAway_64 rfl rfl
theorem eX6_layAway_64t : Ev 65 64 (a0 :: some (tkv o1) :: ls) (st) h r ↔ Ev 65 65 (a0 :: some (tkv o1) :: ls) (tkv o1 :: st) h r := ev_aload_n iX6_layAway_64 rfl tkv_r
theorem eX6_layAway_64s : Ev 65 64 (a0 :: some (sgv o1) :: ls) (st) h r ↔ Ev 65 65 (a0 :: some (sgv o1) :: ls) (sgv o1 :: st) h r := ev_aload_n iX6_layAway_64 rfl sgv_r
theorem eX6_layAway_64c : Ev 65 64 (a0 :: some (cdv o1) :: ls) (st) h r ↔ Ev 65 65 (a0 :: some (cdv o1) :: ls) (cdv o1 :: st) h r := ev_aload_n iX6_layAway_64 rfl cdv_r
theorem iX6_layAway_65 : mn_ins 65 65 = some (6, false, .iconst 0, 1) := by decide +kernel
theorem eX6_layAway_65 : Ev 65 65 (ls) (st) h r ↔ Ev 65 66 (ls) (.int (nI 0) :: st) h r := ev_iconst iX6_layAway_65 (by decide)
theorem iX6_layAway_66 : mn_ins 65 66 = some (6, false, .putfield 217, 3) := by decide +kernel
theorem eX6_layAway_66 : Ev 65 66 (ls) (w :: .ref a :: st) h r ↔ Evh 65 69 ls st (mn_pf h a 4 3 w) r := ev_putf iX6_layAway_66 (by decide +kernel) (by decide +kernel)
theorem iX6_layAway_69 : mn_ins 65 69 = some (6, false, .goto 17, 3) := by decide +kernel
theorem eX6_layAway_69 : Ev 65 69 (ls) (st) h r ↔ Ev 65 86 (ls) (st) h r := ev_goto iX6_layAway_69 (by decide)
theorem iX6_layAway_72 : mn_ins 65 72 = some (6, false, .iload_n 2, 1) := by decide +kernel
theorem eX6_layAway_72 : Ev 65 72 (a0 :: a1 :: some (.int x) :: ls) (st) h r ↔ Ev 65 73 (a0 :: a1 :: some (.int x) :: ls) (.int x :: st) h r := ev_iload_n iX6_layAway_72 rfl
theorem iX6_layAway_73 : mn_ins 65 73 = some (6, false, .iconst 1, 1) := by decide +kernel
theorem eX6_layAway_73 : Ev 65 73 (ls) (st) h r ↔ Ev 65 74 (ls) (.int (nI 1) :: st) h r := ev_iconst iX6_layAway_73 (by decide)
theorem iX6_layAway_74 : mn_ins 65 74 = some (6, false, .if_icmp .ne 12, 3) := by decide +kernel
theorem eX6_layAway_74 : Ev 65 74 (ls) (.int y :: .int x :: st) h r ↔ if x = y then Ev 65 77 (ls) (st) h r else Ev 65 86 (ls) (st) h r := ev_cmpne iX6_layAway_74 (by decide)
theorem iX6_layAway_77 : mn_ins 65 77 = some (6, false, .aload_n 3, 1) := by decide +kernel
theorem eX6_layAway_77 : Ev 65 77 (a0 :: a1 :: a2 :: some (.ref a) :: ls) (st) h r ↔ Ev 65 78 (a0 :: a1 :: a2 :: some (.ref a) :: ls) (.ref a :: st) h r := ev_aload_n iX6_layAway_77 rfl rfl
theorem eX6_layAway_77n : Ev 65 77 (a0 :: a1 :: a2 :: some (.null) :: ls) (st) h r ↔ Ev 65 78 (a0 :: a1 :: a2 :: some (.null) :: ls) (.null :: st) h r := ev_aload_n iX6_layAway_77 rfl rfl
theorem eX6_layAway_77t : Ev 65 77 (a0 :: a1 :: a2 :: some (tkv o1) :: ls) (st) h r ↔ Ev 65 78 (a0 :: a1 :: a2 :: some (tkv o1) :: ls) (tkv o1 :: st) h r := ev_aload_n iX6_layAway_77 rfl tkv_r
theorem eX6_layAway_77s : Ev 65 77 (a0 :: a1 :: a2 :: some (sgv o1) :: ls) (st) h r ↔ Ev 65 78 (a0 :: a1 :: a2 :: some (sgv o1) :: ls) (sgv o1 :: st) h r := ev_aload_n iX6_layAway_77 rfl sgv_r
theorem eX6_layAway_77c : Ev 65 77 (a0 :: a1 :: a2 :: some (cdv o1) :: ls) (st) h r ↔ Ev 65 78 (a0 :: a1 :: a2 :: some (cdv o1) :: ls) (cdv o1 :: st) h r := ev_aload_n iX6_layAway_77 rfl cdv_r
theorem iX6_layAway_78 : mn_ins 65 78 = some (6, false, .ifnull 8, 3) := by decide +kernel
theorem eX6_layAway_78 : Ev 65 78 (ls) (va_rf o1 :: st) h r ↔ if o1 = none then Ev 65 86 (ls) (st) h r else Ev 65 81 (ls) (st) h r := ev_ifnull iX6_layAway_78 (by decide) (mr_rf _)
theorem eX6_layAway_78r : Ev 65 78 (ls) (.ref a :: st) h r ↔ Ev 65 81 (ls) (st) h r := (ev_ifnull (t := 86) (w := .ref a) (x := some a) iX6_layAway_78 (by decide) rfl).trans (by rw [if_neg (by simp)])
theorem eX6_layAway_78n : Ev 65 78 (ls) (.null :: st) h r ↔ Ev 65 86 (ls) (st) h r := (ev_ifnull (t := 86) (w := .null) (x := none) iX6_layAway_78 (by decide) rfl).trans (by rw [if_pos rfl])
theorem iX6_layAway_81 : mn_ins 65 81 = some (6, false, .aload_n 3, 1) := by decide +kernel
theorem eX6_layAway_81 : Ev 65 81 (a0 :: a1 :: a2 :: some (.ref a) :: ls) (st) h r ↔ Ev 65 82 (a0 :: a1 :: a2 :: some (.ref a) :: ls) (.ref a :: st) h r := ev_aload_n iX6_layAway_81 rfl rfl
theorem eX6_layAway_81n : Ev 65 81 (a0 :: a1 :: a2 :: some (.null) :: ls) (st) h r ↔ Ev 65 82 (a0 :: a1 :: a2 :: some (.null) :: ls) (.null :: st) h r := ev_aload_n iX6_layAway_81 rfl rfl
theorem eX6_layAway_81t : Ev 65 81 (a0 :: a1 :: a2 :: some (tkv o1) :: ls) (st) h r ↔ Ev 65 82 (a0 :: a1 :: a2 :: some (tkv o1) :: ls) (tkv o1 :: st) h r := ev_aload_n iX6_layAway_81 rfl tkv_r
theorem eX6_layAway_81s : Ev 65 81 (a0 :: a1 :: a2 :: some (sgv o1) :: ls) (st) h r ↔ Ev 65 82 (a0 :: a1 :: a2 :: some (sgv o1) :: ls) (sgv o1 :: st) h r := ev_aload_n iX6_layAway_81 rfl sgv_r
theorem eX6_layAway_81c : Ev 65 81 (a0 :: a1 :: a2 :: some (cdv o1) :: ls) (st) h r ↔ Ev 65 82 (a0 :: a1 :: a2 :: some (cdv o1) :: ls) (cdv o1 :: st) h r := ev_aload_n iX6_layAway_81 rfl cdv_r
theorem iX6_layAway_82 : mn_ins 65 82 = some (6, false, .aload_n 1, 1) := by decide +kernel
theorem eX6_layAway_82 : Ev 65 82 (a0 :: some (.ref a) :: ls) (st) h r ↔ Ev 65 83 (a0 :: some (.ref a) :: ls) (.ref a :: st) h r := ev_aload_n iX6_layAway_82 rfl rfl
theorem eX6_layAway_82n : Ev 65 82 (a0 :: some (.null) :: ls) (st) h r ↔ Ev 65 83 (a0 :: some (.null) :: ls) (.null :: st) h r := ev_aload_n iX6_layAway_82 rfl rfl
theorem eX6_layAway_82t : Ev 65 82 (a0 :: some (tkv o1) :: ls) (st) h r ↔ Ev 65 83 (a0 :: some (tkv o1) :: ls) (tkv o1 :: st) h r := ev_aload_n iX6_layAway_82 rfl tkv_r
theorem eX6_layAway_82s : Ev 65 82 (a0 :: some (sgv o1) :: ls) (st) h r ↔ Ev 65 83 (a0 :: some (sgv o1) :: ls) (sgv o1 :: st) h r := ev_aload_n iX6_layAway_82 rfl sgv_r
theorem eX6_layAway_82c : Ev 65 82 (a0 :: some (cdv o1) :: ls) (st) h r ↔ Ev 65 83 (a0 :: some (cdv o1) :: ls) (cdv o1 :: st) h r := ev_aload_n iX6_layAway_82 rfl cdv_r
theorem iX6_layAway_83 : mn_ins 65 83 = some (6, false, .invokevirtual 230, 3) := by decide +kernel
theorem EgX6_layAway_83 (hw3 : (mn_r w3).isSome = true) : Ev 65 83 (ls) (w3 :: .ref b :: st) h r ↔ Evr true (decide (mn_cats st ≤ 8) && mn_isc h b 4) 65 83 ls st h.2.2.1 h.2.2.2 (Cl 39 (.ref b :: [w3]) h.1 h.2.1) r := Ev_V (As := [w3]) iX6_layAway_83 (by decide +kernel) (x := mnI_X6_layAway) (x2 := mnI_X4_takeIn) rfl rfl rfl (by decide +kernel) (by rcases mn_r_is hw3 with ⟨_, rfl⟩ | rfl <;> exact Nat.le_of_ble_eq_true rfl) rfl
theorem eX6_layAway_83 {cw3 : Nat} : Ev 65 83 (ls) ((.ref cw3) :: .ref b :: st) h r ↔ Evr true (decide (mn_cats st ≤ 8) && mn_isc h b 4) 65 83 ls st h.2.2.1 h.2.2.2 (Cl 39 (.ref b :: [(.ref cw3)]) h.1 h.2.1) r := EgX6_layAway_83 rfl
theorem iX6_layAway_86 : mn_ins 65 86 = some (6, false, .return_, 1) := by decide +kernel
theorem eX6_layAway_86 : Ev 65 86 (ls) [] h r ↔ r = (h, .inl none) := ev_vret iX6_layAway_86 (X := mnI_X6_layAway) rfl rfl
theorem iX6_liveSegments_0 : mn_ins 66 0 = some (6, false, .iconst 0, 1) := by decide +kernel
theorem eX6_liveSegments_0 : Ev 66 0 (ls) (st) h r ↔ Ev 66 1 (ls) (.int (nI 0) :: st) h r := ev_iconst iX6_liveSegments_0 (by decide)
theorem iX6_liveSegments_1 : mn_ins 66 1 = some (6, false, .istore_n 1, 1) := by decide +kernel
theorem eX6_liveSegments_1 : Ev 66 1 (a0 :: a1 :: ls) (.int x :: st) h r ↔ Ev 66 2 (mn_k a0 :: some (.int x) :: ls) (st) h r := ev_istore_n iX6_liveSegments_1 (by show 1 < _; simp only [List.length_cons]; omega)
theorem iX6_liveSegments_2 : mn_ins 66 2 = some (6, false, .iconst 0, 1) := by decide +kernel
theorem eX6_liveSegments_2 : Ev 66 2 (ls) (st) h r ↔ Ev 66 3 (ls) (.int (nI 0) :: st) h r := ev_iconst iX6_liveSegments_2 (by decide)
theorem iX6_liveSegments_3 : mn_ins 66 3 = some (6, false, .istore_n 2, 1) := by decide +kernel
theorem eX6_liveSegments_3 : Ev 66 3 (a0 :: a1 :: a2 :: ls) (.int x :: st) h r ↔ Ev 66 4 (a0 :: mn_k a1 :: some (.int x) :: ls) (st) h r := ev_istore_n iX6_liveSegments_3 (by show 2 < _; simp only [List.length_cons]; omega)
theorem iX6_liveSegments_4 : mn_ins 66 4 = some (6, false, .iload_n 2, 1) := by decide +kernel
theorem eX6_liveSegments_4 : Ev 66 4 (a0 :: a1 :: some (.int x) :: ls) (st) h r ↔ Ev 66 5 (a0 :: a1 :: some (.int x) :: ls) (.int x :: st) h r := ev_iload_n iX6_liveSegments_4 rfl
theorem iX6_liveSegments_5 : mn_ins 66 5 = some (6, false, .aload_n 0, 1) := by decide +kernel
theorem eX6_liveSegments_5 : Ev 66 5 (some (.ref a) :: ls) (st) h r ↔ Ev 66 6 (some (.ref a) :: ls) (.ref a :: st) h r := ev_aload_n iX6_liveSegments_5 rfl rfl
theorem iX6_liveSegments_6 : mn_ins 66 6 = some (6, false, .getfield 52, 3) := by decide +kernel
theorem eX6_liveSegments_6 : Ev 66 6 (ls) (.ref a :: st) h r ↔ Evk 66 9 ls (mn_gf h a 6 6) st h r := ev_getf iX6_liveSegments_6 (by decide +kernel)
theorem iX6_liveSegments_9 : mn_ins 66 9 = some (6, false, .if_icmp .ge 29, 3) := by decide +kernel
theorem eX6_liveSegments_9 : Ev 66 9 (ls) (.int y :: .int x :: st) h r ↔ if y ≤ x then Ev 66 38 (ls) (st) h r else Ev 66 12 (ls) (st) h r := ev_cmpge iX6_liveSegments_9 (by decide)
theorem iX6_liveSegments_12 : mn_ins 66 12 = some (6, false, .iload_n 1, 1) := by decide +kernel
theorem eX6_liveSegments_12 : Ev 66 12 (a0 :: some (.int x) :: ls) (st) h r ↔ Ev 66 13 (a0 :: some (.int x) :: ls) (.int x :: st) h r := ev_iload_n iX6_liveSegments_12 rfl
theorem iX6_liveSegments_13 : mn_ins 66 13 = some (6, false, .aload_n 0, 1) := by decide +kernel
theorem eX6_liveSegments_13 : Ev 66 13 (some (.ref a) :: ls) (st) h r ↔ Ev 66 14 (some (.ref a) :: ls) (.ref a :: st) h r := ev_aload_n iX6_liveSegments_13 rfl rfl
theorem iX6_liveSegments_14 : mn_ins 66 14 = some (6, false, .getfield 22, 3) := by decide +kernel
theorem eX6_liveSegments_14 : Ev 66 14 (ls) (.ref a :: st) h r ↔ Evk 66 17 ls (mn_gf h a 6 3) st h r := ev_getf iX6_liveSegments_14 (by decide +kernel)
theorem iX6_liveSegments_17 : mn_ins 66 17 = some (6, false, .iload_n 2, 1) := by decide +kernel
theorem eX6_liveSegments_17 : Ev 66 17 (a0 :: a1 :: some (.int x) :: ls) (st) h r ↔ Ev 66 18 (a0 :: a1 :: some (.int x) :: ls) (.int x :: st) h r := ev_iload_n iX6_liveSegments_17 rfl
theorem iX6_liveSegments_18 : mn_ins 66 18 = some (6, false, .aaload, 1) := by decide +kernel
theorem eX6_liveSegments_18 : Ev 66 18 (ls) (.int x :: .ref a :: st) h r ↔ Evk 66 19 ls (mn_aq h a x) st h r := ev_aald iX6_liveSegments_18
theorem iX6_liveSegments_19 : mn_ins 66 19 = some (6, false, .getfield 217, 3) := by decide +kernel
theorem eX6_liveSegments_19 : Ev 66 19 (ls) (.ref a :: st) h r ↔ Evk 66 22 ls (mn_gf h a 4 3) st h r := ev_getf iX6_liveSegments_19 (by decide +kernel)
theorem iX6_liveSegments_22 : mn_ins 66 22 = some (6, false, .ifCond .eq 7, 3) := by decide +kernel
theorem eX6_liveSegments_22 : Ev 66 22 (ls) (.int x :: st) h r ↔ if x = nI 0 then Ev 66 29 (ls) (st) h r else Ev 66 25 (ls) (st) h r := ev_ifeq iX6_liveSegments_22 (by decide)
theorem iX6_liveSegments_25 : mn_ins 66 25 = some (6, false, .iconst 1, 1) := by decide +kernel
theorem eX6_liveSegments_25 : Ev 66 25 (ls) (st) h r ↔ Ev 66 26 (ls) (.int (nI 1) :: st) h r := ev_iconst iX6_liveSegments_25 (by decide)
theorem iX6_liveSegments_26 : mn_ins 66 26 = some (6, false, .goto 4, 3) := by decide +kernel
theorem eX6_liveSegments_26 : Ev 66 26 (ls) (st) h r ↔ Ev 66 30 (ls) (st) h r := ev_goto iX6_liveSegments_26 (by decide)
theorem iX6_liveSegments_29 : mn_ins 66 29 = some (6, false, .iconst 0, 1) := by decide +kernel
theorem eX6_liveSegments_29 : Ev 66 29 (ls) (st) h r ↔ Ev 66 30 (ls) (.int (nI 0) :: st) h r := ev_iconst iX6_liveSegments_29 (by decide)
theorem iX6_liveSegments_30 : mn_ins 66 30 = some (6, false, .iadd, 1) := by decide +kernel
theorem eX6_liveSegments_30 : Ev 66 30 (ls) (.int y :: .int x :: st) h r ↔ Ev 66 31 (ls) (.int (x + y) :: st) h r := ev_iadd iX6_liveSegments_30
theorem iX6_liveSegments_31 : mn_ins 66 31 = some (6, false, .istore_n 1, 1) := by decide +kernel
theorem eX6_liveSegments_31 : Ev 66 31 (a0 :: a1 :: ls) (.int x :: st) h r ↔ Ev 66 32 (mn_k a0 :: some (.int x) :: ls) (st) h r := ev_istore_n iX6_liveSegments_31 (by show 1 < _; simp only [List.length_cons]; omega)
theorem iX6_liveSegments_32 : mn_ins 66 32 = some (6, false, .iinc 2 1, 3) := by decide +kernel
theorem eX6_liveSegments_32 : Ev 66 32 (a0 :: a1 :: some (.int x) :: ls) (st) h r ↔ Ev 66 35 (a0 :: mn_k a1 :: some (.int (x + (nI 1))) :: ls) (st) h r := ev_iinc iX6_liveSegments_32 rfl (by decide)
theorem iX6_liveSegments_35 : mn_ins 66 35 = some (6, false, .goto (-31), 3) := by decide +kernel
theorem eX6_liveSegments_35 : Ev 66 35 (ls) (st) h r ↔ Ev 66 4 (ls) (st) h r := ev_goto iX6_liveSegments_35 (by decide)
theorem iX6_liveSegments_38 : mn_ins 66 38 = some (6, false, .iload_n 1, 1) := by decide +kernel
theorem eX6_liveSegments_38 : Ev 66 38 (a0 :: some (.int x) :: ls) (st) h r ↔ Ev 66 39 (a0 :: some (.int x) :: ls) (.int x :: st) h r := ev_iload_n iX6_liveSegments_38 rfl
theorem iX6_liveSegments_39 : mn_ins 66 39 = some (6, false, .ireturn, 1) := by decide +kernel
theorem eX6_liveSegments_39 : Ev 66 39 (ls) [.int x] h r ↔ r = (h, .inl (some (.int x))) := ev_iret iX6_liveSegments_39 (X := mnI_X6_liveSegments) rfl rfl
theorem iX6_writtenCells_0 : mn_ins 67 0 = some (6, false, .iconst 0, 1) := by decide +kernel
theorem eX6_writtenCells_0 : Ev 67 0 (ls) (st) h r ↔ Ev 67 1 (ls) (.int (nI 0) :: st) h r := ev_iconst iX6_writtenCells_0 (by decide)
theorem iX6_writtenCells_1 : mn_ins 67 1 = some (6, false, .istore_n 1, 1) := by decide +kernel
theorem eX6_writtenCells_1 : Ev 67 1 (a0 :: a1 :: ls) (.int x :: st) h r ↔ Ev 67 2 (mn_k a0 :: some (.int x) :: ls) (st) h r := ev_istore_n iX6_writtenCells_1 (by show 1 < _; simp only [List.length_cons]; omega)
theorem iX6_writtenCells_2 : mn_ins 67 2 = some (6, false, .iconst 0, 1) := by decide +kernel
theorem eX6_writtenCells_2 : Ev 67 2 (ls) (st) h r ↔ Ev 67 3 (ls) (.int (nI 0) :: st) h r := ev_iconst iX6_writtenCells_2 (by decide)
theorem iX6_writtenCells_3 : mn_ins 67 3 = some (6, false, .istore_n 2, 1) := by decide +kernel
theorem eX6_writtenCells_3 : Ev 67 3 (a0 :: a1 :: a2 :: ls) (.int x :: st) h r ↔ Ev 67 4 (a0 :: mn_k a1 :: some (.int x) :: ls) (st) h r := ev_istore_n iX6_writtenCells_3 (by show 2 < _; simp only [List.length_cons]; omega)
theorem iX6_writtenCells_4 : mn_ins 67 4 = some (6, false, .iload_n 2, 1) := by decide +kernel
theorem eX6_writtenCells_4 : Ev 67 4 (a0 :: a1 :: some (.int x) :: ls) (st) h r ↔ Ev 67 5 (a0 :: a1 :: some (.int x) :: ls) (.int x :: st) h r := ev_iload_n iX6_writtenCells_4 rfl
theorem iX6_writtenCells_5 : mn_ins 67 5 = some (6, false, .aload_n 0, 1) := by decide +kernel
theorem eX6_writtenCells_5 : Ev 67 5 (some (.ref a) :: ls) (st) h r ↔ Ev 67 6 (some (.ref a) :: ls) (.ref a :: st) h r := ev_aload_n iX6_writtenCells_5 rfl rfl
theorem iX6_writtenCells_6 : mn_ins 67 6 = some (6, false, .getfield 52, 3) := by decide +kernel
theorem eX6_writtenCells_6 : Ev 67 6 (ls) (.ref a :: st) h r ↔ Evk 67 9 ls (mn_gf h a 6 6) st h r := ev_getf iX6_writtenCells_6 (by decide +kernel)
theorem iX6_writtenCells_9 : mn_ins 67 9 = some (6, false, .if_icmp .ge 37, 3) := by decide +kernel
theorem eX6_writtenCells_9 : Ev 67 9 (ls) (.int y :: .int x :: st) h r ↔ if y ≤ x then Ev 67 46 (ls) (st) h r else Ev 67 12 (ls) (st) h r := ev_cmpge iX6_writtenCells_9 (by decide)
theorem iX6_writtenCells_12 : mn_ins 67 12 = some (6, false, .iload_n 1, 1) := by decide +kernel
theorem eX6_writtenCells_12 : Ev 67 12 (a0 :: some (.int x) :: ls) (st) h r ↔ Ev 67 13 (a0 :: some (.int x) :: ls) (.int x :: st) h r := ev_iload_n iX6_writtenCells_12 rfl
theorem iX6_writtenCells_13 : mn_ins 67 13 = some (6, false, .aload_n 0, 1) := by decide +kernel
theorem eX6_writtenCells_13 : Ev 67 13 (some (.ref a) :: ls) (st) h r ↔ Ev 67 14 (some (.ref a) :: ls) (.ref a :: st) h r := ev_aload_n iX6_writtenCells_13 rfl rfl
theorem iX6_writtenCells_14 : mn_ins 67 14 = some (6, false, .getfield 22, 3) := by decide +kernel
theorem eX6_writtenCells_14 : Ev 67 14 (ls) (.ref a :: st) h r ↔ Evk 67 17 ls (mn_gf h a 6 3) st h r := ev_getf iX6_writtenCells_14 (by decide +kernel)
theorem iX6_writtenCells_17 : mn_ins 67 17 = some (6, false, .iload_n 2, 1) := by decide +kernel
theorem eX6_writtenCells_17 : Ev 67 17 (a0 :: a1 :: some (.int x) :: ls) (st) h r ↔ Ev 67 18 (a0 :: a1 :: some (.int x) :: ls) (.int x :: st) h r := ev_iload_n iX6_writtenCells_17 rfl
theorem iX6_writtenCells_18 : mn_ins 67 18 = some (6, false, .aaload, 1) := by decide +kernel
theorem eX6_writtenCells_18 : Ev 67 18 (ls) (.int x :: .ref a :: st) h r ↔ Evk 67 19 ls (mn_aq h a x) st h r := ev_aald iX6_writtenCells_18
theorem iX6_writtenCells_19 : mn_ins 67 19 = some (6, false, .getfield 217, 3) := by decide +kernel
theorem eX6_writtenCells_19 : Ev 67 19 (ls) (.ref a :: st) h r ↔ Evk 67 22 ls (mn_gf h a 4 3) st h r := ev_getf iX6_writtenCells_19 (by decide +kernel)
theorem iX6_writtenCells_22 : mn_ins 67 22 = some (6, false, .ifCond .eq 15, 3) := by decide +kernel
theorem eX6_writtenCells_22 : Ev 67 22 (ls) (.int x :: st) h r ↔ if x = nI 0 then Ev 67 37 (ls) (st) h r else Ev 67 25 (ls) (st) h r := ev_ifeq iX6_writtenCells_22 (by decide)
theorem iX6_writtenCells_25 : mn_ins 67 25 = some (6, false, .aload_n 0, 1) := by decide +kernel
theorem eX6_writtenCells_25 : Ev 67 25 (some (.ref a) :: ls) (st) h r ↔ Ev 67 26 (some (.ref a) :: ls) (.ref a :: st) h r := ev_aload_n iX6_writtenCells_25 rfl rfl
theorem iX6_writtenCells_26 : mn_ins 67 26 = some (6, false, .getfield 22, 3) := by decide +kernel
theorem eX6_writtenCells_26 : Ev 67 26 (ls) (.ref a :: st) h r ↔ Evk 67 29 ls (mn_gf h a 6 3) st h r := ev_getf iX6_writtenCells_26 (by decide +kernel)
theorem iX6_writtenCells_29 : mn_ins 67 29 = some (6, false, .iload_n 2, 1) := by decide +kernel
theorem eX6_writtenCells_29 : Ev 67 29 (a0 :: a1 :: some (.int x) :: ls) (st) h r ↔ Ev 67 30 (a0 :: a1 :: some (.int x) :: ls) (.int x :: st) h r := ev_iload_n iX6_writtenCells_29 rfl
theorem iX6_writtenCells_30 : mn_ins 67 30 = some (6, false, .aaload, 1) := by decide +kernel
theorem eX6_writtenCells_30 : Ev 67 30 (ls) (.int x :: .ref a :: st) h r ↔ Evk 67 31 ls (mn_aq h a x) st h r := ev_aald iX6_writtenCells_30
theorem iX6_writtenCells_31 : mn_ins 67 31 = some (6, false, .invokevirtual 233, 3) := by decide +kernel
theorem eX6_writtenCells_31 : Ev 67 31 (ls) (.ref b :: st) h r ↔ Evr true (decide (mn_cats st ≤ 8) && mn_isc h b 4) 67 31 ls st h.2.2.1 h.2.2.2 (Cl 37 (.ref b :: []) h.1 h.2.1) r := Ev_V (As := []) iX6_writtenCells_31 (by decide +kernel) (x := mnI_X6_writtenCells) (x2 := mnI_X4_writtenCount) rfl rfl rfl (by decide +kernel) (Nat.le_of_ble_eq_true rfl) rfl
theorem iX6_writtenCells_34 : mn_ins 67 34 = some (6, false, .goto 4, 3) := by decide +kernel
theorem eX6_writtenCells_34 : Ev 67 34 (ls) (st) h r ↔ Ev 67 38 (ls) (st) h r := ev_goto iX6_writtenCells_34 (by decide)
theorem iX6_writtenCells_37 : mn_ins 67 37 = some (6, false, .iconst 0, 1) := by decide +kernel
theorem eX6_writtenCells_37 : Ev 67 37 (ls) (st) h r ↔ Ev 67 38 (ls) (.int (nI 0) :: st) h r := ev_iconst iX6_writtenCells_37 (by decide)
theorem iX6_writtenCells_38 : mn_ins 67 38 = some (6, false, .iadd, 1) := by decide +kernel
theorem eX6_writtenCells_38 : Ev 67 38 (ls) (.int y :: .int x :: st) h r ↔ Ev 67 39 (ls) (.int (x + y) :: st) h r := ev_iadd iX6_writtenCells_38
theorem iX6_writtenCells_39 : mn_ins 67 39 = some (6, false, .istore_n 1, 1) := by decide +kernel
theorem eX6_writtenCells_39 : Ev 67 39 (a0 :: a1 :: ls) (.int x :: st) h r ↔ Ev 67 40 (mn_k a0 :: some (.int x) :: ls) (st) h r := ev_istore_n iX6_writtenCells_39 (by show 1 < _; simp only [List.length_cons]; omega)
theorem iX6_writtenCells_40 : mn_ins 67 40 = some (6, false, .iinc 2 1, 3) := by decide +kernel
theorem eX6_writtenCells_40 : Ev 67 40 (a0 :: a1 :: some (.int x) :: ls) (st) h r ↔ Ev 67 43 (a0 :: mn_k a1 :: some (.int (x + (nI 1))) :: ls) (st) h r := ev_iinc iX6_writtenCells_40 rfl (by decide)
theorem iX6_writtenCells_43 : mn_ins 67 43 = some (6, false, .goto (-39), 3) := by decide +kernel
theorem eX6_writtenCells_43 : Ev 67 43 (ls) (st) h r ↔ Ev 67 4 (ls) (st) h r := ev_goto iX6_writtenCells_43 (by decide)
theorem iX6_writtenCells_46 : mn_ins 67 46 = some (6, false, .iload_n 1, 1) := by decide +kernel
theorem eX6_writtenCells_46 : Ev 67 46 (a0 :: some (.int x) :: ls) (st) h r ↔ Ev 67 47 (a0 :: some (.int x) :: ls) (.int x :: st) h r := ev_iload_n iX6_writtenCells_46 rfl
theorem iX6_writtenCells_47 : mn_ins 67 47 = some (6, false, .ireturn, 1) := by decide +kernel
theorem eX6_writtenCells_47 : Ev 67 47 (ls) [.int x] h r ↔ r = (h, .inl (some (.int x))) := ev_iret iX6_writtenCells_47 (X := mnI_X6_writtenCells) rfl rfl
end E_61b_rows
