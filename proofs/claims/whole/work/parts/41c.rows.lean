section E_41c_rows
variable {ls : List (Option Value)} {st : List Value} {h : mn_S} {r : mn_Res} {a0 a1 a2 a3 a4 a5 a6 a7 a8 a9 a10 a11 a12 a13 : Option Value} {x y : Int32} {u v : Int64} {w w2 w3 w4 w5 w6 w7 w8 : Value} {x0 x1 x2 x3 x4 x5 x6 x7 x8 : Int32} {u0 u1 u2 u3 u4 u5 u6 u7 u8 : Int64} {a b : Nat} {o1 o2 : Option Nat}
theorem iX8_step_0 : mn_ins 124 0 = some (8, false, .aload_n 0, 1) := by decide +kernel
theorem eX8_step_0 : Ev 124 0 (some (.ref a) :: ls) (st) h r ↔ Ev 124 1 (some (.ref a) :: ls) (.ref a :: st) h r := ev_aload_n iX8_step_0 rfl rfl
theorem iX8_step_1 : mn_ins 124 1 = some (8, false, .aload_n 0, 1) := by decide +kernel
theorem eX8_step_1 : Ev 124 1 (some (.ref a) :: ls) (st) h r ↔ Ev 124 2 (some (.ref a) :: ls) (.ref a :: st) h r := ev_aload_n iX8_step_1 rfl rfl
theorem iX8_step_2 : mn_ins 124 2 = some (8, false, .getfield 97, 3) := by decide +kernel
theorem eX8_step_2 : Ev 124 2 (ls) (.ref a :: st) h r ↔ Evk 124 5 ls (mn_gf h a 8 9) st h r := ev_getf iX8_step_2 (by decide +kernel)
theorem iX8_step_5 : mn_ins 124 5 = some (8, false, .ifCond .eq 18, 3) := by decide +kernel
theorem eX8_step_5 : Ev 124 5 (ls) (.int x :: st) h r ↔ if x = nI 0 then Ev 124 23 (ls) (st) h r else Ev 124 8 (ls) (st) h r := ev_ifeq iX8_step_5 (by decide)
theorem iX8_step_8 : mn_ins 124 8 = some (8, false, .iload_n 1, 1) := by decide +kernel
theorem eX8_step_8 : Ev 124 8 (a0 :: some (.int x) :: ls) (st) h r ↔ Ev 124 9 (a0 :: some (.int x) :: ls) (.int x :: st) h r := ev_iload_n iX8_step_8 rfl
theorem iX8_step_9 : mn_ins 124 9 = some (8, false, .i2l, 1) := by decide +kernel
theorem eX8_step_9 : Ev 124 9 (ls) (.int x :: st) h r ↔ Ev 124 10 (ls) (.long x.toInt64 :: st) h r := ev_i2l iX8_step_9
theorem iX8_step_10 : mn_ins 124 10 = some (8, false, .iconst 0, 1) := by decide +kernel
theorem eX8_step_10 : Ev 124 10 (ls) (st) h r ↔ Ev 124 11 (ls) (.int (nI 0) :: st) h r := ev_iconst iX8_step_10 (by decide)
theorem iX8_step_11 : mn_ins 124 11 = some (8, false, .aload_n 0, 1) := by decide +kernel
theorem eX8_step_11 : Ev 124 11 (some (.ref a) :: ls) (st) h r ↔ Ev 124 12 (some (.ref a) :: ls) (.ref a :: st) h r := ev_aload_n iX8_step_11 rfl rfl
theorem iX8_step_12 : mn_ins 124 12 = some (8, false, .getfield 144, 3) := by decide +kernel
theorem eX8_step_12 : Ev 124 12 (ls) (.ref a :: st) h r ↔ Evk 124 15 ls (mn_gf h a 8 11) st h r := ev_getf iX8_step_12 (by decide +kernel)
theorem iX8_step_15 : mn_ins 124 15 = some (8, false, .iconst 1, 1) := by decide +kernel
theorem eX8_step_15 : Ev 124 15 (ls) (st) h r ↔ Ev 124 16 (ls) (.int (nI 1) :: st) h r := ev_iconst iX8_step_15 (by decide)
theorem iX8_step_16 : mn_ins 124 16 = some (8, false, .isub, 1) := by decide +kernel
theorem eX8_step_16 : Ev 124 16 (ls) (.int y :: .int x :: st) h r ↔ Ev 124 17 (ls) (.int (x - y) :: st) h r := ev_isub iX8_step_16
theorem iX8_step_17 : mn_ins 124 17 = some (8, false, .invokestatic 111, 3) := by decide +kernel
theorem eX8_step_17 : Ev 124 17 (ls) (.int x2 :: .int x1 :: .long u0 :: st) h r ↔ Evr false (decide (mn_cats st ≤ 8)) 124 17 ls st h.2.2.1 h.2.2.2 (Cl 86 [.long u0, .int x1, .int x2] h.1 h.2.1) r := Ev_T (As := [.long u0, .int x1, .int x2]) (q := 1) iX8_step_17 (by decide +kernel) (by decide) (x := mnI_X8_step) (x2 := mnI_X8_in) rfl rfl rfl (by decide +kernel) (Nat.le_of_ble_eq_true rfl) rfl
theorem iX8_step_20 : mn_ins 124 20 = some (8, false, .ifCond .ne 7, 3) := by decide +kernel
theorem eX8_step_20 : Ev 124 20 (ls) (.int x :: st) h r ↔ if x = nI 0 then Ev 124 23 (ls) (st) h r else Ev 124 27 (ls) (st) h r := ev_ifne iX8_step_20 (by decide)
theorem iX8_step_23 : mn_ins 124 23 = some (8, false, .iconst 1, 1) := by decide +kernel
theorem eX8_step_23 : Ev 124 23 (ls) (st) h r ↔ Ev 124 24 (ls) (.int (nI 1) :: st) h r := ev_iconst iX8_step_23 (by decide)
theorem iX8_step_24 : mn_ins 124 24 = some (8, false, .goto 20, 3) := by decide +kernel
theorem eX8_step_24 : Ev 124 24 (ls) (st) h r ↔ Ev 124 44 (ls) (st) h r := ev_goto iX8_step_24 (by decide)
theorem iX8_step_27 : mn_ins 124 27 = some (8, false, .iload_n 2, 1) := by decide +kernel
theorem eX8_step_27 : Ev 124 27 (a0 :: a1 :: some (.int x) :: ls) (st) h r ↔ Ev 124 28 (a0 :: a1 :: some (.int x) :: ls) (.int x :: st) h r := ev_iload_n iX8_step_27 rfl
theorem iX8_step_28 : mn_ins 124 28 = some (8, false, .i2l, 1) := by decide +kernel
theorem eX8_step_28 : Ev 124 28 (ls) (.int x :: st) h r ↔ Ev 124 29 (ls) (.long x.toInt64 :: st) h r := ev_i2l iX8_step_28
theorem iX8_step_29 : mn_ins 124 29 = some (8, false, .iconst 1, 1) := by decide +kernel
theorem eX8_step_29 : Ev 124 29 (ls) (st) h r ↔ Ev 124 30 (ls) (.int (nI 1) :: st) h r := ev_iconst iX8_step_29 (by decide)
theorem iX8_step_30 : mn_ins 124 30 = some (8, false, .sipush 200, 3) := by decide +kernel
theorem eX8_step_30 : Ev 124 30 (ls) (st) h r ↔ Ev 124 33 (ls) (.int (nI 200) :: st) h r := ev_sipush iX8_step_30 (by decide)
theorem iX8_step_33 : mn_ins 124 33 = some (8, false, .invokestatic 111, 3) := by decide +kernel
theorem eX8_step_33 : Ev 124 33 (ls) (.int x2 :: .int x1 :: .long u0 :: st) h r ↔ Evr false (decide (mn_cats st ≤ 8)) 124 33 ls st h.2.2.1 h.2.2.2 (Cl 86 [.long u0, .int x1, .int x2] h.1 h.2.1) r := Ev_T (As := [.long u0, .int x1, .int x2]) (q := 1) iX8_step_33 (by decide +kernel) (by decide) (x := mnI_X8_step) (x2 := mnI_X8_in) rfl rfl rfl (by decide +kernel) (Nat.le_of_ble_eq_true rfl) rfl
theorem iX8_step_36 : mn_ins 124 36 = some (8, false, .ifCond .ne 7, 3) := by decide +kernel
theorem eX8_step_36 : Ev 124 36 (ls) (.int x :: st) h r ↔ if x = nI 0 then Ev 124 39 (ls) (st) h r else Ev 124 43 (ls) (st) h r := ev_ifne iX8_step_36 (by decide)
theorem iX8_step_39 : mn_ins 124 39 = some (8, false, .iconst 2, 1) := by decide +kernel
theorem eX8_step_39 : Ev 124 39 (ls) (st) h r ↔ Ev 124 40 (ls) (.int (nI 2) :: st) h r := ev_iconst iX8_step_39 (by decide)
theorem iX8_step_40 : mn_ins 124 40 = some (8, false, .goto 4, 3) := by decide +kernel
theorem eX8_step_40 : Ev 124 40 (ls) (st) h r ↔ Ev 124 44 (ls) (st) h r := ev_goto iX8_step_40 (by decide)
theorem iX8_step_43 : mn_ins 124 43 = some (8, false, .iconst 0, 1) := by decide +kernel
theorem eX8_step_43 : Ev 124 43 (ls) (st) h r ↔ Ev 124 44 (ls) (.int (nI 0) :: st) h r := ev_iconst iX8_step_43 (by decide)
theorem iX8_step_44 : mn_ins 124 44 = some (8, false, .putfield 94, 3) := by decide +kernel
theorem eX8_step_44 : Ev 124 44 (ls) (w :: .ref a :: st) h r ↔ Evh 124 47 ls st (mn_pf h a 8 0 w) r := ev_putf iX8_step_44 (by decide +kernel) (by decide +kernel)
theorem iX8_step_47 : mn_ins 124 47 = some (8, false, .aload_n 0, 1) := by decide +kernel
theorem eX8_step_47 : Ev 124 47 (some (.ref a) :: ls) (st) h r ↔ Ev 124 48 (some (.ref a) :: ls) (.ref a :: st) h r := ev_aload_n iX8_step_47 rfl rfl
theorem iX8_step_48 : mn_ins 124 48 = some (8, false, .getfield 94, 3) := by decide +kernel
theorem eX8_step_48 : Ev 124 48 (ls) (.ref a :: st) h r ↔ Evk 124 51 ls (mn_gf h a 8 0) st h r := ev_getf iX8_step_48 (by decide +kernel)
theorem iX8_step_51 : mn_ins 124 51 = some (8, false, .ifCond .le 5, 3) := by decide +kernel
theorem eX8_step_51 : Ev 124 51 (ls) (.int x :: st) h r ↔ if x ≤ nI 0 then Ev 124 56 (ls) (st) h r else Ev 124 54 (ls) (st) h r := ev_ifle iX8_step_51 (by decide)
theorem iX8_step_54 : mn_ins 124 54 = some (8, false, .iconst 0, 1) := by decide +kernel
theorem eX8_step_54 : Ev 124 54 (ls) (st) h r ↔ Ev 124 55 (ls) (.int (nI 0) :: st) h r := ev_iconst iX8_step_54 (by decide)
theorem iX8_step_55 : mn_ins 124 55 = some (8, false, .ireturn, 1) := by decide +kernel
theorem eX8_step_55 : Ev 124 55 (ls) [.int x] h r ↔ r = (h, .inl (some (.int x))) := ev_iret iX8_step_55 (X := mnI_X8_step) rfl rfl
theorem iX8_step_56 : mn_ins 124 56 = some (8, false, .iconst 0, 1) := by decide +kernel
theorem eX8_step_56 : Ev 124 56 (ls) (st) h r ↔ Ev 124 57 (ls) (.int (nI 0) :: st) h r := ev_iconst iX8_step_56 (by decide)
theorem iX8_step_57 : mn_ins 124 57 = some (8, false, .istore_n 3, 1) := by decide +kernel
theorem eX8_step_57 : Ev 124 57 (a0 :: a1 :: a2 :: a3 :: ls) (.int x :: st) h r ↔ Ev 124 58 (a0 :: a1 :: mn_k a2 :: some (.int x) :: ls) (st) h r := ev_istore_n iX8_step_57 (by show 3 < _; simp only [List.length_cons]; omega)
theorem iX8_step_58 : mn_ins 124 58 = some (8, false, .iconst 1, 1) := by decide +kernel
theorem eX8_step_58 : Ev 124 58 (ls) (st) h r ↔ Ev 124 59 (ls) (.int (nI 1) :: st) h r := ev_iconst iX8_step_58 (by decide)
theorem iX8_step_59 : mn_ins 124 59 = some (8, false, .istore 4, 2) := by decide +kernel
theorem eX8_step_59 : Ev 124 59 (a0 :: a1 :: a2 :: a3 :: a4 :: ls) (.int x :: st) h r ↔ Ev 124 61 (a0 :: a1 :: a2 :: mn_k a3 :: some (.int x) :: ls) (st) h r := ev_istore iX8_step_59 (by show 4 < _; simp only [List.length_cons]; omega)
theorem iX8_step_61 : mn_ins 124 61 = some (8, false, .iload 4, 2) := by decide +kernel
theorem eX8_step_61 : Ev 124 61 (a0 :: a1 :: a2 :: a3 :: some (.int x) :: ls) (st) h r ↔ Ev 124 63 (a0 :: a1 :: a2 :: a3 :: some (.int x) :: ls) (.int x :: st) h r := ev_iload iX8_step_61 rfl
theorem iX8_step_63 : mn_ins 124 63 = some (8, false, .ifCond .eq 46, 3) := by decide +kernel
theorem eX8_step_63 : Ev 124 63 (ls) (.int x :: st) h r ↔ if x = nI 0 then Ev 124 109 (ls) (st) h r else Ev 124 66 (ls) (st) h r := ev_ifeq iX8_step_63 (by decide)
theorem iX8_step_66 : mn_ins 124 66 = some (8, false, .iload_n 3, 1) := by decide +kernel
theorem eX8_step_66 : Ev 124 66 (a0 :: a1 :: a2 :: some (.int x) :: ls) (st) h r ↔ Ev 124 67 (a0 :: a1 :: a2 :: some (.int x) :: ls) (.int x :: st) h r := ev_iload_n iX8_step_66 rfl
theorem iX8_step_67 : mn_ins 124 67 = some (8, false, .iload_n 2, 1) := by decide +kernel
theorem eX8_step_67 : Ev 124 67 (a0 :: a1 :: some (.int x) :: ls) (st) h r ↔ Ev 124 68 (a0 :: a1 :: some (.int x) :: ls) (.int x :: st) h r := ev_iload_n iX8_step_67 rfl
theorem iX8_step_68 : mn_ins 124 68 = some (8, false, .if_icmp .ge 41, 3) := by decide +kernel
theorem eX8_step_68 : Ev 124 68 (ls) (.int y :: .int x :: st) h r ↔ if y ≤ x then Ev 124 109 (ls) (st) h r else Ev 124 71 (ls) (st) h r := ev_cmpge iX8_step_68 (by decide)
theorem iX8_step_71 : mn_ins 124 71 = some (8, false, .aload_n 0, 1) := by decide +kernel
theorem eX8_step_71 : Ev 124 71 (some (.ref a) :: ls) (st) h r ↔ Ev 124 72 (some (.ref a) :: ls) (.ref a :: st) h r := ev_aload_n iX8_step_71 rfl rfl
theorem iX8_step_72 : mn_ins 124 72 = some (8, false, .getfield 39, 3) := by decide +kernel
theorem eX8_step_72 : Ev 124 72 (ls) (.ref a :: st) h r ↔ Evk 124 75 ls (mn_gf h a 8 16) st h r := ev_getf iX8_step_72 (by decide +kernel)
theorem iX8_step_75 : mn_ins 124 75 = some (8, false, .iload_n 1, 1) := by decide +kernel
theorem eX8_step_75 : Ev 124 75 (a0 :: some (.int x) :: ls) (st) h r ↔ Ev 124 76 (a0 :: some (.int x) :: ls) (.int x :: st) h r := ev_iload_n iX8_step_75 rfl
theorem iX8_step_76 : mn_ins 124 76 = some (8, false, .iaload, 1) := by decide +kernel
theorem eX8_step_76 : Ev 124 76 (ls) (.int x :: .ref a :: st) h r ↔ Evk 124 77 ls (mn_al h a 0 x) st h r := ev_iald iX8_step_76
theorem iX8_step_77 : mn_ins 124 77 = some (8, false, .ifCond .ne 32, 3) := by decide +kernel
theorem eX8_step_77 : Ev 124 77 (ls) (.int x :: st) h r ↔ if x = nI 0 then Ev 124 80 (ls) (st) h r else Ev 124 109 (ls) (st) h r := ev_ifne iX8_step_77 (by decide)
theorem iX8_step_80 : mn_ins 124 80 = some (8, false, .aload_n 0, 1) := by decide +kernel
theorem eX8_step_80 : Ev 124 80 (some (.ref a) :: ls) (st) h r ↔ Ev 124 81 (some (.ref a) :: ls) (.ref a :: st) h r := ev_aload_n iX8_step_80 rfl rfl
theorem iX8_step_81 : mn_ins 124 81 = some (8, false, .iload_n 1, 1) := by decide +kernel
theorem eX8_step_81 : Ev 124 81 (a0 :: some (.int x) :: ls) (st) h r ↔ Ev 124 82 (a0 :: some (.int x) :: ls) (.int x :: st) h r := ev_iload_n iX8_step_81 rfl
theorem iX8_step_82 : mn_ins 124 82 = some (8, false, .invokevirtual 221, 3) := by decide +kernel
theorem eX8_step_82 : Ev 124 82 (ls) (.int x0 :: .ref b :: st) h r ↔ Evr true (decide (mn_cats st ≤ 8) && mn_isc h b 8) 124 82 ls st h.2.2.1 h.2.2.2 (Cl 116 (.ref b :: [.int x0]) h.1 h.2.1) r := Ev_V (As := [.int x0]) iX8_step_82 (by decide +kernel) (x := mnI_X8_step) (x2 := mnI_X8_waits) rfl rfl rfl (by decide +kernel) (Nat.le_of_ble_eq_true rfl) rfl
theorem iX8_step_85 : mn_ins 124 85 = some (8, false, .ifCond .ne 7, 3) := by decide +kernel
theorem eX8_step_85 : Ev 124 85 (ls) (.int x :: st) h r ↔ if x = nI 0 then Ev 124 88 (ls) (st) h r else Ev 124 92 (ls) (st) h r := ev_ifne iX8_step_85 (by decide)
theorem iX8_step_88 : mn_ins 124 88 = some (8, false, .iconst 1, 1) := by decide +kernel
theorem eX8_step_88 : Ev 124 88 (ls) (st) h r ↔ Ev 124 89 (ls) (.int (nI 1) :: st) h r := ev_iconst iX8_step_88 (by decide)
theorem iX8_step_89 : mn_ins 124 89 = some (8, false, .goto 4, 3) := by decide +kernel
theorem eX8_step_89 : Ev 124 89 (ls) (st) h r ↔ Ev 124 93 (ls) (st) h r := ev_goto iX8_step_89 (by decide)
theorem iX8_step_92 : mn_ins 124 92 = some (8, false, .iconst 0, 1) := by decide +kernel
theorem eX8_step_92 : Ev 124 92 (ls) (st) h r ↔ Ev 124 93 (ls) (.int (nI 0) :: st) h r := ev_iconst iX8_step_92 (by decide)
theorem iX8_step_93 : mn_ins 124 93 = some (8, false, .istore 4, 2) := by decide +kernel
theorem eX8_step_93 : Ev 124 93 (a0 :: a1 :: a2 :: a3 :: a4 :: ls) (.int x :: st) h r ↔ Ev 124 95 (a0 :: a1 :: a2 :: mn_k a3 :: some (.int x) :: ls) (st) h r := ev_istore iX8_step_93 (by show 4 < _; simp only [List.length_cons]; omega)
theorem iX8_step_95 : mn_ins 124 95 = some (8, false, .aload_n 0, 1) := by decide +kernel
theorem eX8_step_95 : Ev 124 95 (some (.ref a) :: ls) (st) h r ↔ Ev 124 96 (some (.ref a) :: ls) (.ref a :: st) h r := ev_aload_n iX8_step_95 rfl rfl
theorem iX8_step_96 : mn_ins 124 96 = some (8, false, .iload_n 1, 1) := by decide +kernel
theorem eX8_step_96 : Ev 124 96 (a0 :: some (.int x) :: ls) (st) h r ↔ Ev 124 97 (a0 :: some (.int x) :: ls) (.int x :: st) h r := ev_iload_n iX8_step_96 rfl
theorem iX8_step_97 : mn_ins 124 97 = some (8, false, .invokevirtual 224, 3) := by decide +kernel
theorem eX8_step_97 : Ev 124 97 (ls) (.int x0 :: .ref b :: st) h r ↔ Evr true (decide (mn_cats st ≤ 8) && mn_isc h b 8) 124 97 ls st h.2.2.1 h.2.2.2 (Cl 125 (.ref b :: [.int x0]) h.1 h.2.1) r := Ev_V (As := [.int x0]) iX8_step_97 (by decide +kernel) (x := mnI_X8_step) (x2 := mnI_X8_go) rfl rfl rfl (by decide +kernel) (Nat.le_of_ble_eq_true rfl) rfl
theorem iX8_step_100 : mn_ins 124 100 = some (8, false, .ifCond .eq (-39), 3) := by decide +kernel
theorem eX8_step_100 : Ev 124 100 (ls) (.int x :: st) h r ↔ if x = nI 0 then Ev 124 61 (ls) (st) h r else Ev 124 103 (ls) (st) h r := ev_ifeq iX8_step_100 (by decide)
theorem iX8_step_103 : mn_ins 124 103 = some (8, false, .iinc 3 1, 3) := by decide +kernel
theorem eX8_step_103 : Ev 124 103 (a0 :: a1 :: a2 :: some (.int x) :: ls) (st) h r ↔ Ev 124 106 (a0 :: a1 :: mn_k a2 :: some (.int (x + (nI 1))) :: ls) (st) h r := ev_iinc iX8_step_103 rfl (by decide)
theorem iX8_step_106 : mn_ins 124 106 = some (8, false, .goto (-45), 3) := by decide +kernel
theorem eX8_step_106 : Ev 124 106 (ls) (st) h r ↔ Ev 124 61 (ls) (st) h r := ev_goto iX8_step_106 (by decide)
theorem iX8_step_109 : mn_ins 124 109 = some (8, false, .iload_n 3, 1) := by decide +kernel
theorem eX8_step_109 : Ev 124 109 (a0 :: a1 :: a2 :: some (.int x) :: ls) (st) h r ↔ Ev 124 110 (a0 :: a1 :: a2 :: some (.int x) :: ls) (.int x :: st) h r := ev_iload_n iX8_step_109 rfl
theorem iX8_step_110 : mn_ins 124 110 = some (8, false, .ireturn, 1) := by decide +kernel
theorem eX8_step_110 : Ev 124 110 (ls) [.int x] h r ↔ r = (h, .inl (some (.int x))) := ev_iret iX8_step_110 (X := mnI_X8_step) rfl rfl
theorem iX8_go_0 : mn_ins 125 0 = some (8, false, .aload_n 0, 1) := by decide +kernel
theorem eX8_go_0 : Ev 125 0 (some (.ref a) :: ls) (st) h r ↔ Ev 125 1 (some (.ref a) :: ls) (.ref a :: st) h r := ev_aload_n iX8_go_0 rfl rfl
theorem iX8_go_1 : mn_ins 125 1 = some (8, false, .getfield 147, 3) := by decide +kernel
theorem eX8_go_1 : Ev 125 1 (ls) (.ref a :: st) h r ↔ Evk 125 4 ls (mn_gf h a 8 12) st h r := ev_getf iX8_go_1 (by decide +kernel)
theorem iX8_go_4 : mn_ins 125 4 = some (8, false, .sipush 2000, 3) := by decide +kernel
theorem eX8_go_4 : Ev 125 4 (ls) (st) h r ↔ Ev 125 7 (ls) (.int (nI 2000) :: st) h r := ev_sipush iX8_go_4 (by decide)
theorem iX8_go_7 : mn_ins 125 7 = some (8, false, .if_icmp .ne 11, 3) := by decide +kernel
theorem eX8_go_7 : Ev 125 7 (ls) (.int y :: .int x :: st) h r ↔ if x = y then Ev 125 10 (ls) (st) h r else Ev 125 18 (ls) (st) h r := ev_cmpne iX8_go_7 (by decide)
theorem iX8_go_10 : mn_ins 125 10 = some (8, false, .aload_n 0, 1) := by decide +kernel
theorem eX8_go_10 : Ev 125 10 (some (.ref a) :: ls) (st) h r ↔ Ev 125 11 (some (.ref a) :: ls) (.ref a :: st) h r := ev_aload_n iX8_go_10 rfl rfl
theorem iX8_go_11 : mn_ins 125 11 = some (8, false, .iload_n 1, 1) := by decide +kernel
theorem eX8_go_11 : Ev 125 11 (a0 :: some (.int x) :: ls) (st) h r ↔ Ev 125 12 (a0 :: some (.int x) :: ls) (.int x :: st) h r := ev_iload_n iX8_go_11 rfl
theorem iX8_go_12 : mn_ins 125 12 = some (8, false, .iconst 4, 1) := by decide +kernel
theorem eX8_go_12 : Ev 125 12 (ls) (st) h r ↔ Ev 125 13 (ls) (.int (nI 4) :: st) h r := ev_iconst iX8_go_12 (by decide)
theorem iX8_go_13 : mn_ins 125 13 = some (8, false, .invokevirtual 180, 3) := by decide +kernel
theorem eX8_go_13 : Ev 125 13 (ls) (.int x1 :: .int x0 :: .ref b :: st) h r ↔ Evr true (decide (mn_cats st ≤ 8) && mn_isc h b 8) 125 13 ls st h.2.2.1 h.2.2.2 (Cl 109 (.ref b :: [.int x0, .int x1]) h.1 h.2.1) r := Ev_V (As := [.int x0, .int x1]) iX8_go_13 (by decide +kernel) (x := mnI_X8_go) (x2 := mnI_X8_fail) rfl rfl rfl (by decide +kernel) (Nat.le_of_ble_eq_true rfl) rfl
theorem iX8_go_16 : mn_ins 125 16 = some (8, false, .iconst 0, 1) := by decide +kernel
theorem eX8_go_16 : Ev 125 16 (ls) (st) h r ↔ Ev 125 17 (ls) (.int (nI 0) :: st) h r := ev_iconst iX8_go_16 (by decide)
theorem iX8_go_17 : mn_ins 125 17 = some (8, false, .ireturn, 1) := by decide +kernel
theorem eX8_go_17 (hx : x = 0 ∨ x = 1) : Ev 125 17 (ls) [.int x] h r ↔ r = (h, .inl (some (.int x))) := ev_zret iX8_go_17 (X := mnI_X8_go) rfl rfl hx
theorem iX8_go_18 : mn_ins 125 18 = some (8, false, .aload_n 0, 1) := by decide +kernel
theorem eX8_go_18 : Ev 125 18 (some (.ref a) :: ls) (st) h r ↔ Ev 125 19 (some (.ref a) :: ls) (.ref a :: st) h r := ev_aload_n iX8_go_18 rfl rfl
theorem iX8_go_19 : mn_ins 125 19 = some (8, false, .iload_n 1, 1) := by decide +kernel
theorem eX8_go_19 : Ev 125 19 (a0 :: some (.int x) :: ls) (st) h r ↔ Ev 125 20 (a0 :: some (.int x) :: ls) (.int x :: st) h r := ev_iload_n iX8_go_19 rfl
theorem iX8_go_20 : mn_ins 125 20 = some (8, false, .invokevirtual 227, 3) := by decide +kernel
theorem eX8_go_20 : Ev 125 20 (ls) (.int x0 :: .ref b :: st) h r ↔ Evr true (decide (mn_cats st ≤ 8) && mn_isc h b 8) 125 20 ls st h.2.2.1 h.2.2.2 (Cl 117 (.ref b :: [.int x0]) h.1 h.2.1) r := Ev_V (As := [.int x0]) iX8_go_20 (by decide +kernel) (x := mnI_X8_go) (x2 := mnI_X8_stepOne) rfl rfl rfl (by decide +kernel) (Nat.le_of_ble_eq_true rfl) rfl
theorem iX8_go_23 : mn_ins 125 23 = some (8, false, .iconst 1, 1) := by decide +kernel
theorem eX8_go_23 : Ev 125 23 (ls) (st) h r ↔ Ev 125 24 (ls) (.int (nI 1) :: st) h r := ev_iconst iX8_go_23 (by decide)
theorem iX8_go_24 : mn_ins 125 24 = some (8, false, .ireturn, 1) := by decide +kernel
theorem eX8_go_24 (hx : x = 0 ∨ x = 1) : Ev 125 24 (ls) [.int x] h r ↔ r = (h, .inl (some (.int x))) := ev_zret iX8_go_24 (X := mnI_X8_go) rfl rfl hx
theorem iX8_canGoOn_0 : mn_ins 126 0 = some (8, false, .aload_n 0, 1) := by decide +kernel
theorem eX8_canGoOn_0 : Ev 126 0 (some (.ref a) :: ls) (st) h r ↔ Ev 126 1 (some (.ref a) :: ls) (.ref a :: st) h r := ev_aload_n iX8_canGoOn_0 rfl rfl
theorem iX8_canGoOn_1 : mn_ins 126 1 = some (8, false, .getfield 39, 3) := by decide +kernel
theorem eX8_canGoOn_1 : Ev 126 1 (ls) (.ref a :: st) h r ↔ Evk 126 4 ls (mn_gf h a 8 16) st h r := ev_getf iX8_canGoOn_1 (by decide +kernel)
theorem iX8_canGoOn_4 : mn_ins 126 4 = some (8, false, .iload_n 1, 1) := by decide +kernel
theorem eX8_canGoOn_4 : Ev 126 4 (a0 :: some (.int x) :: ls) (st) h r ↔ Ev 126 5 (a0 :: some (.int x) :: ls) (.int x :: st) h r := ev_iload_n iX8_canGoOn_4 rfl
theorem iX8_canGoOn_5 : mn_ins 126 5 = some (8, false, .iaload, 1) := by decide +kernel
theorem eX8_canGoOn_5 : Ev 126 5 (ls) (.int x :: .ref a :: st) h r ↔ Evk 126 6 ls (mn_al h a 0 x) st h r := ev_iald iX8_canGoOn_5
theorem iX8_canGoOn_6 : mn_ins 126 6 = some (8, false, .ifCond .ne 15, 3) := by decide +kernel
theorem eX8_canGoOn_6 : Ev 126 6 (ls) (.int x :: st) h r ↔ if x = nI 0 then Ev 126 9 (ls) (st) h r else Ev 126 21 (ls) (st) h r := ev_ifne iX8_canGoOn_6 (by decide)
theorem iX8_canGoOn_9 : mn_ins 126 9 = some (8, false, .aload_n 0, 1) := by decide +kernel
theorem eX8_canGoOn_9 : Ev 126 9 (some (.ref a) :: ls) (st) h r ↔ Ev 126 10 (some (.ref a) :: ls) (.ref a :: st) h r := ev_aload_n iX8_canGoOn_9 rfl rfl
theorem iX8_canGoOn_10 : mn_ins 126 10 = some (8, false, .iload_n 1, 1) := by decide +kernel
theorem eX8_canGoOn_10 : Ev 126 10 (a0 :: some (.int x) :: ls) (st) h r ↔ Ev 126 11 (a0 :: some (.int x) :: ls) (.int x :: st) h r := ev_iload_n iX8_canGoOn_10 rfl
theorem iX8_canGoOn_11 : mn_ins 126 11 = some (8, false, .invokevirtual 221, 3) := by decide +kernel
theorem eX8_canGoOn_11 : Ev 126 11 (ls) (.int x0 :: .ref b :: st) h r ↔ Evr true (decide (mn_cats st ≤ 8) && mn_isc h b 8) 126 11 ls st h.2.2.1 h.2.2.2 (Cl 116 (.ref b :: [.int x0]) h.1 h.2.1) r := Ev_V (As := [.int x0]) iX8_canGoOn_11 (by decide +kernel) (x := mnI_X8_canGoOn) (x2 := mnI_X8_waits) rfl rfl rfl (by decide +kernel) (Nat.le_of_ble_eq_true rfl) rfl
theorem iX8_canGoOn_14 : mn_ins 126 14 = some (8, false, .ifCond .ne 7, 3) := by decide +kernel
theorem eX8_canGoOn_14 : Ev 126 14 (ls) (.int x :: st) h r ↔ if x = nI 0 then Ev 126 17 (ls) (st) h r else Ev 126 21 (ls) (st) h r := ev_ifne iX8_canGoOn_14 (by decide)
theorem iX8_canGoOn_17 : mn_ins 126 17 = some (8, false, .iconst 1, 1) := by decide +kernel
theorem eX8_canGoOn_17 : Ev 126 17 (ls) (st) h r ↔ Ev 126 18 (ls) (.int (nI 1) :: st) h r := ev_iconst iX8_canGoOn_17 (by decide)
theorem iX8_canGoOn_18 : mn_ins 126 18 = some (8, false, .goto 4, 3) := by decide +kernel
theorem eX8_canGoOn_18 : Ev 126 18 (ls) (st) h r ↔ Ev 126 22 (ls) (st) h r := ev_goto iX8_canGoOn_18 (by decide)
theorem iX8_canGoOn_21 : mn_ins 126 21 = some (8, false, .iconst 0, 1) := by decide +kernel
theorem eX8_canGoOn_21 : Ev 126 21 (ls) (st) h r ↔ Ev 126 22 (ls) (.int (nI 0) :: st) h r := ev_iconst iX8_canGoOn_21 (by decide)
theorem iX8_canGoOn_22 : mn_ins 126 22 = some (8, false, .ireturn, 1) := by decide +kernel
theorem eX8_canGoOn_22 (hx : x = 0 ∨ x = 1) : Ev 126 22 (ls) [.int x] h r ↔ r = (h, .inl (some (.int x))) := ev_zret iX8_canGoOn_22 (X := mnI_X8_canGoOn) rfl rfl hx
theorem iX8_choose_0 : mn_ins 127 0 = some (8, false, .iconst 0, 1) := by decide +kernel
theorem eX8_choose_0 : Ev 127 0 (ls) (st) h r ↔ Ev 127 1 (ls) (.int (nI 0) :: st) h r := ev_iconst iX8_choose_0 (by decide)
theorem iX8_choose_1 : mn_ins 127 1 = some (8, false, .istore_n 3, 1) := by decide +kernel
theorem eX8_choose_1 : Ev 127 1 (a0 :: a1 :: a2 :: a3 :: ls) (.int x :: st) h r ↔ Ev 127 2 (a0 :: a1 :: mn_k a2 :: some (.int x) :: ls) (st) h r := ev_istore_n iX8_choose_1 (by show 3 < _; simp only [List.length_cons]; omega)
theorem iX8_choose_2 : mn_ins 127 2 = some (8, false, .iconst 0, 1) := by decide +kernel
theorem eX8_choose_2 : Ev 127 2 (ls) (st) h r ↔ Ev 127 3 (ls) (.int (nI 0) :: st) h r := ev_iconst iX8_choose_2 (by decide)
theorem iX8_choose_3 : mn_ins 127 3 = some (8, false, .istore 4, 2) := by decide +kernel
theorem eX8_choose_3 : Ev 127 3 (a0 :: a1 :: a2 :: a3 :: a4 :: ls) (.int x :: st) h r ↔ Ev 127 5 (a0 :: a1 :: a2 :: mn_k a3 :: some (.int x) :: ls) (st) h r := ev_istore iX8_choose_3 (by show 4 < _; simp only [List.length_cons]; omega)
theorem iX8_choose_5 : mn_ins 127 5 = some (8, false, .iload 4, 2) := by decide +kernel
theorem eX8_choose_5 : Ev 127 5 (a0 :: a1 :: a2 :: a3 :: some (.int x) :: ls) (st) h r ↔ Ev 127 7 (a0 :: a1 :: a2 :: a3 :: some (.int x) :: ls) (.int x :: st) h r := ev_iload iX8_choose_5 rfl
theorem iX8_choose_7 : mn_ins 127 7 = some (8, false, .aload_n 0, 1) := by decide +kernel
theorem eX8_choose_7 : Ev 127 7 (some (.ref a) :: ls) (st) h r ↔ Ev 127 8 (some (.ref a) :: ls) (.ref a :: st) h r := ev_aload_n iX8_choose_7 rfl rfl
theorem iX8_choose_8 : mn_ins 127 8 = some (8, false, .getfield 144, 3) := by decide +kernel
theorem eX8_choose_8 : Ev 127 8 (ls) (.ref a :: st) h r ↔ Evk 127 11 ls (mn_gf h a 8 11) st h r := ev_getf iX8_choose_8 (by decide +kernel)
theorem iX8_choose_11 : mn_ins 127 11 = some (8, false, .if_icmp .ge 26, 3) := by decide +kernel
theorem eX8_choose_11 : Ev 127 11 (ls) (.int y :: .int x :: st) h r ↔ if y ≤ x then Ev 127 37 (ls) (st) h r else Ev 127 14 (ls) (st) h r := ev_cmpge iX8_choose_11 (by decide)
theorem iX8_choose_14 : mn_ins 127 14 = some (8, false, .iload_n 3, 1) := by decide +kernel
theorem eX8_choose_14 : Ev 127 14 (a0 :: a1 :: a2 :: some (.int x) :: ls) (st) h r ↔ Ev 127 15 (a0 :: a1 :: a2 :: some (.int x) :: ls) (.int x :: st) h r := ev_iload_n iX8_choose_14 rfl
theorem iX8_choose_15 : mn_ins 127 15 = some (8, false, .aload_n 0, 1) := by decide +kernel
theorem eX8_choose_15 : Ev 127 15 (some (.ref a) :: ls) (st) h r ↔ Ev 127 16 (some (.ref a) :: ls) (.ref a :: st) h r := ev_aload_n iX8_choose_15 rfl rfl
theorem iX8_choose_16 : mn_ins 127 16 = some (8, false, .iload 4, 2) := by decide +kernel
theorem eX8_choose_16 : Ev 127 16 (a0 :: a1 :: a2 :: a3 :: some (.int x) :: ls) (st) h r ↔ Ev 127 18 (a0 :: a1 :: a2 :: a3 :: some (.int x) :: ls) (.int x :: st) h r := ev_iload iX8_choose_16 rfl
theorem iX8_choose_18 : mn_ins 127 18 = some (8, false, .invokevirtual 230, 3) := by decide +kernel
theorem eX8_choose_18 : Ev 127 18 (ls) (.int x0 :: .ref b :: st) h r ↔ Evr true (decide (mn_cats st ≤ 8) && mn_isc h b 8) 127 18 ls st h.2.2.1 h.2.2.2 (Cl 126 (.ref b :: [.int x0]) h.1 h.2.1) r := Ev_V (As := [.int x0]) iX8_choose_18 (by decide +kernel) (x := mnI_X8_choose) (x2 := mnI_X8_canGoOn) rfl rfl rfl (by decide +kernel) (Nat.le_of_ble_eq_true rfl) rfl
theorem iX8_choose_21 : mn_ins 127 21 = some (8, false, .ifCond .eq 7, 3) := by decide +kernel
theorem eX8_choose_21 : Ev 127 21 (ls) (.int x :: st) h r ↔ if x = nI 0 then Ev 127 28 (ls) (st) h r else Ev 127 24 (ls) (st) h r := ev_ifeq iX8_choose_21 (by decide)
theorem iX8_choose_24 : mn_ins 127 24 = some (8, false, .iconst 1, 1) := by decide +kernel
theorem eX8_choose_24 : Ev 127 24 (ls) (st) h r ↔ Ev 127 25 (ls) (.int (nI 1) :: st) h r := ev_iconst iX8_choose_24 (by decide)
theorem iX8_choose_25 : mn_ins 127 25 = some (8, false, .goto 4, 3) := by decide +kernel
theorem eX8_choose_25 : Ev 127 25 (ls) (st) h r ↔ Ev 127 29 (ls) (st) h r := ev_goto iX8_choose_25 (by decide)
theorem iX8_choose_28 : mn_ins 127 28 = some (8, false, .iconst 0, 1) := by decide +kernel
theorem eX8_choose_28 : Ev 127 28 (ls) (st) h r ↔ Ev 127 29 (ls) (.int (nI 0) :: st) h r := ev_iconst iX8_choose_28 (by decide)
theorem iX8_choose_29 : mn_ins 127 29 = some (8, false, .iadd, 1) := by decide +kernel
theorem eX8_choose_29 : Ev 127 29 (ls) (.int y :: .int x :: st) h r ↔ Ev 127 30 (ls) (.int (x + y) :: st) h r := ev_iadd iX8_choose_29
theorem iX8_choose_30 : mn_ins 127 30 = some (8, false, .istore_n 3, 1) := by decide +kernel
theorem eX8_choose_30 : Ev 127 30 (a0 :: a1 :: a2 :: a3 :: ls) (.int x :: st) h r ↔ Ev 127 31 (a0 :: a1 :: mn_k a2 :: some (.int x) :: ls) (st) h r := ev_istore_n iX8_choose_30 (by show 3 < _; simp only [List.length_cons]; omega)
theorem iX8_choose_31 : mn_ins 127 31 = some (8, false, .iinc 4 1, 3) := by decide +kernel
theorem eX8_choose_31 : Ev 127 31 (a0 :: a1 :: a2 :: a3 :: some (.int x) :: ls) (st) h r ↔ Ev 127 34 (a0 :: a1 :: a2 :: mn_k a3 :: some (.int (x + (nI 1))) :: ls) (st) h r := ev_iinc iX8_choose_31 rfl (by decide)
theorem iX8_choose_34 : mn_ins 127 34 = some (8, false, .goto (-29), 3) := by decide +kernel
theorem eX8_choose_34 : Ev 127 34 (ls) (st) h r ↔ Ev 127 5 (ls) (st) h r := ev_goto iX8_choose_34 (by decide)
theorem iX8_choose_37 : mn_ins 127 37 = some (8, false, .iload_n 2, 1) := by decide +kernel
theorem eX8_choose_37 : Ev 127 37 (a0 :: a1 :: some (.int x) :: ls) (st) h r ↔ Ev 127 38 (a0 :: a1 :: some (.int x) :: ls) (.int x :: st) h r := ev_iload_n iX8_choose_37 rfl
theorem iX8_choose_38 : mn_ins 127 38 = some (8, false, .ifCond .eq 9, 3) := by decide +kernel
theorem eX8_choose_38 : Ev 127 38 (ls) (.int x :: st) h r ↔ if x = nI 0 then Ev 127 47 (ls) (st) h r else Ev 127 41 (ls) (st) h r := ev_ifeq iX8_choose_38 (by decide)
theorem iX8_choose_41 : mn_ins 127 41 = some (8, false, .iload_n 3, 1) := by decide +kernel
theorem eX8_choose_41 : Ev 127 41 (a0 :: a1 :: a2 :: some (.int x) :: ls) (st) h r ↔ Ev 127 42 (a0 :: a1 :: a2 :: some (.int x) :: ls) (.int x :: st) h r := ev_iload_n iX8_choose_41 rfl
theorem iX8_choose_42 : mn_ins 127 42 = some (8, false, .iconst 1, 1) := by decide +kernel
theorem eX8_choose_42 : Ev 127 42 (ls) (st) h r ↔ Ev 127 43 (ls) (.int (nI 1) :: st) h r := ev_iconst iX8_choose_42 (by decide)
theorem iX8_choose_43 : mn_ins 127 43 = some (8, false, .isub, 1) := by decide +kernel
theorem eX8_choose_43 : Ev 127 43 (ls) (.int y :: .int x :: st) h r ↔ Ev 127 44 (ls) (.int (x - y) :: st) h r := ev_isub iX8_choose_43
theorem iX8_choose_44 : mn_ins 127 44 = some (8, false, .goto 6, 3) := by decide +kernel
theorem eX8_choose_44 : Ev 127 44 (ls) (st) h r ↔ Ev 127 50 (ls) (st) h r := ev_goto iX8_choose_44 (by decide)
theorem iX8_choose_47 : mn_ins 127 47 = some (8, false, .iload_n 1, 1) := by decide +kernel
theorem eX8_choose_47 : Ev 127 47 (a0 :: some (.int x) :: ls) (st) h r ↔ Ev 127 48 (a0 :: some (.int x) :: ls) (.int x :: st) h r := ev_iload_n iX8_choose_47 rfl
theorem iX8_choose_48 : mn_ins 127 48 = some (8, false, .iload_n 3, 1) := by decide +kernel
theorem eX8_choose_48 : Ev 127 48 (a0 :: a1 :: a2 :: some (.int x) :: ls) (st) h r ↔ Ev 127 49 (a0 :: a1 :: a2 :: some (.int x) :: ls) (.int x :: st) h r := ev_iload_n iX8_choose_48 rfl
theorem iX8_choose_49 : mn_ins 127 49 = some (8, false, .irem, 1) := by decide +kernel
theorem eX8_choose_49 (hy : ¬ y = 0) : Ev 127 49 (ls) (.int y :: .int x :: st) h r ↔ Ev 127 50 (ls) (.int (x - x / y * y) :: st) h r := ev_irem iX8_choose_49 hy
theorem iX8_choose_50 : mn_ins 127 50 = some (8, false, .istore 4, 2) := by decide +kernel
theorem eX8_choose_50 : Ev 127 50 (a0 :: a1 :: a2 :: a3 :: a4 :: ls) (.int x :: st) h r ↔ Ev 127 52 (a0 :: a1 :: a2 :: mn_k a3 :: some (.int x) :: ls) (st) h r := ev_istore iX8_choose_50 (by show 4 < _; simp only [List.length_cons]; omega)
theorem iX8_choose_52 : mn_ins 127 52 = some (8, false, .iconst 0, 1) := by decide +kernel
theorem eX8_choose_52 : Ev 127 52 (ls) (st) h r ↔ Ev 127 53 (ls) (.int (nI 0) :: st) h r := ev_iconst iX8_choose_52 (by decide)
theorem iX8_choose_53 : mn_ins 127 53 = some (8, false, .istore 5, 2) := by decide +kernel
theorem eX8_choose_53 : Ev 127 53 (a0 :: a1 :: a2 :: a3 :: a4 :: a5 :: ls) (.int x :: st) h r ↔ Ev 127 55 (a0 :: a1 :: a2 :: a3 :: mn_k a4 :: some (.int x) :: ls) (st) h r := ev_istore iX8_choose_53 (by show 5 < _; simp only [List.length_cons]; omega)
theorem iX8_choose_55 : mn_ins 127 55 = some (8, false, .aload_n 0, 1) := by decide +kernel
theorem eX8_choose_55 : Ev 127 55 (some (.ref a) :: ls) (st) h r ↔ Ev 127 56 (some (.ref a) :: ls) (.ref a :: st) h r := ev_aload_n iX8_choose_55 rfl rfl
theorem iX8_choose_56 : mn_ins 127 56 = some (8, false, .iload 5, 2) := by decide +kernel
theorem eX8_choose_56 : Ev 127 56 (a0 :: a1 :: a2 :: a3 :: a4 :: some (.int x) :: ls) (st) h r ↔ Ev 127 58 (a0 :: a1 :: a2 :: a3 :: a4 :: some (.int x) :: ls) (.int x :: st) h r := ev_iload iX8_choose_56 rfl
theorem iX8_choose_58 : mn_ins 127 58 = some (8, false, .invokevirtual 230, 3) := by decide +kernel
theorem eX8_choose_58 : Ev 127 58 (ls) (.int x0 :: .ref b :: st) h r ↔ Evr true (decide (mn_cats st ≤ 8) && mn_isc h b 8) 127 58 ls st h.2.2.1 h.2.2.2 (Cl 126 (.ref b :: [.int x0]) h.1 h.2.1) r := Ev_V (As := [.int x0]) iX8_choose_58 (by decide +kernel) (x := mnI_X8_choose) (x2 := mnI_X8_canGoOn) rfl rfl rfl (by decide +kernel) (Nat.le_of_ble_eq_true rfl) rfl
theorem iX8_choose_61 : mn_ins 127 61 = some (8, false, .ifCond .eq 8, 3) := by decide +kernel
theorem eX8_choose_61 : Ev 127 61 (ls) (.int x :: st) h r ↔ if x = nI 0 then Ev 127 69 (ls) (st) h r else Ev 127 64 (ls) (st) h r := ev_ifeq iX8_choose_61 (by decide)
theorem iX8_choose_64 : mn_ins 127 64 = some (8, false, .iload 4, 2) := by decide +kernel
theorem eX8_choose_64 : Ev 127 64 (a0 :: a1 :: a2 :: a3 :: some (.int x) :: ls) (st) h r ↔ Ev 127 66 (a0 :: a1 :: a2 :: a3 :: some (.int x) :: ls) (.int x :: st) h r := ev_iload iX8_choose_64 rfl
theorem iX8_choose_66 : mn_ins 127 66 = some (8, false, .ifCond .le 28, 3) := by decide +kernel
theorem eX8_choose_66 : Ev 127 66 (ls) (.int x :: st) h r ↔ if x ≤ nI 0 then Ev 127 94 (ls) (st) h r else Ev 127 69 (ls) (st) h r := ev_ifle iX8_choose_66 (by decide)
theorem iX8_choose_69 : mn_ins 127 69 = some (8, false, .iload 4, 2) := by decide +kernel
theorem eX8_choose_69 : Ev 127 69 (a0 :: a1 :: a2 :: a3 :: some (.int x) :: ls) (st) h r ↔ Ev 127 71 (a0 :: a1 :: a2 :: a3 :: some (.int x) :: ls) (.int x :: st) h r := ev_iload iX8_choose_69 rfl
theorem iX8_choose_71 : mn_ins 127 71 = some (8, false, .aload_n 0, 1) := by decide +kernel
theorem eX8_choose_71 : Ev 127 71 (some (.ref a) :: ls) (st) h r ↔ Ev 127 72 (some (.ref a) :: ls) (.ref a :: st) h r := ev_aload_n iX8_choose_71 rfl rfl
theorem iX8_choose_72 : mn_ins 127 72 = some (8, false, .iload 5, 2) := by decide +kernel
theorem eX8_choose_72 : Ev 127 72 (a0 :: a1 :: a2 :: a3 :: a4 :: some (.int x) :: ls) (st) h r ↔ Ev 127 74 (a0 :: a1 :: a2 :: a3 :: a4 :: some (.int x) :: ls) (.int x :: st) h r := ev_iload iX8_choose_72 rfl
theorem iX8_choose_74 : mn_ins 127 74 = some (8, false, .invokevirtual 230, 3) := by decide +kernel
theorem eX8_choose_74 : Ev 127 74 (ls) (.int x0 :: .ref b :: st) h r ↔ Evr true (decide (mn_cats st ≤ 8) && mn_isc h b 8) 127 74 ls st h.2.2.1 h.2.2.2 (Cl 126 (.ref b :: [.int x0]) h.1 h.2.1) r := Ev_V (As := [.int x0]) iX8_choose_74 (by decide +kernel) (x := mnI_X8_choose) (x2 := mnI_X8_canGoOn) rfl rfl rfl (by decide +kernel) (Nat.le_of_ble_eq_true rfl) rfl
theorem iX8_choose_77 : mn_ins 127 77 = some (8, false, .ifCond .eq 7, 3) := by decide +kernel
theorem eX8_choose_77 : Ev 127 77 (ls) (.int x :: st) h r ↔ if x = nI 0 then Ev 127 84 (ls) (st) h r else Ev 127 80 (ls) (st) h r := ev_ifeq iX8_choose_77 (by decide)
theorem iX8_choose_80 : mn_ins 127 80 = some (8, false, .iconst 1, 1) := by decide +kernel
theorem eX8_choose_80 : Ev 127 80 (ls) (st) h r ↔ Ev 127 81 (ls) (.int (nI 1) :: st) h r := ev_iconst iX8_choose_80 (by decide)
theorem iX8_choose_81 : mn_ins 127 81 = some (8, false, .goto 4, 3) := by decide +kernel
theorem eX8_choose_81 : Ev 127 81 (ls) (st) h r ↔ Ev 127 85 (ls) (st) h r := ev_goto iX8_choose_81 (by decide)
theorem iX8_choose_84 : mn_ins 127 84 = some (8, false, .iconst 0, 1) := by decide +kernel
theorem eX8_choose_84 : Ev 127 84 (ls) (st) h r ↔ Ev 127 85 (ls) (.int (nI 0) :: st) h r := ev_iconst iX8_choose_84 (by decide)
theorem iX8_choose_85 : mn_ins 127 85 = some (8, false, .isub, 1) := by decide +kernel
theorem eX8_choose_85 : Ev 127 85 (ls) (.int y :: .int x :: st) h r ↔ Ev 127 86 (ls) (.int (x - y) :: st) h r := ev_isub iX8_choose_85
theorem iX8_choose_86 : mn_ins 127 86 = some (8, false, .istore 4, 2) := by decide +kernel
theorem eX8_choose_86 : Ev 127 86 (a0 :: a1 :: a2 :: a3 :: a4 :: ls) (.int x :: st) h r ↔ Ev 127 88 (a0 :: a1 :: a2 :: mn_k a3 :: some (.int x) :: ls) (st) h r := ev_istore iX8_choose_86 (by show 4 < _; simp only [List.length_cons]; omega)
theorem iX8_choose_88 : mn_ins 127 88 = some (8, false, .iinc 5 1, 3) := by decide +kernel
theorem eX8_choose_88 : Ev 127 88 (a0 :: a1 :: a2 :: a3 :: a4 :: some (.int x) :: ls) (st) h r ↔ Ev 127 91 (a0 :: a1 :: a2 :: a3 :: mn_k a4 :: some (.int (x + (nI 1))) :: ls) (st) h r := ev_iinc iX8_choose_88 rfl (by decide)
theorem iX8_choose_91 : mn_ins 127 91 = some (8, false, .goto (-36), 3) := by decide +kernel
theorem eX8_choose_91 : Ev 127 91 (ls) (st) h r ↔ Ev 127 55 (ls) (st) h r := ev_goto iX8_choose_91 (by decide)
theorem iX8_choose_94 : mn_ins 127 94 = some (8, false, .iload 5, 2) := by decide +kernel
theorem eX8_choose_94 : Ev 127 94 (a0 :: a1 :: a2 :: a3 :: a4 :: some (.int x) :: ls) (st) h r ↔ Ev 127 96 (a0 :: a1 :: a2 :: a3 :: a4 :: some (.int x) :: ls) (.int x :: st) h r := ev_iload iX8_choose_94 rfl
theorem iX8_choose_96 : mn_ins 127 96 = some (8, false, .ireturn, 1) := by decide +kernel
theorem eX8_choose_96 : Ev 127 96 (ls) [.int x] h r ↔ r = (h, .inl (some (.int x))) := ev_iret iX8_choose_96 (X := mnI_X8_choose) rfl rfl
theorem iX8_run_0 : mn_ins 128 0 = some (8, false, .aload_n 0, 1) := by decide +kernel
theorem eX8_run_0 : Ev 128 0 (some (.ref a) :: ls) (st) h r ↔ Ev 128 1 (some (.ref a) :: ls) (.ref a :: st) h r := ev_aload_n iX8_run_0 rfl rfl
theorem iX8_run_1 : mn_ins 128 1 = some (8, false, .aload_n 0, 1) := by decide +kernel
theorem eX8_run_1 : Ev 128 1 (some (.ref a) :: ls) (st) h r ↔ Ev 128 2 (some (.ref a) :: ls) (.ref a :: st) h r := ev_aload_n iX8_run_1 rfl rfl
theorem iX8_run_2 : mn_ins 128 2 = some (8, false, .getfield 97, 3) := by decide +kernel
theorem eX8_run_2 : Ev 128 2 (ls) (.ref a :: st) h r ↔ Evk 128 5 ls (mn_gf h a 8 9) st h r := ev_getf iX8_run_2 (by decide +kernel)
theorem iX8_run_5 : mn_ins 128 5 = some (8, false, .ifCond .eq 7, 3) := by decide +kernel
theorem eX8_run_5 : Ev 128 5 (ls) (.int x :: st) h r ↔ if x = nI 0 then Ev 128 12 (ls) (st) h r else Ev 128 8 (ls) (st) h r := ev_ifeq iX8_run_5 (by decide)
theorem iX8_run_8 : mn_ins 128 8 = some (8, false, .iconst 0, 1) := by decide +kernel
theorem eX8_run_8 : Ev 128 8 (ls) (st) h r ↔ Ev 128 9 (ls) (.int (nI 0) :: st) h r := ev_iconst iX8_run_8 (by decide)
theorem iX8_run_9 : mn_ins 128 9 = some (8, false, .goto 4, 3) := by decide +kernel
theorem eX8_run_9 : Ev 128 9 (ls) (st) h r ↔ Ev 128 13 (ls) (st) h r := ev_goto iX8_run_9 (by decide)
theorem iX8_run_12 : mn_ins 128 12 = some (8, false, .iconst 1, 1) := by decide +kernel
theorem eX8_run_12 : Ev 128 12 (ls) (st) h r ↔ Ev 128 13 (ls) (.int (nI 1) :: st) h r := ev_iconst iX8_run_12 (by decide)
theorem iX8_run_13 : mn_ins 128 13 = some (8, false, .putfield 94, 3) := by decide +kernel
theorem eX8_run_13 : Ev 128 13 (ls) (w :: .ref a :: st) h r ↔ Evh 128 16 ls st (mn_pf h a 8 0 w) r := ev_putf iX8_run_13 (by decide +kernel) (by decide +kernel)
theorem iX8_run_16 : mn_ins 128 16 = some (8, false, .aload_n 0, 1) := by decide +kernel
theorem eX8_run_16 : Ev 128 16 (some (.ref a) :: ls) (st) h r ↔ Ev 128 17 (some (.ref a) :: ls) (.ref a :: st) h r := ev_aload_n iX8_run_16 rfl rfl
theorem iX8_run_17 : mn_ins 128 17 = some (8, false, .getfield 94, 3) := by decide +kernel
theorem eX8_run_17 : Ev 128 17 (ls) (.ref a :: st) h r ↔ Evk 128 20 ls (mn_gf h a 8 0) st h r := ev_getf iX8_run_17 (by decide +kernel)
theorem iX8_run_20 : mn_ins 128 20 = some (8, false, .ifCond .le 5, 3) := by decide +kernel
theorem eX8_run_20 : Ev 128 20 (ls) (.int x :: st) h r ↔ if x ≤ nI 0 then Ev 128 25 (ls) (st) h r else Ev 128 23 (ls) (st) h r := ev_ifle iX8_run_20 (by decide)
theorem iX8_run_23 : mn_ins 128 23 = some (8, false, .iconst 0, 1) := by decide +kernel
theorem eX8_run_23 : Ev 128 23 (ls) (st) h r ↔ Ev 128 24 (ls) (.int (nI 0) :: st) h r := ev_iconst iX8_run_23 (by decide)
theorem iX8_run_24 : mn_ins 128 24 = some (8, false, .ireturn, 1) := by decide +kernel
theorem eX8_run_24 : Ev 128 24 (ls) [.int x] h r ↔ r = (h, .inl (some (.int x))) := ev_iret iX8_run_24 (X := mnI_X8_run) rfl rfl
theorem iX8_run_25 : mn_ins 128 25 = some (8, false, .aload_n 0, 1) := by decide +kernel
theorem eX8_run_25 : Ev 128 25 (some (.ref a) :: ls) (st) h r ↔ Ev 128 26 (some (.ref a) :: ls) (.ref a :: st) h r := ev_aload_n iX8_run_25 rfl rfl
theorem iX8_run_26 : mn_ins 128 26 = some (8, false, .getfield 147, 3) := by decide +kernel
theorem eX8_run_26 : Ev 128 26 (ls) (.ref a :: st) h r ↔ Evk 128 29 ls (mn_gf h a 8 12) st h r := ev_getf iX8_run_26 (by decide +kernel)
theorem iX8_run_29 : mn_ins 128 29 = some (8, false, .istore_n 2, 1) := by decide +kernel
theorem eX8_run_29 : Ev 128 29 (a0 :: a1 :: a2 :: ls) (.int x :: st) h r ↔ Ev 128 30 (a0 :: mn_k a1 :: some (.int x) :: ls) (st) h r := ev_istore_n iX8_run_29 (by show 2 < _; simp only [List.length_cons]; omega)
theorem iX8_run_30 : mn_ins 128 30 = some (8, false, .iload_n 1, 1) := by decide +kernel
theorem eX8_run_30 : Ev 128 30 (a0 :: some (.int x) :: ls) (st) h r ↔ Ev 128 31 (a0 :: some (.int x) :: ls) (.int x :: st) h r := ev_iload_n iX8_run_30 rfl
theorem iX8_run_31 : mn_ins 128 31 = some (8, false, .istore_n 3, 1) := by decide +kernel
theorem eX8_run_31 : Ev 128 31 (a0 :: a1 :: a2 :: a3 :: ls) (.int x :: st) h r ↔ Ev 128 32 (a0 :: a1 :: mn_k a2 :: some (.int x) :: ls) (st) h r := ev_istore_n iX8_run_31 (by show 3 < _; simp only [List.length_cons]; omega)
theorem iX8_run_32 : mn_ins 128 32 = some (8, false, .aload_n 0, 1) := by decide +kernel
theorem eX8_run_32 : Ev 128 32 (some (.ref a) :: ls) (st) h r ↔ Ev 128 33 (some (.ref a) :: ls) (.ref a :: st) h r := ev_aload_n iX8_run_32 rfl rfl
theorem iX8_run_33 : mn_ins 128 33 = some (8, false, .getfield 39, 3) := by decide +kernel
theorem eX8_run_33 : Ev 128 33 (ls) (.ref a :: st) h r ↔ Evk 128 36 ls (mn_gf h a 8 16) st h r := ev_getf iX8_run_33 (by decide +kernel)
theorem iX8_run_36 : mn_ins 128 36 = some (8, false, .iconst 0, 1) := by decide +kernel
theorem eX8_run_36 : Ev 128 36 (ls) (st) h r ↔ Ev 128 37 (ls) (.int (nI 0) :: st) h r := ev_iconst iX8_run_36 (by decide)
theorem iX8_run_37 : mn_ins 128 37 = some (8, false, .iaload, 1) := by decide +kernel
theorem eX8_run_37 : Ev 128 37 (ls) (.int x :: .ref a :: st) h r ↔ Evk 128 38 ls (mn_al h a 0 x) st h r := ev_iald iX8_run_37
theorem iX8_run_38 : mn_ins 128 38 = some (8, false, .ifCond .ne 37, 3) := by decide +kernel
theorem eX8_run_38 : Ev 128 38 (ls) (.int x :: st) h r ↔ if x = nI 0 then Ev 128 41 (ls) (st) h r else Ev 128 75 (ls) (st) h r := ev_ifne iX8_run_38 (by decide)
theorem iX8_run_41 : mn_ins 128 41 = some (8, false, .iload_n 3, 1) := by decide +kernel
theorem eX8_run_41 : Ev 128 41 (a0 :: a1 :: a2 :: some (.int x) :: ls) (st) h r ↔ Ev 128 42 (a0 :: a1 :: a2 :: some (.int x) :: ls) (.int x :: st) h r := ev_iload_n iX8_run_41 rfl
theorem iX8_run_42 : mn_ins 128 42 = some (8, false, .ldc 233, 2) := by decide +kernel
theorem eX8_run_42 : Ev 128 42 (ls) (st) h r ↔ Ev 128 44 (ls) (.int (nI 1103515245) :: st) h r := ev_ldc iX8_run_42 (by decide +kernel)
theorem iX8_run_44 : mn_ins 128 44 = some (8, false, .imul, 1) := by decide +kernel
theorem eX8_run_44 : Ev 128 44 (ls) (.int y :: .int x :: st) h r ↔ Ev 128 45 (ls) (.int (x * y) :: st) h r := ev_imul iX8_run_44
theorem iX8_run_45 : mn_ins 128 45 = some (8, false, .sipush 12345, 3) := by decide +kernel
theorem eX8_run_45 : Ev 128 45 (ls) (st) h r ↔ Ev 128 48 (ls) (.int (nI 12345) :: st) h r := ev_sipush iX8_run_45 (by decide)
theorem iX8_run_48 : mn_ins 128 48 = some (8, false, .iadd, 1) := by decide +kernel
theorem eX8_run_48 : Ev 128 48 (ls) (.int y :: .int x :: st) h r ↔ Ev 128 49 (ls) (.int (x + y) :: st) h r := ev_iadd iX8_run_48
theorem iX8_run_49 : mn_ins 128 49 = some (8, false, .istore_n 3, 1) := by decide +kernel
theorem eX8_run_49 : Ev 128 49 (a0 :: a1 :: a2 :: a3 :: ls) (.int x :: st) h r ↔ Ev 128 50 (a0 :: a1 :: mn_k a2 :: some (.int x) :: ls) (st) h r := ev_istore_n iX8_run_49 (by show 3 < _; simp only [List.length_cons]; omega)
theorem iX8_run_50 : mn_ins 128 50 = some (8, false, .aload_n 0, 1) := by decide +kernel
theorem eX8_run_50 : Ev 128 50 (some (.ref a) :: ls) (st) h r ↔ Ev 128 51 (some (.ref a) :: ls) (.ref a :: st) h r := ev_aload_n iX8_run_50 rfl rfl
theorem iX8_run_51 : mn_ins 128 51 = some (8, false, .aload_n 0, 1) := by decide +kernel
theorem eX8_run_51 : Ev 128 51 (some (.ref a) :: ls) (st) h r ↔ Ev 128 52 (some (.ref a) :: ls) (.ref a :: st) h r := ev_aload_n iX8_run_51 rfl rfl
theorem iX8_run_52 : mn_ins 128 52 = some (8, false, .iload_n 3, 1) := by decide +kernel
theorem eX8_run_52 : Ev 128 52 (a0 :: a1 :: a2 :: some (.int x) :: ls) (st) h r ↔ Ev 128 53 (a0 :: a1 :: a2 :: some (.int x) :: ls) (.int x :: st) h r := ev_iload_n iX8_run_52 rfl
theorem iX8_run_53 : mn_ins 128 53 = some (8, false, .bipush 16, 2) := by decide +kernel
theorem eX8_run_53 : Ev 128 53 (ls) (st) h r ↔ Ev 128 55 (ls) (.int (nI 16) :: st) h r := ev_bipush iX8_run_53 (by decide)
theorem iX8_run_55 : mn_ins 128 55 = some (8, false, .iushr, 1) := by decide +kernel
theorem eX8_run_55 : Ev 128 55 (ls) (.int y :: .int x :: st) h r ↔ Ev 128 56 (ls) (.int (x.toUInt32 >>> (y.toUInt32 &&& Int32.toUInt32 31)).toInt32 :: st) h r := ev_iushr iX8_run_55
theorem iX8_run_56 : mn_ins 128 56 = some (8, false, .iload_n 1, 1) := by decide +kernel
theorem eX8_run_56 : Ev 128 56 (a0 :: some (.int x) :: ls) (st) h r ↔ Ev 128 57 (a0 :: some (.int x) :: ls) (.int x :: st) h r := ev_iload_n iX8_run_56 rfl
theorem iX8_run_57 : mn_ins 128 57 = some (8, false, .ifCond .ne 7, 3) := by decide +kernel
theorem eX8_run_57 : Ev 128 57 (ls) (.int x :: st) h r ↔ if x = nI 0 then Ev 128 60 (ls) (st) h r else Ev 128 64 (ls) (st) h r := ev_ifne iX8_run_57 (by decide)
theorem iX8_run_60 : mn_ins 128 60 = some (8, false, .iconst 1, 1) := by decide +kernel
theorem eX8_run_60 : Ev 128 60 (ls) (st) h r ↔ Ev 128 61 (ls) (.int (nI 1) :: st) h r := ev_iconst iX8_run_60 (by decide)
theorem iX8_run_61 : mn_ins 128 61 = some (8, false, .goto 4, 3) := by decide +kernel
theorem eX8_run_61 : Ev 128 61 (ls) (st) h r ↔ Ev 128 65 (ls) (st) h r := ev_goto iX8_run_61 (by decide)
theorem iX8_run_64 : mn_ins 128 64 = some (8, false, .iconst 0, 1) := by decide +kernel
theorem eX8_run_64 : Ev 128 64 (ls) (st) h r ↔ Ev 128 65 (ls) (.int (nI 0) :: st) h r := ev_iconst iX8_run_64 (by decide)
theorem iX8_run_65 : mn_ins 128 65 = some (8, false, .invokevirtual 234, 3) := by decide +kernel
theorem eX8_run_65 : Ev 128 65 (ls) (.int x1 :: .int x0 :: .ref b :: st) h r ↔ Evr true (decide (mn_cats st ≤ 8) && mn_isc h b 8) 128 65 ls st h.2.2.1 h.2.2.2 (Cl 127 (.ref b :: [.int x0, .int x1]) h.1 h.2.1) r := Ev_V (As := [.int x0, .int x1]) iX8_run_65 (by decide +kernel) (x := mnI_X8_run) (x2 := mnI_X8_choose) rfl rfl rfl (by decide +kernel) (Nat.le_of_ble_eq_true rfl) rfl
theorem iX8_run_68 : mn_ins 128 68 = some (8, false, .invokevirtual 224, 3) := by decide +kernel
theorem eX8_run_68 : Ev 128 68 (ls) (.int x0 :: .ref b :: st) h r ↔ Evr true (decide (mn_cats st ≤ 8) && mn_isc h b 8) 128 68 ls st h.2.2.1 h.2.2.2 (Cl 125 (.ref b :: [.int x0]) h.1 h.2.1) r := Ev_V (As := [.int x0]) iX8_run_68 (by decide +kernel) (x := mnI_X8_run) (x2 := mnI_X8_go) rfl rfl rfl (by decide +kernel) (Nat.le_of_ble_eq_true rfl) rfl
theorem iX8_run_71 : mn_ins 128 71 = some (8, false, .pop, 1) := by decide +kernel
theorem eX8_run_71 : Ev 128 71 (ls) (.int x :: st) h r ↔ Ev 128 72 (ls) (st) h r := ev_pop iX8_run_71 rfl
theorem eX8_run_71r : Ev 128 71 (ls) (.ref a :: st) h r ↔ Ev 128 72 (ls) (st) h r := ev_pop iX8_run_71 rfl
theorem iX8_run_72 : mn_ins 128 72 = some (8, false, .goto (-40), 3) := by decide +kernel
theorem eX8_run_72 : Ev 128 72 (ls) (st) h r ↔ Ev 128 32 (ls) (st) h r := ev_goto iX8_run_72 (by decide)
theorem iX8_run_75 : mn_ins 128 75 = some (8, false, .aload_n 0, 1) := by decide +kernel
theorem eX8_run_75 : Ev 128 75 (some (.ref a) :: ls) (st) h r ↔ Ev 128 76 (some (.ref a) :: ls) (.ref a :: st) h r := ev_aload_n iX8_run_75 rfl rfl
theorem iX8_run_76 : mn_ins 128 76 = some (8, false, .getfield 147, 3) := by decide +kernel
theorem eX8_run_76 : Ev 128 76 (ls) (.ref a :: st) h r ↔ Evk 128 79 ls (mn_gf h a 8 12) st h r := ev_getf iX8_run_76 (by decide +kernel)
theorem iX8_run_79 : mn_ins 128 79 = some (8, false, .iload_n 2, 1) := by decide +kernel
theorem eX8_run_79 : Ev 128 79 (a0 :: a1 :: some (.int x) :: ls) (st) h r ↔ Ev 128 80 (a0 :: a1 :: some (.int x) :: ls) (.int x :: st) h r := ev_iload_n iX8_run_79 rfl
theorem iX8_run_80 : mn_ins 128 80 = some (8, false, .isub, 1) := by decide +kernel
theorem eX8_run_80 : Ev 128 80 (ls) (.int y :: .int x :: st) h r ↔ Ev 128 81 (ls) (.int (x - y) :: st) h r := ev_isub iX8_run_80
theorem iX8_run_81 : mn_ins 128 81 = some (8, false, .ireturn, 1) := by decide +kernel
theorem eX8_run_81 : Ev 128 81 (ls) [.int x] h r ↔ r = (h, .inl (some (.int x))) := ev_iret iX8_run_81 (X := mnI_X8_run) rfl rfl
theorem iX8_isTask_0 : mn_ins 129 0 = some (8, false, .aload_n 0, 1) := by decide +kernel
theorem eX8_isTask_0 : Ev 129 0 (some (.ref a) :: ls) (st) h r ↔ Ev 129 1 (some (.ref a) :: ls) (.ref a :: st) h r := ev_aload_n iX8_isTask_0 rfl rfl
theorem iX8_isTask_1 : mn_ins 129 1 = some (8, false, .getfield 97, 3) := by decide +kernel
theorem eX8_isTask_1 : Ev 129 1 (ls) (.ref a :: st) h r ↔ Evk 129 4 ls (mn_gf h a 8 9) st h r := ev_getf iX8_isTask_1 (by decide +kernel)
theorem iX8_isTask_4 : mn_ins 129 4 = some (8, false, .ifCond .eq 22, 3) := by decide +kernel
theorem eX8_isTask_4 : Ev 129 4 (ls) (.int x :: st) h r ↔ if x = nI 0 then Ev 129 26 (ls) (st) h r else Ev 129 7 (ls) (st) h r := ev_ifeq iX8_isTask_4 (by decide)
theorem iX8_isTask_7 : mn_ins 129 7 = some (8, false, .iload_n 1, 1) := by decide +kernel
theorem eX8_isTask_7 : Ev 129 7 (a0 :: some (.int x) :: ls) (st) h r ↔ Ev 129 8 (a0 :: some (.int x) :: ls) (.int x :: st) h r := ev_iload_n iX8_isTask_7 rfl
theorem iX8_isTask_8 : mn_ins 129 8 = some (8, false, .i2l, 1) := by decide +kernel
theorem eX8_isTask_8 : Ev 129 8 (ls) (.int x :: st) h r ↔ Ev 129 9 (ls) (.long x.toInt64 :: st) h r := ev_i2l iX8_isTask_8
theorem iX8_isTask_9 : mn_ins 129 9 = some (8, false, .iconst 0, 1) := by decide +kernel
theorem eX8_isTask_9 : Ev 129 9 (ls) (st) h r ↔ Ev 129 10 (ls) (.int (nI 0) :: st) h r := ev_iconst iX8_isTask_9 (by decide)
theorem iX8_isTask_10 : mn_ins 129 10 = some (8, false, .aload_n 0, 1) := by decide +kernel
theorem eX8_isTask_10 : Ev 129 10 (some (.ref a) :: ls) (st) h r ↔ Ev 129 11 (some (.ref a) :: ls) (.ref a :: st) h r := ev_aload_n iX8_isTask_10 rfl rfl
theorem iX8_isTask_11 : mn_ins 129 11 = some (8, false, .getfield 144, 3) := by decide +kernel
theorem eX8_isTask_11 : Ev 129 11 (ls) (.ref a :: st) h r ↔ Evk 129 14 ls (mn_gf h a 8 11) st h r := ev_getf iX8_isTask_11 (by decide +kernel)
theorem iX8_isTask_14 : mn_ins 129 14 = some (8, false, .iconst 1, 1) := by decide +kernel
theorem eX8_isTask_14 : Ev 129 14 (ls) (st) h r ↔ Ev 129 15 (ls) (.int (nI 1) :: st) h r := ev_iconst iX8_isTask_14 (by decide)
theorem iX8_isTask_15 : mn_ins 129 15 = some (8, false, .isub, 1) := by decide +kernel
theorem eX8_isTask_15 : Ev 129 15 (ls) (.int y :: .int x :: st) h r ↔ Ev 129 16 (ls) (.int (x - y) :: st) h r := ev_isub iX8_isTask_15
theorem iX8_isTask_16 : mn_ins 129 16 = some (8, false, .invokestatic 111, 3) := by decide +kernel
theorem eX8_isTask_16 : Ev 129 16 (ls) (.int x2 :: .int x1 :: .long u0 :: st) h r ↔ Evr false (decide (mn_cats st ≤ 8)) 129 16 ls st h.2.2.1 h.2.2.2 (Cl 86 [.long u0, .int x1, .int x2] h.1 h.2.1) r := Ev_T (As := [.long u0, .int x1, .int x2]) (q := 1) iX8_isTask_16 (by decide +kernel) (by decide) (x := mnI_X8_isTask) (x2 := mnI_X8_in) rfl rfl rfl (by decide +kernel) (Nat.le_of_ble_eq_true rfl) rfl
theorem iX8_isTask_19 : mn_ins 129 19 = some (8, false, .ifCond .eq 7, 3) := by decide +kernel
theorem eX8_isTask_19 : Ev 129 19 (ls) (.int x :: st) h r ↔ if x = nI 0 then Ev 129 26 (ls) (st) h r else Ev 129 22 (ls) (st) h r := ev_ifeq iX8_isTask_19 (by decide)
theorem iX8_isTask_22 : mn_ins 129 22 = some (8, false, .iconst 1, 1) := by decide +kernel
theorem eX8_isTask_22 : Ev 129 22 (ls) (st) h r ↔ Ev 129 23 (ls) (.int (nI 1) :: st) h r := ev_iconst iX8_isTask_22 (by decide)
theorem iX8_isTask_23 : mn_ins 129 23 = some (8, false, .goto 4, 3) := by decide +kernel
theorem eX8_isTask_23 : Ev 129 23 (ls) (st) h r ↔ Ev 129 27 (ls) (st) h r := ev_goto iX8_isTask_23 (by decide)
theorem iX8_isTask_26 : mn_ins 129 26 = some (8, false, .iconst 0, 1) := by decide +kernel
theorem eX8_isTask_26 : Ev 129 26 (ls) (st) h r ↔ Ev 129 27 (ls) (.int (nI 0) :: st) h r := ev_iconst iX8_isTask_26 (by decide)
theorem iX8_isTask_27 : mn_ins 129 27 = some (8, false, .ireturn, 1) := by decide +kernel
theorem eX8_isTask_27 (hx : x = 0 ∨ x = 1) : Ev 129 27 (ls) [.int x] h r ↔ r = (h, .inl (some (.int x))) := ev_zret iX8_isTask_27 (X := mnI_X8_isTask) rfl rfl hx
theorem iX8_task_0 : mn_ins 130 0 = some (8, false, .aload_n 0, 1) := by decide +kernel
theorem eX8_task_0 : Ev 130 0 (some (.ref a) :: ls) (st) h r ↔ Ev 130 1 (some (.ref a) :: ls) (.ref a :: st) h r := ev_aload_n iX8_task_0 rfl rfl
theorem iX8_task_1 : mn_ins 130 1 = some (8, false, .aload_n 0, 1) := by decide +kernel
theorem eX8_task_1 : Ev 130 1 (some (.ref a) :: ls) (st) h r ↔ Ev 130 2 (some (.ref a) :: ls) (.ref a :: st) h r := ev_aload_n iX8_task_1 rfl rfl
theorem iX8_task_2 : mn_ins 130 2 = some (8, false, .iload_n 1, 1) := by decide +kernel
theorem eX8_task_2 : Ev 130 2 (a0 :: some (.int x) :: ls) (st) h r ↔ Ev 130 3 (a0 :: some (.int x) :: ls) (.int x :: st) h r := ev_iload_n iX8_task_2 rfl
theorem iX8_task_3 : mn_ins 130 3 = some (8, false, .invokevirtual 238, 3) := by decide +kernel
theorem eX8_task_3 : Ev 130 3 (ls) (.int x0 :: .ref b :: st) h r ↔ Evr true (decide (mn_cats st ≤ 8) && mn_isc h b 8) 130 3 ls st h.2.2.1 h.2.2.2 (Cl 129 (.ref b :: [.int x0]) h.1 h.2.1) r := Ev_V (As := [.int x0]) iX8_task_3 (by decide +kernel) (x := mnI_X8_task) (x2 := mnI_X8_isTask) rfl rfl rfl (by decide +kernel) (Nat.le_of_ble_eq_true rfl) rfl
theorem iX8_task_6 : mn_ins 130 6 = some (8, false, .ifCond .ne 7, 3) := by decide +kernel
theorem eX8_task_6 : Ev 130 6 (ls) (.int x :: st) h r ↔ if x = nI 0 then Ev 130 9 (ls) (st) h r else Ev 130 13 (ls) (st) h r := ev_ifne iX8_task_6 (by decide)
theorem iX8_task_9 : mn_ins 130 9 = some (8, false, .iconst 1, 1) := by decide +kernel
theorem eX8_task_9 : Ev 130 9 (ls) (st) h r ↔ Ev 130 10 (ls) (.int (nI 1) :: st) h r := ev_iconst iX8_task_9 (by decide)
theorem iX8_task_10 : mn_ins 130 10 = some (8, false, .goto 18, 3) := by decide +kernel
theorem eX8_task_10 : Ev 130 10 (ls) (st) h r ↔ Ev 130 28 (ls) (st) h r := ev_goto iX8_task_10 (by decide)
theorem iX8_task_13 : mn_ins 130 13 = some (8, false, .iload_n 2, 1) := by decide +kernel
theorem eX8_task_13 : Ev 130 13 (a0 :: a1 :: some (.int x) :: ls) (st) h r ↔ Ev 130 14 (a0 :: a1 :: some (.int x) :: ls) (.int x :: st) h r := ev_iload_n iX8_task_13 rfl
theorem iX8_task_14 : mn_ins 130 14 = some (8, false, .i2l, 1) := by decide +kernel
theorem eX8_task_14 : Ev 130 14 (ls) (.int x :: st) h r ↔ Ev 130 15 (ls) (.long x.toInt64 :: st) h r := ev_i2l iX8_task_14
theorem iX8_task_15 : mn_ins 130 15 = some (8, false, .iconst 0, 1) := by decide +kernel
theorem eX8_task_15 : Ev 130 15 (ls) (st) h r ↔ Ev 130 16 (ls) (.int (nI 0) :: st) h r := ev_iconst iX8_task_15 (by decide)
theorem iX8_task_16 : mn_ins 130 16 = some (8, false, .iconst 4, 1) := by decide +kernel
theorem eX8_task_16 : Ev 130 16 (ls) (st) h r ↔ Ev 130 17 (ls) (.int (nI 4) :: st) h r := ev_iconst iX8_task_16 (by decide)
theorem iX8_task_17 : mn_ins 130 17 = some (8, false, .invokestatic 111, 3) := by decide +kernel
theorem eX8_task_17 : Ev 130 17 (ls) (.int x2 :: .int x1 :: .long u0 :: st) h r ↔ Evr false (decide (mn_cats st ≤ 8)) 130 17 ls st h.2.2.1 h.2.2.2 (Cl 86 [.long u0, .int x1, .int x2] h.1 h.2.1) r := Ev_T (As := [.long u0, .int x1, .int x2]) (q := 1) iX8_task_17 (by decide +kernel) (by decide) (x := mnI_X8_task) (x2 := mnI_X8_in) rfl rfl rfl (by decide +kernel) (Nat.le_of_ble_eq_true rfl) rfl
theorem iX8_task_20 : mn_ins 130 20 = some (8, false, .ifCond .ne 7, 3) := by decide +kernel
theorem eX8_task_20 : Ev 130 20 (ls) (.int x :: st) h r ↔ if x = nI 0 then Ev 130 23 (ls) (st) h r else Ev 130 27 (ls) (st) h r := ev_ifne iX8_task_20 (by decide)
theorem iX8_task_23 : mn_ins 130 23 = some (8, false, .iconst 2, 1) := by decide +kernel
theorem eX8_task_23 : Ev 130 23 (ls) (st) h r ↔ Ev 130 24 (ls) (.int (nI 2) :: st) h r := ev_iconst iX8_task_23 (by decide)
theorem iX8_task_24 : mn_ins 130 24 = some (8, false, .goto 4, 3) := by decide +kernel
theorem eX8_task_24 : Ev 130 24 (ls) (st) h r ↔ Ev 130 28 (ls) (st) h r := ev_goto iX8_task_24 (by decide)
theorem iX8_task_27 : mn_ins 130 27 = some (8, false, .iconst 0, 1) := by decide +kernel
theorem eX8_task_27 : Ev 130 27 (ls) (st) h r ↔ Ev 130 28 (ls) (.int (nI 0) :: st) h r := ev_iconst iX8_task_27 (by decide)
theorem iX8_task_28 : mn_ins 130 28 = some (8, false, .putfield 94, 3) := by decide +kernel
theorem eX8_task_28 : Ev 130 28 (ls) (w :: .ref a :: st) h r ↔ Evh 130 31 ls st (mn_pf h a 8 0 w) r := ev_putf iX8_task_28 (by decide +kernel) (by decide +kernel)
theorem iX8_task_31 : mn_ins 130 31 = some (8, false, .aload_n 0, 1) := by decide +kernel
theorem eX8_task_31 : Ev 130 31 (some (.ref a) :: ls) (st) h r ↔ Ev 130 32 (some (.ref a) :: ls) (.ref a :: st) h r := ev_aload_n iX8_task_31 rfl rfl
theorem iX8_task_32 : mn_ins 130 32 = some (8, false, .getfield 94, 3) := by decide +kernel
theorem eX8_task_32 : Ev 130 32 (ls) (.ref a :: st) h r ↔ Evk 130 35 ls (mn_gf h a 8 0) st h r := ev_getf iX8_task_32 (by decide +kernel)
theorem iX8_task_35 : mn_ins 130 35 = some (8, false, .ifCond .le 5, 3) := by decide +kernel
theorem eX8_task_35 : Ev 130 35 (ls) (.int x :: st) h r ↔ if x ≤ nI 0 then Ev 130 40 (ls) (st) h r else Ev 130 38 (ls) (st) h r := ev_ifle iX8_task_35 (by decide)
theorem iX8_task_38 : mn_ins 130 38 = some (8, false, .iconst 0, 1) := by decide +kernel
theorem eX8_task_38 : Ev 130 38 (ls) (st) h r ↔ Ev 130 39 (ls) (.int (nI 0) :: st) h r := ev_iconst iX8_task_38 (by decide)
theorem iX8_task_39 : mn_ins 130 39 = some (8, false, .ireturn, 1) := by decide +kernel
theorem eX8_task_39 : Ev 130 39 (ls) [.int x] h r ↔ r = (h, .inl (some (.int x))) := ev_iret iX8_task_39 (X := mnI_X8_task) rfl rfl
theorem iX8_task_40 : mn_ins 130 40 = some (8, false, .iload_n 2, 1) := by decide +kernel
theorem eX8_task_40 : Ev 130 40 (a0 :: a1 :: some (.int x) :: ls) (st) h r ↔ Ev 130 41 (a0 :: a1 :: some (.int x) :: ls) (.int x :: st) h r := ev_iload_n iX8_task_40 rfl
theorem iX8_task_41 : mn_ins 130 41 = some (8, false, .ifCond .ne 12, 3) := by decide +kernel
theorem eX8_task_41 : Ev 130 41 (ls) (.int x :: st) h r ↔ if x = nI 0 then Ev 130 44 (ls) (st) h r else Ev 130 53 (ls) (st) h r := ev_ifne iX8_task_41 (by decide)
theorem iX8_task_44 : mn_ins 130 44 = some (8, false, .aload_n 0, 1) := by decide +kernel
theorem eX8_task_44 : Ev 130 44 (some (.ref a) :: ls) (st) h r ↔ Ev 130 45 (some (.ref a) :: ls) (.ref a :: st) h r := ev_aload_n iX8_task_44 rfl rfl
theorem iX8_task_45 : mn_ins 130 45 = some (8, false, .getfield 39, 3) := by decide +kernel
theorem eX8_task_45 : Ev 130 45 (ls) (.ref a :: st) h r ↔ Evk 130 48 ls (mn_gf h a 8 16) st h r := ev_getf iX8_task_45 (by decide +kernel)
theorem iX8_task_48 : mn_ins 130 48 = some (8, false, .iload_n 1, 1) := by decide +kernel
theorem eX8_task_48 : Ev 130 48 (a0 :: some (.int x) :: ls) (st) h r ↔ Ev 130 49 (a0 :: some (.int x) :: ls) (.int x :: st) h r := ev_iload_n iX8_task_48 rfl
theorem iX8_task_49 : mn_ins 130 49 = some (8, false, .iaload, 1) := by decide +kernel
theorem eX8_task_49 : Ev 130 49 (ls) (.int x :: .ref a :: st) h r ↔ Evk 130 50 ls (mn_al h a 0 x) st h r := ev_iald iX8_task_49
theorem iX8_task_50 : mn_ins 130 50 = some (8, false, .goto 51, 3) := by decide +kernel
theorem eX8_task_50 : Ev 130 50 (ls) (st) h r ↔ Ev 130 101 (ls) (st) h r := ev_goto iX8_task_50 (by decide)
theorem iX8_task_53 : mn_ins 130 53 = some (8, false, .iload_n 2, 1) := by decide +kernel
theorem eX8_task_53 : Ev 130 53 (a0 :: a1 :: some (.int x) :: ls) (st) h r ↔ Ev 130 54 (a0 :: a1 :: some (.int x) :: ls) (.int x :: st) h r := ev_iload_n iX8_task_53 rfl
theorem iX8_task_54 : mn_ins 130 54 = some (8, false, .iconst 1, 1) := by decide +kernel
theorem eX8_task_54 : Ev 130 54 (ls) (st) h r ↔ Ev 130 55 (ls) (.int (nI 1) :: st) h r := ev_iconst iX8_task_54 (by decide)
theorem iX8_task_55 : mn_ins 130 55 = some (8, false, .if_icmp .ne 12, 3) := by decide +kernel
theorem eX8_task_55 : Ev 130 55 (ls) (.int y :: .int x :: st) h r ↔ if x = y then Ev 130 58 (ls) (st) h r else Ev 130 67 (ls) (st) h r := ev_cmpne iX8_task_55 (by decide)
theorem iX8_task_58 : mn_ins 130 58 = some (8, false, .aload_n 0, 1) := by decide +kernel
theorem eX8_task_58 : Ev 130 58 (some (.ref a) :: ls) (st) h r ↔ Ev 130 59 (some (.ref a) :: ls) (.ref a :: st) h r := ev_aload_n iX8_task_58 rfl rfl
theorem iX8_task_59 : mn_ins 130 59 = some (8, false, .getfield 42, 3) := by decide +kernel
theorem eX8_task_59 : Ev 130 59 (ls) (.ref a :: st) h r ↔ Evk 130 62 ls (mn_gf h a 8 17) st h r := ev_getf iX8_task_59 (by decide +kernel)
theorem iX8_task_62 : mn_ins 130 62 = some (8, false, .iload_n 1, 1) := by decide +kernel
theorem eX8_task_62 : Ev 130 62 (a0 :: some (.int x) :: ls) (st) h r ↔ Ev 130 63 (a0 :: some (.int x) :: ls) (.int x :: st) h r := ev_iload_n iX8_task_62 rfl
theorem iX8_task_63 : mn_ins 130 63 = some (8, false, .iaload, 1) := by decide +kernel
theorem eX8_task_63 : Ev 130 63 (ls) (.int x :: .ref a :: st) h r ↔ Evk 130 64 ls (mn_al h a 0 x) st h r := ev_iald iX8_task_63
theorem iX8_task_64 : mn_ins 130 64 = some (8, false, .goto 37, 3) := by decide +kernel
theorem eX8_task_64 : Ev 130 64 (ls) (st) h r ↔ Ev 130 101 (ls) (st) h r := ev_goto iX8_task_64 (by decide)
theorem iX8_task_67 : mn_ins 130 67 = some (8, false, .iload_n 2, 1) := by decide +kernel
theorem eX8_task_67 : Ev 130 67 (a0 :: a1 :: some (.int x) :: ls) (st) h r ↔ Ev 130 68 (a0 :: a1 :: some (.int x) :: ls) (.int x :: st) h r := ev_iload_n iX8_task_67 rfl
theorem iX8_task_68 : mn_ins 130 68 = some (8, false, .iconst 2, 1) := by decide +kernel
theorem eX8_task_68 : Ev 130 68 (ls) (st) h r ↔ Ev 130 69 (ls) (.int (nI 2) :: st) h r := ev_iconst iX8_task_68 (by decide)
theorem iX8_task_69 : mn_ins 130 69 = some (8, false, .if_icmp .ne 12, 3) := by decide +kernel
theorem eX8_task_69 : Ev 130 69 (ls) (.int y :: .int x :: st) h r ↔ if x = y then Ev 130 72 (ls) (st) h r else Ev 130 81 (ls) (st) h r := ev_cmpne iX8_task_69 (by decide)
theorem iX8_task_72 : mn_ins 130 72 = some (8, false, .aload_n 0, 1) := by decide +kernel
theorem eX8_task_72 : Ev 130 72 (some (.ref a) :: ls) (st) h r ↔ Ev 130 73 (some (.ref a) :: ls) (.ref a :: st) h r := ev_aload_n iX8_task_72 rfl rfl
theorem iX8_task_73 : mn_ins 130 73 = some (8, false, .getfield 45, 3) := by decide +kernel
theorem eX8_task_73 : Ev 130 73 (ls) (.ref a :: st) h r ↔ Evk 130 76 ls (mn_gf h a 8 18) st h r := ev_getf iX8_task_73 (by decide +kernel)
theorem iX8_task_76 : mn_ins 130 76 = some (8, false, .iload_n 1, 1) := by decide +kernel
theorem eX8_task_76 : Ev 130 76 (a0 :: some (.int x) :: ls) (st) h r ↔ Ev 130 77 (a0 :: some (.int x) :: ls) (.int x :: st) h r := ev_iload_n iX8_task_76 rfl
theorem iX8_task_77 : mn_ins 130 77 = some (8, false, .iaload, 1) := by decide +kernel
theorem eX8_task_77 : Ev 130 77 (ls) (.int x :: .ref a :: st) h r ↔ Evk 130 78 ls (mn_al h a 0 x) st h r := ev_iald iX8_task_77
theorem iX8_task_78 : mn_ins 130 78 = some (8, false, .goto 23, 3) := by decide +kernel
theorem eX8_task_78 : Ev 130 78 (ls) (st) h r ↔ Ev 130 101 (ls) (st) h r := ev_goto iX8_task_78 (by decide)
theorem iX8_task_81 : mn_ins 130 81 = some (8, false, .iload_n 2, 1) := by decide +kernel
theorem eX8_task_81 : Ev 130 81 (a0 :: a1 :: some (.int x) :: ls) (st) h r ↔ Ev 130 82 (a0 :: a1 :: some (.int x) :: ls) (.int x :: st) h r := ev_iload_n iX8_task_81 rfl
theorem iX8_task_82 : mn_ins 130 82 = some (8, false, .iconst 3, 1) := by decide +kernel
theorem eX8_task_82 : Ev 130 82 (ls) (st) h r ↔ Ev 130 83 (ls) (.int (nI 3) :: st) h r := ev_iconst iX8_task_82 (by decide)
theorem iX8_task_83 : mn_ins 130 83 = some (8, false, .if_icmp .ne 12, 3) := by decide +kernel
theorem eX8_task_83 : Ev 130 83 (ls) (.int y :: .int x :: st) h r ↔ if x = y then Ev 130 86 (ls) (st) h r else Ev 130 95 (ls) (st) h r := ev_cmpne iX8_task_83 (by decide)
theorem iX8_task_86 : mn_ins 130 86 = some (8, false, .aload_n 0, 1) := by decide +kernel
theorem eX8_task_86 : Ev 130 86 (some (.ref a) :: ls) (st) h r ↔ Ev 130 87 (some (.ref a) :: ls) (.ref a :: st) h r := ev_aload_n iX8_task_86 rfl rfl
theorem iX8_task_87 : mn_ins 130 87 = some (8, false, .getfield 51, 3) := by decide +kernel
theorem eX8_task_87 : Ev 130 87 (ls) (.ref a :: st) h r ↔ Evk 130 90 ls (mn_gf h a 8 20) st h r := ev_getf iX8_task_87 (by decide +kernel)
theorem iX8_task_90 : mn_ins 130 90 = some (8, false, .iload_n 1, 1) := by decide +kernel
theorem eX8_task_90 : Ev 130 90 (a0 :: some (.int x) :: ls) (st) h r ↔ Ev 130 91 (a0 :: some (.int x) :: ls) (.int x :: st) h r := ev_iload_n iX8_task_90 rfl
theorem iX8_task_91 : mn_ins 130 91 = some (8, false, .iaload, 1) := by decide +kernel
theorem eX8_task_91 : Ev 130 91 (ls) (.int x :: .ref a :: st) h r ↔ Evk 130 92 ls (mn_al h a 0 x) st h r := ev_iald iX8_task_91
theorem iX8_task_92 : mn_ins 130 92 = some (8, false, .goto 9, 3) := by decide +kernel
theorem eX8_task_92 : Ev 130 92 (ls) (st) h r ↔ Ev 130 101 (ls) (st) h r := ev_goto iX8_task_92 (by decide)
theorem iX8_task_95 : mn_ins 130 95 = some (8, false, .aload_n 0, 1) := by decide +kernel
theorem eX8_task_95 : Ev 130 95 (some (.ref a) :: ls) (st) h r ↔ Ev 130 96 (some (.ref a) :: ls) (.ref a :: st) h r := ev_aload_n iX8_task_95 rfl rfl
theorem iX8_task_96 : mn_ins 130 96 = some (8, false, .getfield 64, 3) := by decide +kernel
theorem eX8_task_96 : Ev 130 96 (ls) (.ref a :: st) h r ↔ Evk 130 99 ls (mn_gf h a 8 24) st h r := ev_getf iX8_task_96 (by decide +kernel)
theorem iX8_task_99 : mn_ins 130 99 = some (8, false, .iload_n 1, 1) := by decide +kernel
theorem eX8_task_99 : Ev 130 99 (a0 :: some (.int x) :: ls) (st) h r ↔ Ev 130 100 (a0 :: some (.int x) :: ls) (.int x :: st) h r := ev_iload_n iX8_task_99 rfl
theorem iX8_task_100 : mn_ins 130 100 = some (8, false, .iaload, 1) := by decide +kernel
theorem eX8_task_100 : Ev 130 100 (ls) (.int x :: .ref a :: st) h r ↔ Evk 130 101 ls (mn_al h a 0 x) st h r := ev_iald iX8_task_100
theorem iX8_task_101 : mn_ins 130 101 = some (8, false, .ireturn, 1) := by decide +kernel
theorem eX8_task_101 : Ev 130 101 (ls) [.int x] h r ↔ r = (h, .inl (some (.int x))) := ev_iret iX8_task_101 (X := mnI_X8_task) rfl rfl
theorem iX8_tasks_0 : mn_ins 131 0 = some (8, false, .aload_n 0, 1) := by decide +kernel
theorem eX8_tasks_0 : Ev 131 0 (some (.ref a) :: ls) (st) h r ↔ Ev 131 1 (some (.ref a) :: ls) (.ref a :: st) h r := ev_aload_n iX8_tasks_0 rfl rfl
theorem iX8_tasks_1 : mn_ins 131 1 = some (8, false, .iconst 0, 1) := by decide +kernel
theorem eX8_tasks_1 : Ev 131 1 (ls) (st) h r ↔ Ev 131 2 (ls) (.int (nI 0) :: st) h r := ev_iconst iX8_tasks_1 (by decide)
theorem iX8_tasks_2 : mn_ins 131 2 = some (8, false, .putfield 94, 3) := by decide +kernel
theorem eX8_tasks_2 : Ev 131 2 (ls) (w :: .ref a :: st) h r ↔ Evh 131 5 ls st (mn_pf h a 8 0 w) r := ev_putf iX8_tasks_2 (by decide +kernel) (by decide +kernel)
theorem iX8_tasks_5 : mn_ins 131 5 = some (8, false, .aload_n 0, 1) := by decide +kernel
theorem eX8_tasks_5 : Ev 131 5 (some (.ref a) :: ls) (st) h r ↔ Ev 131 6 (some (.ref a) :: ls) (.ref a :: st) h r := ev_aload_n iX8_tasks_5 rfl rfl
theorem iX8_tasks_6 : mn_ins 131 6 = some (8, false, .getfield 97, 3) := by decide +kernel
theorem eX8_tasks_6 : Ev 131 6 (ls) (.ref a :: st) h r ↔ Evk 131 9 ls (mn_gf h a 8 9) st h r := ev_getf iX8_tasks_6 (by decide +kernel)
theorem iX8_tasks_9 : mn_ins 131 9 = some (8, false, .ifCond .eq 10, 3) := by decide +kernel
theorem eX8_tasks_9 : Ev 131 9 (ls) (.int x :: st) h r ↔ if x = nI 0 then Ev 131 19 (ls) (st) h r else Ev 131 12 (ls) (st) h r := ev_ifeq iX8_tasks_9 (by decide)
theorem iX8_tasks_12 : mn_ins 131 12 = some (8, false, .aload_n 0, 1) := by decide +kernel
theorem eX8_tasks_12 : Ev 131 12 (some (.ref a) :: ls) (st) h r ↔ Ev 131 13 (some (.ref a) :: ls) (.ref a :: st) h r := ev_aload_n iX8_tasks_12 rfl rfl
theorem iX8_tasks_13 : mn_ins 131 13 = some (8, false, .getfield 144, 3) := by decide +kernel
theorem eX8_tasks_13 : Ev 131 13 (ls) (.ref a :: st) h r ↔ Evk 131 16 ls (mn_gf h a 8 11) st h r := ev_getf iX8_tasks_13 (by decide +kernel)
theorem iX8_tasks_16 : mn_ins 131 16 = some (8, false, .goto 4, 3) := by decide +kernel
theorem eX8_tasks_16 : Ev 131 16 (ls) (st) h r ↔ Ev 131 20 (ls) (st) h r := ev_goto iX8_tasks_16 (by decide)
theorem iX8_tasks_19 : mn_ins 131 19 = some (8, false, .iconst 0, 1) := by decide +kernel
theorem eX8_tasks_19 : Ev 131 19 (ls) (st) h r ↔ Ev 131 20 (ls) (.int (nI 0) :: st) h r := ev_iconst iX8_tasks_19 (by decide)
theorem iX8_tasks_20 : mn_ins 131 20 = some (8, false, .ireturn, 1) := by decide +kernel
theorem eX8_tasks_20 : Ev 131 20 (ls) [.int x] h r ↔ r = (h, .inl (some (.int x))) := ev_iret iX8_tasks_20 (X := mnI_X8_tasks) rfl rfl
theorem iX8_read_0 : mn_ins 132 0 = some (8, false, .aload_n 0, 1) := by decide +kernel
theorem eX8_read_0 : Ev 132 0 (some (.ref a) :: ls) (st) h r ↔ Ev 132 1 (some (.ref a) :: ls) (.ref a :: st) h r := ev_aload_n iX8_read_0 rfl rfl
theorem iX8_read_1 : mn_ins 132 1 = some (8, false, .iload_n 1, 1) := by decide +kernel
theorem eX8_read_1 : Ev 132 1 (a0 :: some (.int x) :: ls) (st) h r ↔ Ev 132 2 (a0 :: some (.int x) :: ls) (.int x :: st) h r := ev_iload_n iX8_read_1 rfl
theorem iX8_read_2 : mn_ins 132 2 = some (8, false, .invokevirtual 238, 3) := by decide +kernel
theorem eX8_read_2 : Ev 132 2 (ls) (.int x0 :: .ref b :: st) h r ↔ Evr true (decide (mn_cats st ≤ 8) && mn_isc h b 8) 132 2 ls st h.2.2.1 h.2.2.2 (Cl 129 (.ref b :: [.int x0]) h.1 h.2.1) r := Ev_V (As := [.int x0]) iX8_read_2 (by decide +kernel) (x := mnI_X8_read) (x2 := mnI_X8_isTask) rfl rfl rfl (by decide +kernel) (Nat.le_of_ble_eq_true rfl) rfl
theorem iX8_read_5 : mn_ins 132 5 = some (8, false, .istore_n 3, 1) := by decide +kernel
theorem eX8_read_5 : Ev 132 5 (a0 :: a1 :: a2 :: a3 :: ls) (.int x :: st) h r ↔ Ev 132 6 (a0 :: a1 :: mn_k a2 :: some (.int x) :: ls) (st) h r := ev_istore_n iX8_read_5 (by show 3 < _; simp only [List.length_cons]; omega)
theorem iX8_read_6 : mn_ins 132 6 = some (8, false, .iload_n 3, 1) := by decide +kernel
theorem eX8_read_6 : Ev 132 6 (a0 :: a1 :: a2 :: some (.int x) :: ls) (st) h r ↔ Ev 132 7 (a0 :: a1 :: a2 :: some (.int x) :: ls) (.int x :: st) h r := ev_iload_n iX8_read_6 rfl
theorem iX8_read_7 : mn_ins 132 7 = some (8, false, .ifCond .eq 19, 3) := by decide +kernel
theorem eX8_read_7 : Ev 132 7 (ls) (.int x :: st) h r ↔ if x = nI 0 then Ev 132 26 (ls) (st) h r else Ev 132 10 (ls) (st) h r := ev_ifeq iX8_read_7 (by decide)
theorem iX8_read_10 : mn_ins 132 10 = some (8, false, .aload_n 0, 1) := by decide +kernel
theorem eX8_read_10 : Ev 132 10 (some (.ref a) :: ls) (st) h r ↔ Ev 132 11 (some (.ref a) :: ls) (.ref a :: st) h r := ev_aload_n iX8_read_10 rfl rfl
theorem iX8_read_11 : mn_ins 132 11 = some (8, false, .getfield 39, 3) := by decide +kernel
theorem eX8_read_11 : Ev 132 11 (ls) (.ref a :: st) h r ↔ Evk 132 14 ls (mn_gf h a 8 16) st h r := ev_getf iX8_read_11 (by decide +kernel)
theorem iX8_read_14 : mn_ins 132 14 = some (8, false, .iload_n 1, 1) := by decide +kernel
theorem eX8_read_14 : Ev 132 14 (a0 :: some (.int x) :: ls) (st) h r ↔ Ev 132 15 (a0 :: some (.int x) :: ls) (.int x :: st) h r := ev_iload_n iX8_read_14 rfl
theorem iX8_read_15 : mn_ins 132 15 = some (8, false, .iaload, 1) := by decide +kernel
theorem eX8_read_15 : Ev 132 15 (ls) (.int x :: .ref a :: st) h r ↔ Evk 132 16 ls (mn_al h a 0 x) st h r := ev_iald iX8_read_15
theorem iX8_read_16 : mn_ins 132 16 = some (8, false, .iconst 3, 1) := by decide +kernel
theorem eX8_read_16 : Ev 132 16 (ls) (st) h r ↔ Ev 132 17 (ls) (.int (nI 3) :: st) h r := ev_iconst iX8_read_16 (by decide)
theorem iX8_read_17 : mn_ins 132 17 = some (8, false, .if_icmp .eq 7, 3) := by decide +kernel
theorem eX8_read_17 : Ev 132 17 (ls) (.int y :: .int x :: st) h r ↔ if x = y then Ev 132 24 (ls) (st) h r else Ev 132 20 (ls) (st) h r := ev_cmpeq iX8_read_17 (by decide)
theorem iX8_read_20 : mn_ins 132 20 = some (8, false, .iconst 1, 1) := by decide +kernel
theorem eX8_read_20 : Ev 132 20 (ls) (st) h r ↔ Ev 132 21 (ls) (.int (nI 1) :: st) h r := ev_iconst iX8_read_20 (by decide)
theorem iX8_read_21 : mn_ins 132 21 = some (8, false, .goto 4, 3) := by decide +kernel
theorem eX8_read_21 : Ev 132 21 (ls) (st) h r ↔ Ev 132 25 (ls) (st) h r := ev_goto iX8_read_21 (by decide)
theorem iX8_read_24 : mn_ins 132 24 = some (8, false, .iconst 0, 1) := by decide +kernel
theorem eX8_read_24 : Ev 132 24 (ls) (st) h r ↔ Ev 132 25 (ls) (.int (nI 0) :: st) h r := ev_iconst iX8_read_24 (by decide)
theorem iX8_read_25 : mn_ins 132 25 = some (8, false, .istore_n 3, 1) := by decide +kernel
theorem eX8_read_25 : Ev 132 25 (a0 :: a1 :: a2 :: a3 :: ls) (.int x :: st) h r ↔ Ev 132 26 (a0 :: a1 :: mn_k a2 :: some (.int x) :: ls) (st) h r := ev_istore_n iX8_read_25 (by show 3 < _; simp only [List.length_cons]; omega)
theorem iX8_read_26 : mn_ins 132 26 = some (8, false, .aload_n 0, 1) := by decide +kernel
theorem eX8_read_26 : Ev 132 26 (some (.ref a) :: ls) (st) h r ↔ Ev 132 27 (some (.ref a) :: ls) (.ref a :: st) h r := ev_aload_n iX8_read_26 rfl rfl
theorem iX8_read_27 : mn_ins 132 27 = some (8, false, .iload_n 3, 1) := by decide +kernel
theorem eX8_read_27 : Ev 132 27 (a0 :: a1 :: a2 :: some (.int x) :: ls) (st) h r ↔ Ev 132 28 (a0 :: a1 :: a2 :: some (.int x) :: ls) (.int x :: st) h r := ev_iload_n iX8_read_27 rfl
theorem iX8_read_28 : mn_ins 132 28 = some (8, false, .ifCond .ne 7, 3) := by decide +kernel
theorem eX8_read_28 : Ev 132 28 (ls) (.int x :: st) h r ↔ if x = nI 0 then Ev 132 31 (ls) (st) h r else Ev 132 35 (ls) (st) h r := ev_ifne iX8_read_28 (by decide)
theorem iX8_read_31 : mn_ins 132 31 = some (8, false, .iconst 1, 1) := by decide +kernel
theorem eX8_read_31 : Ev 132 31 (ls) (st) h r ↔ Ev 132 32 (ls) (.int (nI 1) :: st) h r := ev_iconst iX8_read_31 (by decide)
theorem iX8_read_32 : mn_ins 132 32 = some (8, false, .goto 19, 3) := by decide +kernel
theorem eX8_read_32 : Ev 132 32 (ls) (st) h r ↔ Ev 132 51 (ls) (st) h r := ev_goto iX8_read_32 (by decide)
theorem iX8_read_35 : mn_ins 132 35 = some (8, false, .iload_n 2, 1) := by decide +kernel
theorem eX8_read_35 : Ev 132 35 (a0 :: a1 :: some (.int x) :: ls) (st) h r ↔ Ev 132 36 (a0 :: a1 :: some (.int x) :: ls) (.int x :: st) h r := ev_iload_n iX8_read_35 rfl
theorem iX8_read_36 : mn_ins 132 36 = some (8, false, .i2l, 1) := by decide +kernel
theorem eX8_read_36 : Ev 132 36 (ls) (.int x :: st) h r ↔ Ev 132 37 (ls) (.long x.toInt64 :: st) h r := ev_i2l iX8_read_36
theorem iX8_read_37 : mn_ins 132 37 = some (8, false, .iconst 0, 1) := by decide +kernel
theorem eX8_read_37 : Ev 132 37 (ls) (st) h r ↔ Ev 132 38 (ls) (.int (nI 0) :: st) h r := ev_iconst iX8_read_37 (by decide)
theorem iX8_read_38 : mn_ins 132 38 = some (8, false, .bipush 11, 2) := by decide +kernel
theorem eX8_read_38 : Ev 132 38 (ls) (st) h r ↔ Ev 132 40 (ls) (.int (nI 11) :: st) h r := ev_bipush iX8_read_38 (by decide)
theorem iX8_read_40 : mn_ins 132 40 = some (8, false, .invokestatic 111, 3) := by decide +kernel
theorem eX8_read_40 : Ev 132 40 (ls) (.int x2 :: .int x1 :: .long u0 :: st) h r ↔ Evr false (decide (mn_cats st ≤ 8)) 132 40 ls st h.2.2.1 h.2.2.2 (Cl 86 [.long u0, .int x1, .int x2] h.1 h.2.1) r := Ev_T (As := [.long u0, .int x1, .int x2]) (q := 1) iX8_read_40 (by decide +kernel) (by decide) (x := mnI_X8_read) (x2 := mnI_X8_in) rfl rfl rfl (by decide +kernel) (Nat.le_of_ble_eq_true rfl) rfl
theorem iX8_read_43 : mn_ins 132 43 = some (8, false, .ifCond .ne 7, 3) := by decide +kernel
theorem eX8_read_43 : Ev 132 43 (ls) (.int x :: st) h r ↔ if x = nI 0 then Ev 132 46 (ls) (st) h r else Ev 132 50 (ls) (st) h r := ev_ifne iX8_read_43 (by decide)
theorem iX8_read_46 : mn_ins 132 46 = some (8, false, .iconst 2, 1) := by decide +kernel
theorem eX8_read_46 : Ev 132 46 (ls) (st) h r ↔ Ev 132 47 (ls) (.int (nI 2) :: st) h r := ev_iconst iX8_read_46 (by decide)
theorem iX8_read_47 : mn_ins 132 47 = some (8, false, .goto 4, 3) := by decide +kernel
theorem eX8_read_47 : Ev 132 47 (ls) (st) h r ↔ Ev 132 51 (ls) (st) h r := ev_goto iX8_read_47 (by decide)
theorem iX8_read_50 : mn_ins 132 50 = some (8, false, .iconst 0, 1) := by decide +kernel
theorem eX8_read_50 : Ev 132 50 (ls) (st) h r ↔ Ev 132 51 (ls) (.int (nI 0) :: st) h r := ev_iconst iX8_read_50 (by decide)
theorem iX8_read_51 : mn_ins 132 51 = some (8, false, .putfield 94, 3) := by decide +kernel
theorem eX8_read_51 : Ev 132 51 (ls) (w :: .ref a :: st) h r ↔ Evh 132 54 ls st (mn_pf h a 8 0 w) r := ev_putf iX8_read_51 (by decide +kernel) (by decide +kernel)
theorem iX8_read_54 : mn_ins 132 54 = some (8, false, .aload_n 0, 1) := by decide +kernel
theorem eX8_read_54 : Ev 132 54 (some (.ref a) :: ls) (st) h r ↔ Ev 132 55 (some (.ref a) :: ls) (.ref a :: st) h r := ev_aload_n iX8_read_54 rfl rfl
theorem iX8_read_55 : mn_ins 132 55 = some (8, false, .getfield 94, 3) := by decide +kernel
theorem eX8_read_55 : Ev 132 55 (ls) (.ref a :: st) h r ↔ Evk 132 58 ls (mn_gf h a 8 0) st h r := ev_getf iX8_read_55 (by decide +kernel)
theorem iX8_read_58 : mn_ins 132 58 = some (8, false, .ifCond .le 7, 3) := by decide +kernel
theorem eX8_read_58 : Ev 132 58 (ls) (.int x :: st) h r ↔ if x ≤ nI 0 then Ev 132 65 (ls) (st) h r else Ev 132 61 (ls) (st) h r := ev_ifle iX8_read_58 (by decide)
theorem iX8_read_61 : mn_ins 132 61 = some (8, false, .lconst 0, 1) := by decide +kernel
theorem eX8_read_61 : Ev 132 61 (ls) (st) h r ↔ Ev 132 62 (ls) (.long 0 :: st) h r := ev_lconst iX8_read_61 (by decide)
theorem iX8_read_62 : mn_ins 132 62 = some (8, false, .goto 14, 3) := by decide +kernel
theorem eX8_read_62 : Ev 132 62 (ls) (st) h r ↔ Ev 132 76 (ls) (st) h r := ev_goto iX8_read_62 (by decide)
theorem iX8_read_65 : mn_ins 132 65 = some (8, false, .aload_n 0, 1) := by decide +kernel
theorem eX8_read_65 : Ev 132 65 (some (.ref a) :: ls) (st) h r ↔ Ev 132 66 (some (.ref a) :: ls) (.ref a :: st) h r := ev_aload_n iX8_read_65 rfl rfl
theorem iX8_read_66 : mn_ins 132 66 = some (8, false, .aload_n 0, 1) := by decide +kernel
theorem eX8_read_66 : Ev 132 66 (some (.ref a) :: ls) (st) h r ↔ Ev 132 67 (some (.ref a) :: ls) (.ref a :: st) h r := ev_aload_n iX8_read_66 rfl rfl
theorem iX8_read_67 : mn_ins 132 67 = some (8, false, .getfield 73, 3) := by decide +kernel
theorem eX8_read_67 : Ev 132 67 (ls) (.ref a :: st) h r ↔ Evk 132 70 ls (mn_gf h a 8 27) st h r := ev_getf iX8_read_67 (by decide +kernel)
theorem iX8_read_70 : mn_ins 132 70 = some (8, false, .iload_n 1, 1) := by decide +kernel
theorem eX8_read_70 : Ev 132 70 (a0 :: some (.int x) :: ls) (st) h r ↔ Ev 132 71 (a0 :: some (.int x) :: ls) (.int x :: st) h r := ev_iload_n iX8_read_70 rfl
theorem iX8_read_71 : mn_ins 132 71 = some (8, false, .iaload, 1) := by decide +kernel
theorem eX8_read_71 : Ev 132 71 (ls) (.int x :: .ref a :: st) h r ↔ Evk 132 72 ls (mn_al h a 0 x) st h r := ev_iald iX8_read_71
theorem iX8_read_72 : mn_ins 132 72 = some (8, false, .iload_n 2, 1) := by decide +kernel
theorem eX8_read_72 : Ev 132 72 (a0 :: a1 :: some (.int x) :: ls) (st) h r ↔ Ev 132 73 (a0 :: a1 :: some (.int x) :: ls) (.int x :: st) h r := ev_iload_n iX8_read_72 rfl
theorem iX8_read_73 : mn_ins 132 73 = some (8, false, .invokevirtual 202, 3) := by decide +kernel
theorem eX8_read_73 : Ev 132 73 (ls) (.int x1 :: .int x0 :: .ref b :: st) h r ↔ Evr true (decide (mn_cats st ≤ 8) && mn_isc h b 8) 132 73 ls st h.2.2.1 h.2.2.2 (Cl 104 (.ref b :: [.int x0, .int x1]) h.1 h.2.1) r := Ev_V (As := [.int x0, .int x1]) iX8_read_73 (by decide +kernel) (x := mnI_X8_read) (x2 := mnI_X8_readAt) rfl rfl rfl (by decide +kernel) (Nat.le_of_ble_eq_true rfl) rfl
theorem iX8_read_76 : mn_ins 132 76 = some (8, false, .lreturn, 1) := by decide +kernel
theorem eX8_read_76 : Ev 132 76 (ls) [.long u] h r ↔ r = (h, .inl (some (.long u))) := ev_lret iX8_read_76 (X := mnI_X8_read) rfl rfl
theorem iX8_print_0 : mn_ins 133 0 = some (8, false, .aload_n 0, 1) := by decide +kernel
theorem eX8_print_0 : Ev 133 0 (some (.ref a) :: ls) (st) h r ↔ Ev 133 1 (some (.ref a) :: ls) (.ref a :: st) h r := ev_aload_n iX8_print_0 rfl rfl
theorem iX8_print_1 : mn_ins 133 1 = some (8, false, .iload_n 1, 1) := by decide +kernel
theorem eX8_print_1 : Ev 133 1 (a0 :: some (.int x) :: ls) (st) h r ↔ Ev 133 2 (a0 :: some (.int x) :: ls) (.int x :: st) h r := ev_iload_n iX8_print_1 rfl
theorem iX8_print_2 : mn_ins 133 2 = some (8, false, .invokevirtual 238, 3) := by decide +kernel
theorem eX8_print_2 : Ev 133 2 (ls) (.int x0 :: .ref b :: st) h r ↔ Evr true (decide (mn_cats st ≤ 8) && mn_isc h b 8) 133 2 ls st h.2.2.1 h.2.2.2 (Cl 129 (.ref b :: [.int x0]) h.1 h.2.1) r := Ev_V (As := [.int x0]) iX8_print_2 (by decide +kernel) (x := mnI_X8_print) (x2 := mnI_X8_isTask) rfl rfl rfl (by decide +kernel) (Nat.le_of_ble_eq_true rfl) rfl
theorem iX8_print_5 : mn_ins 133 5 = some (8, false, .istore_n 3, 1) := by decide +kernel
theorem eX8_print_5 : Ev 133 5 (a0 :: a1 :: a2 :: a3 :: ls) (.int x :: st) h r ↔ Ev 133 6 (a0 :: a1 :: mn_k a2 :: some (.int x) :: ls) (st) h r := ev_istore_n iX8_print_5 (by show 3 < _; simp only [List.length_cons]; omega)
theorem iX8_print_6 : mn_ins 133 6 = some (8, false, .iload_n 3, 1) := by decide +kernel
theorem eX8_print_6 : Ev 133 6 (a0 :: a1 :: a2 :: some (.int x) :: ls) (st) h r ↔ Ev 133 7 (a0 :: a1 :: a2 :: some (.int x) :: ls) (.int x :: st) h r := ev_iload_n iX8_print_6 rfl
theorem iX8_print_7 : mn_ins 133 7 = some (8, false, .ifCond .eq 54, 3) := by decide +kernel
theorem eX8_print_7 : Ev 133 7 (ls) (.int x :: st) h r ↔ if x = nI 0 then Ev 133 61 (ls) (st) h r else Ev 133 10 (ls) (st) h r := ev_ifeq iX8_print_7 (by decide)
theorem iX8_print_10 : mn_ins 133 10 = some (8, false, .aload_n 0, 1) := by decide +kernel
theorem eX8_print_10 : Ev 133 10 (some (.ref a) :: ls) (st) h r ↔ Ev 133 11 (some (.ref a) :: ls) (.ref a :: st) h r := ev_aload_n iX8_print_10 rfl rfl
theorem iX8_print_11 : mn_ins 133 11 = some (8, false, .getfield 39, 3) := by decide +kernel
theorem eX8_print_11 : Ev 133 11 (ls) (.ref a :: st) h r ↔ Evk 133 14 ls (mn_gf h a 8 16) st h r := ev_getf iX8_print_11 (by decide +kernel)
theorem iX8_print_14 : mn_ins 133 14 = some (8, false, .iload_n 1, 1) := by decide +kernel
theorem eX8_print_14 : Ev 133 14 (a0 :: some (.int x) :: ls) (st) h r ↔ Ev 133 15 (a0 :: some (.int x) :: ls) (.int x :: st) h r := ev_iload_n iX8_print_14 rfl
theorem iX8_print_15 : mn_ins 133 15 = some (8, false, .iaload, 1) := by decide +kernel
theorem eX8_print_15 : Ev 133 15 (ls) (.int x :: .ref a :: st) h r ↔ Evk 133 16 ls (mn_al h a 0 x) st h r := ev_iald iX8_print_15
theorem iX8_print_16 : mn_ins 133 16 = some (8, false, .iconst 3, 1) := by decide +kernel
theorem eX8_print_16 : Ev 133 16 (ls) (st) h r ↔ Ev 133 17 (ls) (.int (nI 3) :: st) h r := ev_iconst iX8_print_16 (by decide)
theorem iX8_print_17 : mn_ins 133 17 = some (8, false, .if_icmp .eq 42, 3) := by decide +kernel
theorem eX8_print_17 : Ev 133 17 (ls) (.int y :: .int x :: st) h r ↔ if x = y then Ev 133 59 (ls) (st) h r else Ev 133 20 (ls) (st) h r := ev_cmpeq iX8_print_17 (by decide)
theorem iX8_print_20 : mn_ins 133 20 = some (8, false, .iload_n 2, 1) := by decide +kernel
theorem eX8_print_20 : Ev 133 20 (a0 :: a1 :: some (.int x) :: ls) (st) h r ↔ Ev 133 21 (a0 :: a1 :: some (.int x) :: ls) (.int x :: st) h r := ev_iload_n iX8_print_20 rfl
theorem iX8_print_21 : mn_ins 133 21 = some (8, false, .iconst (-1), 1) := by decide +kernel
theorem eX8_print_21 : Ev 133 21 (ls) (st) h r ↔ Ev 133 22 (ls) (.int (-1) :: st) h r := ev_iconst iX8_print_21 (by decide)
theorem iX8_print_22 : mn_ins 133 22 = some (8, false, .if_icmp .ne 16, 3) := by decide +kernel
theorem eX8_print_22 : Ev 133 22 (ls) (.int y :: .int x :: st) h r ↔ if x = y then Ev 133 25 (ls) (st) h r else Ev 133 38 (ls) (st) h r := ev_cmpne iX8_print_22 (by decide)
theorem iX8_print_25 : mn_ins 133 25 = some (8, false, .aload_n 0, 1) := by decide +kernel
theorem eX8_print_25 : Ev 133 25 (some (.ref a) :: ls) (st) h r ↔ Ev 133 26 (some (.ref a) :: ls) (.ref a :: st) h r := ev_aload_n iX8_print_25 rfl rfl
theorem iX8_print_26 : mn_ins 133 26 = some (8, false, .getfield 39, 3) := by decide +kernel
theorem eX8_print_26 : Ev 133 26 (ls) (.ref a :: st) h r ↔ Evk 133 29 ls (mn_gf h a 8 16) st h r := ev_getf iX8_print_26 (by decide +kernel)
theorem iX8_print_29 : mn_ins 133 29 = some (8, false, .iload_n 1, 1) := by decide +kernel
theorem eX8_print_29 : Ev 133 29 (a0 :: some (.int x) :: ls) (st) h r ↔ Ev 133 30 (a0 :: some (.int x) :: ls) (.int x :: st) h r := ev_iload_n iX8_print_29 rfl
theorem iX8_print_30 : mn_ins 133 30 = some (8, false, .iaload, 1) := by decide +kernel
theorem eX8_print_30 : Ev 133 30 (ls) (.int x :: .ref a :: st) h r ↔ Evk 133 31 ls (mn_al h a 0 x) st h r := ev_iald iX8_print_30
theorem iX8_print_31 : mn_ins 133 31 = some (8, false, .iconst 1, 1) := by decide +kernel
theorem eX8_print_31 : Ev 133 31 (ls) (st) h r ↔ Ev 133 32 (ls) (.int (nI 1) :: st) h r := ev_iconst iX8_print_31 (by decide)
theorem iX8_print_32 : mn_ins 133 32 = some (8, false, .if_icmp .ne 27, 3) := by decide +kernel
theorem eX8_print_32 : Ev 133 32 (ls) (.int y :: .int x :: st) h r ↔ if x = y then Ev 133 35 (ls) (st) h r else Ev 133 59 (ls) (st) h r := ev_cmpne iX8_print_32 (by decide)
theorem iX8_print_35 : mn_ins 133 35 = some (8, false, .goto 20, 3) := by decide +kernel
theorem eX8_print_35 : Ev 133 35 (ls) (st) h r ↔ Ev 133 55 (ls) (st) h r := ev_goto iX8_print_35 (by decide)
theorem iX8_print_38 : mn_ins 133 38 = some (8, false, .iload_n 2, 1) := by decide +kernel
theorem eX8_print_38 : Ev 133 38 (a0 :: a1 :: some (.int x) :: ls) (st) h r ↔ Ev 133 39 (a0 :: a1 :: some (.int x) :: ls) (.int x :: st) h r := ev_iload_n iX8_print_38 rfl
theorem iX8_print_39 : mn_ins 133 39 = some (8, false, .i2l, 1) := by decide +kernel
theorem eX8_print_39 : Ev 133 39 (ls) (.int x :: st) h r ↔ Ev 133 40 (ls) (.long x.toInt64 :: st) h r := ev_i2l iX8_print_39
theorem iX8_print_40 : mn_ins 133 40 = some (8, false, .iconst 0, 1) := by decide +kernel
theorem eX8_print_40 : Ev 133 40 (ls) (st) h r ↔ Ev 133 41 (ls) (.int (nI 0) :: st) h r := ev_iconst iX8_print_40 (by decide)
theorem iX8_print_41 : mn_ins 133 41 = some (8, false, .aload_n 0, 1) := by decide +kernel
theorem eX8_print_41 : Ev 133 41 (some (.ref a) :: ls) (st) h r ↔ Ev 133 42 (some (.ref a) :: ls) (.ref a :: st) h r := ev_aload_n iX8_print_41 rfl rfl
theorem iX8_print_42 : mn_ins 133 42 = some (8, false, .getfield 64, 3) := by decide +kernel
theorem eX8_print_42 : Ev 133 42 (ls) (.ref a :: st) h r ↔ Evk 133 45 ls (mn_gf h a 8 24) st h r := ev_getf iX8_print_42 (by decide +kernel)
theorem iX8_print_45 : mn_ins 133 45 = some (8, false, .iload_n 1, 1) := by decide +kernel
theorem eX8_print_45 : Ev 133 45 (a0 :: some (.int x) :: ls) (st) h r ↔ Ev 133 46 (a0 :: some (.int x) :: ls) (.int x :: st) h r := ev_iload_n iX8_print_45 rfl
theorem iX8_print_46 : mn_ins 133 46 = some (8, false, .iaload, 1) := by decide +kernel
theorem eX8_print_46 : Ev 133 46 (ls) (.int x :: .ref a :: st) h r ↔ Evk 133 47 ls (mn_al h a 0 x) st h r := ev_iald iX8_print_46
theorem iX8_print_47 : mn_ins 133 47 = some (8, false, .iconst 1, 1) := by decide +kernel
theorem eX8_print_47 : Ev 133 47 (ls) (st) h r ↔ Ev 133 48 (ls) (.int (nI 1) :: st) h r := ev_iconst iX8_print_47 (by decide)
theorem iX8_print_48 : mn_ins 133 48 = some (8, false, .isub, 1) := by decide +kernel
theorem eX8_print_48 : Ev 133 48 (ls) (.int y :: .int x :: st) h r ↔ Ev 133 49 (ls) (.int (x - y) :: st) h r := ev_isub iX8_print_48
theorem iX8_print_49 : mn_ins 133 49 = some (8, false, .invokestatic 111, 3) := by decide +kernel
theorem eX8_print_49 : Ev 133 49 (ls) (.int x2 :: .int x1 :: .long u0 :: st) h r ↔ Evr false (decide (mn_cats st ≤ 8)) 133 49 ls st h.2.2.1 h.2.2.2 (Cl 86 [.long u0, .int x1, .int x2] h.1 h.2.1) r := Ev_T (As := [.long u0, .int x1, .int x2]) (q := 1) iX8_print_49 (by decide +kernel) (by decide) (x := mnI_X8_print) (x2 := mnI_X8_in) rfl rfl rfl (by decide +kernel) (Nat.le_of_ble_eq_true rfl) rfl
theorem iX8_print_52 : mn_ins 133 52 = some (8, false, .ifCond .eq 7, 3) := by decide +kernel
theorem eX8_print_52 : Ev 133 52 (ls) (.int x :: st) h r ↔ if x = nI 0 then Ev 133 59 (ls) (st) h r else Ev 133 55 (ls) (st) h r := ev_ifeq iX8_print_52 (by decide)
theorem iX8_print_55 : mn_ins 133 55 = some (8, false, .iconst 1, 1) := by decide +kernel
theorem eX8_print_55 : Ev 133 55 (ls) (st) h r ↔ Ev 133 56 (ls) (.int (nI 1) :: st) h r := ev_iconst iX8_print_55 (by decide)
theorem iX8_print_56 : mn_ins 133 56 = some (8, false, .goto 4, 3) := by decide +kernel
theorem eX8_print_56 : Ev 133 56 (ls) (st) h r ↔ Ev 133 60 (ls) (st) h r := ev_goto iX8_print_56 (by decide)
theorem iX8_print_59 : mn_ins 133 59 = some (8, false, .iconst 0, 1) := by decide +kernel
theorem eX8_print_59 : Ev 133 59 (ls) (st) h r ↔ Ev 133 60 (ls) (.int (nI 0) :: st) h r := ev_iconst iX8_print_59 (by decide)
theorem iX8_print_60 : mn_ins 133 60 = some (8, false, .istore_n 3, 1) := by decide +kernel
theorem eX8_print_60 : Ev 133 60 (a0 :: a1 :: a2 :: a3 :: ls) (.int x :: st) h r ↔ Ev 133 61 (a0 :: a1 :: mn_k a2 :: some (.int x) :: ls) (st) h r := ev_istore_n iX8_print_60 (by show 3 < _; simp only [List.length_cons]; omega)
theorem iX8_print_61 : mn_ins 133 61 = some (8, false, .aload_n 0, 1) := by decide +kernel
theorem eX8_print_61 : Ev 133 61 (some (.ref a) :: ls) (st) h r ↔ Ev 133 62 (some (.ref a) :: ls) (.ref a :: st) h r := ev_aload_n iX8_print_61 rfl rfl
theorem iX8_print_62 : mn_ins 133 62 = some (8, false, .iload_n 3, 1) := by decide +kernel
theorem eX8_print_62 : Ev 133 62 (a0 :: a1 :: a2 :: some (.int x) :: ls) (st) h r ↔ Ev 133 63 (a0 :: a1 :: a2 :: some (.int x) :: ls) (.int x :: st) h r := ev_iload_n iX8_print_62 rfl
theorem iX8_print_63 : mn_ins 133 63 = some (8, false, .ifCond .eq 7, 3) := by decide +kernel
theorem eX8_print_63 : Ev 133 63 (ls) (.int x :: st) h r ↔ if x = nI 0 then Ev 133 70 (ls) (st) h r else Ev 133 66 (ls) (st) h r := ev_ifeq iX8_print_63 (by decide)
theorem iX8_print_66 : mn_ins 133 66 = some (8, false, .iconst 0, 1) := by decide +kernel
theorem eX8_print_66 : Ev 133 66 (ls) (st) h r ↔ Ev 133 67 (ls) (.int (nI 0) :: st) h r := ev_iconst iX8_print_66 (by decide)
theorem iX8_print_67 : mn_ins 133 67 = some (8, false, .goto 4, 3) := by decide +kernel
theorem eX8_print_67 : Ev 133 67 (ls) (st) h r ↔ Ev 133 71 (ls) (st) h r := ev_goto iX8_print_67 (by decide)
theorem iX8_print_70 : mn_ins 133 70 = some (8, false, .iconst 1, 1) := by decide +kernel
theorem eX8_print_70 : Ev 133 70 (ls) (st) h r ↔ Ev 133 71 (ls) (.int (nI 1) :: st) h r := ev_iconst iX8_print_70 (by decide)
theorem iX8_print_71 : mn_ins 133 71 = some (8, false, .putfield 94, 3) := by decide +kernel
theorem eX8_print_71 : Ev 133 71 (ls) (w :: .ref a :: st) h r ↔ Evh 133 74 ls st (mn_pf h a 8 0 w) r := ev_putf iX8_print_71 (by decide +kernel) (by decide +kernel)
theorem iX8_print_74 : mn_ins 133 74 = some (8, false, .aload_n 0, 1) := by decide +kernel
theorem eX8_print_74 : Ev 133 74 (some (.ref a) :: ls) (st) h r ↔ Ev 133 75 (some (.ref a) :: ls) (.ref a :: st) h r := ev_aload_n iX8_print_74 rfl rfl
theorem iX8_print_75 : mn_ins 133 75 = some (8, false, .getfield 94, 3) := by decide +kernel
theorem eX8_print_75 : Ev 133 75 (ls) (.ref a :: st) h r ↔ Evk 133 78 ls (mn_gf h a 8 0) st h r := ev_getf iX8_print_75 (by decide +kernel)
theorem iX8_print_78 : mn_ins 133 78 = some (8, false, .ifCond .le 7, 3) := by decide +kernel
theorem eX8_print_78 : Ev 133 78 (ls) (.int x :: st) h r ↔ if x ≤ nI 0 then Ev 133 85 (ls) (st) h r else Ev 133 81 (ls) (st) h r := ev_ifle iX8_print_78 (by decide)
theorem iX8_print_81 : mn_ins 133 81 = some (8, false, .lconst 0, 1) := by decide +kernel
theorem eX8_print_81 : Ev 133 81 (ls) (st) h r ↔ Ev 133 82 (ls) (.long 0 :: st) h r := ev_lconst iX8_print_81 (by decide)
theorem iX8_print_82 : mn_ins 133 82 = some (8, false, .goto 28, 3) := by decide +kernel
theorem eX8_print_82 : Ev 133 82 (ls) (st) h r ↔ Ev 133 110 (ls) (st) h r := ev_goto iX8_print_82 (by decide)
theorem iX8_print_85 : mn_ins 133 85 = some (8, false, .iload_n 2, 1) := by decide +kernel
theorem eX8_print_85 : Ev 133 85 (a0 :: a1 :: some (.int x) :: ls) (st) h r ↔ Ev 133 86 (a0 :: a1 :: some (.int x) :: ls) (.int x :: st) h r := ev_iload_n iX8_print_85 rfl
theorem iX8_print_86 : mn_ins 133 86 = some (8, false, .iconst (-1), 1) := by decide +kernel
theorem eX8_print_86 : Ev 133 86 (ls) (st) h r ↔ Ev 133 87 (ls) (.int (-1) :: st) h r := ev_iconst iX8_print_86 (by decide)
theorem iX8_print_87 : mn_ins 133 87 = some (8, false, .if_icmp .ne 12, 3) := by decide +kernel
theorem eX8_print_87 : Ev 133 87 (ls) (.int y :: .int x :: st) h r ↔ if x = y then Ev 133 90 (ls) (st) h r else Ev 133 99 (ls) (st) h r := ev_cmpne iX8_print_87 (by decide)
theorem iX8_print_90 : mn_ins 133 90 = some (8, false, .aload_n 0, 1) := by decide +kernel
theorem eX8_print_90 : Ev 133 90 (some (.ref a) :: ls) (st) h r ↔ Ev 133 91 (some (.ref a) :: ls) (.ref a :: st) h r := ev_aload_n iX8_print_90 rfl rfl
theorem iX8_print_91 : mn_ins 133 91 = some (8, false, .getfield 70, 3) := by decide +kernel
theorem eX8_print_91 : Ev 133 91 (ls) (.ref a :: st) h r ↔ Evk 133 94 ls (mn_gf h a 8 26) st h r := ev_getf iX8_print_91 (by decide +kernel)
theorem iX8_print_94 : mn_ins 133 94 = some (8, false, .iload_n 1, 1) := by decide +kernel
theorem eX8_print_94 : Ev 133 94 (a0 :: some (.int x) :: ls) (st) h r ↔ Ev 133 95 (a0 :: some (.int x) :: ls) (.int x :: st) h r := ev_iload_n iX8_print_94 rfl
theorem iX8_print_95 : mn_ins 133 95 = some (8, false, .laload, 1) := by decide +kernel
theorem eX8_print_95 : Ev 133 95 (ls) (.int x :: .ref a :: st) h r ↔ Evk 133 96 ls (mn_al h a 1 x) st h r := ev_lald iX8_print_95
theorem iX8_print_96 : mn_ins 133 96 = some (8, false, .goto 14, 3) := by decide +kernel
theorem eX8_print_96 : Ev 133 96 (ls) (st) h r ↔ Ev 133 110 (ls) (st) h r := ev_goto iX8_print_96 (by decide)
theorem iX8_print_99 : mn_ins 133 99 = some (8, false, .aload_n 0, 1) := by decide +kernel
theorem eX8_print_99 : Ev 133 99 (some (.ref a) :: ls) (st) h r ↔ Ev 133 100 (some (.ref a) :: ls) (.ref a :: st) h r := ev_aload_n iX8_print_99 rfl rfl
theorem iX8_print_100 : mn_ins 133 100 = some (8, false, .getfield 67, 3) := by decide +kernel
theorem eX8_print_100 : Ev 133 100 (ls) (.ref a :: st) h r ↔ Evk 133 103 ls (mn_gf h a 8 25) st h r := ev_getf iX8_print_100 (by decide +kernel)
theorem iX8_print_103 : mn_ins 133 103 = some (8, false, .bipush 30, 2) := by decide +kernel
theorem eX8_print_103 : Ev 133 103 (ls) (st) h r ↔ Ev 133 105 (ls) (.int (nI 30) :: st) h r := ev_bipush iX8_print_103 (by decide)
theorem iX8_print_105 : mn_ins 133 105 = some (8, false, .iload_n 1, 1) := by decide +kernel
theorem eX8_print_105 : Ev 133 105 (a0 :: some (.int x) :: ls) (st) h r ↔ Ev 133 106 (a0 :: some (.int x) :: ls) (.int x :: st) h r := ev_iload_n iX8_print_105 rfl
theorem iX8_print_106 : mn_ins 133 106 = some (8, false, .imul, 1) := by decide +kernel
theorem eX8_print_106 : Ev 133 106 (ls) (.int y :: .int x :: st) h r ↔ Ev 133 107 (ls) (.int (x * y) :: st) h r := ev_imul iX8_print_106
theorem iX8_print_107 : mn_ins 133 107 = some (8, false, .iload_n 2, 1) := by decide +kernel
theorem eX8_print_107 : Ev 133 107 (a0 :: a1 :: some (.int x) :: ls) (st) h r ↔ Ev 133 108 (a0 :: a1 :: some (.int x) :: ls) (.int x :: st) h r := ev_iload_n iX8_print_107 rfl
theorem iX8_print_108 : mn_ins 133 108 = some (8, false, .iadd, 1) := by decide +kernel
theorem eX8_print_108 : Ev 133 108 (ls) (.int y :: .int x :: st) h r ↔ Ev 133 109 (ls) (.int (x + y) :: st) h r := ev_iadd iX8_print_108
theorem iX8_print_109 : mn_ins 133 109 = some (8, false, .laload, 1) := by decide +kernel
theorem eX8_print_109 : Ev 133 109 (ls) (.int x :: .ref a :: st) h r ↔ Evk 133 110 ls (mn_al h a 1 x) st h r := ev_lald iX8_print_109
theorem iX8_print_110 : mn_ins 133 110 = some (8, false, .lreturn, 1) := by decide +kernel
theorem eX8_print_110 : Ev 133 110 (ls) [.long u] h r ↔ r = (h, .inl (some (.long u))) := ev_lret iX8_print_110 (X := mnI_X8_print) rfl rfl
theorem iX8_count_0 : mn_ins 134 0 = some (8, false, .aload_n 0, 1) := by decide +kernel
theorem eX8_count_0 : Ev 134 0 (some (.ref a) :: ls) (st) h r ↔ Ev 134 1 (some (.ref a) :: ls) (.ref a :: st) h r := ev_aload_n iX8_count_0 rfl rfl
theorem iX8_count_1 : mn_ins 134 1 = some (8, false, .iconst 0, 1) := by decide +kernel
theorem eX8_count_1 : Ev 134 1 (ls) (st) h r ↔ Ev 134 2 (ls) (.int (nI 0) :: st) h r := ev_iconst iX8_count_1 (by decide)
theorem iX8_count_2 : mn_ins 134 2 = some (8, false, .putfield 94, 3) := by decide +kernel
theorem eX8_count_2 : Ev 134 2 (ls) (w :: .ref a :: st) h r ↔ Evh 134 5 ls st (mn_pf h a 8 0 w) r := ev_putf iX8_count_2 (by decide +kernel) (by decide +kernel)
theorem iX8_count_5 : mn_ins 134 5 = some (8, false, .iload_n 1, 1) := by decide +kernel
theorem eX8_count_5 : Ev 134 5 (a0 :: some (.int x) :: ls) (st) h r ↔ Ev 134 6 (a0 :: some (.int x) :: ls) (.int x :: st) h r := ev_iload_n iX8_count_5 rfl
theorem iX8_count_6 : mn_ins 134 6 = some (8, false, .i2l, 1) := by decide +kernel
theorem eX8_count_6 : Ev 134 6 (ls) (.int x :: st) h r ↔ Ev 134 7 (ls) (.long x.toInt64 :: st) h r := ev_i2l iX8_count_6
theorem iX8_count_7 : mn_ins 134 7 = some (8, false, .iconst 0, 1) := by decide +kernel
theorem eX8_count_7 : Ev 134 7 (ls) (st) h r ↔ Ev 134 8 (ls) (.int (nI 0) :: st) h r := ev_iconst iX8_count_7 (by decide)
theorem iX8_count_8 : mn_ins 134 8 = some (8, false, .iconst 2, 1) := by decide +kernel
theorem eX8_count_8 : Ev 134 8 (ls) (st) h r ↔ Ev 134 9 (ls) (.int (nI 2) :: st) h r := ev_iconst iX8_count_8 (by decide)
theorem iX8_count_9 : mn_ins 134 9 = some (8, false, .invokestatic 111, 3) := by decide +kernel
theorem eX8_count_9 : Ev 134 9 (ls) (.int x2 :: .int x1 :: .long u0 :: st) h r ↔ Evr false (decide (mn_cats st ≤ 8)) 134 9 ls st h.2.2.1 h.2.2.2 (Cl 86 [.long u0, .int x1, .int x2] h.1 h.2.1) r := Ev_T (As := [.long u0, .int x1, .int x2]) (q := 1) iX8_count_9 (by decide +kernel) (by decide) (x := mnI_X8_count) (x2 := mnI_X8_in) rfl rfl rfl (by decide +kernel) (Nat.le_of_ble_eq_true rfl) rfl
theorem iX8_count_12 : mn_ins 134 12 = some (8, false, .ifCond .ne 5, 3) := by decide +kernel
theorem eX8_count_12 : Ev 134 12 (ls) (.int x :: st) h r ↔ if x = nI 0 then Ev 134 15 (ls) (st) h r else Ev 134 17 (ls) (st) h r := ev_ifne iX8_count_12 (by decide)
theorem iX8_count_15 : mn_ins 134 15 = some (8, false, .iconst (-1), 1) := by decide +kernel
theorem eX8_count_15 : Ev 134 15 (ls) (st) h r ↔ Ev 134 16 (ls) (.int (-1) :: st) h r := ev_iconst iX8_count_15 (by decide)
theorem iX8_count_16 : mn_ins 134 16 = some (8, false, .ireturn, 1) := by decide +kernel
theorem eX8_count_16 : Ev 134 16 (ls) [.int x] h r ↔ r = (h, .inl (some (.int x))) := ev_iret iX8_count_16 (X := mnI_X8_count) rfl rfl
theorem iX8_count_17 : mn_ins 134 17 = some (8, false, .aload_n 0, 1) := by decide +kernel
theorem eX8_count_17 : Ev 134 17 (some (.ref a) :: ls) (st) h r ↔ Ev 134 18 (some (.ref a) :: ls) (.ref a :: st) h r := ev_aload_n iX8_count_17 rfl rfl
theorem iX8_count_18 : mn_ins 134 18 = some (8, false, .getfield 97, 3) := by decide +kernel
theorem eX8_count_18 : Ev 134 18 (ls) (.ref a :: st) h r ↔ Evk 134 21 ls (mn_gf h a 8 9) st h r := ev_getf iX8_count_18 (by decide +kernel)
theorem iX8_count_21 : mn_ins 134 21 = some (8, false, .ifCond .ne 5, 3) := by decide +kernel
theorem eX8_count_21 : Ev 134 21 (ls) (.int x :: st) h r ↔ if x = nI 0 then Ev 134 24 (ls) (st) h r else Ev 134 26 (ls) (st) h r := ev_ifne iX8_count_21 (by decide)
theorem iX8_count_24 : mn_ins 134 24 = some (8, false, .iconst 0, 1) := by decide +kernel
theorem eX8_count_24 : Ev 134 24 (ls) (st) h r ↔ Ev 134 25 (ls) (.int (nI 0) :: st) h r := ev_iconst iX8_count_24 (by decide)
theorem iX8_count_25 : mn_ins 134 25 = some (8, false, .ireturn, 1) := by decide +kernel
theorem eX8_count_25 : Ev 134 25 (ls) [.int x] h r ↔ r = (h, .inl (some (.int x))) := ev_iret iX8_count_25 (X := mnI_X8_count) rfl rfl
theorem iX8_count_26 : mn_ins 134 26 = some (8, false, .iload_n 1, 1) := by decide +kernel
theorem eX8_count_26 : Ev 134 26 (a0 :: some (.int x) :: ls) (st) h r ↔ Ev 134 27 (a0 :: some (.int x) :: ls) (.int x :: st) h r := ev_iload_n iX8_count_26 rfl
theorem iX8_count_27 : mn_ins 134 27 = some (8, false, .iconst 2, 1) := by decide +kernel
theorem eX8_count_27 : Ev 134 27 (ls) (st) h r ↔ Ev 134 28 (ls) (.int (nI 2) :: st) h r := ev_iconst iX8_count_27 (by decide)
theorem iX8_count_28 : mn_ins 134 28 = some (8, false, .if_icmp .ne 8, 3) := by decide +kernel
theorem eX8_count_28 : Ev 134 28 (ls) (.int y :: .int x :: st) h r ↔ if x = y then Ev 134 31 (ls) (st) h r else Ev 134 36 (ls) (st) h r := ev_cmpne iX8_count_28 (by decide)
theorem iX8_count_31 : mn_ins 134 31 = some (8, false, .aload_n 0, 1) := by decide +kernel
theorem eX8_count_31 : Ev 134 31 (some (.ref a) :: ls) (st) h r ↔ Ev 134 32 (some (.ref a) :: ls) (.ref a :: st) h r := ev_aload_n iX8_count_31 rfl rfl
theorem iX8_count_32 : mn_ins 134 32 = some (8, false, .getfield 150, 3) := by decide +kernel
theorem eX8_count_32 : Ev 134 32 (ls) (.ref a :: st) h r ↔ Evk 134 35 ls (mn_gf h a 8 13) st h r := ev_getf iX8_count_32 (by decide +kernel)
theorem iX8_count_35 : mn_ins 134 35 = some (8, false, .ireturn, 1) := by decide +kernel
theorem eX8_count_35 : Ev 134 35 (ls) [.int x] h r ↔ r = (h, .inl (some (.int x))) := ev_iret iX8_count_35 (X := mnI_X8_count) rfl rfl
theorem iX8_count_36 : mn_ins 134 36 = some (8, false, .iconst 0, 1) := by decide +kernel
theorem eX8_count_36 : Ev 134 36 (ls) (st) h r ↔ Ev 134 37 (ls) (.int (nI 0) :: st) h r := ev_iconst iX8_count_36 (by decide)
theorem iX8_count_37 : mn_ins 134 37 = some (8, false, .istore_n 2, 1) := by decide +kernel
theorem eX8_count_37 : Ev 134 37 (a0 :: a1 :: a2 :: ls) (.int x :: st) h r ↔ Ev 134 38 (a0 :: mn_k a1 :: some (.int x) :: ls) (st) h r := ev_istore_n iX8_count_37 (by show 2 < _; simp only [List.length_cons]; omega)
theorem iX8_count_38 : mn_ins 134 38 = some (8, false, .iconst 0, 1) := by decide +kernel
theorem eX8_count_38 : Ev 134 38 (ls) (st) h r ↔ Ev 134 39 (ls) (.int (nI 0) :: st) h r := ev_iconst iX8_count_38 (by decide)
theorem iX8_count_39 : mn_ins 134 39 = some (8, false, .istore_n 3, 1) := by decide +kernel
theorem eX8_count_39 : Ev 134 39 (a0 :: a1 :: a2 :: a3 :: ls) (.int x :: st) h r ↔ Ev 134 40 (a0 :: a1 :: mn_k a2 :: some (.int x) :: ls) (st) h r := ev_istore_n iX8_count_39 (by show 3 < _; simp only [List.length_cons]; omega)
theorem iX8_count_40 : mn_ins 134 40 = some (8, false, .iload_n 3, 1) := by decide +kernel
theorem eX8_count_40 : Ev 134 40 (a0 :: a1 :: a2 :: some (.int x) :: ls) (st) h r ↔ Ev 134 41 (a0 :: a1 :: a2 :: some (.int x) :: ls) (.int x :: st) h r := ev_iload_n iX8_count_40 rfl
theorem iX8_count_41 : mn_ins 134 41 = some (8, false, .bipush 40, 2) := by decide +kernel
theorem eX8_count_41 : Ev 134 41 (ls) (st) h r ↔ Ev 134 43 (ls) (.int (nI 40) :: st) h r := ev_bipush iX8_count_41 (by decide)
theorem iX8_count_43 : mn_ins 134 43 = some (8, false, .if_icmp .ge 68, 3) := by decide +kernel
theorem eX8_count_43 : Ev 134 43 (ls) (.int y :: .int x :: st) h r ↔ if y ≤ x then Ev 134 111 (ls) (st) h r else Ev 134 46 (ls) (st) h r := ev_cmpge iX8_count_43 (by decide)
theorem iX8_count_46 : mn_ins 134 46 = some (8, false, .aload_n 0, 1) := by decide +kernel
theorem eX8_count_46 : Ev 134 46 (some (.ref a) :: ls) (st) h r ↔ Ev 134 47 (some (.ref a) :: ls) (.ref a :: st) h r := ev_aload_n iX8_count_46 rfl rfl
theorem iX8_count_47 : mn_ins 134 47 = some (8, false, .getfield 79, 3) := by decide +kernel
theorem eX8_count_47 : Ev 134 47 (ls) (.ref a :: st) h r ↔ Evk 134 50 ls (mn_gf h a 8 29) st h r := ev_getf iX8_count_47 (by decide +kernel)
theorem iX8_count_50 : mn_ins 134 50 = some (8, false, .iload_n 3, 1) := by decide +kernel
theorem eX8_count_50 : Ev 134 50 (a0 :: a1 :: a2 :: some (.int x) :: ls) (st) h r ↔ Ev 134 51 (a0 :: a1 :: a2 :: some (.int x) :: ls) (.int x :: st) h r := ev_iload_n iX8_count_50 rfl
theorem iX8_count_51 : mn_ins 134 51 = some (8, false, .baload, 1) := by decide +kernel
theorem eX8_count_51 : Ev 134 51 (ls) (.int x :: .ref a :: st) h r ↔ Evk 134 52 ls (mn_al h a 2 x) st h r := ev_bald iX8_count_51
theorem iX8_count_52 : mn_ins 134 52 = some (8, false, .ifCond .ne 6, 3) := by decide +kernel
theorem eX8_count_52 : Ev 134 52 (ls) (.int x :: st) h r ↔ if x = nI 0 then Ev 134 55 (ls) (st) h r else Ev 134 58 (ls) (st) h r := ev_ifne iX8_count_52 (by decide)
theorem iX8_count_55 : mn_ins 134 55 = some (8, false, .goto 50, 3) := by decide +kernel
theorem eX8_count_55 : Ev 134 55 (ls) (st) h r ↔ Ev 134 105 (ls) (st) h r := ev_goto iX8_count_55 (by decide)
theorem iX8_count_58 : mn_ins 134 58 = some (8, false, .iload_n 2, 1) := by decide +kernel
theorem eX8_count_58 : Ev 134 58 (a0 :: a1 :: some (.int x) :: ls) (st) h r ↔ Ev 134 59 (a0 :: a1 :: some (.int x) :: ls) (.int x :: st) h r := ev_iload_n iX8_count_58 rfl
theorem iX8_count_59 : mn_ins 134 59 = some (8, false, .iload_n 1, 1) := by decide +kernel
theorem eX8_count_59 : Ev 134 59 (a0 :: some (.int x) :: ls) (st) h r ↔ Ev 134 60 (a0 :: some (.int x) :: ls) (.int x :: st) h r := ev_iload_n iX8_count_59 rfl
theorem iX8_count_60 : mn_ins 134 60 = some (8, false, .ifCond .ne 7, 3) := by decide +kernel
theorem eX8_count_60 : Ev 134 60 (ls) (.int x :: st) h r ↔ if x = nI 0 then Ev 134 63 (ls) (st) h r else Ev 134 67 (ls) (st) h r := ev_ifne iX8_count_60 (by decide)
theorem iX8_count_63 : mn_ins 134 63 = some (8, false, .iconst 1, 1) := by decide +kernel
theorem eX8_count_63 : Ev 134 63 (ls) (st) h r ↔ Ev 134 64 (ls) (.int (nI 1) :: st) h r := ev_iconst iX8_count_63 (by decide)
theorem iX8_count_64 : mn_ins 134 64 = some (8, false, .goto 4, 3) := by decide +kernel
theorem eX8_count_64 : Ev 134 64 (ls) (st) h r ↔ Ev 134 68 (ls) (st) h r := ev_goto iX8_count_64 (by decide)
theorem iX8_count_67 : mn_ins 134 67 = some (8, false, .iconst 0, 1) := by decide +kernel
theorem eX8_count_67 : Ev 134 67 (ls) (st) h r ↔ Ev 134 68 (ls) (.int (nI 0) :: st) h r := ev_iconst iX8_count_67 (by decide)
theorem iX8_count_68 : mn_ins 134 68 = some (8, false, .iadd, 1) := by decide +kernel
theorem eX8_count_68 : Ev 134 68 (ls) (.int y :: .int x :: st) h r ↔ Ev 134 69 (ls) (.int (x + y) :: st) h r := ev_iadd iX8_count_68
theorem iX8_count_69 : mn_ins 134 69 = some (8, false, .istore_n 2, 1) := by decide +kernel
theorem eX8_count_69 : Ev 134 69 (a0 :: a1 :: a2 :: ls) (.int x :: st) h r ↔ Ev 134 70 (a0 :: mn_k a1 :: some (.int x) :: ls) (st) h r := ev_istore_n iX8_count_69 (by show 2 < _; simp only [List.length_cons]; omega)
theorem iX8_count_70 : mn_ins 134 70 = some (8, false, .iconst 0, 1) := by decide +kernel
theorem eX8_count_70 : Ev 134 70 (ls) (st) h r ↔ Ev 134 71 (ls) (.int (nI 0) :: st) h r := ev_iconst iX8_count_70 (by decide)
theorem iX8_count_71 : mn_ins 134 71 = some (8, false, .istore 4, 2) := by decide +kernel
theorem eX8_count_71 : Ev 134 71 (a0 :: a1 :: a2 :: a3 :: a4 :: ls) (.int x :: st) h r ↔ Ev 134 73 (a0 :: a1 :: a2 :: mn_k a3 :: some (.int x) :: ls) (st) h r := ev_istore iX8_count_71 (by show 4 < _; simp only [List.length_cons]; omega)
theorem iX8_count_73 : mn_ins 134 73 = some (8, false, .iload 4, 2) := by decide +kernel
theorem eX8_count_73 : Ev 134 73 (a0 :: a1 :: a2 :: a3 :: some (.int x) :: ls) (st) h r ↔ Ev 134 75 (a0 :: a1 :: a2 :: a3 :: some (.int x) :: ls) (.int x :: st) h r := ev_iload iX8_count_73 rfl
theorem iX8_count_75 : mn_ins 134 75 = some (8, false, .bipush 12, 2) := by decide +kernel
theorem eX8_count_75 : Ev 134 75 (ls) (st) h r ↔ Ev 134 77 (ls) (.int (nI 12) :: st) h r := ev_bipush iX8_count_75 (by decide)
theorem iX8_count_77 : mn_ins 134 77 = some (8, false, .if_icmp .ge 28, 3) := by decide +kernel
theorem eX8_count_77 : Ev 134 77 (ls) (.int y :: .int x :: st) h r ↔ if y ≤ x then Ev 134 105 (ls) (st) h r else Ev 134 80 (ls) (st) h r := ev_cmpge iX8_count_77 (by decide)
theorem iX8_count_80 : mn_ins 134 80 = some (8, false, .iload_n 1, 1) := by decide +kernel
theorem eX8_count_80 : Ev 134 80 (a0 :: some (.int x) :: ls) (st) h r ↔ Ev 134 81 (a0 :: some (.int x) :: ls) (.int x :: st) h r := ev_iload_n iX8_count_80 rfl
theorem iX8_count_81 : mn_ins 134 81 = some (8, false, .iconst 1, 1) := by decide +kernel
theorem eX8_count_81 : Ev 134 81 (ls) (st) h r ↔ Ev 134 82 (ls) (.int (nI 1) :: st) h r := ev_iconst iX8_count_81 (by decide)
theorem iX8_count_82 : mn_ins 134 82 = some (8, false, .if_icmp .ne 23, 3) := by decide +kernel
theorem eX8_count_82 : Ev 134 82 (ls) (.int y :: .int x :: st) h r ↔ if x = y then Ev 134 85 (ls) (st) h r else Ev 134 105 (ls) (st) h r := ev_cmpne iX8_count_82 (by decide)
theorem iX8_count_85 : mn_ins 134 85 = some (8, false, .iload_n 2, 1) := by decide +kernel
theorem eX8_count_85 : Ev 134 85 (a0 :: a1 :: some (.int x) :: ls) (st) h r ↔ Ev 134 86 (a0 :: a1 :: some (.int x) :: ls) (.int x :: st) h r := ev_iload_n iX8_count_85 rfl
theorem iX8_count_86 : mn_ins 134 86 = some (8, false, .aload_n 0, 1) := by decide +kernel
theorem eX8_count_86 : Ev 134 86 (some (.ref a) :: ls) (st) h r ↔ Ev 134 87 (some (.ref a) :: ls) (.ref a :: st) h r := ev_aload_n iX8_count_86 rfl rfl
theorem iX8_count_87 : mn_ins 134 87 = some (8, false, .getfield 85, 3) := by decide +kernel
theorem eX8_count_87 : Ev 134 87 (ls) (.ref a :: st) h r ↔ Evk 134 90 ls (mn_gf h a 8 31) st h r := ev_getf iX8_count_87 (by decide +kernel)
theorem iX8_count_90 : mn_ins 134 90 = some (8, false, .iload_n 3, 1) := by decide +kernel
theorem eX8_count_90 : Ev 134 90 (a0 :: a1 :: a2 :: some (.int x) :: ls) (st) h r ↔ Ev 134 91 (a0 :: a1 :: a2 :: some (.int x) :: ls) (.int x :: st) h r := ev_iload_n iX8_count_90 rfl
theorem iX8_count_91 : mn_ins 134 91 = some (8, false, .iaload, 1) := by decide +kernel
theorem eX8_count_91 : Ev 134 91 (ls) (.int x :: .ref a :: st) h r ↔ Evk 134 92 ls (mn_al h a 0 x) st h r := ev_iald iX8_count_91
theorem iX8_count_92 : mn_ins 134 92 = some (8, false, .iload 4, 2) := by decide +kernel
theorem eX8_count_92 : Ev 134 92 (a0 :: a1 :: a2 :: a3 :: some (.int x) :: ls) (st) h r ↔ Ev 134 94 (a0 :: a1 :: a2 :: a3 :: some (.int x) :: ls) (.int x :: st) h r := ev_iload iX8_count_92 rfl
theorem iX8_count_94 : mn_ins 134 94 = some (8, false, .ishr, 1) := by decide +kernel
theorem eX8_count_94 : Ev 134 94 (ls) (.int y :: .int x :: st) h r ↔ Ev 134 95 (ls) (.int (x >>> (y &&& 31)) :: st) h r := ev_ishr iX8_count_94
theorem iX8_count_95 : mn_ins 134 95 = some (8, false, .iconst 1, 1) := by decide +kernel
theorem eX8_count_95 : Ev 134 95 (ls) (st) h r ↔ Ev 134 96 (ls) (.int (nI 1) :: st) h r := ev_iconst iX8_count_95 (by decide)
theorem iX8_count_96 : mn_ins 134 96 = some (8, false, .iand, 1) := by decide +kernel
theorem eX8_count_96 : Ev 134 96 (ls) (.int y :: .int x :: st) h r ↔ Ev 134 97 (ls) (.int (x &&& y) :: st) h r := ev_iand iX8_count_96
theorem iX8_count_97 : mn_ins 134 97 = some (8, false, .iadd, 1) := by decide +kernel
theorem eX8_count_97 : Ev 134 97 (ls) (.int y :: .int x :: st) h r ↔ Ev 134 98 (ls) (.int (x + y) :: st) h r := ev_iadd iX8_count_97
theorem iX8_count_98 : mn_ins 134 98 = some (8, false, .istore_n 2, 1) := by decide +kernel
theorem eX8_count_98 : Ev 134 98 (a0 :: a1 :: a2 :: ls) (.int x :: st) h r ↔ Ev 134 99 (a0 :: mn_k a1 :: some (.int x) :: ls) (st) h r := ev_istore_n iX8_count_98 (by show 2 < _; simp only [List.length_cons]; omega)
theorem iX8_count_99 : mn_ins 134 99 = some (8, false, .iinc 4 1, 3) := by decide +kernel
theorem eX8_count_99 : Ev 134 99 (a0 :: a1 :: a2 :: a3 :: some (.int x) :: ls) (st) h r ↔ Ev 134 102 (a0 :: a1 :: a2 :: mn_k a3 :: some (.int (x + (nI 1))) :: ls) (st) h r := ev_iinc iX8_count_99 rfl (by decide)
theorem iX8_count_102 : mn_ins 134 102 = some (8, false, .goto (-29), 3) := by decide +kernel
theorem eX8_count_102 : Ev 134 102 (ls) (st) h r ↔ Ev 134 73 (ls) (st) h r := ev_goto iX8_count_102 (by decide)
theorem iX8_count_105 : mn_ins 134 105 = some (8, false, .iinc 3 1, 3) := by decide +kernel
theorem eX8_count_105 : Ev 134 105 (a0 :: a1 :: a2 :: some (.int x) :: ls) (st) h r ↔ Ev 134 108 (a0 :: a1 :: mn_k a2 :: some (.int (x + (nI 1))) :: ls) (st) h r := ev_iinc iX8_count_105 rfl (by decide)
theorem iX8_count_108 : mn_ins 134 108 = some (8, false, .goto (-68), 3) := by decide +kernel
theorem eX8_count_108 : Ev 134 108 (ls) (st) h r ↔ Ev 134 40 (ls) (st) h r := ev_goto iX8_count_108 (by decide)
theorem iX8_count_111 : mn_ins 134 111 = some (8, false, .iload_n 2, 1) := by decide +kernel
theorem eX8_count_111 : Ev 134 111 (a0 :: a1 :: some (.int x) :: ls) (st) h r ↔ Ev 134 112 (a0 :: a1 :: some (.int x) :: ls) (.int x :: st) h r := ev_iload_n iX8_count_111 rfl
theorem iX8_count_112 : mn_ins 134 112 = some (8, false, .ireturn, 1) := by decide +kernel
theorem eX8_count_112 : Ev 134 112 (ls) [.int x] h r ↔ r = (h, .inl (some (.int x))) := ev_iret iX8_count_112 (X := mnI_X8_count) rfl rfl
end E_41c_rows
