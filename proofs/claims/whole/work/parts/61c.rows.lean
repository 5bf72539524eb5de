section E_61c_rows
variable {ls : List (Option Value)} {st : List Value} {h : mn_S} {r : mn_Res} {a0 a1 a2 a3 a4 a5 a6 a7 a8 a9 a10 a11 a12 a13 : Option Value} {x y : Int32} {u v : Int64} {w w2 w3 w4 w5 w6 w7 w8 : Value} {x0 x1 x2 x3 x4 x5 x6 x7 x8 : Int32} {u0 u1 u2 u3 u4 u5 u6 u7 u8 : Int64} {a b : Nat} {o1 o2 : Option Nat}
theorem iX7_init_0 : mn_ins 68 0 = some (7, true, .aload_n 0, 1) := by decide +kernel
theorem eX7_init_0 : Ev 68 0 (some (.ref a) :: ls) (st) h r ↔ Ev 68 1 (some (.ref a) :: ls) (.ref a :: st) h r := ev_aload_n iX7_init_0 rfl rfl
theorem iX7_init_1 : mn_ins 68 1 = some (7, true, .invokespecial 1, 3) := by decide +kernel
theorem eX7_init_1 (hc : mn_cats st ≤ 8) : Ev 68 1 (ls) (.ref a :: st) h r ↔ Ev 68 4 (ls) (st) h r := Ev_obj iX7_init_1 (q := 0) (by decide +kernel) (x := mnI_X7_init) rfl (by decide) hc
theorem iX7_init_4 : mn_ins 68 4 = some (7, true, .aload_n 0, 1) := by decide +kernel
theorem eX7_init_4 : Ev 68 4 (some (.ref a) :: ls) (st) h r ↔ Ev 68 5 (some (.ref a) :: ls) (.ref a :: st) h r := ev_aload_n iX7_init_4 rfl rfl
theorem iX7_init_5 : mn_ins 68 5 = some (7, true, .new 7, 3) := by decide +kernel
theorem eX7_init_5 (hs : (mn_new h 3).isSome = true) : Ev 68 5 (ls) (st) h r ↔ Evn 68 8 ls st (mn_new h 3) r := ev_new iX7_init_5 (by decide +kernel) hs
theorem iX7_init_8 : mn_ins 68 8 = some (7, true, .dup, 1) := by decide +kernel
theorem eX7_init_8 : Ev 68 8 (ls) (.ref a :: st) h r ↔ Ev 68 9 (ls) (.ref a :: .ref a :: st) h r := ev_dup iX7_init_8 rfl
theorem iX7_init_9 : mn_ins 68 9 = some (7, true, .invokespecial 9, 3) := by decide +kernel
theorem eX7_init_9 : Ev 68 9 (ls) (.ref b :: st) h r ↔ Evr false (decide (mn_cats st ≤ 8)) 68 9 ls st h.2.2.1 h.2.2.2 (Cl 22 (.ref b :: []) h.1 h.2.1) r := Ev_N (As := []) (q := 2) iX7_init_9 (by decide +kernel) (by decide) (x := mnI_X7_init) (x2 := mnI_X3_init) rfl rfl rfl (by decide +kernel) (Nat.le_of_ble_eq_true rfl) rfl
theorem iX7_init_12 : mn_ins 68 12 = some (7, true, .putfield 10, 3) := by decide +kernel
theorem eX7_init_12 : Ev 68 12 (ls) (w :: .ref a :: st) h r ↔ Evh 68 15 ls st (mn_pf h a 7 0 w) r := ev_putf iX7_init_12 (by decide +kernel) (by decide +kernel)
theorem iX7_init_15 : mn_ins 68 15 = some (7, true, .aload_n 0, 1) := by decide +kernel
theorem eX7_init_15 : Ev 68 15 (some (.ref a) :: ls) (st) h r ↔ Ev 68 16 (some (.ref a) :: ls) (.ref a :: st) h r := ev_aload_n iX7_init_15 rfl rfl
theorem iX7_init_16 : mn_ins 68 16 = some (7, true, .new 16, 3) := by decide +kernel
theorem eX7_init_16 (hs : (mn_new h 6).isSome = true) : Ev 68 16 (ls) (st) h r ↔ Evn 68 19 ls st (mn_new h 6) r := ev_new iX7_init_16 (by decide +kernel) hs
theorem iX7_init_19 : mn_ins 68 19 = some (7, true, .dup, 1) := by decide +kernel
theorem eX7_init_19 : Ev 68 19 (ls) (.ref a :: st) h r ↔ Ev 68 20 (ls) (.ref a :: .ref a :: st) h r := ev_dup iX7_init_19 rfl
theorem iX7_init_20 : mn_ins 68 20 = some (7, true, .aload_n 0, 1) := by decide +kernel
theorem eX7_init_20 : Ev 68 20 (some (.ref a) :: ls) (st) h r ↔ Ev 68 21 (some (.ref a) :: ls) (.ref a :: st) h r := ev_aload_n iX7_init_20 rfl rfl
theorem iX7_init_21 : mn_ins 68 21 = some (7, true, .getfield 10, 3) := by decide +kernel
theorem eX7_init_21 : Ev 68 21 (ls) (.ref a :: st) h r ↔ Evk 68 24 ls (mn_gf h a 7 0) st h r := ev_getf iX7_init_21 (by decide +kernel)
theorem iX7_init_24 : mn_ins 68 24 = some (7, true, .invokespecial 18, 3) := by decide +kernel
theorem EgX7_init_24 (hw3 : (mn_r w3).isSome = true) : Ev 68 24 (ls) (w3 :: .ref b :: st) h r ↔ Evr false (decide (mn_cats st ≤ 8)) 68 24 ls st h.2.2.1 h.2.2.2 (Cl 45 (.ref b :: [w3]) h.1 h.2.1) r := Ev_N (As := [w3]) (q := 2) iX7_init_24 (by decide +kernel) (by decide) (x := mnI_X7_init) (x2 := mnI_X6_init) rfl rfl rfl (by decide +kernel) (by rcases mn_r_is hw3 with ⟨_, rfl⟩ | rfl <;> exact Nat.le_of_ble_eq_true rfl) rfl
theorem eX7_init_24 {cw3 : Nat} : Ev 68 24 (ls) ((.ref cw3) :: .ref b :: st) h r ↔ Evr false (decide (mn_cats st ≤ 8)) 68 24 ls st h.2.2.1 h.2.2.2 (Cl 45 (.ref b :: [(.ref cw3)]) h.1 h.2.1) r := EgX7_init_24 rfl
theorem iX7_init_27 : mn_ins 68 27 = some (7, true, .putfield 21, 3) := by decide +kernel
theorem eX7_init_27 : Ev 68 27 (ls) (w :: .ref a :: st) h r ↔ Evh 68 30 ls st (mn_pf h a 7 1 w) r := ev_putf iX7_init_27 (by decide +kernel) (by decide +kernel)
theorem iX7_init_30 : mn_ins 68 30 = some (7, true, .return_, 1) := by decide +kernel
theorem eX7_init_30 : Ev 68 30 (ls) [] h r ↔ r = (h, .inl none) := ev_vret iX7_init_30 (X := mnI_X7_init) rfl rfl
theorem iX7_block_0 : mn_ins 69 0 = some (7, false, .aload_n 0, 1) := by decide +kernel
theorem eX7_block_0 : Ev 69 0 (some (.ref a) :: ls) (st) h r ↔ Ev 69 1 (some (.ref a) :: ls) (.ref a :: st) h r := ev_aload_n iX7_block_0 rfl rfl
theorem iX7_block_1 : mn_ins 69 1 = some (7, false, .getfield 21, 3) := by decide +kernel
theorem eX7_block_1 : Ev 69 1 (ls) (.ref a :: st) h r ↔ Evk 69 4 ls (mn_gf h a 7 1) st h r := ev_getf iX7_block_1 (by decide +kernel)
theorem iX7_block_4 : mn_ins 69 4 = some (7, false, .invokevirtual 25, 3) := by decide +kernel
theorem eX7_block_4 : Ev 69 4 (ls) (.ref b :: st) h r ↔ Evr true (decide (mn_cats st ≤ 8) && mn_isc h b 6) 69 4 ls st h.2.2.1 h.2.2.2 (Cl 46 (.ref b :: []) h.1 h.2.1) r := Ev_V (As := []) iX7_block_4 (by decide +kernel) (x := mnI_X7_block) (x2 := mnI_X6_hasBegun) rfl rfl rfl (by decide +kernel) (Nat.le_of_ble_eq_true rfl) rfl
theorem iX7_block_7 : mn_ins 69 7 = some (7, false, .ifCond .ne 13, 3) := by decide +kernel
theorem eX7_block_7 : Ev 69 7 (ls) (.int x :: st) h r ↔ if x = nI 0 then Ev 69 10 (ls) (st) h r else Ev 69 20 (ls) (st) h r := ev_ifne iX7_block_7 (by decide)
theorem iX7_block_10 : mn_ins 69 10 = some (7, false, .aload_n 0, 1) := by decide +kernel
theorem eX7_block_10 : Ev 69 10 (some (.ref a) :: ls) (st) h r ↔ Ev 69 11 (some (.ref a) :: ls) (.ref a :: st) h r := ev_aload_n iX7_block_10 rfl rfl
theorem iX7_block_11 : mn_ins 69 11 = some (7, false, .getfield 10, 3) := by decide +kernel
theorem eX7_block_11 : Ev 69 11 (ls) (.ref a :: st) h r ↔ Evk 69 14 ls (mn_gf h a 7 0) st h r := ev_getf iX7_block_11 (by decide +kernel)
theorem iX7_block_14 : mn_ins 69 14 = some (7, false, .invokevirtual 29, 3) := by decide +kernel
theorem eX7_block_14 : Ev 69 14 (ls) (.ref b :: st) h r ↔ Evr true (decide (mn_cats st ≤ 8) && mn_isc h b 3) 69 14 ls st h.2.2.1 h.2.2.2 (Cl 23 (.ref b :: []) h.1 h.2.1) r := Ev_V (As := []) iX7_block_14 (by decide +kernel) (x := mnI_X7_block) (x2 := mnI_X3_canBeginBlock) rfl rfl rfl (by decide +kernel) (Nat.le_of_ble_eq_true rfl) rfl
theorem iX7_block_17 : mn_ins 69 17 = some (7, false, .ifCond .ne 13, 3) := by decide +kernel
theorem eX7_block_17 : Ev 69 17 (ls) (.int x :: st) h r ↔ if x = nI 0 then Ev 69 20 (ls) (st) h r else Ev 69 30 (ls) (st) h r := ev_ifne iX7_block_17 (by decide)
theorem iX7_block_20 : mn_ins 69 20 = some (7, false, .new 32, 3) := by decide +kernel
theorem eX7_block_20 : Ev 69 20 (ls) [] h r ↔ r = ((h.1, none, h.2.2.1 + 1, h.2.2.2 + 6), .inr 0) := Ev_E iX7_block_20 rfl (x := mnI_X7_block) rfl rfl
theorem iX7_block_23 : mn_ins 69 23 = some (7, false, .dup, 1) := by decide +kernel
theorem eX7_block_23 : Ev 69 23 (ls) (.ref a :: st) h r ↔ Ev 69 24 (ls) (.ref a :: .ref a :: st) h r := ev_dup iX7_block_23 rfl
theorem iX7_block_30 : mn_ins 69 30 = some (7, false, .aload_n 0, 1) := by decide +kernel
theorem eX7_block_30 : Ev 69 30 (some (.ref a) :: ls) (st) h r ↔ Ev 69 31 (some (.ref a) :: ls) (.ref a :: st) h r := ev_aload_n iX7_block_30 rfl rfl
theorem iX7_block_31 : mn_ins 69 31 = some (7, false, .getfield 10, 3) := by decide +kernel
theorem eX7_block_31 : Ev 69 31 (ls) (.ref a :: st) h r ↔ Evk 69 34 ls (mn_gf h a 7 0) st h r := ev_getf iX7_block_31 (by decide +kernel)
theorem iX7_block_34 : mn_ins 69 34 = some (7, false, .invokevirtual 39, 3) := by decide +kernel
theorem eX7_block_34 : Ev 69 34 (ls) (.ref b :: st) h r ↔ Evr true (decide (mn_cats st ≤ 8) && mn_isc h b 3) 69 34 ls st h.2.2.1 h.2.2.2 (Cl 24 (.ref b :: []) h.1 h.2.1) r := Ev_V (As := []) iX7_block_34 (by decide +kernel) (x := mnI_X7_block) (x2 := mnI_X3_beginBlock) rfl rfl rfl (by decide +kernel) (Nat.le_of_ble_eq_true rfl) rfl
theorem iX7_block_37 : mn_ins 69 37 = some (7, false, .ireturn, 1) := by decide +kernel
theorem eX7_block_37 : Ev 69 37 (ls) [.int x] h r ↔ r = (h, .inl (some (.int x))) := ev_iret iX7_block_37 (X := mnI_X7_block) rfl rfl
theorem iX7_add_0 : mn_ins 70 0 = some (7, false, .iload_n 1, 1) := by decide +kernel
theorem eX7_add_0 : Ev 70 0 (a0 :: some (.int x) :: ls) (st) h r ↔ Ev 70 1 (a0 :: some (.int x) :: ls) (.int x :: st) h r := ev_iload_n iX7_add_0 rfl
theorem iX7_add_1 : mn_ins 70 1 = some (7, false, .getstatic 43, 3) := by decide +kernel
theorem eX7_add_1 : Ev 70 1 (ls) (st) h r ↔ Ev 70 4 (ls) (.ref 1 :: st) h r := ev_gets iX7_add_1 (k := 1) (nb := false) (by decide +kernel)
theorem iX7_add_4 : mn_ins 70 4 = some (7, false, .arraylength, 1) := by decide +kernel
theorem eX7_add_4 : Ev 70 4 (ls) (.ref a :: st) h r ↔ Evk 70 5 ls (mn_len h a) st h r := ev_alen iX7_add_4
theorem iX7_add_5 : mn_ins 70 5 = some (7, false, .invokestatic 47, 3) := by decide +kernel
theorem eX7_add_5 : Ev 70 5 (ls) (.int x1 :: .int x0 :: st) h r ↔ Evr false (decide (mn_cats st ≤ 8)) 70 5 ls st h.2.2.1 h.2.2.2 (Cl 83 [.int x0, .int x1] h.1 h.2.1) r := Ev_T (As := [.int x0, .int x1]) (q := 1) iX7_add_5 (by decide +kernel) (by decide) (x := mnI_X7_add) (x2 := mnI_X7_isWithin) rfl rfl rfl (by decide +kernel) (Nat.le_of_ble_eq_true rfl) rfl
theorem iX7_add_8 : mn_ins 70 8 = some (7, false, .ifCond .ne 13, 3) := by decide +kernel
theorem eX7_add_8 : Ev 70 8 (ls) (.int x :: st) h r ↔ if x = nI 0 then Ev 70 11 (ls) (st) h r else Ev 70 21 (ls) (st) h r := ev_ifne iX7_add_8 (by decide)
theorem iX7_add_11 : mn_ins 70 11 = some (7, false, .new 51, 3) := by decide +kernel
theorem eX7_add_11 : Ev 70 11 (ls) [] h r ↔ r = ((h.1, none, h.2.2.1 + 1, h.2.2.2 + 6), .inr 1) := Ev_E iX7_add_11 rfl (x := mnI_X7_add) rfl rfl
theorem iX7_add_14 : mn_ins 70 14 = some (7, false, .dup, 1) := by decide +kernel
theorem eX7_add_14 : Ev 70 14 (ls) (.ref a :: st) h r ↔ Ev 70 15 (ls) (.ref a :: .ref a :: st) h r := ev_dup iX7_add_14 rfl
theorem iX7_add_21 : mn_ins 70 21 = some (7, false, .aload_n 0, 1) := by decide +kernel
theorem eX7_add_21 : Ev 70 21 (some (.ref a) :: ls) (st) h r ↔ Ev 70 22 (some (.ref a) :: ls) (.ref a :: st) h r := ev_aload_n iX7_add_21 rfl rfl
theorem iX7_add_22 : mn_ins 70 22 = some (7, false, .getfield 21, 3) := by decide +kernel
theorem eX7_add_22 : Ev 70 22 (ls) (.ref a :: st) h r ↔ Evk 70 25 ls (mn_gf h a 7 1) st h r := ev_getf iX7_add_22 (by decide +kernel)
theorem iX7_add_25 : mn_ins 70 25 = some (7, false, .invokevirtual 25, 3) := by decide +kernel
theorem eX7_add_25 : Ev 70 25 (ls) (.ref b :: st) h r ↔ Evr true (decide (mn_cats st ≤ 8) && mn_isc h b 6) 70 25 ls st h.2.2.1 h.2.2.2 (Cl 46 (.ref b :: []) h.1 h.2.1) r := Ev_V (As := []) iX7_add_25 (by decide +kernel) (x := mnI_X7_add) (x2 := mnI_X6_hasBegun) rfl rfl rfl (by decide +kernel) (Nat.le_of_ble_eq_true rfl) rfl
theorem iX7_add_28 : mn_ins 70 28 = some (7, false, .ifCond .ne 13, 3) := by decide +kernel
theorem eX7_add_28 : Ev 70 28 (ls) (.int x :: st) h r ↔ if x = nI 0 then Ev 70 31 (ls) (st) h r else Ev 70 41 (ls) (st) h r := ev_ifne iX7_add_28 (by decide)
theorem iX7_add_31 : mn_ins 70 31 = some (7, false, .aload_n 0, 1) := by decide +kernel
theorem eX7_add_31 : Ev 70 31 (some (.ref a) :: ls) (st) h r ↔ Ev 70 32 (some (.ref a) :: ls) (.ref a :: st) h r := ev_aload_n iX7_add_31 rfl rfl
theorem iX7_add_32 : mn_ins 70 32 = some (7, false, .getfield 10, 3) := by decide +kernel
theorem eX7_add_32 : Ev 70 32 (ls) (.ref a :: st) h r ↔ Evk 70 35 ls (mn_gf h a 7 0) st h r := ev_getf iX7_add_32 (by decide +kernel)
theorem iX7_add_35 : mn_ins 70 35 = some (7, false, .invokevirtual 56, 3) := by decide +kernel
theorem eX7_add_35 : Ev 70 35 (ls) (.ref b :: st) h r ↔ Evr true (decide (mn_cats st ≤ 8) && mn_isc h b 3) 70 35 ls st h.2.2.1 h.2.2.2 (Cl 28 (.ref b :: []) h.1 h.2.1) r := Ev_V (As := []) iX7_add_35 (by decide +kernel) (x := mnI_X7_add) (x2 := mnI_X3_hasRoom) rfl rfl rfl (by decide +kernel) (Nat.le_of_ble_eq_true rfl) rfl
theorem iX7_add_38 : mn_ins 70 38 = some (7, false, .ifCond .ne 13, 3) := by decide +kernel
theorem eX7_add_38 : Ev 70 38 (ls) (.int x :: st) h r ↔ if x = nI 0 then Ev 70 41 (ls) (st) h r else Ev 70 51 (ls) (st) h r := ev_ifne iX7_add_38 (by decide)
theorem iX7_add_41 : mn_ins 70 41 = some (7, false, .new 32, 3) := by decide +kernel
theorem eX7_add_41 : Ev 70 41 (ls) [] h r ↔ r = ((h.1, none, h.2.2.1 + 1, h.2.2.2 + 6), .inr 0) := Ev_E iX7_add_41 rfl (x := mnI_X7_add) rfl rfl
theorem iX7_add_44 : mn_ins 70 44 = some (7, false, .dup, 1) := by decide +kernel
theorem eX7_add_44 : Ev 70 44 (ls) (.ref a :: st) h r ↔ Ev 70 45 (ls) (.ref a :: .ref a :: st) h r := ev_dup iX7_add_44 rfl
theorem iX7_add_51 : mn_ins 70 51 = some (7, false, .aload_n 0, 1) := by decide +kernel
theorem eX7_add_51 : Ev 70 51 (some (.ref a) :: ls) (st) h r ↔ Ev 70 52 (some (.ref a) :: ls) (.ref a :: st) h r := ev_aload_n iX7_add_51 rfl rfl
theorem iX7_add_52 : mn_ins 70 52 = some (7, false, .getfield 10, 3) := by decide +kernel
theorem eX7_add_52 : Ev 70 52 (ls) (.ref a :: st) h r ↔ Evk 70 55 ls (mn_gf h a 7 0) st h r := ev_getf iX7_add_52 (by decide +kernel)
theorem iX7_add_55 : mn_ins 70 55 = some (7, false, .getfield 61, 3) := by decide +kernel
theorem eX7_add_55 : Ev 70 55 (ls) (.ref a :: st) h r ↔ Evk 70 58 ls (mn_gf h a 3 7) st h r := ev_getf iX7_add_55 (by decide +kernel)
theorem iX7_add_58 : mn_ins 70 58 = some (7, false, .iload_n 1, 1) := by decide +kernel
theorem eX7_add_58 : Ev 70 58 (a0 :: some (.int x) :: ls) (st) h r ↔ Ev 70 59 (a0 :: some (.int x) :: ls) (.int x :: st) h r := ev_iload_n iX7_add_58 rfl
theorem iX7_add_59 : mn_ins 70 59 = some (7, false, .iload_n 2, 1) := by decide +kernel
theorem eX7_add_59 : Ev 70 59 (a0 :: a1 :: some (.int x) :: ls) (st) h r ↔ Ev 70 60 (a0 :: a1 :: some (.int x) :: ls) (.int x :: st) h r := ev_iload_n iX7_add_59 rfl
theorem iX7_add_60 : mn_ins 70 60 = some (7, false, .invokevirtual 65, 3) := by decide +kernel
theorem eX7_add_60 : Ev 70 60 (ls) (.int x1 :: .int x0 :: .ref b :: st) h r ↔ Evr true (decide (mn_cats st ≤ 8) && mn_isc h b 1) 70 60 ls st h.2.2.1 h.2.2.2 (Cl 8 (.ref b :: [.int x0, .int x1]) h.1 h.2.1) r := Ev_V (As := [.int x0, .int x1]) iX7_add_60 (by decide +kernel) (x := mnI_X7_add) (x2 := mnI_X1_append) rfl rfl rfl (by decide +kernel) (Nat.le_of_ble_eq_true rfl) rfl
theorem iX7_add_63 : mn_ins 70 63 = some (7, false, .ireturn, 1) := by decide +kernel
theorem eX7_add_63 : Ev 70 63 (ls) [.int x] h r ↔ r = (h, .inl (some (.int x))) := ev_iret iX7_add_63 (X := mnI_X7_add) rfl rfl
theorem iX7_merge_0 : mn_ins 71 0 = some (7, false, .aload_n 0, 1) := by decide +kernel
theorem eX7_merge_0 : Ev 71 0 (some (.ref a) :: ls) (st) h r ↔ Ev 71 1 (some (.ref a) :: ls) (.ref a :: st) h r := ev_aload_n iX7_merge_0 rfl rfl
theorem iX7_merge_1 : mn_ins 71 1 = some (7, false, .getfield 21, 3) := by decide +kernel
theorem eX7_merge_1 : Ev 71 1 (ls) (.ref a :: st) h r ↔ Evk 71 4 ls (mn_gf h a 7 1) st h r := ev_getf iX7_merge_1 (by decide +kernel)
theorem iX7_merge_4 : mn_ins 71 4 = some (7, false, .invokevirtual 25, 3) := by decide +kernel
theorem eX7_merge_4 : Ev 71 4 (ls) (.ref b :: st) h r ↔ Evr true (decide (mn_cats st ≤ 8) && mn_isc h b 6) 71 4 ls st h.2.2.1 h.2.2.2 (Cl 46 (.ref b :: []) h.1 h.2.1) r := Ev_V (As := []) iX7_merge_4 (by decide +kernel) (x := mnI_X7_merge) (x2 := mnI_X6_hasBegun) rfl rfl rfl (by decide +kernel) (Nat.le_of_ble_eq_true rfl) rfl
theorem iX7_merge_7 : mn_ins 71 7 = some (7, false, .ifCond .ne 13, 3) := by decide +kernel
theorem eX7_merge_7 : Ev 71 7 (ls) (.int x :: st) h r ↔ if x = nI 0 then Ev 71 10 (ls) (st) h r else Ev 71 20 (ls) (st) h r := ev_ifne iX7_merge_7 (by decide)
theorem iX7_merge_10 : mn_ins 71 10 = some (7, false, .aload_n 0, 1) := by decide +kernel
theorem eX7_merge_10 : Ev 71 10 (some (.ref a) :: ls) (st) h r ↔ Ev 71 11 (some (.ref a) :: ls) (.ref a :: st) h r := ev_aload_n iX7_merge_10 rfl rfl
theorem iX7_merge_11 : mn_ins 71 11 = some (7, false, .getfield 10, 3) := by decide +kernel
theorem eX7_merge_11 : Ev 71 11 (ls) (.ref a :: st) h r ↔ Evk 71 14 ls (mn_gf h a 7 0) st h r := ev_getf iX7_merge_11 (by decide +kernel)
theorem iX7_merge_14 : mn_ins 71 14 = some (7, false, .invokevirtual 71, 3) := by decide +kernel
theorem eX7_merge_14 : Ev 71 14 (ls) (.ref b :: st) h r ↔ Evr true (decide (mn_cats st ≤ 8) && mn_isc h b 3) 71 14 ls st h.2.2.1 h.2.2.2 (Cl 25 (.ref b :: []) h.1 h.2.1) r := Ev_V (As := []) iX7_merge_14 (by decide +kernel) (x := mnI_X7_merge) (x2 := mnI_X3_canBeginMerge) rfl rfl rfl (by decide +kernel) (Nat.le_of_ble_eq_true rfl) rfl
theorem iX7_merge_17 : mn_ins 71 17 = some (7, false, .ifCond .ne 13, 3) := by decide +kernel
theorem eX7_merge_17 : Ev 71 17 (ls) (.int x :: st) h r ↔ if x = nI 0 then Ev 71 20 (ls) (st) h r else Ev 71 30 (ls) (st) h r := ev_ifne iX7_merge_17 (by decide)
theorem iX7_merge_20 : mn_ins 71 20 = some (7, false, .new 32, 3) := by decide +kernel
theorem eX7_merge_20 : Ev 71 20 (ls) [] h r ↔ r = ((h.1, none, h.2.2.1 + 1, h.2.2.2 + 6), .inr 0) := Ev_E iX7_merge_20 rfl (x := mnI_X7_merge) rfl rfl
theorem iX7_merge_23 : mn_ins 71 23 = some (7, false, .dup, 1) := by decide +kernel
theorem eX7_merge_23 : Ev 71 23 (ls) (.ref a :: st) h r ↔ Ev 71 24 (ls) (.ref a :: .ref a :: st) h r := ev_dup iX7_merge_23 rfl
theorem iX7_merge_30 : mn_ins 71 30 = some (7, false, .aload_n 0, 1) := by decide +kernel
theorem eX7_merge_30 : Ev 71 30 (some (.ref a) :: ls) (st) h r ↔ Ev 71 31 (some (.ref a) :: ls) (.ref a :: st) h r := ev_aload_n iX7_merge_30 rfl rfl
theorem iX7_merge_31 : mn_ins 71 31 = some (7, false, .getfield 10, 3) := by decide +kernel
theorem eX7_merge_31 : Ev 71 31 (ls) (.ref a :: st) h r ↔ Evk 71 34 ls (mn_gf h a 7 0) st h r := ev_getf iX7_merge_31 (by decide +kernel)
theorem iX7_merge_34 : mn_ins 71 34 = some (7, false, .invokevirtual 76, 3) := by decide +kernel
theorem eX7_merge_34 : Ev 71 34 (ls) (.ref b :: st) h r ↔ Evr true (decide (mn_cats st ≤ 8) && mn_isc h b 3) 71 34 ls st h.2.2.1 h.2.2.2 (Cl 26 (.ref b :: []) h.1 h.2.1) r := Ev_V (As := []) iX7_merge_34 (by decide +kernel) (x := mnI_X7_merge) (x2 := mnI_X3_beginMerge) rfl rfl rfl (by decide +kernel) (Nat.le_of_ble_eq_true rfl) rfl
theorem iX7_merge_37 : mn_ins 71 37 = some (7, false, .ireturn, 1) := by decide +kernel
theorem eX7_merge_37 : Ev 71 37 (ls) [.int x] h r ↔ r = (h, .inl (some (.int x))) := ev_iret iX7_merge_37 (X := mnI_X7_merge) rfl rfl
theorem iX7_cell_0 : mn_ins 72 0 = some (7, false, .iload_n 1, 1) := by decide +kernel
theorem eX7_cell_0 : Ev 72 0 (a0 :: some (.int x) :: ls) (st) h r ↔ Ev 72 1 (a0 :: some (.int x) :: ls) (.int x :: st) h r := ev_iload_n iX7_cell_0 rfl
theorem iX7_cell_1 : mn_ins 72 1 = some (7, false, .bipush 12, 2) := by decide +kernel
theorem eX7_cell_1 : Ev 72 1 (ls) (st) h r ↔ Ev 72 3 (ls) (.int (nI 12) :: st) h r := ev_bipush iX7_cell_1 (by decide)
theorem iX7_cell_3 : mn_ins 72 3 = some (7, false, .invokestatic 47, 3) := by decide +kernel
theorem eX7_cell_3 : Ev 72 3 (ls) (.int x1 :: .int x0 :: st) h r ↔ Evr false (decide (mn_cats st ≤ 8)) 72 3 ls st h.2.2.1 h.2.2.2 (Cl 83 [.int x0, .int x1] h.1 h.2.1) r := Ev_T (As := [.int x0, .int x1]) (q := 1) iX7_cell_3 (by decide +kernel) (by decide) (x := mnI_X7_cell) (x2 := mnI_X7_isWithin) rfl rfl rfl (by decide +kernel) (Nat.le_of_ble_eq_true rfl) rfl
theorem iX7_cell_6 : mn_ins 72 6 = some (7, false, .ifCond .eq 19, 3) := by decide +kernel
theorem eX7_cell_6 : Ev 72 6 (ls) (.int x :: st) h r ↔ if x = nI 0 then Ev 72 25 (ls) (st) h r else Ev 72 9 (ls) (st) h r := ev_ifeq iX7_cell_6 (by decide)
theorem iX7_cell_9 : mn_ins 72 9 = some (7, false, .iload_n 2, 1) := by decide +kernel
theorem eX7_cell_9 : Ev 72 9 (a0 :: a1 :: some (.int x) :: ls) (st) h r ↔ Ev 72 10 (a0 :: a1 :: some (.int x) :: ls) (.int x :: st) h r := ev_iload_n iX7_cell_9 rfl
theorem iX7_cell_10 : mn_ins 72 10 = some (7, false, .iconst 4, 1) := by decide +kernel
theorem eX7_cell_10 : Ev 72 10 (ls) (st) h r ↔ Ev 72 11 (ls) (.int (nI 4) :: st) h r := ev_iconst iX7_cell_10 (by decide)
theorem iX7_cell_11 : mn_ins 72 11 = some (7, false, .invokestatic 47, 3) := by decide +kernel
theorem eX7_cell_11 : Ev 72 11 (ls) (.int x1 :: .int x0 :: st) h r ↔ Evr false (decide (mn_cats st ≤ 8)) 72 11 ls st h.2.2.1 h.2.2.2 (Cl 83 [.int x0, .int x1] h.1 h.2.1) r := Ev_T (As := [.int x0, .int x1]) (q := 1) iX7_cell_11 (by decide +kernel) (by decide) (x := mnI_X7_cell) (x2 := mnI_X7_isWithin) rfl rfl rfl (by decide +kernel) (Nat.le_of_ble_eq_true rfl) rfl
theorem iX7_cell_14 : mn_ins 72 14 = some (7, false, .ifCond .eq 11, 3) := by decide +kernel
theorem eX7_cell_14 : Ev 72 14 (ls) (.int x :: st) h r ↔ if x = nI 0 then Ev 72 25 (ls) (st) h r else Ev 72 17 (ls) (st) h r := ev_ifeq iX7_cell_14 (by decide)
theorem iX7_cell_17 : mn_ins 72 17 = some (7, false, .iload_n 3, 1) := by decide +kernel
theorem eX7_cell_17 : Ev 72 17 (a0 :: a1 :: a2 :: some (.int x) :: ls) (st) h r ↔ Ev 72 18 (a0 :: a1 :: a2 :: some (.int x) :: ls) (.int x :: st) h r := ev_iload_n iX7_cell_17 rfl
theorem iX7_cell_18 : mn_ins 72 18 = some (7, false, .iconst 2, 1) := by decide +kernel
theorem eX7_cell_18 : Ev 72 18 (ls) (st) h r ↔ Ev 72 19 (ls) (.int (nI 2) :: st) h r := ev_iconst iX7_cell_18 (by decide)
theorem iX7_cell_19 : mn_ins 72 19 = some (7, false, .invokestatic 47, 3) := by decide +kernel
theorem eX7_cell_19 : Ev 72 19 (ls) (.int x1 :: .int x0 :: st) h r ↔ Evr false (decide (mn_cats st ≤ 8)) 72 19 ls st h.2.2.1 h.2.2.2 (Cl 83 [.int x0, .int x1] h.1 h.2.1) r := Ev_T (As := [.int x0, .int x1]) (q := 1) iX7_cell_19 (by decide +kernel) (by decide) (x := mnI_X7_cell) (x2 := mnI_X7_isWithin) rfl rfl rfl (by decide +kernel) (Nat.le_of_ble_eq_true rfl) rfl
theorem iX7_cell_22 : mn_ins 72 22 = some (7, false, .ifCond .ne 13, 3) := by decide +kernel
theorem eX7_cell_22 : Ev 72 22 (ls) (.int x :: st) h r ↔ if x = nI 0 then Ev 72 25 (ls) (st) h r else Ev 72 35 (ls) (st) h r := ev_ifne iX7_cell_22 (by decide)
theorem iX7_cell_25 : mn_ins 72 25 = some (7, false, .new 51, 3) := by decide +kernel
theorem eX7_cell_25 : Ev 72 25 (ls) [] h r ↔ r = ((h.1, none, h.2.2.1 + 1, h.2.2.2 + 6), .inr 1) := Ev_E iX7_cell_25 rfl (x := mnI_X7_cell) rfl rfl
theorem iX7_cell_28 : mn_ins 72 28 = some (7, false, .dup, 1) := by decide +kernel
theorem eX7_cell_28 : Ev 72 28 (ls) (.ref a :: st) h r ↔ Ev 72 29 (ls) (.ref a :: .ref a :: st) h r := ev_dup iX7_cell_28 rfl
theorem iX7_cell_35 : mn_ins 72 35 = some (7, false, .aload_n 0, 1) := by decide +kernel
theorem eX7_cell_35 : Ev 72 35 (some (.ref a) :: ls) (st) h r ↔ Ev 72 36 (some (.ref a) :: ls) (.ref a :: st) h r := ev_aload_n iX7_cell_35 rfl rfl
theorem iX7_cell_36 : mn_ins 72 36 = some (7, false, .getfield 21, 3) := by decide +kernel
theorem eX7_cell_36 : Ev 72 36 (ls) (.ref a :: st) h r ↔ Evk 72 39 ls (mn_gf h a 7 1) st h r := ev_getf iX7_cell_36 (by decide +kernel)
theorem iX7_cell_39 : mn_ins 72 39 = some (7, false, .invokevirtual 25, 3) := by decide +kernel
theorem eX7_cell_39 : Ev 72 39 (ls) (.ref b :: st) h r ↔ Evr true (decide (mn_cats st ≤ 8) && mn_isc h b 6) 72 39 ls st h.2.2.1 h.2.2.2 (Cl 46 (.ref b :: []) h.1 h.2.1) r := Ev_V (As := []) iX7_cell_39 (by decide +kernel) (x := mnI_X7_cell) (x2 := mnI_X6_hasBegun) rfl rfl rfl (by decide +kernel) (Nat.le_of_ble_eq_true rfl) rfl
theorem iX7_cell_42 : mn_ins 72 42 = some (7, false, .ifCond .eq 13, 3) := by decide +kernel
theorem eX7_cell_42 : Ev 72 42 (ls) (.int x :: st) h r ↔ if x = nI 0 then Ev 72 55 (ls) (st) h r else Ev 72 45 (ls) (st) h r := ev_ifeq iX7_cell_42 (by decide)
theorem iX7_cell_45 : mn_ins 72 45 = some (7, false, .new 32, 3) := by decide +kernel
theorem eX7_cell_45 : Ev 72 45 (ls) [] h r ↔ r = ((h.1, none, h.2.2.1 + 1, h.2.2.2 + 6), .inr 0) := Ev_E iX7_cell_45 rfl (x := mnI_X7_cell) rfl rfl
theorem iX7_cell_48 : mn_ins 72 48 = some (7, false, .dup, 1) := by decide +kernel
theorem eX7_cell_48 : Ev 72 48 (ls) (.ref a :: st) h r ↔ Ev 72 49 (ls) (.ref a :: .ref a :: st) h r := ev_dup iX7_cell_48 rfl
theorem iX7_cell_55 : mn_ins 72 55 = some (7, false, .aload_n 0, 1) := by decide +kernel
theorem eX7_cell_55 : Ev 72 55 (some (.ref a) :: ls) (st) h r ↔ Ev 72 56 (some (.ref a) :: ls) (.ref a :: st) h r := ev_aload_n iX7_cell_55 rfl rfl
theorem iX7_cell_56 : mn_ins 72 56 = some (7, false, .getfield 10, 3) := by decide +kernel
theorem eX7_cell_56 : Ev 72 56 (ls) (.ref a :: st) h r ↔ Evk 72 59 ls (mn_gf h a 7 0) st h r := ev_getf iX7_cell_56 (by decide +kernel)
theorem iX7_cell_59 : mn_ins 72 59 = some (7, false, .getfield 83, 3) := by decide +kernel
theorem eX7_cell_59 : Ev 72 59 (ls) (.ref a :: st) h r ↔ Evk 72 62 ls (mn_gf h a 3 2) st h r := ev_getf iX7_cell_59 (by decide +kernel)
theorem iX7_cell_62 : mn_ins 72 62 = some (7, false, .iload_n 1, 1) := by decide +kernel
theorem eX7_cell_62 : Ev 72 62 (a0 :: some (.int x) :: ls) (st) h r ↔ Ev 72 63 (a0 :: some (.int x) :: ls) (.int x :: st) h r := ev_iload_n iX7_cell_62 rfl
theorem iX7_cell_63 : mn_ins 72 63 = some (7, false, .iload_n 2, 1) := by decide +kernel
theorem eX7_cell_63 : Ev 72 63 (a0 :: a1 :: some (.int x) :: ls) (st) h r ↔ Ev 72 64 (a0 :: a1 :: some (.int x) :: ls) (.int x :: st) h r := ev_iload_n iX7_cell_63 rfl
theorem iX7_cell_64 : mn_ins 72 64 = some (7, false, .iastore, 1) := by decide +kernel
theorem eX7_cell_64 : Ev 72 64 (ls) (.int y :: .int x :: .ref a :: st) h r ↔ Evh 72 65 ls st (mn_asi h a x y) r := ev_iast iX7_cell_64
theorem iX7_cell_65 : mn_ins 72 65 = some (7, false, .aload_n 0, 1) := by decide +kernel
theorem eX7_cell_65 : Ev 72 65 (some (.ref a) :: ls) (st) h r ↔ Ev 72 66 (some (.ref a) :: ls) (.ref a :: st) h r := ev_aload_n iX7_cell_65 rfl rfl
theorem iX7_cell_66 : mn_ins 72 66 = some (7, false, .getfield 10, 3) := by decide +kernel
theorem eX7_cell_66 : Ev 72 66 (ls) (.ref a :: st) h r ↔ Evk 72 69 ls (mn_gf h a 7 0) st h r := ev_getf iX7_cell_66 (by decide +kernel)
theorem iX7_cell_69 : mn_ins 72 69 = some (7, false, .getfield 86, 3) := by decide +kernel
theorem eX7_cell_69 : Ev 72 69 (ls) (.ref a :: st) h r ↔ Evk 72 72 ls (mn_gf h a 3 3) st h r := ev_getf iX7_cell_69 (by decide +kernel)
theorem iX7_cell_72 : mn_ins 72 72 = some (7, false, .iload_n 1, 1) := by decide +kernel
theorem eX7_cell_72 : Ev 72 72 (a0 :: some (.int x) :: ls) (st) h r ↔ Ev 72 73 (a0 :: some (.int x) :: ls) (.int x :: st) h r := ev_iload_n iX7_cell_72 rfl
theorem iX7_cell_73 : mn_ins 72 73 = some (7, false, .iload_n 3, 1) := by decide +kernel
theorem eX7_cell_73 : Ev 72 73 (a0 :: a1 :: a2 :: some (.int x) :: ls) (st) h r ↔ Ev 72 74 (a0 :: a1 :: a2 :: some (.int x) :: ls) (.int x :: st) h r := ev_iload_n iX7_cell_73 rfl
theorem iX7_cell_74 : mn_ins 72 74 = some (7, false, .iastore, 1) := by decide +kernel
theorem eX7_cell_74 : Ev 72 74 (ls) (.int y :: .int x :: .ref a :: st) h r ↔ Evh 72 75 ls st (mn_asi h a x y) r := ev_iast iX7_cell_74
theorem iX7_cell_75 : mn_ins 72 75 = some (7, false, .return_, 1) := by decide +kernel
theorem eX7_cell_75 : Ev 72 75 (ls) [] h r ↔ r = (h, .inl none) := ev_vret iX7_cell_75 (X := mnI_X7_cell) rfl rfl
theorem iX7_start_0 : mn_ins 73 0 = some (7, false, .aload_n 0, 1) := by decide +kernel
theorem eX7_start_0 : Ev 73 0 (some (.ref a) :: ls) (st) h r ↔ Ev 73 1 (some (.ref a) :: ls) (.ref a :: st) h r := ev_aload_n iX7_start_0 rfl rfl
theorem iX7_start_1 : mn_ins 73 1 = some (7, false, .getfield 10, 3) := by decide +kernel
theorem eX7_start_1 : Ev 73 1 (ls) (.ref a :: st) h r ↔ Evk 73 4 ls (mn_gf h a 7 0) st h r := ev_getf iX7_start_1 (by decide +kernel)
theorem iX7_start_4 : mn_ins 73 4 = some (7, false, .getfield 89, 3) := by decide +kernel
theorem eX7_start_4 : Ev 73 4 (ls) (.ref a :: st) h r ↔ Evk 73 7 ls (mn_gf h a 3 5) st h r := ev_getf iX7_start_4 (by decide +kernel)
theorem iX7_start_7 : mn_ins 73 7 = some (7, false, .ifCond .eq 23, 3) := by decide +kernel
theorem eX7_start_7 : Ev 73 7 (ls) (.int x :: st) h r ↔ if x = nI 0 then Ev 73 30 (ls) (st) h r else Ev 73 10 (ls) (st) h r := ev_ifeq iX7_start_7 (by decide)
theorem iX7_start_10 : mn_ins 73 10 = some (7, false, .aload_n 0, 1) := by decide +kernel
theorem eX7_start_10 : Ev 73 10 (some (.ref a) :: ls) (st) h r ↔ Ev 73 11 (some (.ref a) :: ls) (.ref a :: st) h r := ev_aload_n iX7_start_10 rfl rfl
theorem iX7_start_11 : mn_ins 73 11 = some (7, false, .getfield 10, 3) := by decide +kernel
theorem eX7_start_11 : Ev 73 11 (ls) (.ref a :: st) h r ↔ Evk 73 14 ls (mn_gf h a 7 0) st h r := ev_getf iX7_start_11 (by decide +kernel)
theorem iX7_start_14 : mn_ins 73 14 = some (7, false, .invokevirtual 93, 3) := by decide +kernel
theorem eX7_start_14 : Ev 73 14 (ls) (.ref b :: st) h r ↔ Evr true (decide (mn_cats st ≤ 8) && mn_isc h b 3) 73 14 ls st h.2.2.1 h.2.2.2 (Cl 30 (.ref b :: []) h.1 h.2.1) r := Ev_V (As := []) iX7_start_14 (by decide +kernel) (x := mnI_X7_start) (x2 := mnI_X3_lacksMerge) rfl rfl rfl (by decide +kernel) (Nat.le_of_ble_eq_true rfl) rfl
theorem iX7_start_17 : mn_ins 73 17 = some (7, false, .ifCond .ne 13, 3) := by decide +kernel
theorem eX7_start_17 : Ev 73 17 (ls) (.int x :: st) h r ↔ if x = nI 0 then Ev 73 20 (ls) (st) h r else Ev 73 30 (ls) (st) h r := ev_ifne iX7_start_17 (by decide)
theorem iX7_start_20 : mn_ins 73 20 = some (7, false, .aload_n 0, 1) := by decide +kernel
theorem eX7_start_20 : Ev 73 20 (some (.ref a) :: ls) (st) h r ↔ Ev 73 21 (some (.ref a) :: ls) (.ref a :: st) h r := ev_aload_n iX7_start_20 rfl rfl
theorem iX7_start_21 : mn_ins 73 21 = some (7, false, .getfield 10, 3) := by decide +kernel
theorem eX7_start_21 : Ev 73 21 (ls) (.ref a :: st) h r ↔ Evk 73 24 ls (mn_gf h a 7 0) st h r := ev_getf iX7_start_21 (by decide +kernel)
theorem iX7_start_24 : mn_ins 73 24 = some (7, false, .invokevirtual 96, 3) := by decide +kernel
theorem eX7_start_24 : Ev 73 24 (ls) (.ref b :: st) h r ↔ Evr true (decide (mn_cats st ≤ 8) && mn_isc h b 3) 73 24 ls st h.2.2.1 h.2.2.2 (Cl 31 (.ref b :: []) h.1 h.2.1) r := Ev_V (As := []) iX7_start_24 (by decide +kernel) (x := mnI_X7_start) (x2 := mnI_X3_firstFault) rfl rfl rfl (by decide +kernel) (Nat.le_of_ble_eq_true rfl) rfl
theorem iX7_start_27 : mn_ins 73 27 = some (7, false, .ifCond .lt 13, 3) := by decide +kernel
theorem eX7_start_27 : Ev 73 27 (ls) (.int x :: st) h r ↔ if x < nI 0 then Ev 73 40 (ls) (st) h r else Ev 73 30 (ls) (st) h r := ev_iflt iX7_start_27 (by decide)
theorem iX7_start_30 : mn_ins 73 30 = some (7, false, .new 51, 3) := by decide +kernel
theorem eX7_start_30 : Ev 73 30 (ls) [] h r ↔ r = ((h.1, none, h.2.2.1 + 1, h.2.2.2 + 6), .inr 1) := Ev_E iX7_start_30 rfl (x := mnI_X7_start) rfl rfl
theorem iX7_start_33 : mn_ins 73 33 = some (7, false, .dup, 1) := by decide +kernel
theorem eX7_start_33 : Ev 73 33 (ls) (.ref a :: st) h r ↔ Ev 73 34 (ls) (.ref a :: .ref a :: st) h r := ev_dup iX7_start_33 rfl
theorem iX7_start_40 : mn_ins 73 40 = some (7, false, .aload_n 0, 1) := by decide +kernel
theorem eX7_start_40 : Ev 73 40 (some (.ref a) :: ls) (st) h r ↔ Ev 73 41 (some (.ref a) :: ls) (.ref a :: st) h r := ev_aload_n iX7_start_40 rfl rfl
theorem iX7_start_41 : mn_ins 73 41 = some (7, false, .getfield 21, 3) := by decide +kernel
theorem eX7_start_41 : Ev 73 41 (ls) (.ref a :: st) h r ↔ Evk 73 44 ls (mn_gf h a 7 1) st h r := ev_getf iX7_start_41 (by decide +kernel)
theorem iX7_start_44 : mn_ins 73 44 = some (7, false, .invokevirtual 101, 3) := by decide +kernel
theorem eX7_start_44 : Ev 73 44 (ls) (.ref b :: st) h r ↔ Evr true (decide (mn_cats st ≤ 8) && mn_isc h b 6) 73 44 ls st h.2.2.1 h.2.2.2 (Cl 50 (.ref b :: []) h.1 h.2.1) r := Ev_V (As := []) iX7_start_44 (by decide +kernel) (x := mnI_X7_start) (x2 := mnI_X6_begin) rfl rfl rfl (by decide +kernel) (Nat.le_of_ble_eq_true rfl) rfl
theorem iX7_start_47 : mn_ins 73 47 = some (7, false, .return_, 1) := by decide +kernel
theorem eX7_start_47 : Ev 73 47 (ls) [] h r ↔ r = (h, .inl none) := ev_vret iX7_start_47 (X := mnI_X7_start) rfl rfl
theorem iX7_fault_0 : mn_ins 74 0 = some (7, false, .aload_n 0, 1) := by decide +kernel
theorem eX7_fault_0 : Ev 74 0 (some (.ref a) :: ls) (st) h r ↔ Ev 74 1 (some (.ref a) :: ls) (.ref a :: st) h r := ev_aload_n iX7_fault_0 rfl rfl
theorem iX7_fault_1 : mn_ins 74 1 = some (7, false, .getfield 10, 3) := by decide +kernel
theorem eX7_fault_1 : Ev 74 1 (ls) (.ref a :: st) h r ↔ Evk 74 4 ls (mn_gf h a 7 0) st h r := ev_getf iX7_fault_1 (by decide +kernel)
theorem iX7_fault_4 : mn_ins 74 4 = some (7, false, .invokevirtual 96, 3) := by decide +kernel
theorem eX7_fault_4 : Ev 74 4 (ls) (.ref b :: st) h r ↔ Evr true (decide (mn_cats st ≤ 8) && mn_isc h b 3) 74 4 ls st h.2.2.1 h.2.2.2 (Cl 31 (.ref b :: []) h.1 h.2.1) r := Ev_V (As := []) iX7_fault_4 (by decide +kernel) (x := mnI_X7_fault) (x2 := mnI_X3_firstFault) rfl rfl rfl (by decide +kernel) (Nat.le_of_ble_eq_true rfl) rfl
theorem iX7_fault_7 : mn_ins 74 7 = some (7, false, .ireturn, 1) := by decide +kernel
theorem eX7_fault_7 : Ev 74 7 (ls) [.int x] h r ↔ r = (h, .inl (some (.int x))) := ev_iret iX7_fault_7 (X := mnI_X7_fault) rfl rfl
theorem iX7_reset_0 : mn_ins 75 0 = some (7, false, .aload_n 0, 1) := by decide +kernel
theorem eX7_reset_0 : Ev 75 0 (some (.ref a) :: ls) (st) h r ↔ Ev 75 1 (some (.ref a) :: ls) (.ref a :: st) h r := ev_aload_n iX7_reset_0 rfl rfl
theorem iX7_reset_1 : mn_ins 75 1 = some (7, false, .getfield 21, 3) := by decide +kernel
theorem eX7_reset_1 : Ev 75 1 (ls) (.ref a :: st) h r ↔ Evk 75 4 ls (mn_gf h a 7 1) st h r := ev_getf iX7_reset_1 (by decide +kernel)
theorem iX7_reset_4 : mn_ins 75 4 = some (7, false, .invokevirtual 104, 3) := by decide +kernel
theorem eX7_reset_4 : Ev 75 4 (ls) (.ref b :: st) h r ↔ Evr true (decide (mn_cats st ≤ 8) && mn_isc h b 6) 75 4 ls st h.2.2.1 h.2.2.2 (Cl 49 (.ref b :: []) h.1 h.2.1) r := Ev_V (As := []) iX7_reset_4 (by decide +kernel) (x := mnI_X7_reset) (x2 := mnI_X6_forget) rfl rfl rfl (by decide +kernel) (Nat.le_of_ble_eq_true rfl) rfl
theorem iX7_reset_7 : mn_ins 75 7 = some (7, false, .return_, 1) := by decide +kernel
theorem eX7_reset_7 : Ev 75 7 (ls) [] h r ↔ r = (h, .inl none) := ev_vret iX7_reset_7 (X := mnI_X7_reset) rfl rfl
theorem iX7_step_0 : mn_ins 76 0 = some (7, false, .aload_n 0, 1) := by decide +kernel
theorem eX7_step_0 : Ev 76 0 (some (.ref a) :: ls) (st) h r ↔ Ev 76 1 (some (.ref a) :: ls) (.ref a :: st) h r := ev_aload_n iX7_step_0 rfl rfl
theorem iX7_step_1 : mn_ins 76 1 = some (7, false, .getfield 21, 3) := by decide +kernel
theorem eX7_step_1 : Ev 76 1 (ls) (.ref a :: st) h r ↔ Evk 76 4 ls (mn_gf h a 7 1) st h r := ev_getf iX7_step_1 (by decide +kernel)
theorem iX7_step_4 : mn_ins 76 4 = some (7, false, .iload_n 1, 1) := by decide +kernel
theorem eX7_step_4 : Ev 76 4 (a0 :: some (.int x) :: ls) (st) h r ↔ Ev 76 5 (a0 :: some (.int x) :: ls) (.int x :: st) h r := ev_iload_n iX7_step_4 rfl
theorem iX7_step_5 : mn_ins 76 5 = some (7, false, .invokevirtual 107, 3) := by decide +kernel
theorem eX7_step_5 : Ev 76 5 (ls) (.int x0 :: .ref b :: st) h r ↔ Evr true (decide (mn_cats st ≤ 8) && mn_isc h b 6) 76 5 ls st h.2.2.1 h.2.2.2 (Cl 47 (.ref b :: [.int x0]) h.1 h.2.1) r := Ev_V (As := [.int x0]) iX7_step_5 (by decide +kernel) (x := mnI_X7_step) (x2 := mnI_X6_hasTask) rfl rfl rfl (by decide +kernel) (Nat.le_of_ble_eq_true rfl) rfl
theorem iX7_step_8 : mn_ins 76 8 = some (7, false, .ifCond .ne 13, 3) := by decide +kernel
theorem eX7_step_8 : Ev 76 8 (ls) (.int x :: st) h r ↔ if x = nI 0 then Ev 76 11 (ls) (st) h r else Ev 76 21 (ls) (st) h r := ev_ifne iX7_step_8 (by decide)
theorem iX7_step_11 : mn_ins 76 11 = some (7, false, .new 32, 3) := by decide +kernel
theorem eX7_step_11 : Ev 76 11 (ls) [] h r ↔ r = ((h.1, none, h.2.2.1 + 1, h.2.2.2 + 6), .inr 0) := Ev_E iX7_step_11 rfl (x := mnI_X7_step) rfl rfl
theorem iX7_step_14 : mn_ins 76 14 = some (7, false, .dup, 1) := by decide +kernel
theorem eX7_step_14 : Ev 76 14 (ls) (.ref a :: st) h r ↔ Ev 76 15 (ls) (.ref a :: .ref a :: st) h r := ev_dup iX7_step_14 rfl
theorem iX7_step_21 : mn_ins 76 21 = some (7, false, .iload_n 2, 1) := by decide +kernel
theorem eX7_step_21 : Ev 76 21 (a0 :: a1 :: some (.int x) :: ls) (st) h r ↔ Ev 76 22 (a0 :: a1 :: some (.int x) :: ls) (.int x :: st) h r := ev_iload_n iX7_step_21 rfl
theorem iX7_step_22 : mn_ins 76 22 = some (7, false, .iconst 1, 1) := by decide +kernel
theorem eX7_step_22 : Ev 76 22 (ls) (st) h r ↔ Ev 76 23 (ls) (.int (nI 1) :: st) h r := ev_iconst iX7_step_22 (by decide)
theorem iX7_step_23 : mn_ins 76 23 = some (7, false, .if_icmp .lt 10, 3) := by decide +kernel
theorem eX7_step_23 : Ev 76 23 (ls) (.int y :: .int x :: st) h r ↔ if x < y then Ev 76 33 (ls) (st) h r else Ev 76 26 (ls) (st) h r := ev_cmplt iX7_step_23 (by decide)
theorem iX7_step_26 : mn_ins 76 26 = some (7, false, .iload_n 2, 1) := by decide +kernel
theorem eX7_step_26 : Ev 76 26 (a0 :: a1 :: some (.int x) :: ls) (st) h r ↔ Ev 76 27 (a0 :: a1 :: some (.int x) :: ls) (.int x :: st) h r := ev_iload_n iX7_step_26 rfl
theorem iX7_step_27 : mn_ins 76 27 = some (7, false, .sipush 200, 3) := by decide +kernel
theorem eX7_step_27 : Ev 76 27 (ls) (st) h r ↔ Ev 76 30 (ls) (.int (nI 200) :: st) h r := ev_sipush iX7_step_27 (by decide)
theorem iX7_step_30 : mn_ins 76 30 = some (7, false, .if_icmp .le 13, 3) := by decide +kernel
theorem eX7_step_30 : Ev 76 30 (ls) (.int y :: .int x :: st) h r ↔ if x ≤ y then Ev 76 43 (ls) (st) h r else Ev 76 33 (ls) (st) h r := ev_cmple iX7_step_30 (by decide)
theorem iX7_step_33 : mn_ins 76 33 = some (7, false, .new 51, 3) := by decide +kernel
theorem eX7_step_33 : Ev 76 33 (ls) [] h r ↔ r = ((h.1, none, h.2.2.1 + 1, h.2.2.2 + 6), .inr 1) := Ev_E iX7_step_33 rfl (x := mnI_X7_step) rfl rfl
theorem iX7_step_36 : mn_ins 76 36 = some (7, false, .dup, 1) := by decide +kernel
theorem eX7_step_36 : Ev 76 36 (ls) (.ref a :: st) h r ↔ Ev 76 37 (ls) (.ref a :: .ref a :: st) h r := ev_dup iX7_step_36 rfl
theorem iX7_step_43 : mn_ins 76 43 = some (7, false, .aload_n 0, 1) := by decide +kernel
theorem eX7_step_43 : Ev 76 43 (some (.ref a) :: ls) (st) h r ↔ Ev 76 44 (some (.ref a) :: ls) (.ref a :: st) h r := ev_aload_n iX7_step_43 rfl rfl
theorem iX7_step_44 : mn_ins 76 44 = some (7, false, .getfield 21, 3) := by decide +kernel
theorem eX7_step_44 : Ev 76 44 (ls) (.ref a :: st) h r ↔ Evk 76 47 ls (mn_gf h a 7 1) st h r := ev_getf iX7_step_44 (by decide +kernel)
theorem iX7_step_47 : mn_ins 76 47 = some (7, false, .getfield 115, 3) := by decide +kernel
theorem eX7_step_47 : Ev 76 47 (ls) (.ref a :: st) h r ↔ Evk 76 50 ls (mn_gf h a 6 1) st h r := ev_getf iX7_step_47 (by decide +kernel)
theorem iX7_step_50 : mn_ins 76 50 = some (7, false, .iload_n 1, 1) := by decide +kernel
theorem eX7_step_50 : Ev 76 50 (a0 :: some (.int x) :: ls) (st) h r ↔ Ev 76 51 (a0 :: some (.int x) :: ls) (.int x :: st) h r := ev_iload_n iX7_step_50 rfl
theorem iX7_step_51 : mn_ins 76 51 = some (7, false, .aaload, 1) := by decide +kernel
theorem eX7_step_51 : Ev 76 51 (ls) (.int x :: .ref a :: st) h r ↔ Evk 76 52 ls (mn_aq h a x) st h r := ev_aald iX7_step_51
theorem iX7_step_52 : mn_ins 76 52 = some (7, false, .astore_n 3, 1) := by decide +kernel
theorem eX7_step_52 : Ev 76 52 (a0 :: a1 :: a2 :: a3 :: ls) (.ref a :: st) h r ↔ Ev 76 53 (a0 :: a1 :: mn_k a2 :: some (.ref a) :: ls) (st) h r := ev_astore_n iX7_step_52 (by show 3 < _; simp only [List.length_cons]; omega) rfl
theorem eX7_step_52n : Ev 76 52 (a0 :: a1 :: a2 :: a3 :: ls) (.null :: st) h r ↔ Ev 76 53 (a0 :: a1 :: mn_k a2 :: some (.null) :: ls) (st) h r := ev_astore_n iX7_step_52 (by show 3 < _; simp only [List.length_cons]; omega) rfl
theorem eX7_step_52t : Ev 76 52 (a0 :: a1 :: a2 :: a3 :: ls) (tkv o1 :: st) h r ↔ Ev 76 53 (a0 :: a1 :: mn_k a2 :: some (tkv o1) :: ls) (st) h r := ev_astore_n iX7_step_52 (by show 3 < _; simp only [List.length_cons]; omega) tkv_r
theorem eX7_step_52s : Ev 76 52 (a0 :: a1 :: a2 :: a3 :: ls) (sgv o1 :: st) h r ↔ Ev 76 53 (a0 :: a1 :: mn_k a2 :: some (sgv o1) :: ls) (st) h r := ev_astore_n iX7_step_52 (by show 3 < _; simp only [List.length_cons]; omega) sgv_r
theorem eX7_step_52c : Ev 76 52 (a0 :: a1 :: a2 :: a3 :: ls) (cdv o1 :: st) h r ↔ Ev 76 53 (a0 :: a1 :: mn_k a2 :: some (cdv o1) :: ls) (st) h r := ev_astore_n iX7_step_52 (by show 3 < _; simp only [List.length_cons]; omega) cdv_r
theorem iX7_step_53 : mn_ins 76 53 = some (7, false, .iconst 0, 1) := by decide +kernel
theorem eX7_step_53 : Ev 76 53 (ls) (st) h r ↔ Ev 76 54 (ls) (.int (nI 0) :: st) h r := ev_iconst iX7_step_53 (by decide)
theorem iX7_step_54 : mn_ins 76 54 = some (7, false, .istore 4, 2) := by decide +kernel
theorem eX7_step_54 : Ev 76 54 (a0 :: a1 :: a2 :: a3 :: a4 :: ls) (.int x :: st) h r ↔ Ev 76 56 (a0 :: a1 :: a2 :: mn_k a3 :: some (.int x) :: ls) (st) h r := ev_istore iX7_step_54 (by show 4 < _; simp only [List.length_cons]; omega)
theorem iX7_step_56 : mn_ins 76 56 = some (7, false, .iload 4, 2) := by decide +kernel
theorem eX7_step_56 : Ev 76 56 (a0 :: a1 :: a2 :: a3 :: some (.int x) :: ls) (st) h r ↔ Ev 76 58 (a0 :: a1 :: a2 :: a3 :: some (.int x) :: ls) (.int x :: st) h r := ev_iload iX7_step_56 rfl
theorem iX7_step_58 : mn_ins 76 58 = some (7, false, .iload_n 2, 1) := by decide +kernel
theorem eX7_step_58 : Ev 76 58 (a0 :: a1 :: some (.int x) :: ls) (st) h r ↔ Ev 76 59 (a0 :: a1 :: some (.int x) :: ls) (.int x :: st) h r := ev_iload_n iX7_step_58 rfl
theorem iX7_step_59 : mn_ins 76 59 = some (7, false, .if_icmp .ge 53, 3) := by decide +kernel
theorem eX7_step_59 : Ev 76 59 (ls) (.int y :: .int x :: st) h r ↔ if y ≤ x then Ev 76 112 (ls) (st) h r else Ev 76 62 (ls) (st) h r := ev_cmpge iX7_step_59 (by decide)
theorem iX7_step_62 : mn_ins 76 62 = some (7, false, .aload_n 3, 1) := by decide +kernel
theorem eX7_step_62 : Ev 76 62 (a0 :: a1 :: a2 :: some (.ref a) :: ls) (st) h r ↔ Ev 76 63 (a0 :: a1 :: a2 :: some (.ref a) :: ls) (.ref a :: st) h r := ev_aload_n iX7_step_62 rfl rfl
theorem eX7_step_62n : Ev 76 62 (a0 :: a1 :: a2 :: some (.null) :: ls) (st) h r ↔ Ev 76 63 (a0 :: a1 :: a2 :: some (.null) :: ls) (.null :: st) h r := ev_aload_n iX7_step_62 rfl rfl
theorem eX7_step_62t : Ev 76 62 (a0 :: a1 :: a2 :: some (tkv o1) :: ls) (st) h r ↔ Ev 76 63 (a0 :: a1 :: a2 :: some (tkv o1) :: ls) (tkv o1 :: st) h r := ev_aload_n iX7_step_62 rfl tkv_r
theorem eX7_step_62s : Ev 76 62 (a0 :: a1 :: a2 :: some (sgv o1) :: ls) (st) h r ↔ Ev 76 63 (a0 :: a1 :: a2 :: some (sgv o1) :: ls) (sgv o1 :: st) h r := ev_aload_n iX7_step_62 rfl sgv_r
theorem eX7_step_62c : Ev 76 62 (a0 :: a1 :: a2 :: some (cdv o1) :: ls) (st) h r ↔ Ev 76 63 (a0 :: a1 :: a2 :: some (cdv o1) :: ls) (cdv o1 :: st) h r := ev_aload_n iX7_step_62 rfl cdv_r
theorem iX7_step_63 : mn_ins 76 63 = some (7, false, .getfield 119, 3) := by decide +kernel
theorem eX7_step_63 : Ev 76 63 (ls) (.ref a :: st) h r ↔ Evk 76 66 ls (mn_gf h a 5 4) st h r := ev_getf iX7_step_63 (by decide +kernel)
theorem iX7_step_66 : mn_ins 76 66 = some (7, false, .ifCond .eq 6, 3) := by decide +kernel
theorem eX7_step_66 : Ev 76 66 (ls) (.int x :: st) h r ↔ if x = nI 0 then Ev 76 72 (ls) (st) h r else Ev 76 69 (ls) (st) h r := ev_ifeq iX7_step_66 (by decide)
theorem iX7_step_69 : mn_ins 76 69 = some (7, false, .iload 4, 2) := by decide +kernel
theorem eX7_step_69 : Ev 76 69 (a0 :: a1 :: a2 :: a3 :: some (.int x) :: ls) (st) h r ↔ Ev 76 71 (a0 :: a1 :: a2 :: a3 :: some (.int x) :: ls) (.int x :: st) h r := ev_iload iX7_step_69 rfl
theorem iX7_step_71 : mn_ins 76 71 = some (7, false, .ireturn, 1) := by decide +kernel
theorem eX7_step_71 : Ev 76 71 (ls) [.int x] h r ↔ r = (h, .inl (some (.int x))) := ev_iret iX7_step_71 (X := mnI_X7_step) rfl rfl
theorem iX7_step_72 : mn_ins 76 72 = some (7, false, .aload_n 0, 1) := by decide +kernel
theorem eX7_step_72 : Ev 76 72 (some (.ref a) :: ls) (st) h r ↔ Ev 76 73 (some (.ref a) :: ls) (.ref a :: st) h r := ev_aload_n iX7_step_72 rfl rfl
theorem iX7_step_73 : mn_ins 76 73 = some (7, false, .getfield 21, 3) := by decide +kernel
theorem eX7_step_73 : Ev 76 73 (ls) (.ref a :: st) h r ↔ Evk 76 76 ls (mn_gf h a 7 1) st h r := ev_getf iX7_step_73 (by decide +kernel)
theorem iX7_step_76 : mn_ins 76 76 = some (7, false, .aload_n 3, 1) := by decide +kernel
theorem eX7_step_76 : Ev 76 76 (a0 :: a1 :: a2 :: some (.ref a) :: ls) (st) h r ↔ Ev 76 77 (a0 :: a1 :: a2 :: some (.ref a) :: ls) (.ref a :: st) h r := ev_aload_n iX7_step_76 rfl rfl
theorem eX7_step_76n : Ev 76 76 (a0 :: a1 :: a2 :: some (.null) :: ls) (st) h r ↔ Ev 76 77 (a0 :: a1 :: a2 :: some (.null) :: ls) (.null :: st) h r := ev_aload_n iX7_step_76 rfl rfl
theorem eX7_step_76t : Ev 76 76 (a0 :: a1 :: a2 :: some (tkv o1) :: ls) (st) h r ↔ Ev 76 77 (a0 :: a1 :: a2 :: some (tkv o1) :: ls) (tkv o1 :: st) h r := ev_aload_n iX7_step_76 rfl tkv_r
theorem eX7_step_76s : Ev 76 76 (a0 :: a1 :: a2 :: some (sgv o1) :: ls) (st) h r ↔ Ev 76 77 (a0 :: a1 :: a2 :: some (sgv o1) :: ls) (sgv o1 :: st) h r := ev_aload_n iX7_step_76 rfl sgv_r
theorem eX7_step_76c : Ev 76 76 (a0 :: a1 :: a2 :: some (cdv o1) :: ls) (st) h r ↔ Ev 76 77 (a0 :: a1 :: a2 :: some (cdv o1) :: ls) (cdv o1 :: st) h r := ev_aload_n iX7_step_76 rfl cdv_r
theorem iX7_step_77 : mn_ins 76 77 = some (7, false, .invokevirtual 124, 3) := by decide +kernel
theorem EgX7_step_77 (hw3 : (mn_r w3).isSome = true) : Ev 76 77 (ls) (w3 :: .ref b :: st) h r ↔ Evr true (decide (mn_cats st ≤ 8) && mn_isc h b 6) 76 77 ls st h.2.2.1 h.2.2.2 (Cl 53 (.ref b :: [w3]) h.1 h.2.1) r := Ev_V (As := [w3]) iX7_step_77 (by decide +kernel) (x := mnI_X7_step) (x2 := mnI_X6_waits) rfl rfl rfl (by decide +kernel) (by rcases mn_r_is hw3 with ⟨_, rfl⟩ | rfl <;> exact Nat.le_of_ble_eq_true rfl) rfl
theorem eX7_step_77 {cw3 : Nat} : Ev 76 77 (ls) ((.ref cw3) :: .ref b :: st) h r ↔ Evr true (decide (mn_cats st ≤ 8) && mn_isc h b 6) 76 77 ls st h.2.2.1 h.2.2.2 (Cl 53 (.ref b :: [(.ref cw3)]) h.1 h.2.1) r := EgX7_step_77 rfl
theorem iX7_step_80 : mn_ins 76 80 = some (7, false, .istore 5, 2) := by decide +kernel
theorem eX7_step_80 : Ev 76 80 (a0 :: a1 :: a2 :: a3 :: a4 :: a5 :: ls) (.int x :: st) h r ↔ Ev 76 82 (a0 :: a1 :: a2 :: a3 :: mn_k a4 :: some (.int x) :: ls) (st) h r := ev_istore iX7_step_80 (by show 5 < _; simp only [List.length_cons]; omega)
theorem iX7_step_82 : mn_ins 76 82 = some (7, false, .aload_n 0, 1) := by decide +kernel
theorem eX7_step_82 : Ev 76 82 (some (.ref a) :: ls) (st) h r ↔ Ev 76 83 (some (.ref a) :: ls) (.ref a :: st) h r := ev_aload_n iX7_step_82 rfl rfl
theorem iX7_step_83 : mn_ins 76 83 = some (7, false, .getfield 21, 3) := by decide +kernel
theorem eX7_step_83 : Ev 76 83 (ls) (.ref a :: st) h r ↔ Evk 76 86 ls (mn_gf h a 7 1) st h r := ev_getf iX7_step_83 (by decide +kernel)
theorem iX7_step_86 : mn_ins 76 86 = some (7, false, .aload_n 3, 1) := by decide +kernel
theorem eX7_step_86 : Ev 76 86 (a0 :: a1 :: a2 :: some (.ref a) :: ls) (st) h r ↔ Ev 76 87 (a0 :: a1 :: a2 :: some (.ref a) :: ls) (.ref a :: st) h r := ev_aload_n iX7_step_86 rfl rfl
theorem eX7_step_86n : Ev 76 86 (a0 :: a1 :: a2 :: some (.null) :: ls) (st) h r ↔ Ev 76 87 (a0 :: a1 :: a2 :: some (.null) :: ls) (.null :: st) h r := ev_aload_n iX7_step_86 rfl rfl
theorem eX7_step_86t : Ev 76 86 (a0 :: a1 :: a2 :: some (tkv o1) :: ls) (st) h r ↔ Ev 76 87 (a0 :: a1 :: a2 :: some (tkv o1) :: ls) (tkv o1 :: st) h r := ev_aload_n iX7_step_86 rfl tkv_r
theorem eX7_step_86s : Ev 76 86 (a0 :: a1 :: a2 :: some (sgv o1) :: ls) (st) h r ↔ Ev 76 87 (a0 :: a1 :: a2 :: some (sgv o1) :: ls) (sgv o1 :: st) h r := ev_aload_n iX7_step_86 rfl sgv_r
theorem eX7_step_86c : Ev 76 86 (a0 :: a1 :: a2 :: some (cdv o1) :: ls) (st) h r ↔ Ev 76 87 (a0 :: a1 :: a2 :: some (cdv o1) :: ls) (cdv o1 :: st) h r := ev_aload_n iX7_step_86 rfl cdv_r
theorem iX7_step_87 : mn_ins 76 87 = some (7, false, .invokevirtual 128, 3) := by decide +kernel
theorem EgX7_step_87 (hw3 : (mn_r w3).isSome = true) : Ev 76 87 (ls) (w3 :: .ref b :: st) h r ↔ Evr true (decide (mn_cats st ≤ 8) && mn_isc h b 6) 76 87 ls st h.2.2.1 h.2.2.2 (Cl 54 (.ref b :: [w3]) h.1 h.2.1) r := Ev_V (As := [w3]) iX7_step_87 (by decide +kernel) (x := mnI_X7_step) (x2 := mnI_X6_advance) rfl rfl rfl (by decide +kernel) (by rcases mn_r_is hw3 with ⟨_, rfl⟩ | rfl <;> exact Nat.le_of_ble_eq_true rfl) rfl
theorem eX7_step_87 {cw3 : Nat} : Ev 76 87 (ls) ((.ref cw3) :: .ref b :: st) h r ↔ Evr true (decide (mn_cats st ≤ 8) && mn_isc h b 6) 76 87 ls st h.2.2.1 h.2.2.2 (Cl 54 (.ref b :: [(.ref cw3)]) h.1 h.2.1) r := EgX7_step_87 rfl
theorem iX7_step_90 : mn_ins 76 90 = some (7, false, .ifCond .ne 6, 3) := by decide +kernel
theorem eX7_step_90 : Ev 76 90 (ls) (.int x :: st) h r ↔ if x = nI 0 then Ev 76 93 (ls) (st) h r else Ev 76 96 (ls) (st) h r := ev_ifne iX7_step_90 (by decide)
theorem iX7_step_93 : mn_ins 76 93 = some (7, false, .iload 4, 2) := by decide +kernel
theorem eX7_step_93 : Ev 76 93 (a0 :: a1 :: a2 :: a3 :: some (.int x) :: ls) (st) h r ↔ Ev 76 95 (a0 :: a1 :: a2 :: a3 :: some (.int x) :: ls) (.int x :: st) h r := ev_iload iX7_step_93 rfl
theorem iX7_step_95 : mn_ins 76 95 = some (7, false, .ireturn, 1) := by decide +kernel
theorem eX7_step_95 : Ev 76 95 (ls) [.int x] h r ↔ r = (h, .inl (some (.int x))) := ev_iret iX7_step_95 (X := mnI_X7_step) rfl rfl
theorem iX7_step_96 : mn_ins 76 96 = some (7, false, .iload 5, 2) := by decide +kernel
theorem eX7_step_96 : Ev 76 96 (a0 :: a1 :: a2 :: a3 :: a4 :: some (.int x) :: ls) (st) h r ↔ Ev 76 98 (a0 :: a1 :: a2 :: a3 :: a4 :: some (.int x) :: ls) (.int x :: st) h r := ev_iload iX7_step_96 rfl
theorem iX7_step_98 : mn_ins 76 98 = some (7, false, .ifCond .eq 8, 3) := by decide +kernel
theorem eX7_step_98 : Ev 76 98 (ls) (.int x :: st) h r ↔ if x = nI 0 then Ev 76 106 (ls) (st) h r else Ev 76 101 (ls) (st) h r := ev_ifeq iX7_step_98 (by decide)
theorem iX7_step_101 : mn_ins 76 101 = some (7, false, .iload 4, 2) := by decide +kernel
theorem eX7_step_101 : Ev 76 101 (a0 :: a1 :: a2 :: a3 :: some (.int x) :: ls) (st) h r ↔ Ev 76 103 (a0 :: a1 :: a2 :: a3 :: some (.int x) :: ls) (.int x :: st) h r := ev_iload iX7_step_101 rfl
theorem iX7_step_103 : mn_ins 76 103 = some (7, false, .iconst 1, 1) := by decide +kernel
theorem eX7_step_103 : Ev 76 103 (ls) (st) h r ↔ Ev 76 104 (ls) (.int (nI 1) :: st) h r := ev_iconst iX7_step_103 (by decide)
theorem iX7_step_104 : mn_ins 76 104 = some (7, false, .iadd, 1) := by decide +kernel
theorem eX7_step_104 : Ev 76 104 (ls) (.int y :: .int x :: st) h r ↔ Ev 76 105 (ls) (.int (x + y) :: st) h r := ev_iadd iX7_step_104
theorem iX7_step_105 : mn_ins 76 105 = some (7, false, .ireturn, 1) := by decide +kernel
theorem eX7_step_105 : Ev 76 105 (ls) [.int x] h r ↔ r = (h, .inl (some (.int x))) := ev_iret iX7_step_105 (X := mnI_X7_step) rfl rfl
theorem iX7_step_106 : mn_ins 76 106 = some (7, false, .iinc 4 1, 3) := by decide +kernel
theorem eX7_step_106 : Ev 76 106 (a0 :: a1 :: a2 :: a3 :: some (.int x) :: ls) (st) h r ↔ Ev 76 109 (a0 :: a1 :: a2 :: mn_k a3 :: some (.int (x + (nI 1))) :: ls) (st) h r := ev_iinc iX7_step_106 rfl (by decide)
theorem iX7_step_109 : mn_ins 76 109 = some (7, false, .goto (-53), 3) := by decide +kernel
theorem eX7_step_109 : Ev 76 109 (ls) (st) h r ↔ Ev 76 56 (ls) (st) h r := ev_goto iX7_step_109 (by decide)
theorem iX7_step_112 : mn_ins 76 112 = some (7, false, .iload_n 2, 1) := by decide +kernel
theorem eX7_step_112 : Ev 76 112 (a0 :: a1 :: some (.int x) :: ls) (st) h r ↔ Ev 76 113 (a0 :: a1 :: some (.int x) :: ls) (.int x :: st) h r := ev_iload_n iX7_step_112 rfl
theorem iX7_step_113 : mn_ins 76 113 = some (7, false, .ireturn, 1) := by decide +kernel
theorem eX7_step_113 : Ev 76 113 (ls) [.int x] h r ↔ r = (h, .inl (some (.int x))) := ev_iret iX7_step_113 (X := mnI_X7_step) rfl rfl
theorem iX7_run_0 : mn_ins 77 0 = some (7, false, .aload_n 0, 1) := by decide +kernel
theorem eX7_run_0 : Ev 77 0 (some (.ref a) :: ls) (st) h r ↔ Ev 77 1 (some (.ref a) :: ls) (.ref a :: st) h r := ev_aload_n iX7_run_0 rfl rfl
theorem iX7_run_1 : mn_ins 77 1 = some (7, false, .getfield 21, 3) := by decide +kernel
theorem eX7_run_1 : Ev 77 1 (ls) (.ref a :: st) h r ↔ Evk 77 4 ls (mn_gf h a 7 1) st h r := ev_getf iX7_run_1 (by decide +kernel)
theorem iX7_run_4 : mn_ins 77 4 = some (7, false, .invokevirtual 25, 3) := by decide +kernel
theorem eX7_run_4 : Ev 77 4 (ls) (.ref b :: st) h r ↔ Evr true (decide (mn_cats st ≤ 8) && mn_isc h b 6) 77 4 ls st h.2.2.1 h.2.2.2 (Cl 46 (.ref b :: []) h.1 h.2.1) r := Ev_V (As := []) iX7_run_4 (by decide +kernel) (x := mnI_X7_run) (x2 := mnI_X6_hasBegun) rfl rfl rfl (by decide +kernel) (Nat.le_of_ble_eq_true rfl) rfl
theorem iX7_run_7 : mn_ins 77 7 = some (7, false, .ifCond .ne 13, 3) := by decide +kernel
theorem eX7_run_7 : Ev 77 7 (ls) (.int x :: st) h r ↔ if x = nI 0 then Ev 77 10 (ls) (st) h r else Ev 77 20 (ls) (st) h r := ev_ifne iX7_run_7 (by decide)
theorem iX7_run_10 : mn_ins 77 10 = some (7, false, .new 32, 3) := by decide +kernel
theorem eX7_run_10 : Ev 77 10 (ls) [] h r ↔ r = ((h.1, none, h.2.2.1 + 1, h.2.2.2 + 6), .inr 0) := Ev_E iX7_run_10 rfl (x := mnI_X7_run) rfl rfl
theorem iX7_run_13 : mn_ins 77 13 = some (7, false, .dup, 1) := by decide +kernel
theorem eX7_run_13 : Ev 77 13 (ls) (.ref a :: st) h r ↔ Ev 77 14 (ls) (.ref a :: .ref a :: st) h r := ev_dup iX7_run_13 rfl
theorem iX7_run_20 : mn_ins 77 20 = some (7, false, .aload_n 0, 1) := by decide +kernel
theorem eX7_run_20 : Ev 77 20 (some (.ref a) :: ls) (st) h r ↔ Ev 77 21 (some (.ref a) :: ls) (.ref a :: st) h r := ev_aload_n iX7_run_20 rfl rfl
theorem iX7_run_21 : mn_ins 77 21 = some (7, false, .getfield 21, 3) := by decide +kernel
theorem eX7_run_21 : Ev 77 21 (ls) (.ref a :: st) h r ↔ Evk 77 24 ls (mn_gf h a 7 1) st h r := ev_getf iX7_run_21 (by decide +kernel)
theorem iX7_run_24 : mn_ins 77 24 = some (7, false, .getfield 133, 3) := by decide +kernel
theorem eX7_run_24 : Ev 77 24 (ls) (.ref a :: st) h r ↔ Evk 77 27 ls (mn_gf h a 6 7) st h r := ev_getf iX7_run_24 (by decide +kernel)
theorem iX7_run_27 : mn_ins 77 27 = some (7, false, .istore_n 2, 1) := by decide +kernel
theorem eX7_run_27 : Ev 77 27 (a0 :: a1 :: a2 :: ls) (.int x :: st) h r ↔ Ev 77 28 (a0 :: mn_k a1 :: some (.int x) :: ls) (st) h r := ev_istore_n iX7_run_27 (by show 2 < _; simp only [List.length_cons]; omega)
theorem iX7_run_28 : mn_ins 77 28 = some (7, false, .iload_n 1, 1) := by decide +kernel
theorem eX7_run_28 : Ev 77 28 (a0 :: some (.int x) :: ls) (st) h r ↔ Ev 77 29 (a0 :: some (.int x) :: ls) (.int x :: st) h r := ev_iload_n iX7_run_28 rfl
theorem iX7_run_29 : mn_ins 77 29 = some (7, false, .istore_n 3, 1) := by decide +kernel
theorem eX7_run_29 : Ev 77 29 (a0 :: a1 :: a2 :: a3 :: ls) (.int x :: st) h r ↔ Ev 77 30 (a0 :: a1 :: mn_k a2 :: some (.int x) :: ls) (st) h r := ev_istore_n iX7_run_29 (by show 3 < _; simp only [List.length_cons]; omega)
theorem iX7_run_30 : mn_ins 77 30 = some (7, false, .iconst 0, 1) := by decide +kernel
theorem eX7_run_30 : Ev 77 30 (ls) (st) h r ↔ Ev 77 31 (ls) (.int (nI 0) :: st) h r := ev_iconst iX7_run_30 (by decide)
theorem iX7_run_31 : mn_ins 77 31 = some (7, false, .istore 4, 2) := by decide +kernel
theorem eX7_run_31 : Ev 77 31 (a0 :: a1 :: a2 :: a3 :: a4 :: ls) (.int x :: st) h r ↔ Ev 77 33 (a0 :: a1 :: a2 :: mn_k a3 :: some (.int x) :: ls) (st) h r := ev_istore iX7_run_31 (by show 4 < _; simp only [List.length_cons]; omega)
theorem iX7_run_33 : mn_ins 77 33 = some (7, false, .iload 4, 2) := by decide +kernel
theorem eX7_run_33 : Ev 77 33 (a0 :: a1 :: a2 :: a3 :: some (.int x) :: ls) (st) h r ↔ Ev 77 35 (a0 :: a1 :: a2 :: a3 :: some (.int x) :: ls) (.int x :: st) h r := ev_iload iX7_run_33 rfl
theorem iX7_run_35 : mn_ins 77 35 = some (7, false, .sipush 2012, 3) := by decide +kernel
theorem eX7_run_35 : Ev 77 35 (ls) (st) h r ↔ Ev 77 38 (ls) (.int (nI 2012) :: st) h r := ev_sipush iX7_run_35 (by decide)
theorem iX7_run_38 : mn_ins 77 38 = some (7, false, .if_icmp .ge 87, 3) := by decide +kernel
theorem eX7_run_38 : Ev 77 38 (ls) (.int y :: .int x :: st) h r ↔ if y ≤ x then Ev 77 125 (ls) (st) h r else Ev 77 41 (ls) (st) h r := ev_cmpge iX7_run_38 (by decide)
theorem iX7_run_41 : mn_ins 77 41 = some (7, false, .aload_n 0, 1) := by decide +kernel
theorem eX7_run_41 : Ev 77 41 (some (.ref a) :: ls) (st) h r ↔ Ev 77 42 (some (.ref a) :: ls) (.ref a :: st) h r := ev_aload_n iX7_run_41 rfl rfl
theorem iX7_run_42 : mn_ins 77 42 = some (7, false, .getfield 21, 3) := by decide +kernel
theorem eX7_run_42 : Ev 77 42 (ls) (.ref a :: st) h r ↔ Evk 77 45 ls (mn_gf h a 7 1) st h r := ev_getf iX7_run_42 (by decide +kernel)
theorem iX7_run_45 : mn_ins 77 45 = some (7, false, .getfield 115, 3) := by decide +kernel
theorem eX7_run_45 : Ev 77 45 (ls) (.ref a :: st) h r ↔ Evk 77 48 ls (mn_gf h a 6 1) st h r := ev_getf iX7_run_45 (by decide +kernel)
theorem iX7_run_48 : mn_ins 77 48 = some (7, false, .iconst 0, 1) := by decide +kernel
theorem eX7_run_48 : Ev 77 48 (ls) (st) h r ↔ Ev 77 49 (ls) (.int (nI 0) :: st) h r := ev_iconst iX7_run_48 (by decide)
theorem iX7_run_49 : mn_ins 77 49 = some (7, false, .aaload, 1) := by decide +kernel
theorem eX7_run_49 : Ev 77 49 (ls) (.int x :: .ref a :: st) h r ↔ Evk 77 50 ls (mn_aq h a x) st h r := ev_aald iX7_run_49
theorem iX7_run_50 : mn_ins 77 50 = some (7, false, .getfield 119, 3) := by decide +kernel
theorem eX7_run_50 : Ev 77 50 (ls) (.ref a :: st) h r ↔ Evk 77 53 ls (mn_gf h a 5 4) st h r := ev_getf iX7_run_50 (by decide +kernel)
theorem iX7_run_53 : mn_ins 77 53 = some (7, false, .ifCond .ne 72, 3) := by decide +kernel
theorem eX7_run_53 : Ev 77 53 (ls) (.int x :: st) h r ↔ if x = nI 0 then Ev 77 56 (ls) (st) h r else Ev 77 125 (ls) (st) h r := ev_ifne iX7_run_53 (by decide)
theorem iX7_run_56 : mn_ins 77 56 = some (7, false, .aload_n 0, 1) := by decide +kernel
theorem eX7_run_56 : Ev 77 56 (some (.ref a) :: ls) (st) h r ↔ Ev 77 57 (some (.ref a) :: ls) (.ref a :: st) h r := ev_aload_n iX7_run_56 rfl rfl
theorem iX7_run_57 : mn_ins 77 57 = some (7, false, .getfield 21, 3) := by decide +kernel
theorem eX7_run_57 : Ev 77 57 (ls) (.ref a :: st) h r ↔ Evk 77 60 ls (mn_gf h a 7 1) st h r := ev_getf iX7_run_57 (by decide +kernel)
theorem iX7_run_60 : mn_ins 77 60 = some (7, false, .invokevirtual 136, 3) := by decide +kernel
theorem eX7_run_60 : Ev 77 60 (ls) (.ref b :: st) h r ↔ Evr true (decide (mn_cats st ≤ 8) && mn_isc h b 6) 77 60 ls st h.2.2.1 h.2.2.2 (Cl 52 (.ref b :: []) h.1 h.2.1) r := Ev_V (As := []) iX7_run_60 (by decide +kernel) (x := mnI_X7_run) (x2 := mnI_X6_findReady) rfl rfl rfl (by decide +kernel) (Nat.le_of_ble_eq_true rfl) rfl
theorem iX7_run_63 : mn_ins 77 63 = some (7, false, .istore 5, 2) := by decide +kernel
theorem eX7_run_63 : Ev 77 63 (a0 :: a1 :: a2 :: a3 :: a4 :: a5 :: ls) (.int x :: st) h r ↔ Ev 77 65 (a0 :: a1 :: a2 :: a3 :: mn_k a4 :: some (.int x) :: ls) (st) h r := ev_istore iX7_run_63 (by show 5 < _; simp only [List.length_cons]; omega)
theorem iX7_run_65 : mn_ins 77 65 = some (7, false, .iload 5, 2) := by decide +kernel
theorem eX7_run_65 : Ev 77 65 (a0 :: a1 :: a2 :: a3 :: a4 :: some (.int x) :: ls) (st) h r ↔ Ev 77 67 (a0 :: a1 :: a2 :: a3 :: a4 :: some (.int x) :: ls) (.int x :: st) h r := ev_iload iX7_run_65 rfl
theorem iX7_run_67 : mn_ins 77 67 = some (7, false, .ifCond .ne 6, 3) := by decide +kernel
theorem eX7_run_67 : Ev 77 67 (ls) (.int x :: st) h r ↔ if x = nI 0 then Ev 77 70 (ls) (st) h r else Ev 77 73 (ls) (st) h r := ev_ifne iX7_run_67 (by decide)
theorem iX7_run_70 : mn_ins 77 70 = some (7, false, .goto 55, 3) := by decide +kernel
theorem eX7_run_70 : Ev 77 70 (ls) (st) h r ↔ Ev 77 125 (ls) (st) h r := ev_goto iX7_run_70 (by decide)
theorem iX7_run_73 : mn_ins 77 73 = some (7, false, .iload 5, 2) := by decide +kernel
theorem eX7_run_73 : Ev 77 73 (a0 :: a1 :: a2 :: a3 :: a4 :: some (.int x) :: ls) (st) h r ↔ Ev 77 75 (a0 :: a1 :: a2 :: a3 :: a4 :: some (.int x) :: ls) (.int x :: st) h r := ev_iload iX7_run_73 rfl
theorem iX7_run_75 : mn_ins 77 75 = some (7, false, .iconst 1, 1) := by decide +kernel
theorem eX7_run_75 : Ev 77 75 (ls) (st) h r ↔ Ev 77 76 (ls) (.int (nI 1) :: st) h r := ev_iconst iX7_run_75 (by decide)
theorem iX7_run_76 : mn_ins 77 76 = some (7, false, .isub, 1) := by decide +kernel
theorem eX7_run_76 : Ev 77 76 (ls) (.int y :: .int x :: st) h r ↔ Ev 77 77 (ls) (.int (x - y) :: st) h r := ev_isub iX7_run_76
theorem iX7_run_77 : mn_ins 77 77 = some (7, false, .istore 6, 2) := by decide +kernel
theorem eX7_run_77 : Ev 77 77 (a0 :: a1 :: a2 :: a3 :: a4 :: a5 :: a6 :: ls) (.int x :: st) h r ↔ Ev 77 79 (a0 :: a1 :: a2 :: a3 :: a4 :: mn_k a5 :: some (.int x) :: ls) (st) h r := ev_istore iX7_run_77 (by show 6 < _; simp only [List.length_cons]; omega)
theorem iX7_run_79 : mn_ins 77 79 = some (7, false, .iload_n 1, 1) := by decide +kernel
theorem eX7_run_79 : Ev 77 79 (a0 :: some (.int x) :: ls) (st) h r ↔ Ev 77 80 (a0 :: some (.int x) :: ls) (.int x :: st) h r := ev_iload_n iX7_run_79 rfl
theorem iX7_run_80 : mn_ins 77 80 = some (7, false, .ifCond .eq 21, 3) := by decide +kernel
theorem eX7_run_80 : Ev 77 80 (ls) (.int x :: st) h r ↔ if x = nI 0 then Ev 77 101 (ls) (st) h r else Ev 77 83 (ls) (st) h r := ev_ifeq iX7_run_80 (by decide)
theorem iX7_run_83 : mn_ins 77 83 = some (7, false, .iload_n 3, 1) := by decide +kernel
theorem eX7_run_83 : Ev 77 83 (a0 :: a1 :: a2 :: some (.int x) :: ls) (st) h r ↔ Ev 77 84 (a0 :: a1 :: a2 :: some (.int x) :: ls) (.int x :: st) h r := ev_iload_n iX7_run_83 rfl
theorem iX7_run_84 : mn_ins 77 84 = some (7, false, .ldc 139, 2) := by decide +kernel
theorem eX7_run_84 : Ev 77 84 (ls) (st) h r ↔ Ev 77 86 (ls) (.int (nI 1103515245) :: st) h r := ev_ldc iX7_run_84 (by decide +kernel)
theorem iX7_run_86 : mn_ins 77 86 = some (7, false, .imul, 1) := by decide +kernel
theorem eX7_run_86 : Ev 77 86 (ls) (.int y :: .int x :: st) h r ↔ Ev 77 87 (ls) (.int (x * y) :: st) h r := ev_imul iX7_run_86
theorem iX7_run_87 : mn_ins 77 87 = some (7, false, .sipush 12345, 3) := by decide +kernel
theorem eX7_run_87 : Ev 77 87 (ls) (st) h r ↔ Ev 77 90 (ls) (.int (nI 12345) :: st) h r := ev_sipush iX7_run_87 (by decide)
theorem iX7_run_90 : mn_ins 77 90 = some (7, false, .iadd, 1) := by decide +kernel
theorem eX7_run_90 : Ev 77 90 (ls) (.int y :: .int x :: st) h r ↔ Ev 77 91 (ls) (.int (x + y) :: st) h r := ev_iadd iX7_run_90
theorem iX7_run_91 : mn_ins 77 91 = some (7, false, .istore_n 3, 1) := by decide +kernel
theorem eX7_run_91 : Ev 77 91 (a0 :: a1 :: a2 :: a3 :: ls) (.int x :: st) h r ↔ Ev 77 92 (a0 :: a1 :: mn_k a2 :: some (.int x) :: ls) (st) h r := ev_istore_n iX7_run_91 (by show 3 < _; simp only [List.length_cons]; omega)
theorem iX7_run_92 : mn_ins 77 92 = some (7, false, .iload_n 3, 1) := by decide +kernel
theorem eX7_run_92 : Ev 77 92 (a0 :: a1 :: a2 :: some (.int x) :: ls) (st) h r ↔ Ev 77 93 (a0 :: a1 :: a2 :: some (.int x) :: ls) (.int x :: st) h r := ev_iload_n iX7_run_92 rfl
theorem iX7_run_93 : mn_ins 77 93 = some (7, false, .bipush 16, 2) := by decide +kernel
theorem eX7_run_93 : Ev 77 93 (ls) (st) h r ↔ Ev 77 95 (ls) (.int (nI 16) :: st) h r := ev_bipush iX7_run_93 (by decide)
theorem iX7_run_95 : mn_ins 77 95 = some (7, false, .iushr, 1) := by decide +kernel
theorem eX7_run_95 : Ev 77 95 (ls) (.int y :: .int x :: st) h r ↔ Ev 77 96 (ls) (.int (x.toUInt32 >>> (y.toUInt32 &&& Int32.toUInt32 31)).toInt32 :: st) h r := ev_iushr iX7_run_95
theorem iX7_run_96 : mn_ins 77 96 = some (7, false, .iload 5, 2) := by decide +kernel
theorem eX7_run_96 : Ev 77 96 (a0 :: a1 :: a2 :: a3 :: a4 :: some (.int x) :: ls) (st) h r ↔ Ev 77 98 (a0 :: a1 :: a2 :: a3 :: a4 :: some (.int x) :: ls) (.int x :: st) h r := ev_iload iX7_run_96 rfl
theorem iX7_run_98 : mn_ins 77 98 = some (7, false, .irem, 1) := by decide +kernel
theorem eX7_run_98 (hy : ¬ y = 0) : Ev 77 98 (ls) (.int y :: .int x :: st) h r ↔ Ev 77 99 (ls) (.int (x - x / y * y) :: st) h r := ev_irem iX7_run_98 hy
theorem iX7_run_99 : mn_ins 77 99 = some (7, false, .istore 6, 2) := by decide +kernel
theorem eX7_run_99 : Ev 77 99 (a0 :: a1 :: a2 :: a3 :: a4 :: a5 :: a6 :: ls) (.int x :: st) h r ↔ Ev 77 101 (a0 :: a1 :: a2 :: a3 :: a4 :: mn_k a5 :: some (.int x) :: ls) (st) h r := ev_istore iX7_run_99 (by show 6 < _; simp only [List.length_cons]; omega)
theorem iX7_run_101 : mn_ins 77 101 = some (7, false, .aload_n 0, 1) := by decide +kernel
theorem eX7_run_101 : Ev 77 101 (some (.ref a) :: ls) (st) h r ↔ Ev 77 102 (some (.ref a) :: ls) (.ref a :: st) h r := ev_aload_n iX7_run_101 rfl rfl
theorem iX7_run_102 : mn_ins 77 102 = some (7, false, .getfield 21, 3) := by decide +kernel
theorem eX7_run_102 : Ev 77 102 (ls) (.ref a :: st) h r ↔ Evk 77 105 ls (mn_gf h a 7 1) st h r := ev_getf iX7_run_102 (by decide +kernel)
theorem iX7_run_105 : mn_ins 77 105 = some (7, false, .aload_n 0, 1) := by decide +kernel
theorem eX7_run_105 : Ev 77 105 (some (.ref a) :: ls) (st) h r ↔ Ev 77 106 (some (.ref a) :: ls) (.ref a :: st) h r := ev_aload_n iX7_run_105 rfl rfl
theorem iX7_run_106 : mn_ins 77 106 = some (7, false, .getfield 21, 3) := by decide +kernel
theorem eX7_run_106 : Ev 77 106 (ls) (.ref a :: st) h r ↔ Evk 77 109 ls (mn_gf h a 7 1) st h r := ev_getf iX7_run_106 (by decide +kernel)
theorem iX7_run_109 : mn_ins 77 109 = some (7, false, .getfield 140, 3) := by decide +kernel
theorem eX7_run_109 : Ev 77 109 (ls) (.ref a :: st) h r ↔ Evk 77 112 ls (mn_gf h a 6 2) st h r := ev_getf iX7_run_109 (by decide +kernel)
theorem iX7_run_112 : mn_ins 77 112 = some (7, false, .iload 6, 2) := by decide +kernel
theorem eX7_run_112 : Ev 77 112 (a0 :: a1 :: a2 :: a3 :: a4 :: a5 :: some (.int x) :: ls) (st) h r ↔ Ev 77 114 (a0 :: a1 :: a2 :: a3 :: a4 :: a5 :: some (.int x) :: ls) (.int x :: st) h r := ev_iload iX7_run_112 rfl
theorem iX7_run_114 : mn_ins 77 114 = some (7, false, .aaload, 1) := by decide +kernel
theorem eX7_run_114 : Ev 77 114 (ls) (.int x :: .ref a :: st) h r ↔ Evk 77 115 ls (mn_aq h a x) st h r := ev_aald iX7_run_114
theorem iX7_run_115 : mn_ins 77 115 = some (7, false, .invokevirtual 128, 3) := by decide +kernel
theorem EgX7_run_115 (hw3 : (mn_r w3).isSome = true) : Ev 77 115 (ls) (w3 :: .ref b :: st) h r ↔ Evr true (decide (mn_cats st ≤ 8) && mn_isc h b 6) 77 115 ls st h.2.2.1 h.2.2.2 (Cl 54 (.ref b :: [w3]) h.1 h.2.1) r := Ev_V (As := [w3]) iX7_run_115 (by decide +kernel) (x := mnI_X7_run) (x2 := mnI_X6_advance) rfl rfl rfl (by decide +kernel) (by rcases mn_r_is hw3 with ⟨_, rfl⟩ | rfl <;> exact Nat.le_of_ble_eq_true rfl) rfl
theorem eX7_run_115 {cw3 : Nat} : Ev 77 115 (ls) ((.ref cw3) :: .ref b :: st) h r ↔ Evr true (decide (mn_cats st ≤ 8) && mn_isc h b 6) 77 115 ls st h.2.2.1 h.2.2.2 (Cl 54 (.ref b :: [(.ref cw3)]) h.1 h.2.1) r := EgX7_run_115 rfl
theorem iX7_run_118 : mn_ins 77 118 = some (7, false, .pop, 1) := by decide +kernel
theorem eX7_run_118 : Ev 77 118 (ls) (.int x :: st) h r ↔ Ev 77 119 (ls) (st) h r := ev_pop iX7_run_118 rfl
theorem eX7_run_118r : Ev 77 118 (ls) (.ref a :: st) h r ↔ Ev 77 119 (ls) (st) h r := ev_pop iX7_run_118 rfl
theorem iX7_run_119 : mn_ins 77 119 = some (7, false, .iinc 4 1, 3) := by decide +kernel
theorem eX7_run_119 : Ev 77 119 (a0 :: a1 :: a2 :: a3 :: some (.int x) :: ls) (st) h r ↔ Ev 77 122 (a0 :: a1 :: a2 :: mn_k a3 :: some (.int (x + (nI 1))) :: ls) (st) h r := ev_iinc iX7_run_119 rfl (by decide)
theorem iX7_run_122 : mn_ins 77 122 = some (7, false, .goto (-89), 3) := by decide +kernel
theorem eX7_run_122 : Ev 77 122 (ls) (st) h r ↔ Ev 77 33 (ls) (st) h r := ev_goto iX7_run_122 (by decide)
theorem iX7_run_125 : mn_ins 77 125 = some (7, false, .aload_n 0, 1) := by decide +kernel
theorem eX7_run_125 : Ev 77 125 (some (.ref a) :: ls) (st) h r ↔ Ev 77 126 (some (.ref a) :: ls) (.ref a :: st) h r := ev_aload_n iX7_run_125 rfl rfl
theorem iX7_run_126 : mn_ins 77 126 = some (7, false, .getfield 21, 3) := by decide +kernel
theorem eX7_run_126 : Ev 77 126 (ls) (.ref a :: st) h r ↔ Evk 77 129 ls (mn_gf h a 7 1) st h r := ev_getf iX7_run_126 (by decide +kernel)
theorem iX7_run_129 : mn_ins 77 129 = some (7, false, .getfield 133, 3) := by decide +kernel
theorem eX7_run_129 : Ev 77 129 (ls) (.ref a :: st) h r ↔ Evk 77 132 ls (mn_gf h a 6 7) st h r := ev_getf iX7_run_129 (by decide +kernel)
theorem iX7_run_132 : mn_ins 77 132 = some (7, false, .iload_n 2, 1) := by decide +kernel
theorem eX7_run_132 : Ev 77 132 (a0 :: a1 :: some (.int x) :: ls) (st) h r ↔ Ev 77 133 (a0 :: a1 :: some (.int x) :: ls) (.int x :: st) h r := ev_iload_n iX7_run_132 rfl
theorem iX7_run_133 : mn_ins 77 133 = some (7, false, .isub, 1) := by decide +kernel
theorem eX7_run_133 : Ev 77 133 (ls) (.int y :: .int x :: st) h r ↔ Ev 77 134 (ls) (.int (x - y) :: st) h r := ev_isub iX7_run_133
theorem iX7_run_134 : mn_ins 77 134 = some (7, false, .ireturn, 1) := by decide +kernel
theorem eX7_run_134 : Ev 77 134 (ls) [.int x] h r ↔ r = (h, .inl (some (.int x))) := ev_iret iX7_run_134 (X := mnI_X7_run) rfl rfl
theorem iX7_task_0 : mn_ins 78 0 = some (7, false, .aload_n 0, 1) := by decide +kernel
theorem eX7_task_0 : Ev 78 0 (some (.ref a) :: ls) (st) h r ↔ Ev 78 1 (some (.ref a) :: ls) (.ref a :: st) h r := ev_aload_n iX7_task_0 rfl rfl
theorem iX7_task_1 : mn_ins 78 1 = some (7, false, .getfield 21, 3) := by decide +kernel
theorem eX7_task_1 : Ev 78 1 (ls) (.ref a :: st) h r ↔ Evk 78 4 ls (mn_gf h a 7 1) st h r := ev_getf iX7_task_1 (by decide +kernel)
theorem iX7_task_4 : mn_ins 78 4 = some (7, false, .iload_n 1, 1) := by decide +kernel
theorem eX7_task_4 : Ev 78 4 (a0 :: some (.int x) :: ls) (st) h r ↔ Ev 78 5 (a0 :: some (.int x) :: ls) (.int x :: st) h r := ev_iload_n iX7_task_4 rfl
theorem iX7_task_5 : mn_ins 78 5 = some (7, false, .invokevirtual 107, 3) := by decide +kernel
theorem eX7_task_5 : Ev 78 5 (ls) (.int x0 :: .ref b :: st) h r ↔ Evr true (decide (mn_cats st ≤ 8) && mn_isc h b 6) 78 5 ls st h.2.2.1 h.2.2.2 (Cl 47 (.ref b :: [.int x0]) h.1 h.2.1) r := Ev_V (As := [.int x0]) iX7_task_5 (by decide +kernel) (x := mnI_X7_task) (x2 := mnI_X6_hasTask) rfl rfl rfl (by decide +kernel) (Nat.le_of_ble_eq_true rfl) rfl
theorem iX7_task_8 : mn_ins 78 8 = some (7, false, .ifCond .ne 13, 3) := by decide +kernel
theorem eX7_task_8 : Ev 78 8 (ls) (.int x :: st) h r ↔ if x = nI 0 then Ev 78 11 (ls) (st) h r else Ev 78 21 (ls) (st) h r := ev_ifne iX7_task_8 (by decide)
theorem iX7_task_11 : mn_ins 78 11 = some (7, false, .new 143, 3) := by decide +kernel
theorem eX7_task_11 : Ev 78 11 (ls) [] h r ↔ r = ((h.1, none, h.2.2.1 + 1, h.2.2.2 + 6), .inr 2) := Ev_E iX7_task_11 rfl (x := mnI_X7_task) rfl rfl
theorem iX7_task_14 : mn_ins 78 14 = some (7, false, .dup, 1) := by decide +kernel
theorem eX7_task_14 : Ev 78 14 (ls) (.ref a :: st) h r ↔ Ev 78 15 (ls) (.ref a :: .ref a :: st) h r := ev_dup iX7_task_14 rfl
theorem iX7_task_21 : mn_ins 78 21 = some (7, false, .aload_n 0, 1) := by decide +kernel
theorem eX7_task_21 : Ev 78 21 (some (.ref a) :: ls) (st) h r ↔ Ev 78 22 (some (.ref a) :: ls) (.ref a :: st) h r := ev_aload_n iX7_task_21 rfl rfl
theorem iX7_task_22 : mn_ins 78 22 = some (7, false, .getfield 21, 3) := by decide +kernel
theorem eX7_task_22 : Ev 78 22 (ls) (.ref a :: st) h r ↔ Evk 78 25 ls (mn_gf h a 7 1) st h r := ev_getf iX7_task_22 (by decide +kernel)
theorem iX7_task_25 : mn_ins 78 25 = some (7, false, .getfield 115, 3) := by decide +kernel
theorem eX7_task_25 : Ev 78 25 (ls) (.ref a :: st) h r ↔ Evk 78 28 ls (mn_gf h a 6 1) st h r := ev_getf iX7_task_25 (by decide +kernel)
theorem iX7_task_28 : mn_ins 78 28 = some (7, false, .iload_n 1, 1) := by decide +kernel
theorem eX7_task_28 : Ev 78 28 (a0 :: some (.int x) :: ls) (st) h r ↔ Ev 78 29 (a0 :: some (.int x) :: ls) (.int x :: st) h r := ev_iload_n iX7_task_28 rfl
theorem iX7_task_29 : mn_ins 78 29 = some (7, false, .aaload, 1) := by decide +kernel
theorem eX7_task_29 : Ev 78 29 (ls) (.int x :: .ref a :: st) h r ↔ Evk 78 30 ls (mn_aq h a x) st h r := ev_aald iX7_task_29
theorem iX7_task_30 : mn_ins 78 30 = some (7, false, .astore_n 3, 1) := by decide +kernel
theorem eX7_task_30 : Ev 78 30 (a0 :: a1 :: a2 :: a3 :: ls) (.ref a :: st) h r ↔ Ev 78 31 (a0 :: a1 :: mn_k a2 :: some (.ref a) :: ls) (st) h r := ev_astore_n iX7_task_30 (by show 3 < _; simp only [List.length_cons]; omega) rfl
theorem eX7_task_30n : Ev 78 30 (a0 :: a1 :: a2 :: a3 :: ls) (.null :: st) h r ↔ Ev 78 31 (a0 :: a1 :: mn_k a2 :: some (.null) :: ls) (st) h r := ev_astore_n iX7_task_30 (by show 3 < _; simp only [List.length_cons]; omega) rfl
theorem eX7_task_30t : Ev 78 30 (a0 :: a1 :: a2 :: a3 :: ls) (tkv o1 :: st) h r ↔ Ev 78 31 (a0 :: a1 :: mn_k a2 :: some (tkv o1) :: ls) (st) h r := ev_astore_n iX7_task_30 (by show 3 < _; simp only [List.length_cons]; omega) tkv_r
theorem eX7_task_30s : Ev 78 30 (a0 :: a1 :: a2 :: a3 :: ls) (sgv o1 :: st) h r ↔ Ev 78 31 (a0 :: a1 :: mn_k a2 :: some (sgv o1) :: ls) (st) h r := ev_astore_n iX7_task_30 (by show 3 < _; simp only [List.length_cons]; omega) sgv_r
theorem eX7_task_30c : Ev 78 30 (a0 :: a1 :: a2 :: a3 :: ls) (cdv o1 :: st) h r ↔ Ev 78 31 (a0 :: a1 :: mn_k a2 :: some (cdv o1) :: ls) (st) h r := ev_astore_n iX7_task_30 (by show 3 < _; simp only [List.length_cons]; omega) cdv_r
theorem iX7_task_31 : mn_ins 78 31 = some (7, false, .iload_n 2, 1) := by decide +kernel
theorem eX7_task_31 : Ev 78 31 (a0 :: a1 :: some (.int x) :: ls) (st) h r ↔ Ev 78 32 (a0 :: a1 :: some (.int x) :: ls) (.int x :: st) h r := ev_iload_n iX7_task_31 rfl
theorem iX7_task_32 : mn_ins 78 32 = some (7, false, .tableswitch 75 0 4 #[36, 41, 46, 65, 70], 36) := by decide +kernel
theorem eX7_task_32_c0 : Ev 78 32 (ls) (.int (nI 0) :: st) h r ↔ Ev 78 68 (ls) (st) h r := ev_tsIn iX7_task_32 (by decide) (off := 36) (by decide) (by decide)
theorem eX7_task_32_c1 : Ev 78 32 (ls) (.int (nI 1) :: st) h r ↔ Ev 78 73 (ls) (st) h r := ev_tsIn iX7_task_32 (by decide) (off := 41) (by decide) (by decide)
theorem eX7_task_32_c2 : Ev 78 32 (ls) (.int (nI 2) :: st) h r ↔ Ev 78 78 (ls) (st) h r := ev_tsIn iX7_task_32 (by decide) (off := 46) (by decide) (by decide)
theorem eX7_task_32_c3 : Ev 78 32 (ls) (.int (nI 3) :: st) h r ↔ Ev 78 97 (ls) (st) h r := ev_tsIn iX7_task_32 (by decide) (off := 65) (by decide) (by decide)
theorem eX7_task_32_c4 : Ev 78 32 (ls) (.int (nI 4) :: st) h r ↔ Ev 78 102 (ls) (st) h r := ev_tsIn iX7_task_32 (by decide) (off := 70) (by decide) (by decide)
theorem eX7_task_32_c5 : Ev 78 32 (ls) (.int (nI 5) :: st) h r ↔ Ev 78 107 (ls) (st) h r := ev_tsOut iX7_task_32 (by decide) (by decide)
theorem eX7_task_32_c6 : Ev 78 32 (ls) (.int (nI 6) :: st) h r ↔ Ev 78 107 (ls) (st) h r := ev_tsOut iX7_task_32 (by decide) (by decide)
theorem eX7_task_32_c7 : Ev 78 32 (ls) (.int (nI 7) :: st) h r ↔ Ev 78 107 (ls) (st) h r := ev_tsOut iX7_task_32 (by decide) (by decide)
theorem eX7_task_32_c8 : Ev 78 32 (ls) (.int (nI 8) :: st) h r ↔ Ev 78 107 (ls) (st) h r := ev_tsOut iX7_task_32 (by decide) (by decide)
theorem eX7_task_32_c9 : Ev 78 32 (ls) (.int (nI 9) :: st) h r ↔ Ev 78 107 (ls) (st) h r := ev_tsOut iX7_task_32 (by decide) (by decide)
theorem eX7_task_32_c10 : Ev 78 32 (ls) (.int (nI 10) :: st) h r ↔ Ev 78 107 (ls) (st) h r := ev_tsOut iX7_task_32 (by decide) (by decide)
theorem eX7_task_32_c11 : Ev 78 32 (ls) (.int (nI 11) :: st) h r ↔ Ev 78 107 (ls) (st) h r := ev_tsOut iX7_task_32 (by decide) (by decide)
theorem eX7_task_32_c12 : Ev 78 32 (ls) (.int (nI 12) :: st) h r ↔ Ev 78 107 (ls) (st) h r := ev_tsOut iX7_task_32 (by decide) (by decide)
theorem eX7_task_32_c13 : Ev 78 32 (ls) (.int (nI 13) :: st) h r ↔ Ev 78 107 (ls) (st) h r := ev_tsOut iX7_task_32 (by decide) (by decide)
theorem eX7_task_32_c14 : Ev 78 32 (ls) (.int (nI 14) :: st) h r ↔ Ev 78 107 (ls) (st) h r := ev_tsOut iX7_task_32 (by decide) (by decide)
theorem eX7_task_32_c15 : Ev 78 32 (ls) (.int (nI 15) :: st) h r ↔ Ev 78 107 (ls) (st) h r := ev_tsOut iX7_task_32 (by decide) (by decide)
theorem eX7_task_32_c16 : Ev 78 32 (ls) (.int (nI 16) :: st) h r ↔ Ev 78 107 (ls) (st) h r := ev_tsOut iX7_task_32 (by decide) (by decide)
theorem eX7_task_32_c17 : Ev 78 32 (ls) (.int (nI 17) :: st) h r ↔ Ev 78 107 (ls) (st) h r := ev_tsOut iX7_task_32 (by decide) (by decide)
theorem eX7_task_32_c18 : Ev 78 32 (ls) (.int (nI 18) :: st) h r ↔ Ev 78 107 (ls) (st) h r := ev_tsOut iX7_task_32 (by decide) (by decide)
theorem eX7_task_32_c19 : Ev 78 32 (ls) (.int (nI 19) :: st) h r ↔ Ev 78 107 (ls) (st) h r := ev_tsOut iX7_task_32 (by decide) (by decide)
theorem eX7_task_32_d (hx : x.toInt < 0 ∨ 4 < x.toInt) : Ev 78 32 (ls) (.int x :: st) h r ↔ Ev 78 107 (ls) (st) h r := ev_tsOut iX7_task_32 hx (by decide)
theorem iX7_task_68 : mn_ins 78 68 = some (7, false, .aload_n 3, 1) := by decide +kernel
theorem eX7_task_68 : Ev 78 68 (a0 :: a1 :: a2 :: some (.ref a) :: ls) (st) h r ↔ Ev 78 69 (a0 :: a1 :: a2 :: some (.ref a) :: ls) (.ref a :: st) h r := ev_aload_n iX7_task_68 rfl rfl
theorem eX7_task_68n : Ev 78 68 (a0 :: a1 :: a2 :: some (.null) :: ls) (st) h r ↔ Ev 78 69 (a0 :: a1 :: a2 :: some (.null) :: ls) (.null :: st) h r := ev_aload_n iX7_task_68 rfl rfl
theorem eX7_task_68t : Ev 78 68 (a0 :: a1 :: a2 :: some (tkv o1) :: ls) (st) h r ↔ Ev 78 69 (a0 :: a1 :: a2 :: some (tkv o1) :: ls) (tkv o1 :: st) h r := ev_aload_n iX7_task_68 rfl tkv_r
theorem eX7_task_68s : Ev 78 68 (a0 :: a1 :: a2 :: some (sgv o1) :: ls) (st) h r ↔ Ev 78 69 (a0 :: a1 :: a2 :: some (sgv o1) :: ls) (sgv o1 :: st) h r := ev_aload_n iX7_task_68 rfl sgv_r
theorem eX7_task_68c : Ev 78 68 (a0 :: a1 :: a2 :: some (cdv o1) :: ls) (st) h r ↔ Ev 78 69 (a0 :: a1 :: a2 :: some (cdv o1) :: ls) (cdv o1 :: st) h r := ev_aload_n iX7_task_68 rfl cdv_r
theorem iX7_task_69 : mn_ins 78 69 = some (7, false, .getfield 119, 3) := by decide +kernel
theorem eX7_task_69 : Ev 78 69 (ls) (.ref a :: st) h r ↔ Evk 78 72 ls (mn_gf h a 5 4) st h r := ev_getf iX7_task_69 (by decide +kernel)
theorem iX7_task_72 : mn_ins 78 72 = some (7, false, .ireturn, 1) := by decide +kernel
theorem eX7_task_72 : Ev 78 72 (ls) [.int x] h r ↔ r = (h, .inl (some (.int x))) := ev_iret iX7_task_72 (X := mnI_X7_task) rfl rfl
theorem iX7_task_73 : mn_ins 78 73 = some (7, false, .aload_n 3, 1) := by decide +kernel
theorem eX7_task_73 : Ev 78 73 (a0 :: a1 :: a2 :: some (.ref a) :: ls) (st) h r ↔ Ev 78 74 (a0 :: a1 :: a2 :: some (.ref a) :: ls) (.ref a :: st) h r := ev_aload_n iX7_task_73 rfl rfl
theorem eX7_task_73n : Ev 78 73 (a0 :: a1 :: a2 :: some (.null) :: ls) (st) h r ↔ Ev 78 74 (a0 :: a1 :: a2 :: some (.null) :: ls) (.null :: st) h r := ev_aload_n iX7_task_73 rfl rfl
theorem eX7_task_73t : Ev 78 73 (a0 :: a1 :: a2 :: some (tkv o1) :: ls) (st) h r ↔ Ev 78 74 (a0 :: a1 :: a2 :: some (tkv o1) :: ls) (tkv o1 :: st) h r := ev_aload_n iX7_task_73 rfl tkv_r
theorem eX7_task_73s : Ev 78 73 (a0 :: a1 :: a2 :: some (sgv o1) :: ls) (st) h r ↔ Ev 78 74 (a0 :: a1 :: a2 :: some (sgv o1) :: ls) (sgv o1 :: st) h r := ev_aload_n iX7_task_73 rfl sgv_r
theorem eX7_task_73c : Ev 78 73 (a0 :: a1 :: a2 :: some (cdv o1) :: ls) (st) h r ↔ Ev 78 74 (a0 :: a1 :: a2 :: some (cdv o1) :: ls) (cdv o1 :: st) h r := ev_aload_n iX7_task_73 rfl cdv_r
theorem iX7_task_74 : mn_ins 78 74 = some (7, false, .getfield 148, 3) := by decide +kernel
theorem eX7_task_74 : Ev 78 74 (ls) (.ref a :: st) h r ↔ Evk 78 77 ls (mn_gf h a 5 5) st h r := ev_getf iX7_task_74 (by decide +kernel)
theorem iX7_task_77 : mn_ins 78 77 = some (7, false, .ireturn, 1) := by decide +kernel
theorem eX7_task_77 : Ev 78 77 (ls) [.int x] h r ↔ r = (h, .inl (some (.int x))) := ev_iret iX7_task_77 (X := mnI_X7_task) rfl rfl
theorem iX7_task_78 : mn_ins 78 78 = some (7, false, .aload_n 3, 1) := by decide +kernel
theorem eX7_task_78 : Ev 78 78 (a0 :: a1 :: a2 :: some (.ref a) :: ls) (st) h r ↔ Ev 78 79 (a0 :: a1 :: a2 :: some (.ref a) :: ls) (.ref a :: st) h r := ev_aload_n iX7_task_78 rfl rfl
theorem eX7_task_78n : Ev 78 78 (a0 :: a1 :: a2 :: some (.null) :: ls) (st) h r ↔ Ev 78 79 (a0 :: a1 :: a2 :: some (.null) :: ls) (.null :: st) h r := ev_aload_n iX7_task_78 rfl rfl
theorem eX7_task_78t : Ev 78 78 (a0 :: a1 :: a2 :: some (tkv o1) :: ls) (st) h r ↔ Ev 78 79 (a0 :: a1 :: a2 :: some (tkv o1) :: ls) (tkv o1 :: st) h r := ev_aload_n iX7_task_78 rfl tkv_r
theorem eX7_task_78s : Ev 78 78 (a0 :: a1 :: a2 :: some (sgv o1) :: ls) (st) h r ↔ Ev 78 79 (a0 :: a1 :: a2 :: some (sgv o1) :: ls) (sgv o1 :: st) h r := ev_aload_n iX7_task_78 rfl sgv_r
theorem eX7_task_78c : Ev 78 78 (a0 :: a1 :: a2 :: some (cdv o1) :: ls) (st) h r ↔ Ev 78 79 (a0 :: a1 :: a2 :: some (cdv o1) :: ls) (cdv o1 :: st) h r := ev_aload_n iX7_task_78 rfl cdv_r
theorem iX7_task_79 : mn_ins 78 79 = some (7, false, .getfield 151, 3) := by decide +kernel
theorem eX7_task_79 : Ev 78 79 (ls) (.ref a :: st) h r ↔ Evk 78 82 ls (mn_gf h a 5 8) st h r := ev_getf iX7_task_79 (by decide +kernel)
theorem iX7_task_82 : mn_ins 78 82 = some (7, false, .ifnonnull 7, 3) := by decide +kernel
theorem eX7_task_82 : Ev 78 82 (ls) (va_rf o1 :: st) h r ↔ if o1 = none then Ev 78 85 (ls) (st) h r else Ev 78 89 (ls) (st) h r := ev_ifnonnull iX7_task_82 (by decide) (mr_rf _)
theorem eX7_task_82r : Ev 78 82 (ls) (.ref a :: st) h r ↔ Ev 78 89 (ls) (st) h r := (ev_ifnonnull (t := 89) (w := .ref a) (x := some a) iX7_task_82 (by decide) rfl).trans (by rw [if_neg (by simp)])
theorem eX7_task_82n : Ev 78 82 (ls) (.null :: st) h r ↔ Ev 78 85 (ls) (st) h r := (ev_ifnonnull (t := 89) (w := .null) (x := none) iX7_task_82 (by decide) rfl).trans (by rw [if_pos rfl])
theorem iX7_task_85 : mn_ins 78 85 = some (7, false, .iconst (-1), 1) := by decide +kernel
theorem eX7_task_85 : Ev 78 85 (ls) (st) h r ↔ Ev 78 86 (ls) (.int (-1) :: st) h r := ev_iconst iX7_task_85 (by decide)
theorem iX7_task_86 : mn_ins 78 86 = some (7, false, .goto 10, 3) := by decide +kernel
theorem eX7_task_86 : Ev 78 86 (ls) (st) h r ↔ Ev 78 96 (ls) (st) h r := ev_goto iX7_task_86 (by decide)
theorem iX7_task_89 : mn_ins 78 89 = some (7, false, .aload_n 3, 1) := by decide +kernel
theorem eX7_task_89 : Ev 78 89 (a0 :: a1 :: a2 :: some (.ref a) :: ls) (st) h r ↔ Ev 78 90 (a0 :: a1 :: a2 :: some (.ref a) :: ls) (.ref a :: st) h r := ev_aload_n iX7_task_89 rfl rfl
theorem eX7_task_89n : Ev 78 89 (a0 :: a1 :: a2 :: some (.null) :: ls) (st) h r ↔ Ev 78 90 (a0 :: a1 :: a2 :: some (.null) :: ls) (.null :: st) h r := ev_aload_n iX7_task_89 rfl rfl
theorem eX7_task_89t : Ev 78 89 (a0 :: a1 :: a2 :: some (tkv o1) :: ls) (st) h r ↔ Ev 78 90 (a0 :: a1 :: a2 :: some (tkv o1) :: ls) (tkv o1 :: st) h r := ev_aload_n iX7_task_89 rfl tkv_r
theorem eX7_task_89s : Ev 78 89 (a0 :: a1 :: a2 :: some (sgv o1) :: ls) (st) h r ↔ Ev 78 90 (a0 :: a1 :: a2 :: some (sgv o1) :: ls) (sgv o1 :: st) h r := ev_aload_n iX7_task_89 rfl sgv_r
theorem eX7_task_89c : Ev 78 89 (a0 :: a1 :: a2 :: some (cdv o1) :: ls) (st) h r ↔ Ev 78 90 (a0 :: a1 :: a2 :: some (cdv o1) :: ls) (cdv o1 :: st) h r := ev_aload_n iX7_task_89 rfl cdv_r
theorem iX7_task_90 : mn_ins 78 90 = some (7, false, .getfield 151, 3) := by decide +kernel
theorem eX7_task_90 : Ev 78 90 (ls) (.ref a :: st) h r ↔ Evk 78 93 ls (mn_gf h a 5 8) st h r := ev_getf iX7_task_90 (by decide +kernel)
theorem iX7_task_93 : mn_ins 78 93 = some (7, false, .getfield 155, 3) := by decide +kernel
theorem eX7_task_93 : Ev 78 93 (ls) (.ref a :: st) h r ↔ Evk 78 96 ls (mn_gf h a 5 0) st h r := ev_getf iX7_task_93 (by decide +kernel)
theorem iX7_task_96 : mn_ins 78 96 = some (7, false, .ireturn, 1) := by decide +kernel
theorem eX7_task_96 : Ev 78 96 (ls) [.int x] h r ↔ r = (h, .inl (some (.int x))) := ev_iret iX7_task_96 (X := mnI_X7_task) rfl rfl
theorem iX7_task_97 : mn_ins 78 97 = some (7, false, .aload_n 3, 1) := by decide +kernel
theorem eX7_task_97 : Ev 78 97 (a0 :: a1 :: a2 :: some (.ref a) :: ls) (st) h r ↔ Ev 78 98 (a0 :: a1 :: a2 :: some (.ref a) :: ls) (.ref a :: st) h r := ev_aload_n iX7_task_97 rfl rfl
theorem eX7_task_97n : Ev 78 97 (a0 :: a1 :: a2 :: some (.null) :: ls) (st) h r ↔ Ev 78 98 (a0 :: a1 :: a2 :: some (.null) :: ls) (.null :: st) h r := ev_aload_n iX7_task_97 rfl rfl
theorem eX7_task_97t : Ev 78 97 (a0 :: a1 :: a2 :: some (tkv o1) :: ls) (st) h r ↔ Ev 78 98 (a0 :: a1 :: a2 :: some (tkv o1) :: ls) (tkv o1 :: st) h r := ev_aload_n iX7_task_97 rfl tkv_r
theorem eX7_task_97s : Ev 78 97 (a0 :: a1 :: a2 :: some (sgv o1) :: ls) (st) h r ↔ Ev 78 98 (a0 :: a1 :: a2 :: some (sgv o1) :: ls) (sgv o1 :: st) h r := ev_aload_n iX7_task_97 rfl sgv_r
theorem eX7_task_97c : Ev 78 97 (a0 :: a1 :: a2 :: some (cdv o1) :: ls) (st) h r ↔ Ev 78 98 (a0 :: a1 :: a2 :: some (cdv o1) :: ls) (cdv o1 :: st) h r := ev_aload_n iX7_task_97 rfl cdv_r
theorem iX7_task_98 : mn_ins 78 98 = some (7, false, .getfield 158, 3) := by decide +kernel
theorem eX7_task_98 : Ev 78 98 (ls) (.ref a :: st) h r ↔ Evk 78 101 ls (mn_gf h a 5 6) st h r := ev_getf iX7_task_98 (by decide +kernel)
theorem iX7_task_101 : mn_ins 78 101 = some (7, false, .ireturn, 1) := by decide +kernel
theorem eX7_task_101 : Ev 78 101 (ls) [.int x] h r ↔ r = (h, .inl (some (.int x))) := ev_iret iX7_task_101 (X := mnI_X7_task) rfl rfl
theorem iX7_task_102 : mn_ins 78 102 = some (7, false, .aload_n 3, 1) := by decide +kernel
theorem eX7_task_102 : Ev 78 102 (a0 :: a1 :: a2 :: some (.ref a) :: ls) (st) h r ↔ Ev 78 103 (a0 :: a1 :: a2 :: some (.ref a) :: ls) (.ref a :: st) h r := ev_aload_n iX7_task_102 rfl rfl
theorem eX7_task_102n : Ev 78 102 (a0 :: a1 :: a2 :: some (.null) :: ls) (st) h r ↔ Ev 78 103 (a0 :: a1 :: a2 :: some (.null) :: ls) (.null :: st) h r := ev_aload_n iX7_task_102 rfl rfl
theorem eX7_task_102t : Ev 78 102 (a0 :: a1 :: a2 :: some (tkv o1) :: ls) (st) h r ↔ Ev 78 103 (a0 :: a1 :: a2 :: some (tkv o1) :: ls) (tkv o1 :: st) h r := ev_aload_n iX7_task_102 rfl tkv_r
theorem eX7_task_102s : Ev 78 102 (a0 :: a1 :: a2 :: some (sgv o1) :: ls) (st) h r ↔ Ev 78 103 (a0 :: a1 :: a2 :: some (sgv o1) :: ls) (sgv o1 :: st) h r := ev_aload_n iX7_task_102 rfl sgv_r
theorem eX7_task_102c : Ev 78 102 (a0 :: a1 :: a2 :: some (cdv o1) :: ls) (st) h r ↔ Ev 78 103 (a0 :: a1 :: a2 :: some (cdv o1) :: ls) (cdv o1 :: st) h r := ev_aload_n iX7_task_102 rfl cdv_r
theorem iX7_task_103 : mn_ins 78 103 = some (7, false, .getfield 159, 3) := by decide +kernel
theorem eX7_task_103 : Ev 78 103 (ls) (.ref a :: st) h r ↔ Evk 78 106 ls (mn_gf h a 5 3) st h r := ev_getf iX7_task_103 (by decide +kernel)
theorem iX7_task_106 : mn_ins 78 106 = some (7, false, .ireturn, 1) := by decide +kernel
theorem eX7_task_106 : Ev 78 106 (ls) [.int x] h r ↔ r = (h, .inl (some (.int x))) := ev_iret iX7_task_106 (X := mnI_X7_task) rfl rfl
theorem iX7_task_107 : mn_ins 78 107 = some (7, false, .new 51, 3) := by decide +kernel
theorem eX7_task_107 : Ev 78 107 (ls) [] h r ↔ r = ((h.1, none, h.2.2.1 + 1, h.2.2.2 + 6), .inr 1) := Ev_E iX7_task_107 rfl (x := mnI_X7_task) rfl rfl
theorem iX7_task_110 : mn_ins 78 110 = some (7, false, .dup, 1) := by decide +kernel
theorem eX7_task_110 : Ev 78 110 (ls) (.ref a :: st) h r ↔ Ev 78 111 (ls) (.ref a :: .ref a :: st) h r := ev_dup iX7_task_110 rfl
theorem iX7_tasks_0 : mn_ins 79 0 = some (7, false, .aload_n 0, 1) := by decide +kernel
theorem eX7_tasks_0 : Ev 79 0 (some (.ref a) :: ls) (st) h r ↔ Ev 79 1 (some (.ref a) :: ls) (.ref a :: st) h r := ev_aload_n iX7_tasks_0 rfl rfl
theorem iX7_tasks_1 : mn_ins 79 1 = some (7, false, .getfield 21, 3) := by decide +kernel
theorem eX7_tasks_1 : Ev 79 1 (ls) (.ref a :: st) h r ↔ Evk 79 4 ls (mn_gf h a 7 1) st h r := ev_getf iX7_tasks_1 (by decide +kernel)
theorem iX7_tasks_4 : mn_ins 79 4 = some (7, false, .getfield 164, 3) := by decide +kernel
theorem eX7_tasks_4 : Ev 79 4 (ls) (.ref a :: st) h r ↔ Evk 79 7 ls (mn_gf h a 6 5) st h r := ev_getf iX7_tasks_4 (by decide +kernel)
theorem iX7_tasks_7 : mn_ins 79 7 = some (7, false, .ireturn, 1) := by decide +kernel
theorem eX7_tasks_7 : Ev 79 7 (ls) [.int x] h r ↔ r = (h, .inl (some (.int x))) := ev_iret iX7_tasks_7 (X := mnI_X7_tasks) rfl rfl
theorem iX7_read_0 : mn_ins 80 0 = some (7, false, .aload_n 0, 1) := by decide +kernel
theorem eX7_read_0 : Ev 80 0 (some (.ref a) :: ls) (st) h r ↔ Ev 80 1 (some (.ref a) :: ls) (.ref a :: st) h r := ev_aload_n iX7_read_0 rfl rfl
theorem iX7_read_1 : mn_ins 80 1 = some (7, false, .getfield 21, 3) := by decide +kernel
theorem eX7_read_1 : Ev 80 1 (ls) (.ref a :: st) h r ↔ Evk 80 4 ls (mn_gf h a 7 1) st h r := ev_getf iX7_read_1 (by decide +kernel)
theorem iX7_read_4 : mn_ins 80 4 = some (7, false, .iload_n 1, 1) := by decide +kernel
theorem eX7_read_4 : Ev 80 4 (a0 :: some (.int x) :: ls) (st) h r ↔ Ev 80 5 (a0 :: some (.int x) :: ls) (.int x :: st) h r := ev_iload_n iX7_read_4 rfl
theorem iX7_read_5 : mn_ins 80 5 = some (7, false, .invokevirtual 167, 3) := by decide +kernel
theorem eX7_read_5 : Ev 80 5 (ls) (.int x0 :: .ref b :: st) h r ↔ Evr true (decide (mn_cats st ≤ 8) && mn_isc h b 6) 80 5 ls st h.2.2.1 h.2.2.2 (Cl 48 (.ref b :: [.int x0]) h.1 h.2.1) r := Ev_V (As := [.int x0]) iX7_read_5 (by decide +kernel) (x := mnI_X7_read) (x2 := mnI_X6_hasUnjoinedTask) rfl rfl rfl (by decide +kernel) (Nat.le_of_ble_eq_true rfl) rfl
theorem iX7_read_8 : mn_ins 80 8 = some (7, false, .ifCond .ne 13, 3) := by decide +kernel
theorem eX7_read_8 : Ev 80 8 (ls) (.int x :: st) h r ↔ if x = nI 0 then Ev 80 11 (ls) (st) h r else Ev 80 21 (ls) (st) h r := ev_ifne iX7_read_8 (by decide)
theorem iX7_read_11 : mn_ins 80 11 = some (7, false, .new 143, 3) := by decide +kernel
theorem eX7_read_11 : Ev 80 11 (ls) [] h r ↔ r = ((h.1, none, h.2.2.1 + 1, h.2.2.2 + 6), .inr 2) := Ev_E iX7_read_11 rfl (x := mnI_X7_read) rfl rfl
theorem iX7_read_14 : mn_ins 80 14 = some (7, false, .dup, 1) := by decide +kernel
theorem eX7_read_14 : Ev 80 14 (ls) (.ref a :: st) h r ↔ Ev 80 15 (ls) (.ref a :: .ref a :: st) h r := ev_dup iX7_read_14 rfl
theorem iX7_read_21 : mn_ins 80 21 = some (7, false, .iload_n 2, 1) := by decide +kernel
theorem eX7_read_21 : Ev 80 21 (a0 :: a1 :: some (.int x) :: ls) (st) h r ↔ Ev 80 22 (a0 :: a1 :: some (.int x) :: ls) (.int x :: st) h r := ev_iload_n iX7_read_21 rfl
theorem iX7_read_22 : mn_ins 80 22 = some (7, false, .bipush 12, 2) := by decide +kernel
theorem eX7_read_22 : Ev 80 22 (ls) (st) h r ↔ Ev 80 24 (ls) (.int (nI 12) :: st) h r := ev_bipush iX7_read_22 (by decide)
theorem iX7_read_24 : mn_ins 80 24 = some (7, false, .invokestatic 47, 3) := by decide +kernel
theorem eX7_read_24 : Ev 80 24 (ls) (.int x1 :: .int x0 :: st) h r ↔ Evr false (decide (mn_cats st ≤ 8)) 80 24 ls st h.2.2.1 h.2.2.2 (Cl 83 [.int x0, .int x1] h.1 h.2.1) r := Ev_T (As := [.int x0, .int x1]) (q := 1) iX7_read_24 (by decide +kernel) (by decide) (x := mnI_X7_read) (x2 := mnI_X7_isWithin) rfl rfl rfl (by decide +kernel) (Nat.le_of_ble_eq_true rfl) rfl
theorem iX7_read_27 : mn_ins 80 27 = some (7, false, .ifCond .ne 13, 3) := by decide +kernel
theorem eX7_read_27 : Ev 80 27 (ls) (.int x :: st) h r ↔ if x = nI 0 then Ev 80 30 (ls) (st) h r else Ev 80 40 (ls) (st) h r := ev_ifne iX7_read_27 (by decide)
theorem iX7_read_30 : mn_ins 80 30 = some (7, false, .new 51, 3) := by decide +kernel
theorem eX7_read_30 : Ev 80 30 (ls) [] h r ↔ r = ((h.1, none, h.2.2.1 + 1, h.2.2.2 + 6), .inr 1) := Ev_E iX7_read_30 rfl (x := mnI_X7_read) rfl rfl
theorem iX7_read_33 : mn_ins 80 33 = some (7, false, .dup, 1) := by decide +kernel
theorem eX7_read_33 : Ev 80 33 (ls) (.ref a :: st) h r ↔ Ev 80 34 (ls) (.ref a :: .ref a :: st) h r := ev_dup iX7_read_33 rfl
theorem iX7_read_40 : mn_ins 80 40 = some (7, false, .aload_n 0, 1) := by decide +kernel
theorem eX7_read_40 : Ev 80 40 (some (.ref a) :: ls) (st) h r ↔ Ev 80 41 (some (.ref a) :: ls) (.ref a :: st) h r := ev_aload_n iX7_read_40 rfl rfl
theorem iX7_read_41 : mn_ins 80 41 = some (7, false, .getfield 21, 3) := by decide +kernel
theorem eX7_read_41 : Ev 80 41 (ls) (.ref a :: st) h r ↔ Evk 80 44 ls (mn_gf h a 7 1) st h r := ev_getf iX7_read_41 (by decide +kernel)
theorem iX7_read_44 : mn_ins 80 44 = some (7, false, .getfield 115, 3) := by decide +kernel
theorem eX7_read_44 : Ev 80 44 (ls) (.ref a :: st) h r ↔ Evk 80 47 ls (mn_gf h a 6 1) st h r := ev_getf iX7_read_44 (by decide +kernel)
theorem iX7_read_47 : mn_ins 80 47 = some (7, false, .iload_n 1, 1) := by decide +kernel
theorem eX7_read_47 : Ev 80 47 (a0 :: some (.int x) :: ls) (st) h r ↔ Ev 80 48 (a0 :: some (.int x) :: ls) (.int x :: st) h r := ev_iload_n iX7_read_47 rfl
theorem iX7_read_48 : mn_ins 80 48 = some (7, false, .aaload, 1) := by decide +kernel
theorem eX7_read_48 : Ev 80 48 (ls) (.int x :: .ref a :: st) h r ↔ Evk 80 49 ls (mn_aq h a x) st h r := ev_aald iX7_read_48
theorem iX7_read_49 : mn_ins 80 49 = some (7, false, .getfield 174, 3) := by decide +kernel
theorem eX7_read_49 : Ev 80 49 (ls) (.ref a :: st) h r ↔ Evk 80 52 ls (mn_gf h a 5 11) st h r := ev_getf iX7_read_49 (by decide +kernel)
theorem iX7_read_52 : mn_ins 80 52 = some (7, false, .iload_n 2, 1) := by decide +kernel
theorem eX7_read_52 : Ev 80 52 (a0 :: a1 :: some (.int x) :: ls) (st) h r ↔ Ev 80 53 (a0 :: a1 :: some (.int x) :: ls) (.int x :: st) h r := ev_iload_n iX7_read_52 rfl
theorem iX7_read_53 : mn_ins 80 53 = some (7, false, .invokevirtual 178, 3) := by decide +kernel
theorem eX7_read_53 : Ev 80 53 (ls) (.int x0 :: .ref b :: st) h r ↔ Evr true (decide (mn_cats st ≤ 8) && mn_isc h b 4) 80 53 ls st h.2.2.1 h.2.2.2 (Cl 36 (.ref b :: [.int x0]) h.1 h.2.1) r := Ev_V (As := [.int x0]) iX7_read_53 (by decide +kernel) (x := mnI_X7_read) (x2 := mnI_X4_lookUp) rfl rfl rfl (by decide +kernel) (Nat.le_of_ble_eq_true rfl) rfl
theorem iX7_read_56 : mn_ins 80 56 = some (7, false, .lreturn, 1) := by decide +kernel
theorem eX7_read_56 : Ev 80 56 (ls) [.long u] h r ↔ r = (h, .inl (some (.long u))) := ev_lret iX7_read_56 (X := mnI_X7_read) rfl rfl
theorem iX7_print_0 : mn_ins 81 0 = some (7, false, .aload_n 0, 1) := by decide +kernel
theorem eX7_print_0 : Ev 81 0 (some (.ref a) :: ls) (st) h r ↔ Ev 81 1 (some (.ref a) :: ls) (.ref a :: st) h r := ev_aload_n iX7_print_0 rfl rfl
theorem iX7_print_1 : mn_ins 81 1 = some (7, false, .getfield 21, 3) := by decide +kernel
theorem eX7_print_1 : Ev 81 1 (ls) (.ref a :: st) h r ↔ Evk 81 4 ls (mn_gf h a 7 1) st h r := ev_getf iX7_print_1 (by decide +kernel)
theorem iX7_print_4 : mn_ins 81 4 = some (7, false, .iload_n 1, 1) := by decide +kernel
theorem eX7_print_4 : Ev 81 4 (a0 :: some (.int x) :: ls) (st) h r ↔ Ev 81 5 (a0 :: some (.int x) :: ls) (.int x :: st) h r := ev_iload_n iX7_print_4 rfl
theorem iX7_print_5 : mn_ins 81 5 = some (7, false, .invokevirtual 167, 3) := by decide +kernel
theorem eX7_print_5 : Ev 81 5 (ls) (.int x0 :: .ref b :: st) h r ↔ Evr true (decide (mn_cats st ≤ 8) && mn_isc h b 6) 81 5 ls st h.2.2.1 h.2.2.2 (Cl 48 (.ref b :: [.int x0]) h.1 h.2.1) r := Ev_V (As := [.int x0]) iX7_print_5 (by decide +kernel) (x := mnI_X7_print) (x2 := mnI_X6_hasUnjoinedTask) rfl rfl rfl (by decide +kernel) (Nat.le_of_ble_eq_true rfl) rfl
theorem iX7_print_8 : mn_ins 81 8 = some (7, false, .ifCond .ne 13, 3) := by decide +kernel
theorem eX7_print_8 : Ev 81 8 (ls) (.int x :: st) h r ↔ if x = nI 0 then Ev 81 11 (ls) (st) h r else Ev 81 21 (ls) (st) h r := ev_ifne iX7_print_8 (by decide)
theorem iX7_print_11 : mn_ins 81 11 = some (7, false, .new 143, 3) := by decide +kernel
theorem eX7_print_11 : Ev 81 11 (ls) [] h r ↔ r = ((h.1, none, h.2.2.1 + 1, h.2.2.2 + 6), .inr 2) := Ev_E iX7_print_11 rfl (x := mnI_X7_print) rfl rfl
theorem iX7_print_14 : mn_ins 81 14 = some (7, false, .dup, 1) := by decide +kernel
theorem eX7_print_14 : Ev 81 14 (ls) (.ref a :: st) h r ↔ Ev 81 15 (ls) (.ref a :: .ref a :: st) h r := ev_dup iX7_print_14 rfl
theorem iX7_print_21 : mn_ins 81 21 = some (7, false, .aload_n 0, 1) := by decide +kernel
theorem eX7_print_21 : Ev 81 21 (some (.ref a) :: ls) (st) h r ↔ Ev 81 22 (some (.ref a) :: ls) (.ref a :: st) h r := ev_aload_n iX7_print_21 rfl rfl
theorem iX7_print_22 : mn_ins 81 22 = some (7, false, .getfield 21, 3) := by decide +kernel
theorem eX7_print_22 : Ev 81 22 (ls) (.ref a :: st) h r ↔ Evk 81 25 ls (mn_gf h a 7 1) st h r := ev_getf iX7_print_22 (by decide +kernel)
theorem iX7_print_25 : mn_ins 81 25 = some (7, false, .getfield 115, 3) := by decide +kernel
theorem eX7_print_25 : Ev 81 25 (ls) (.ref a :: st) h r ↔ Evk 81 28 ls (mn_gf h a 6 1) st h r := ev_getf iX7_print_25 (by decide +kernel)
theorem iX7_print_28 : mn_ins 81 28 = some (7, false, .iload_n 1, 1) := by decide +kernel
theorem eX7_print_28 : Ev 81 28 (a0 :: some (.int x) :: ls) (st) h r ↔ Ev 81 29 (a0 :: some (.int x) :: ls) (.int x :: st) h r := ev_iload_n iX7_print_28 rfl
theorem iX7_print_29 : mn_ins 81 29 = some (7, false, .aaload, 1) := by decide +kernel
theorem eX7_print_29 : Ev 81 29 (ls) (.int x :: .ref a :: st) h r ↔ Evk 81 30 ls (mn_aq h a x) st h r := ev_aald iX7_print_29
theorem iX7_print_30 : mn_ins 81 30 = some (7, false, .astore_n 3, 1) := by decide +kernel
theorem eX7_print_30 : Ev 81 30 (a0 :: a1 :: a2 :: a3 :: ls) (.ref a :: st) h r ↔ Ev 81 31 (a0 :: a1 :: mn_k a2 :: some (.ref a) :: ls) (st) h r := ev_astore_n iX7_print_30 (by show 3 < _; simp only [List.length_cons]; omega) rfl
theorem eX7_print_30n : Ev 81 30 (a0 :: a1 :: a2 :: a3 :: ls) (.null :: st) h r ↔ Ev 81 31 (a0 :: a1 :: mn_k a2 :: some (.null) :: ls) (st) h r := ev_astore_n iX7_print_30 (by show 3 < _; simp only [List.length_cons]; omega) rfl
theorem eX7_print_30t : Ev 81 30 (a0 :: a1 :: a2 :: a3 :: ls) (tkv o1 :: st) h r ↔ Ev 81 31 (a0 :: a1 :: mn_k a2 :: some (tkv o1) :: ls) (st) h r := ev_astore_n iX7_print_30 (by show 3 < _; simp only [List.length_cons]; omega) tkv_r
theorem eX7_print_30s : Ev 81 30 (a0 :: a1 :: a2 :: a3 :: ls) (sgv o1 :: st) h r ↔ Ev 81 31 (a0 :: a1 :: mn_k a2 :: some (sgv o1) :: ls) (st) h r := ev_astore_n iX7_print_30 (by show 3 < _; simp only [List.length_cons]; omega) sgv_r
theorem eX7_print_30c : Ev 81 30 (a0 :: a1 :: a2 :: a3 :: ls) (cdv o1 :: st) h r ↔ Ev 81 31 (a0 :: a1 :: mn_k a2 :: some (cdv o1) :: ls) (st) h r := ev_astore_n iX7_print_30 (by show 3 < _; simp only [List.length_cons]; omega) cdv_r
theorem iX7_print_31 : mn_ins 81 31 = some (7, false, .iload_n 2, 1) := by decide +kernel
theorem eX7_print_31 : Ev 81 31 (a0 :: a1 :: some (.int x) :: ls) (st) h r ↔ Ev 81 32 (a0 :: a1 :: some (.int x) :: ls) (.int x :: st) h r := ev_iload_n iX7_print_31 rfl
theorem iX7_print_32 : mn_ins 81 32 = some (7, false, .iconst (-1), 1) := by decide +kernel
theorem eX7_print_32 : Ev 81 32 (ls) (st) h r ↔ Ev 81 33 (ls) (.int (-1) :: st) h r := ev_iconst iX7_print_32 (by decide)
theorem iX7_print_33 : mn_ins 81 33 = some (7, false, .if_icmp .ne 16, 3) := by decide +kernel
theorem eX7_print_33 : Ev 81 33 (ls) (.int y :: .int x :: st) h r ↔ if x = y then Ev 81 36 (ls) (st) h r else Ev 81 49 (ls) (st) h r := ev_cmpne iX7_print_33 (by decide)
theorem iX7_print_36 : mn_ins 81 36 = some (7, false, .aload_n 3, 1) := by decide +kernel
theorem eX7_print_36 : Ev 81 36 (a0 :: a1 :: a2 :: some (.ref a) :: ls) (st) h r ↔ Ev 81 37 (a0 :: a1 :: a2 :: some (.ref a) :: ls) (.ref a :: st) h r := ev_aload_n iX7_print_36 rfl rfl
theorem eX7_print_36n : Ev 81 36 (a0 :: a1 :: a2 :: some (.null) :: ls) (st) h r ↔ Ev 81 37 (a0 :: a1 :: a2 :: some (.null) :: ls) (.null :: st) h r := ev_aload_n iX7_print_36 rfl rfl
theorem eX7_print_36t : Ev 81 36 (a0 :: a1 :: a2 :: some (tkv o1) :: ls) (st) h r ↔ Ev 81 37 (a0 :: a1 :: a2 :: some (tkv o1) :: ls) (tkv o1 :: st) h r := ev_aload_n iX7_print_36 rfl tkv_r
theorem eX7_print_36s : Ev 81 36 (a0 :: a1 :: a2 :: some (sgv o1) :: ls) (st) h r ↔ Ev 81 37 (a0 :: a1 :: a2 :: some (sgv o1) :: ls) (sgv o1 :: st) h r := ev_aload_n iX7_print_36 rfl sgv_r
theorem eX7_print_36c : Ev 81 36 (a0 :: a1 :: a2 :: some (cdv o1) :: ls) (st) h r ↔ Ev 81 37 (a0 :: a1 :: a2 :: some (cdv o1) :: ls) (cdv o1 :: st) h r := ev_aload_n iX7_print_36 rfl cdv_r
theorem iX7_print_37 : mn_ins 81 37 = some (7, false, .getfield 119, 3) := by decide +kernel
theorem eX7_print_37 : Ev 81 37 (ls) (.ref a :: st) h r ↔ Evk 81 40 ls (mn_gf h a 5 4) st h r := ev_getf iX7_print_37 (by decide +kernel)
theorem iX7_print_40 : mn_ins 81 40 = some (7, false, .iconst 1, 1) := by decide +kernel
theorem eX7_print_40 : Ev 81 40 (ls) (st) h r ↔ Ev 81 41 (ls) (.int (nI 1) :: st) h r := ev_iconst iX7_print_40 (by decide)
theorem iX7_print_41 : mn_ins 81 41 = some (7, false, .if_icmp .ne 8, 3) := by decide +kernel
theorem eX7_print_41 : Ev 81 41 (ls) (.int y :: .int x :: st) h r ↔ if x = y then Ev 81 44 (ls) (st) h r else Ev 81 49 (ls) (st) h r := ev_cmpne iX7_print_41 (by decide)
theorem iX7_print_44 : mn_ins 81 44 = some (7, false, .aload_n 3, 1) := by decide +kernel
theorem eX7_print_44 : Ev 81 44 (a0 :: a1 :: a2 :: some (.ref a) :: ls) (st) h r ↔ Ev 81 45 (a0 :: a1 :: a2 :: some (.ref a) :: ls) (.ref a :: st) h r := ev_aload_n iX7_print_44 rfl rfl
theorem eX7_print_44n : Ev 81 44 (a0 :: a1 :: a2 :: some (.null) :: ls) (st) h r ↔ Ev 81 45 (a0 :: a1 :: a2 :: some (.null) :: ls) (.null :: st) h r := ev_aload_n iX7_print_44 rfl rfl
theorem eX7_print_44t : Ev 81 44 (a0 :: a1 :: a2 :: some (tkv o1) :: ls) (st) h r ↔ Ev 81 45 (a0 :: a1 :: a2 :: some (tkv o1) :: ls) (tkv o1 :: st) h r := ev_aload_n iX7_print_44 rfl tkv_r
theorem eX7_print_44s : Ev 81 44 (a0 :: a1 :: a2 :: some (sgv o1) :: ls) (st) h r ↔ Ev 81 45 (a0 :: a1 :: a2 :: some (sgv o1) :: ls) (sgv o1 :: st) h r := ev_aload_n iX7_print_44 rfl sgv_r
theorem eX7_print_44c : Ev 81 44 (a0 :: a1 :: a2 :: some (cdv o1) :: ls) (st) h r ↔ Ev 81 45 (a0 :: a1 :: a2 :: some (cdv o1) :: ls) (cdv o1 :: st) h r := ev_aload_n iX7_print_44 rfl cdv_r
theorem iX7_print_45 : mn_ins 81 45 = some (7, false, .getfield 184, 3) := by decide +kernel
theorem eX7_print_45 : Ev 81 45 (ls) (.ref a :: st) h r ↔ Evk 81 48 ls (mn_gf h a 5 7) st h r := ev_getf iX7_print_45 (by decide +kernel)
theorem iX7_print_48 : mn_ins 81 48 = some (7, false, .lreturn, 1) := by decide +kernel
theorem eX7_print_48 : Ev 81 48 (ls) [.long u] h r ↔ r = (h, .inl (some (.long u))) := ev_lret iX7_print_48 (X := mnI_X7_print) rfl rfl
theorem iX7_print_49 : mn_ins 81 49 = some (7, false, .iload_n 2, 1) := by decide +kernel
theorem eX7_print_49 : Ev 81 49 (a0 :: a1 :: some (.int x) :: ls) (st) h r ↔ Ev 81 50 (a0 :: a1 :: some (.int x) :: ls) (.int x :: st) h r := ev_iload_n iX7_print_49 rfl
theorem iX7_print_50 : mn_ins 81 50 = some (7, false, .aload_n 3, 1) := by decide +kernel
theorem eX7_print_50 : Ev 81 50 (a0 :: a1 :: a2 :: some (.ref a) :: ls) (st) h r ↔ Ev 81 51 (a0 :: a1 :: a2 :: some (.ref a) :: ls) (.ref a :: st) h r := ev_aload_n iX7_print_50 rfl rfl
theorem eX7_print_50n : Ev 81 50 (a0 :: a1 :: a2 :: some (.null) :: ls) (st) h r ↔ Ev 81 51 (a0 :: a1 :: a2 :: some (.null) :: ls) (.null :: st) h r := ev_aload_n iX7_print_50 rfl rfl
theorem eX7_print_50t : Ev 81 50 (a0 :: a1 :: a2 :: some (tkv o1) :: ls) (st) h r ↔ Ev 81 51 (a0 :: a1 :: a2 :: some (tkv o1) :: ls) (tkv o1 :: st) h r := ev_aload_n iX7_print_50 rfl tkv_r
theorem eX7_print_50s : Ev 81 50 (a0 :: a1 :: a2 :: some (sgv o1) :: ls) (st) h r ↔ Ev 81 51 (a0 :: a1 :: a2 :: some (sgv o1) :: ls) (sgv o1 :: st) h r := ev_aload_n iX7_print_50 rfl sgv_r
theorem eX7_print_50c : Ev 81 50 (a0 :: a1 :: a2 :: some (cdv o1) :: ls) (st) h r ↔ Ev 81 51 (a0 :: a1 :: a2 :: some (cdv o1) :: ls) (cdv o1 :: st) h r := ev_aload_n iX7_print_50 rfl cdv_r
theorem iX7_print_51 : mn_ins 81 51 = some (7, false, .getfield 159, 3) := by decide +kernel
theorem eX7_print_51 : Ev 81 51 (ls) (.ref a :: st) h r ↔ Evk 81 54 ls (mn_gf h a 5 3) st h r := ev_getf iX7_print_51 (by decide +kernel)
theorem iX7_print_54 : mn_ins 81 54 = some (7, false, .invokestatic 47, 3) := by decide +kernel
theorem eX7_print_54 : Ev 81 54 (ls) (.int x1 :: .int x0 :: st) h r ↔ Evr false (decide (mn_cats st ≤ 8)) 81 54 ls st h.2.2.1 h.2.2.2 (Cl 83 [.int x0, .int x1] h.1 h.2.1) r := Ev_T (As := [.int x0, .int x1]) (q := 1) iX7_print_54 (by decide +kernel) (by decide) (x := mnI_X7_print) (x2 := mnI_X7_isWithin) rfl rfl rfl (by decide +kernel) (Nat.le_of_ble_eq_true rfl) rfl
theorem iX7_print_57 : mn_ins 81 57 = some (7, false, .ifCond .ne 13, 3) := by decide +kernel
theorem eX7_print_57 : Ev 81 57 (ls) (.int x :: st) h r ↔ if x = nI 0 then Ev 81 60 (ls) (st) h r else Ev 81 70 (ls) (st) h r := ev_ifne iX7_print_57 (by decide)
theorem iX7_print_60 : mn_ins 81 60 = some (7, false, .new 143, 3) := by decide +kernel
theorem eX7_print_60 : Ev 81 60 (ls) [] h r ↔ r = ((h.1, none, h.2.2.1 + 1, h.2.2.2 + 6), .inr 2) := Ev_E iX7_print_60 rfl (x := mnI_X7_print) rfl rfl
theorem iX7_print_63 : mn_ins 81 63 = some (7, false, .dup, 1) := by decide +kernel
theorem eX7_print_63 : Ev 81 63 (ls) (.ref a :: st) h r ↔ Ev 81 64 (ls) (.ref a :: .ref a :: st) h r := ev_dup iX7_print_63 rfl
theorem iX7_print_70 : mn_ins 81 70 = some (7, false, .aload_n 3, 1) := by decide +kernel
theorem eX7_print_70 : Ev 81 70 (a0 :: a1 :: a2 :: some (.ref a) :: ls) (st) h r ↔ Ev 81 71 (a0 :: a1 :: a2 :: some (.ref a) :: ls) (.ref a :: st) h r := ev_aload_n iX7_print_70 rfl rfl
theorem eX7_print_70n : Ev 81 70 (a0 :: a1 :: a2 :: some (.null) :: ls) (st) h r ↔ Ev 81 71 (a0 :: a1 :: a2 :: some (.null) :: ls) (.null :: st) h r := ev_aload_n iX7_print_70 rfl rfl
theorem eX7_print_70t : Ev 81 70 (a0 :: a1 :: a2 :: some (tkv o1) :: ls) (st) h r ↔ Ev 81 71 (a0 :: a1 :: a2 :: some (tkv o1) :: ls) (tkv o1 :: st) h r := ev_aload_n iX7_print_70 rfl tkv_r
theorem eX7_print_70s : Ev 81 70 (a0 :: a1 :: a2 :: some (sgv o1) :: ls) (st) h r ↔ Ev 81 71 (a0 :: a1 :: a2 :: some (sgv o1) :: ls) (sgv o1 :: st) h r := ev_aload_n iX7_print_70 rfl sgv_r
theorem eX7_print_70c : Ev 81 70 (a0 :: a1 :: a2 :: some (cdv o1) :: ls) (st) h r ↔ Ev 81 71 (a0 :: a1 :: a2 :: some (cdv o1) :: ls) (cdv o1 :: st) h r := ev_aload_n iX7_print_70 rfl cdv_r
theorem iX7_print_71 : mn_ins 81 71 = some (7, false, .getfield 190, 3) := by decide +kernel
theorem eX7_print_71 : Ev 81 71 (ls) (.ref a :: st) h r ↔ Evk 81 74 ls (mn_gf h a 5 2) st h r := ev_getf iX7_print_71 (by decide +kernel)
theorem iX7_print_74 : mn_ins 81 74 = some (7, false, .iload_n 2, 1) := by decide +kernel
theorem eX7_print_74 : Ev 81 74 (a0 :: a1 :: some (.int x) :: ls) (st) h r ↔ Ev 81 75 (a0 :: a1 :: some (.int x) :: ls) (.int x :: st) h r := ev_iload_n iX7_print_74 rfl
theorem iX7_print_75 : mn_ins 81 75 = some (7, false, .laload, 1) := by decide +kernel
theorem eX7_print_75 : Ev 81 75 (ls) (.int x :: .ref a :: st) h r ↔ Evk 81 76 ls (mn_al h a 1 x) st h r := ev_lald iX7_print_75
theorem iX7_print_76 : mn_ins 81 76 = some (7, false, .lreturn, 1) := by decide +kernel
theorem eX7_print_76 : Ev 81 76 (ls) [.long u] h r ↔ r = (h, .inl (some (.long u))) := ev_lret iX7_print_76 (X := mnI_X7_print) rfl rfl
theorem iX7_count_0 : mn_ins 82 0 = some (7, false, .iload_n 1, 1) := by decide +kernel
theorem eX7_count_0 : Ev 82 0 (a0 :: some (.int x) :: ls) (st) h r ↔ Ev 82 1 (a0 :: some (.int x) :: ls) (.int x :: st) h r := ev_iload_n iX7_count_0 rfl
theorem iX7_count_1 : mn_ins 82 1 = some (7, false, .tableswitch 51 0 2 #[27, 35, 43], 27) := by decide +kernel
theorem eX7_count_1_c0 : Ev 82 1 (ls) (.int (nI 0) :: st) h r ↔ Ev 82 28 (ls) (st) h r := ev_tsIn iX7_count_1 (by decide) (off := 27) (by decide) (by decide)
theorem eX7_count_1_c1 : Ev 82 1 (ls) (.int (nI 1) :: st) h r ↔ Ev 82 36 (ls) (st) h r := ev_tsIn iX7_count_1 (by decide) (off := 35) (by decide) (by decide)
theorem eX7_count_1_c2 : Ev 82 1 (ls) (.int (nI 2) :: st) h r ↔ Ev 82 44 (ls) (st) h r := ev_tsIn iX7_count_1 (by decide) (off := 43) (by decide) (by decide)
theorem eX7_count_1_c3 : Ev 82 1 (ls) (.int (nI 3) :: st) h r ↔ Ev 82 52 (ls) (st) h r := ev_tsOut iX7_count_1 (by decide) (by decide)
theorem eX7_count_1_c4 : Ev 82 1 (ls) (.int (nI 4) :: st) h r ↔ Ev 82 52 (ls) (st) h r := ev_tsOut iX7_count_1 (by decide) (by decide)
theorem eX7_count_1_c5 : Ev 82 1 (ls) (.int (nI 5) :: st) h r ↔ Ev 82 52 (ls) (st) h r := ev_tsOut iX7_count_1 (by decide) (by decide)
theorem eX7_count_1_c6 : Ev 82 1 (ls) (.int (nI 6) :: st) h r ↔ Ev 82 52 (ls) (st) h r := ev_tsOut iX7_count_1 (by decide) (by decide)
theorem eX7_count_1_c7 : Ev 82 1 (ls) (.int (nI 7) :: st) h r ↔ Ev 82 52 (ls) (st) h r := ev_tsOut iX7_count_1 (by decide) (by decide)
theorem eX7_count_1_c8 : Ev 82 1 (ls) (.int (nI 8) :: st) h r ↔ Ev 82 52 (ls) (st) h r := ev_tsOut iX7_count_1 (by decide) (by decide)
theorem eX7_count_1_c9 : Ev 82 1 (ls) (.int (nI 9) :: st) h r ↔ Ev 82 52 (ls) (st) h r := ev_tsOut iX7_count_1 (by decide) (by decide)
theorem eX7_count_1_c10 : Ev 82 1 (ls) (.int (nI 10) :: st) h r ↔ Ev 82 52 (ls) (st) h r := ev_tsOut iX7_count_1 (by decide) (by decide)
theorem eX7_count_1_c11 : Ev 82 1 (ls) (.int (nI 11) :: st) h r ↔ Ev 82 52 (ls) (st) h r := ev_tsOut iX7_count_1 (by decide) (by decide)
theorem eX7_count_1_c12 : Ev 82 1 (ls) (.int (nI 12) :: st) h r ↔ Ev 82 52 (ls) (st) h r := ev_tsOut iX7_count_1 (by decide) (by decide)
theorem eX7_count_1_c13 : Ev 82 1 (ls) (.int (nI 13) :: st) h r ↔ Ev 82 52 (ls) (st) h r := ev_tsOut iX7_count_1 (by decide) (by decide)
theorem eX7_count_1_c14 : Ev 82 1 (ls) (.int (nI 14) :: st) h r ↔ Ev 82 52 (ls) (st) h r := ev_tsOut iX7_count_1 (by decide) (by decide)
theorem eX7_count_1_c15 : Ev 82 1 (ls) (.int (nI 15) :: st) h r ↔ Ev 82 52 (ls) (st) h r := ev_tsOut iX7_count_1 (by decide) (by decide)
theorem eX7_count_1_c16 : Ev 82 1 (ls) (.int (nI 16) :: st) h r ↔ Ev 82 52 (ls) (st) h r := ev_tsOut iX7_count_1 (by decide) (by decide)
theorem eX7_count_1_c17 : Ev 82 1 (ls) (.int (nI 17) :: st) h r ↔ Ev 82 52 (ls) (st) h r := ev_tsOut iX7_count_1 (by decide) (by decide)
theorem eX7_count_1_c18 : Ev 82 1 (ls) (.int (nI 18) :: st) h r ↔ Ev 82 52 (ls) (st) h r := ev_tsOut iX7_count_1 (by decide) (by decide)
theorem eX7_count_1_c19 : Ev 82 1 (ls) (.int (nI 19) :: st) h r ↔ Ev 82 52 (ls) (st) h r := ev_tsOut iX7_count_1 (by decide) (by decide)
theorem eX7_count_1_d (hx : x.toInt < 0 ∨ 2 < x.toInt) : Ev 82 1 (ls) (.int x :: st) h r ↔ Ev 82 52 (ls) (st) h r := ev_tsOut iX7_count_1 hx (by decide)
theorem iX7_count_28 : mn_ins 82 28 = some (7, false, .aload_n 0, 1) := by decide +kernel
theorem eX7_count_28 : Ev 82 28 (some (.ref a) :: ls) (st) h r ↔ Ev 82 29 (some (.ref a) :: ls) (.ref a :: st) h r := ev_aload_n iX7_count_28 rfl rfl
theorem iX7_count_29 : mn_ins 82 29 = some (7, false, .getfield 21, 3) := by decide +kernel
theorem eX7_count_29 : Ev 82 29 (ls) (.ref a :: st) h r ↔ Evk 82 32 ls (mn_gf h a 7 1) st h r := ev_getf iX7_count_29 (by decide +kernel)
theorem iX7_count_32 : mn_ins 82 32 = some (7, false, .invokevirtual 194, 3) := by decide +kernel
theorem eX7_count_32 : Ev 82 32 (ls) (.ref b :: st) h r ↔ Evr true (decide (mn_cats st ≤ 8) && mn_isc h b 6) 82 32 ls st h.2.2.1 h.2.2.2 (Cl 66 (.ref b :: []) h.1 h.2.1) r := Ev_V (As := []) iX7_count_32 (by decide +kernel) (x := mnI_X7_count) (x2 := mnI_X6_liveSegments) rfl rfl rfl (by decide +kernel) (Nat.le_of_ble_eq_true rfl) rfl
theorem iX7_count_35 : mn_ins 82 35 = some (7, false, .ireturn, 1) := by decide +kernel
theorem eX7_count_35 : Ev 82 35 (ls) [.int x] h r ↔ r = (h, .inl (some (.int x))) := ev_iret iX7_count_35 (X := mnI_X7_count) rfl rfl
theorem iX7_count_36 : mn_ins 82 36 = some (7, false, .aload_n 0, 1) := by decide +kernel
theorem eX7_count_36 : Ev 82 36 (some (.ref a) :: ls) (st) h r ↔ Ev 82 37 (some (.ref a) :: ls) (.ref a :: st) h r := ev_aload_n iX7_count_36 rfl rfl
theorem iX7_count_37 : mn_ins 82 37 = some (7, false, .getfield 21, 3) := by decide +kernel
theorem eX7_count_37 : Ev 82 37 (ls) (.ref a :: st) h r ↔ Evk 82 40 ls (mn_gf h a 7 1) st h r := ev_getf iX7_count_37 (by decide +kernel)
theorem iX7_count_40 : mn_ins 82 40 = some (7, false, .invokevirtual 197, 3) := by decide +kernel
theorem eX7_count_40 : Ev 82 40 (ls) (.ref b :: st) h r ↔ Evr true (decide (mn_cats st ≤ 8) && mn_isc h b 6) 82 40 ls st h.2.2.1 h.2.2.2 (Cl 67 (.ref b :: []) h.1 h.2.1) r := Ev_V (As := []) iX7_count_40 (by decide +kernel) (x := mnI_X7_count) (x2 := mnI_X6_writtenCells) rfl rfl rfl (by decide +kernel) (Nat.le_of_ble_eq_true rfl) rfl
theorem iX7_count_43 : mn_ins 82 43 = some (7, false, .ireturn, 1) := by decide +kernel
theorem eX7_count_43 : Ev 82 43 (ls) [.int x] h r ↔ r = (h, .inl (some (.int x))) := ev_iret iX7_count_43 (X := mnI_X7_count) rfl rfl
theorem iX7_count_44 : mn_ins 82 44 = some (7, false, .aload_n 0, 1) := by decide +kernel
theorem eX7_count_44 : Ev 82 44 (some (.ref a) :: ls) (st) h r ↔ Ev 82 45 (some (.ref a) :: ls) (.ref a :: st) h r := ev_aload_n iX7_count_44 rfl rfl
theorem iX7_count_45 : mn_ins 82 45 = some (7, false, .getfield 21, 3) := by decide +kernel
theorem eX7_count_45 : Ev 82 45 (ls) (.ref a :: st) h r ↔ Evk 82 48 ls (mn_gf h a 7 1) st h r := ev_getf iX7_count_45 (by decide +kernel)
theorem iX7_count_48 : mn_ins 82 48 = some (7, false, .getfield 200, 3) := by decide +kernel
theorem eX7_count_48 : Ev 82 48 (ls) (.ref a :: st) h r ↔ Evk 82 51 ls (mn_gf h a 6 8) st h r := ev_getf iX7_count_48 (by decide +kernel)
theorem iX7_count_51 : mn_ins 82 51 = some (7, false, .ireturn, 1) := by decide +kernel
theorem eX7_count_51 : Ev 82 51 (ls) [.int x] h r ↔ r = (h, .inl (some (.int x))) := ev_iret iX7_count_51 (X := mnI_X7_count) rfl rfl
theorem iX7_count_52 : mn_ins 82 52 = some (7, false, .iconst (-1), 1) := by decide +kernel
theorem eX7_count_52 : Ev 82 52 (ls) (st) h r ↔ Ev 82 53 (ls) (.int (-1) :: st) h r := ev_iconst iX7_count_52 (by decide)
theorem iX7_count_53 : mn_ins 82 53 = some (7, false, .ireturn, 1) := by decide +kernel
theorem eX7_count_53 : Ev 82 53 (ls) [.int x] h r ↔ r = (h, .inl (some (.int x))) := ev_iret iX7_count_53 (X := mnI_X7_count) rfl rfl
theorem iX7_isWithin_0 : mn_ins 83 0 = some (7, false, .iload_n 0, 1) := by decide +kernel
theorem eX7_isWithin_0 : Ev 83 0 (some (.int x) :: ls) (st) h r ↔ Ev 83 1 (some (.int x) :: ls) (.int x :: st) h r := ev_iload_n iX7_isWithin_0 rfl
theorem iX7_isWithin_1 : mn_ins 83 1 = some (7, false, .ifCond .lt 12, 3) := by decide +kernel
theorem eX7_isWithin_1 : Ev 83 1 (ls) (.int x :: st) h r ↔ if x < nI 0 then Ev 83 13 (ls) (st) h r else Ev 83 4 (ls) (st) h r := ev_iflt iX7_isWithin_1 (by decide)
theorem iX7_isWithin_4 : mn_ins 83 4 = some (7, false, .iload_n 0, 1) := by decide +kernel
theorem eX7_isWithin_4 : Ev 83 4 (some (.int x) :: ls) (st) h r ↔ Ev 83 5 (some (.int x) :: ls) (.int x :: st) h r := ev_iload_n iX7_isWithin_4 rfl
theorem iX7_isWithin_5 : mn_ins 83 5 = some (7, false, .iload_n 1, 1) := by decide +kernel
theorem eX7_isWithin_5 : Ev 83 5 (a0 :: some (.int x) :: ls) (st) h r ↔ Ev 83 6 (a0 :: some (.int x) :: ls) (.int x :: st) h r := ev_iload_n iX7_isWithin_5 rfl
theorem iX7_isWithin_6 : mn_ins 83 6 = some (7, false, .if_icmp .ge 7, 3) := by decide +kernel
theorem eX7_isWithin_6 : Ev 83 6 (ls) (.int y :: .int x :: st) h r ↔ if y ≤ x then Ev 83 13 (ls) (st) h r else Ev 83 9 (ls) (st) h r := ev_cmpge iX7_isWithin_6 (by decide)
theorem iX7_isWithin_9 : mn_ins 83 9 = some (7, false, .iconst 1, 1) := by decide +kernel
theorem eX7_isWithin_9 : Ev 83 9 (ls) (st) h r ↔ Ev 83 10 (ls) (.int (nI 1) :: st) h r := ev_iconst iX7_isWithin_9 (by decide)
theorem iX7_isWithin_10 : mn_ins 83 10 = some (7, false, .goto 4, 3) := by decide +kernel
theorem eX7_isWithin_10 : Ev 83 10 (ls) (st) h r ↔ Ev 83 14 (ls) (st) h r := ev_goto iX7_isWithin_10 (by decide)
theorem iX7_isWithin_13 : mn_ins 83 13 = some (7, false, .iconst 0, 1) := by decide +kernel
theorem eX7_isWithin_13 : Ev 83 13 (ls) (st) h r ↔ Ev 83 14 (ls) (.int (nI 0) :: st) h r := ev_iconst iX7_isWithin_13 (by decide)
theorem iX7_isWithin_14 : mn_ins 83 14 = some (7, false, .ireturn, 1) := by decide +kernel
theorem eX7_isWithin_14 (hx : x = 0 ∨ x = 1) : Ev 83 14 (ls) [.int x] h r ↔ r = (h, .inl (some (.int x))) := ev_zret iX7_isWithin_14 (X := mnI_X7_isWithin) rfl rfl hx
theorem iJ6_bitCount_0f7a4_0 : mn_ins 135 0 = some (10, false, .iload_n 0, 1) := by decide +kernel
theorem eJ6_bitCount_0f7a4_0 : Ev 135 0 (some (.int x) :: ls) (st) h r ↔ Ev 135 1 (some (.int x) :: ls) (.int x :: st) h r := ev_iload_n iJ6_bitCount_0f7a4_0 rfl
theorem iJ6_bitCount_0f7a4_1 : mn_ins 135 1 = some (10, false, .iload_n 0, 1) := by decide +kernel
theorem eJ6_bitCount_0f7a4_1 : Ev 135 1 (some (.int x) :: ls) (st) h r ↔ Ev 135 2 (some (.int x) :: ls) (.int x :: st) h r := ev_iload_n iJ6_bitCount_0f7a4_1 rfl
theorem iJ6_bitCount_0f7a4_2 : mn_ins 135 2 = some (10, false, .iconst 1, 1) := by decide +kernel
theorem eJ6_bitCount_0f7a4_2 : Ev 135 2 (ls) (st) h r ↔ Ev 135 3 (ls) (.int (nI 1) :: st) h r := ev_iconst iJ6_bitCount_0f7a4_2 (by decide)
theorem iJ6_bitCount_0f7a4_3 : mn_ins 135 3 = some (10, false, .iushr, 1) := by decide +kernel
theorem eJ6_bitCount_0f7a4_3 : Ev 135 3 (ls) (.int y :: .int x :: st) h r ↔ Ev 135 4 (ls) (.int (x.toUInt32 >>> (y.toUInt32 &&& Int32.toUInt32 31)).toInt32 :: st) h r := ev_iushr iJ6_bitCount_0f7a4_3
theorem iJ6_bitCount_0f7a4_4 : mn_ins 135 4 = some (10, false, .ldc_w 265, 3) := by decide +kernel
theorem eJ6_bitCount_0f7a4_4 : Ev 135 4 (ls) (st) h r ↔ Ev 135 7 (ls) (.int (nI 1431655765) :: st) h r := ev_ldcw iJ6_bitCount_0f7a4_4 (by decide +kernel)
theorem iJ6_bitCount_0f7a4_7 : mn_ins 135 7 = some (10, false, .iand, 1) := by decide +kernel
theorem eJ6_bitCount_0f7a4_7 : Ev 135 7 (ls) (.int y :: .int x :: st) h r ↔ Ev 135 8 (ls) (.int (x &&& y) :: st) h r := ev_iand iJ6_bitCount_0f7a4_7
theorem iJ6_bitCount_0f7a4_8 : mn_ins 135 8 = some (10, false, .isub, 1) := by decide +kernel
theorem eJ6_bitCount_0f7a4_8 : Ev 135 8 (ls) (.int y :: .int x :: st) h r ↔ Ev 135 9 (ls) (.int (x - y) :: st) h r := ev_isub iJ6_bitCount_0f7a4_8
theorem iJ6_bitCount_0f7a4_9 : mn_ins 135 9 = some (10, false, .istore_n 0, 1) := by decide +kernel
theorem eJ6_bitCount_0f7a4_9 : Ev 135 9 (a0 :: ls) (.int x :: st) h r ↔ Ev 135 10 (some (.int x) :: ls) (st) h r := ev_istore_n iJ6_bitCount_0f7a4_9 (by show 0 < _; simp only [List.length_cons]; omega)
theorem iJ6_bitCount_0f7a4_10 : mn_ins 135 10 = some (10, false, .iload_n 0, 1) := by decide +kernel
theorem eJ6_bitCount_0f7a4_10 : Ev 135 10 (some (.int x) :: ls) (st) h r ↔ Ev 135 11 (some (.int x) :: ls) (.int x :: st) h r := ev_iload_n iJ6_bitCount_0f7a4_10 rfl
theorem iJ6_bitCount_0f7a4_11 : mn_ins 135 11 = some (10, false, .ldc_w 266, 3) := by decide +kernel
theorem eJ6_bitCount_0f7a4_11 : Ev 135 11 (ls) (st) h r ↔ Ev 135 14 (ls) (.int (nI 858993459) :: st) h r := ev_ldcw iJ6_bitCount_0f7a4_11 (by decide +kernel)
theorem iJ6_bitCount_0f7a4_14 : mn_ins 135 14 = some (10, false, .iand, 1) := by decide +kernel
theorem eJ6_bitCount_0f7a4_14 : Ev 135 14 (ls) (.int y :: .int x :: st) h r ↔ Ev 135 15 (ls) (.int (x &&& y) :: st) h r := ev_iand iJ6_bitCount_0f7a4_14
theorem iJ6_bitCount_0f7a4_15 : mn_ins 135 15 = some (10, false, .iload_n 0, 1) := by decide +kernel
theorem eJ6_bitCount_0f7a4_15 : Ev 135 15 (some (.int x) :: ls) (st) h r ↔ Ev 135 16 (some (.int x) :: ls) (.int x :: st) h r := ev_iload_n iJ6_bitCount_0f7a4_15 rfl
theorem iJ6_bitCount_0f7a4_16 : mn_ins 135 16 = some (10, false, .iconst 2, 1) := by decide +kernel
theorem eJ6_bitCount_0f7a4_16 : Ev 135 16 (ls) (st) h r ↔ Ev 135 17 (ls) (.int (nI 2) :: st) h r := ev_iconst iJ6_bitCount_0f7a4_16 (by decide)
theorem iJ6_bitCount_0f7a4_17 : mn_ins 135 17 = some (10, false, .iushr, 1) := by decide +kernel
theorem eJ6_bitCount_0f7a4_17 : Ev 135 17 (ls) (.int y :: .int x :: st) h r ↔ Ev 135 18 (ls) (.int (x.toUInt32 >>> (y.toUInt32 &&& Int32.toUInt32 31)).toInt32 :: st) h r := ev_iushr iJ6_bitCount_0f7a4_17
theorem iJ6_bitCount_0f7a4_18 : mn_ins 135 18 = some (10, false, .ldc_w 266, 3) := by decide +kernel
theorem eJ6_bitCount_0f7a4_18 : Ev 135 18 (ls) (st) h r ↔ Ev 135 21 (ls) (.int (nI 858993459) :: st) h r := ev_ldcw iJ6_bitCount_0f7a4_18 (by decide +kernel)
theorem iJ6_bitCount_0f7a4_21 : mn_ins 135 21 = some (10, false, .iand, 1) := by decide +kernel
theorem eJ6_bitCount_0f7a4_21 : Ev 135 21 (ls) (.int y :: .int x :: st) h r ↔ Ev 135 22 (ls) (.int (x &&& y) :: st) h r := ev_iand iJ6_bitCount_0f7a4_21
theorem iJ6_bitCount_0f7a4_22 : mn_ins 135 22 = some (10, false, .iadd, 1) := by decide +kernel
theorem eJ6_bitCount_0f7a4_22 : Ev 135 22 (ls) (.int y :: .int x :: st) h r ↔ Ev 135 23 (ls) (.int (x + y) :: st) h r := ev_iadd iJ6_bitCount_0f7a4_22
theorem iJ6_bitCount_0f7a4_23 : mn_ins 135 23 = some (10, false, .istore_n 0, 1) := by decide +kernel
theorem eJ6_bitCount_0f7a4_23 : Ev 135 23 (a0 :: ls) (.int x :: st) h r ↔ Ev 135 24 (some (.int x) :: ls) (st) h r := ev_istore_n iJ6_bitCount_0f7a4_23 (by show 0 < _; simp only [List.length_cons]; omega)
theorem iJ6_bitCount_0f7a4_24 : mn_ins 135 24 = some (10, false, .iload_n 0, 1) := by decide +kernel
theorem eJ6_bitCount_0f7a4_24 : Ev 135 24 (some (.int x) :: ls) (st) h r ↔ Ev 135 25 (some (.int x) :: ls) (.int x :: st) h r := ev_iload_n iJ6_bitCount_0f7a4_24 rfl
theorem iJ6_bitCount_0f7a4_25 : mn_ins 135 25 = some (10, false, .iload_n 0, 1) := by decide +kernel
theorem eJ6_bitCount_0f7a4_25 : Ev 135 25 (some (.int x) :: ls) (st) h r ↔ Ev 135 26 (some (.int x) :: ls) (.int x :: st) h r := ev_iload_n iJ6_bitCount_0f7a4_25 rfl
theorem iJ6_bitCount_0f7a4_26 : mn_ins 135 26 = some (10, false, .iconst 4, 1) := by decide +kernel
theorem eJ6_bitCount_0f7a4_26 : Ev 135 26 (ls) (st) h r ↔ Ev 135 27 (ls) (.int (nI 4) :: st) h r := ev_iconst iJ6_bitCount_0f7a4_26 (by decide)
theorem iJ6_bitCount_0f7a4_27 : mn_ins 135 27 = some (10, false, .iushr, 1) := by decide +kernel
theorem eJ6_bitCount_0f7a4_27 : Ev 135 27 (ls) (.int y :: .int x :: st) h r ↔ Ev 135 28 (ls) (.int (x.toUInt32 >>> (y.toUInt32 &&& Int32.toUInt32 31)).toInt32 :: st) h r := ev_iushr iJ6_bitCount_0f7a4_27
theorem iJ6_bitCount_0f7a4_28 : mn_ins 135 28 = some (10, false, .iadd, 1) := by decide +kernel
theorem eJ6_bitCount_0f7a4_28 : Ev 135 28 (ls) (.int y :: .int x :: st) h r ↔ Ev 135 29 (ls) (.int (x + y) :: st) h r := ev_iadd iJ6_bitCount_0f7a4_28
theorem iJ6_bitCount_0f7a4_29 : mn_ins 135 29 = some (10, false, .ldc_w 267, 3) := by decide +kernel
theorem eJ6_bitCount_0f7a4_29 : Ev 135 29 (ls) (st) h r ↔ Ev 135 32 (ls) (.int (nI 252645135) :: st) h r := ev_ldcw iJ6_bitCount_0f7a4_29 (by decide +kernel)
theorem iJ6_bitCount_0f7a4_32 : mn_ins 135 32 = some (10, false, .iand, 1) := by decide +kernel
theorem eJ6_bitCount_0f7a4_32 : Ev 135 32 (ls) (.int y :: .int x :: st) h r ↔ Ev 135 33 (ls) (.int (x &&& y) :: st) h r := ev_iand iJ6_bitCount_0f7a4_32
theorem iJ6_bitCount_0f7a4_33 : mn_ins 135 33 = some (10, false, .istore_n 0, 1) := by decide +kernel
theorem eJ6_bitCount_0f7a4_33 : Ev 135 33 (a0 :: ls) (.int x :: st) h r ↔ Ev 135 34 (some (.int x) :: ls) (st) h r := ev_istore_n iJ6_bitCount_0f7a4_33 (by show 0 < _; simp only [List.length_cons]; omega)
theorem iJ6_bitCount_0f7a4_34 : mn_ins 135 34 = some (10, false, .iload_n 0, 1) := by decide +kernel
theorem eJ6_bitCount_0f7a4_34 : Ev 135 34 (some (.int x) :: ls) (st) h r ↔ Ev 135 35 (some (.int x) :: ls) (.int x :: st) h r := ev_iload_n iJ6_bitCount_0f7a4_34 rfl
theorem iJ6_bitCount_0f7a4_35 : mn_ins 135 35 = some (10, false, .iload_n 0, 1) := by decide +kernel
theorem eJ6_bitCount_0f7a4_35 : Ev 135 35 (some (.int x) :: ls) (st) h r ↔ Ev 135 36 (some (.int x) :: ls) (.int x :: st) h r := ev_iload_n iJ6_bitCount_0f7a4_35 rfl
theorem iJ6_bitCount_0f7a4_36 : mn_ins 135 36 = some (10, false, .bipush 8, 2) := by decide +kernel
theorem eJ6_bitCount_0f7a4_36 : Ev 135 36 (ls) (st) h r ↔ Ev 135 38 (ls) (.int (nI 8) :: st) h r := ev_bipush iJ6_bitCount_0f7a4_36 (by decide)
theorem iJ6_bitCount_0f7a4_38 : mn_ins 135 38 = some (10, false, .iushr, 1) := by decide +kernel
theorem eJ6_bitCount_0f7a4_38 : Ev 135 38 (ls) (.int y :: .int x :: st) h r ↔ Ev 135 39 (ls) (.int (x.toUInt32 >>> (y.toUInt32 &&& Int32.toUInt32 31)).toInt32 :: st) h r := ev_iushr iJ6_bitCount_0f7a4_38
theorem iJ6_bitCount_0f7a4_39 : mn_ins 135 39 = some (10, false, .iadd, 1) := by decide +kernel
theorem eJ6_bitCount_0f7a4_39 : Ev 135 39 (ls) (.int y :: .int x :: st) h r ↔ Ev 135 40 (ls) (.int (x + y) :: st) h r := ev_iadd iJ6_bitCount_0f7a4_39
theorem iJ6_bitCount_0f7a4_40 : mn_ins 135 40 = some (10, false, .istore_n 0, 1) := by decide +kernel
theorem eJ6_bitCount_0f7a4_40 : Ev 135 40 (a0 :: ls) (.int x :: st) h r ↔ Ev 135 41 (some (.int x) :: ls) (st) h r := ev_istore_n iJ6_bitCount_0f7a4_40 (by show 0 < _; simp only [List.length_cons]; omega)
theorem iJ6_bitCount_0f7a4_41 : mn_ins 135 41 = some (10, false, .iload_n 0, 1) := by decide +kernel
theorem eJ6_bitCount_0f7a4_41 : Ev 135 41 (some (.int x) :: ls) (st) h r ↔ Ev 135 42 (some (.int x) :: ls) (.int x :: st) h r := ev_iload_n iJ6_bitCount_0f7a4_41 rfl
theorem iJ6_bitCount_0f7a4_42 : mn_ins 135 42 = some (10, false, .iload_n 0, 1) := by decide +kernel
theorem eJ6_bitCount_0f7a4_42 : Ev 135 42 (some (.int x) :: ls) (st) h r ↔ Ev 135 43 (some (.int x) :: ls) (.int x :: st) h r := ev_iload_n iJ6_bitCount_0f7a4_42 rfl
theorem iJ6_bitCount_0f7a4_43 : mn_ins 135 43 = some (10, false, .bipush 16, 2) := by decide +kernel
theorem eJ6_bitCount_0f7a4_43 : Ev 135 43 (ls) (st) h r ↔ Ev 135 45 (ls) (.int (nI 16) :: st) h r := ev_bipush iJ6_bitCount_0f7a4_43 (by decide)
theorem iJ6_bitCount_0f7a4_45 : mn_ins 135 45 = some (10, false, .iushr, 1) := by decide +kernel
theorem eJ6_bitCount_0f7a4_45 : Ev 135 45 (ls) (.int y :: .int x :: st) h r ↔ Ev 135 46 (ls) (.int (x.toUInt32 >>> (y.toUInt32 &&& Int32.toUInt32 31)).toInt32 :: st) h r := ev_iushr iJ6_bitCount_0f7a4_45
theorem iJ6_bitCount_0f7a4_46 : mn_ins 135 46 = some (10, false, .iadd, 1) := by decide +kernel
theorem eJ6_bitCount_0f7a4_46 : Ev 135 46 (ls) (.int y :: .int x :: st) h r ↔ Ev 135 47 (ls) (.int (x + y) :: st) h r := ev_iadd iJ6_bitCount_0f7a4_46
theorem iJ6_bitCount_0f7a4_47 : mn_ins 135 47 = some (10, false, .istore_n 0, 1) := by decide +kernel
theorem eJ6_bitCount_0f7a4_47 : Ev 135 47 (a0 :: ls) (.int x :: st) h r ↔ Ev 135 48 (some (.int x) :: ls) (st) h r := ev_istore_n iJ6_bitCount_0f7a4_47 (by show 0 < _; simp only [List.length_cons]; omega)
theorem iJ6_bitCount_0f7a4_48 : mn_ins 135 48 = some (10, false, .iload_n 0, 1) := by decide +kernel
theorem eJ6_bitCount_0f7a4_48 : Ev 135 48 (some (.int x) :: ls) (st) h r ↔ Ev 135 49 (some (.int x) :: ls) (.int x :: st) h r := ev_iload_n iJ6_bitCount_0f7a4_48 rfl
theorem iJ6_bitCount_0f7a4_49 : mn_ins 135 49 = some (10, false, .bipush 63, 2) := by decide +kernel
theorem eJ6_bitCount_0f7a4_49 : Ev 135 49 (ls) (st) h r ↔ Ev 135 51 (ls) (.int (nI 63) :: st) h r := ev_bipush iJ6_bitCount_0f7a4_49 (by decide)
theorem iJ6_bitCount_0f7a4_51 : mn_ins 135 51 = some (10, false, .iand, 1) := by decide +kernel
theorem eJ6_bitCount_0f7a4_51 : Ev 135 51 (ls) (.int y :: .int x :: st) h r ↔ Ev 135 52 (ls) (.int (x &&& y) :: st) h r := ev_iand iJ6_bitCount_0f7a4_51
theorem iJ6_bitCount_0f7a4_52 : mn_ins 135 52 = some (10, false, .ireturn, 1) := by decide +kernel
theorem eJ6_bitCount_0f7a4_52 : Ev 135 52 (ls) [.int x] h r ↔ r = (h, .inl (some (.int x))) := ev_iret iJ6_bitCount_0f7a4_52 (X := mnI_J6_bitCount_0f7a4) rfl rfl
end E_61c_rows
