section E_93b_rows
variable {ls : List (Option Value)} {st : List Value} {h : mn_S} {r : mn_Res} {a0 a1 a2 a3 a4 a5 a6 a7 a8 a9 a10 a11 a12 a13 : Option Value} {x y : Int32} {u v : Int64} {w w2 w3 w4 w5 w6 w7 w8 : Value} {x0 x1 x2 x3 x4 x5 x6 x7 x8 : Int32} {u0 u1 u2 u3 u4 u5 u6 u7 u8 : Int64} {a b : Nat} {o1 o2 : Option Nat}
theorem iX8_init_0 : mn_ins 84 0 = some (8, true, .aload_n 0, 1) := by decide +kernel
theorem eX8_init_0 : Ev 84 0 (some (.ref a) :: ls) (st) h r ↔ Ev 84 1 (some (.ref a) :: ls) (.ref a :: st) h r := ev_aload_n iX8_init_0 rfl rfl
theorem iX8_init_1 : mn_ins 84 1 = some (8, true, .invokespecial 1, 3) := by decide +kernel
theorem eX8_init_1 (hc : mn_cats st ≤ 8) : Ev 84 1 (ls) (.ref a :: st) h r ↔ Ev 84 4 (ls) (st) h r := Ev_obj iX8_init_1 (q := 0) (by decide +kernel) (x := mnI_X8_init) rfl (by decide) hc
theorem iX8_init_4 : mn_ins 84 4 = some (8, true, .aload_n 0, 1) := by decide +kernel
theorem eX8_init_4 : Ev 84 4 (some (.ref a) :: ls) (st) h r ↔ Ev 84 5 (some (.ref a) :: ls) (.ref a :: st) h r := ev_aload_n iX8_init_4 rfl rfl
theorem iX8_init_5 : mn_ins 84 5 = some (8, true, .iconst (-1), 1) := by decide +kernel
theorem eX8_init_5 : Ev 84 5 (ls) (st) h r ↔ Ev 84 6 (ls) (.int (-1) :: st) h r := ev_iconst iX8_init_5 (by decide)
theorem iX8_init_6 : mn_ins 84 6 = some (8, true, .putfield 9, 3) := by decide +kernel
theorem eX8_init_6 : Ev 84 6 (ls) (w :: .ref a :: st) h r ↔ Evh 84 9 ls st (mn_pf h a 8 3 w) r := ev_putf iX8_init_6 (by decide +kernel) (by decide +kernel)
theorem iX8_init_9 : mn_ins 84 9 = some (8, true, .aload_n 0, 1) := by decide +kernel
theorem eX8_init_9 : Ev 84 9 (some (.ref a) :: ls) (st) h r ↔ Ev 84 10 (some (.ref a) :: ls) (.ref a :: st) h r := ev_aload_n iX8_init_9 rfl rfl
theorem iX8_init_10 : mn_ins 84 10 = some (8, true, .bipush 8, 2) := by decide +kernel
theorem eX8_init_10 : Ev 84 10 (ls) (st) h r ↔ Ev 84 12 (ls) (.int (nI 8) :: st) h r := ev_bipush iX8_init_10 (by decide)
theorem iX8_init_12 : mn_ins 84 12 = some (8, true, .newarray .int, 2) := by decide +kernel
theorem eX8_init_12 : Ev 84 12 (ls) (.int x :: st) h r ↔ Evn 84 14 ls st (mn_na h 0 x) r := ev_newi iX8_init_12
theorem iX8_init_14 : mn_ins 84 14 = some (8, true, .putfield 13, 3) := by decide +kernel
theorem eX8_init_14 : Ev 84 14 (ls) (w :: .ref a :: st) h r ↔ Evh 84 17 ls st (mn_pf h a 8 4 w) r := ev_putf iX8_init_14 (by decide +kernel) (by decide +kernel)
theorem iX8_init_17 : mn_ins 84 17 = some (8, true, .aload_n 0, 1) := by decide +kernel
theorem eX8_init_17 : Ev 84 17 (some (.ref a) :: ls) (st) h r ↔ Ev 84 18 (some (.ref a) :: ls) (.ref a :: st) h r := ev_aload_n iX8_init_17 rfl rfl
theorem iX8_init_18 : mn_ins 84 18 = some (8, true, .sipush 192, 3) := by decide +kernel
theorem eX8_init_18 : Ev 84 18 (ls) (st) h r ↔ Ev 84 21 (ls) (.int (nI 192) :: st) h r := ev_sipush iX8_init_18 (by decide)
theorem iX8_init_21 : mn_ins 84 21 = some (8, true, .newarray .int, 2) := by decide +kernel
theorem eX8_init_21 : Ev 84 21 (ls) (.int x :: st) h r ↔ Evn 84 23 ls st (mn_na h 0 x) r := ev_newi iX8_init_21
theorem iX8_init_23 : mn_ins 84 23 = some (8, true, .putfield 17, 3) := by decide +kernel
theorem eX8_init_23 : Ev 84 23 (ls) (w :: .ref a :: st) h r ↔ Evh 84 26 ls st (mn_pf h a 8 5 w) r := ev_putf iX8_init_23 (by decide +kernel) (by decide +kernel)
theorem iX8_init_26 : mn_ins 84 26 = some (8, true, .aload_n 0, 1) := by decide +kernel
theorem eX8_init_26 : Ev 84 26 (some (.ref a) :: ls) (st) h r ↔ Ev 84 27 (some (.ref a) :: ls) (.ref a :: st) h r := ev_aload_n iX8_init_26 rfl rfl
theorem iX8_init_27 : mn_ins 84 27 = some (8, true, .sipush 192, 3) := by decide +kernel
theorem eX8_init_27 : Ev 84 27 (ls) (st) h r ↔ Ev 84 30 (ls) (.int (nI 192) :: st) h r := ev_sipush iX8_init_27 (by decide)
theorem iX8_init_30 : mn_ins 84 30 = some (8, true, .newarray .int, 2) := by decide +kernel
theorem eX8_init_30 : Ev 84 30 (ls) (.int x :: st) h r ↔ Evn 84 32 ls st (mn_na h 0 x) r := ev_newi iX8_init_30
theorem iX8_init_32 : mn_ins 84 32 = some (8, true, .putfield 20, 3) := by decide +kernel
theorem eX8_init_32 : Ev 84 32 (ls) (w :: .ref a :: st) h r ↔ Evh 84 35 ls st (mn_pf h a 8 6 w) r := ev_putf iX8_init_32 (by decide +kernel) (by decide +kernel)
theorem iX8_init_35 : mn_ins 84 35 = some (8, true, .aload_n 0, 1) := by decide +kernel
theorem eX8_init_35 : Ev 84 35 (some (.ref a) :: ls) (st) h r ↔ Ev 84 36 (some (.ref a) :: ls) (.ref a :: st) h r := ev_aload_n iX8_init_35 rfl rfl
theorem iX8_init_36 : mn_ins 84 36 = some (8, true, .bipush 12, 2) := by decide +kernel
theorem eX8_init_36 : Ev 84 36 (ls) (st) h r ↔ Ev 84 38 (ls) (.int (nI 12) :: st) h r := ev_bipush iX8_init_36 (by decide)
theorem iX8_init_38 : mn_ins 84 38 = some (8, true, .newarray .int, 2) := by decide +kernel
theorem eX8_init_38 : Ev 84 38 (ls) (.int x :: st) h r ↔ Evn 84 40 ls st (mn_na h 0 x) r := ev_newi iX8_init_38
theorem iX8_init_40 : mn_ins 84 40 = some (8, true, .putfield 23, 3) := by decide +kernel
theorem eX8_init_40 : Ev 84 40 (ls) (w :: .ref a :: st) h r ↔ Evh 84 43 ls st (mn_pf h a 8 7 w) r := ev_putf iX8_init_40 (by decide +kernel) (by decide +kernel)
theorem iX8_init_43 : mn_ins 84 43 = some (8, true, .aload_n 0, 1) := by decide +kernel
theorem eX8_init_43 : Ev 84 43 (some (.ref a) :: ls) (st) h r ↔ Ev 84 44 (some (.ref a) :: ls) (.ref a :: st) h r := ev_aload_n iX8_init_43 rfl rfl
theorem iX8_init_44 : mn_ins 84 44 = some (8, true, .bipush 12, 2) := by decide +kernel
theorem eX8_init_44 : Ev 84 44 (ls) (st) h r ↔ Ev 84 46 (ls) (.int (nI 12) :: st) h r := ev_bipush iX8_init_44 (by decide)
theorem iX8_init_46 : mn_ins 84 46 = some (8, true, .newarray .int, 2) := by decide +kernel
theorem eX8_init_46 : Ev 84 46 (ls) (.int x :: st) h r ↔ Evn 84 48 ls st (mn_na h 0 x) r := ev_newi iX8_init_46
theorem iX8_init_48 : mn_ins 84 48 = some (8, true, .putfield 26, 3) := by decide +kernel
theorem eX8_init_48 : Ev 84 48 (ls) (w :: .ref a :: st) h r ↔ Evh 84 51 ls st (mn_pf h a 8 8 w) r := ev_putf iX8_init_48 (by decide +kernel) (by decide +kernel)
theorem iX8_init_51 : mn_ins 84 51 = some (8, true, .aload_n 0, 1) := by decide +kernel
theorem eX8_init_51 : Ev 84 51 (some (.ref a) :: ls) (st) h r ↔ Ev 84 52 (some (.ref a) :: ls) (.ref a :: st) h r := ev_aload_n iX8_init_51 rfl rfl
theorem iX8_init_52 : mn_ins 84 52 = some (8, true, .sipush 192, 3) := by decide +kernel
theorem eX8_init_52 : Ev 84 52 (ls) (st) h r ↔ Ev 84 55 (ls) (.int (nI 192) :: st) h r := ev_sipush iX8_init_52 (by decide)
theorem iX8_init_55 : mn_ins 84 55 = some (8, true, .newarray .boolean, 2) := by decide +kernel
theorem eX8_init_55 : Ev 84 55 (ls) (.int x :: st) h r ↔ Evn 84 57 ls st (mn_na h 2 x) r := ev_newz iX8_init_55
theorem iX8_init_57 : mn_ins 84 57 = some (8, true, .putfield 29, 3) := by decide +kernel
theorem eX8_init_57 : Ev 84 57 (ls) (w :: .ref a :: st) h r ↔ Evh 84 60 ls st (mn_pf h a 8 10 w) r := ev_putf iX8_init_57 (by decide +kernel) (by decide +kernel)
theorem iX8_init_60 : mn_ins 84 60 = some (8, true, .aload_n 0, 1) := by decide +kernel
theorem eX8_init_60 : Ev 84 60 (some (.ref a) :: ls) (st) h r ↔ Ev 84 61 (some (.ref a) :: ls) (.ref a :: st) h r := ev_aload_n iX8_init_60 rfl rfl
theorem iX8_init_61 : mn_ins 84 61 = some (8, true, .bipush 12, 2) := by decide +kernel
theorem eX8_init_61 : Ev 84 61 (ls) (st) h r ↔ Ev 84 63 (ls) (.int (nI 12) :: st) h r := ev_bipush iX8_init_61 (by decide)
theorem iX8_init_63 : mn_ins 84 63 = some (8, true, .newarray .int, 2) := by decide +kernel
theorem eX8_init_63 : Ev 84 63 (ls) (.int x :: st) h r ↔ Evn 84 65 ls st (mn_na h 0 x) r := ev_newi iX8_init_63
theorem iX8_init_65 : mn_ins 84 65 = some (8, true, .putfield 33, 3) := by decide +kernel
theorem eX8_init_65 : Ev 84 65 (ls) (w :: .ref a :: st) h r ↔ Evh 84 68 ls st (mn_pf h a 8 14 w) r := ev_putf iX8_init_65 (by decide +kernel) (by decide +kernel)
theorem iX8_init_68 : mn_ins 84 68 = some (8, true, .aload_n 0, 1) := by decide +kernel
theorem eX8_init_68 : Ev 84 68 (some (.ref a) :: ls) (st) h r ↔ Ev 84 69 (some (.ref a) :: ls) (.ref a :: st) h r := ev_aload_n iX8_init_68 rfl rfl
theorem iX8_init_69 : mn_ins 84 69 = some (8, true, .bipush 12, 2) := by decide +kernel
theorem eX8_init_69 : Ev 84 69 (ls) (st) h r ↔ Ev 84 71 (ls) (.int (nI 12) :: st) h r := ev_bipush iX8_init_69 (by decide)
theorem iX8_init_71 : mn_ins 84 71 = some (8, true, .newarray .int, 2) := by decide +kernel
theorem eX8_init_71 : Ev 84 71 (ls) (.int x :: st) h r ↔ Evn 84 73 ls st (mn_na h 0 x) r := ev_newi iX8_init_71
theorem iX8_init_73 : mn_ins 84 73 = some (8, true, .putfield 36, 3) := by decide +kernel
theorem eX8_init_73 : Ev 84 73 (ls) (w :: .ref a :: st) h r ↔ Evh 84 76 ls st (mn_pf h a 8 15 w) r := ev_putf iX8_init_73 (by decide +kernel) (by decide +kernel)
theorem iX8_init_76 : mn_ins 84 76 = some (8, true, .aload_n 0, 1) := by decide +kernel
theorem eX8_init_76 : Ev 84 76 (some (.ref a) :: ls) (st) h r ↔ Ev 84 77 (some (.ref a) :: ls) (.ref a :: st) h r := ev_aload_n iX8_init_76 rfl rfl
theorem iX8_init_77 : mn_ins 84 77 = some (8, true, .bipush 12, 2) := by decide +kernel
theorem eX8_init_77 : Ev 84 77 (ls) (st) h r ↔ Ev 84 79 (ls) (.int (nI 12) :: st) h r := ev_bipush iX8_init_77 (by decide)
theorem iX8_init_79 : mn_ins 84 79 = some (8, true, .newarray .int, 2) := by decide +kernel
theorem eX8_init_79 : Ev 84 79 (ls) (.int x :: st) h r ↔ Evn 84 81 ls st (mn_na h 0 x) r := ev_newi iX8_init_79
theorem iX8_init_81 : mn_ins 84 81 = some (8, true, .putfield 39, 3) := by decide +kernel
theorem eX8_init_81 : Ev 84 81 (ls) (w :: .ref a :: st) h r ↔ Evh 84 84 ls st (mn_pf h a 8 16 w) r := ev_putf iX8_init_81 (by decide +kernel) (by decide +kernel)
theorem iX8_init_84 : mn_ins 84 84 = some (8, true, .aload_n 0, 1) := by decide +kernel
theorem eX8_init_84 : Ev 84 84 (some (.ref a) :: ls) (st) h r ↔ Ev 84 85 (some (.ref a) :: ls) (.ref a :: st) h r := ev_aload_n iX8_init_84 rfl rfl
theorem iX8_init_85 : mn_ins 84 85 = some (8, true, .bipush 12, 2) := by decide +kernel
theorem eX8_init_85 : Ev 84 85 (ls) (st) h r ↔ Ev 84 87 (ls) (.int (nI 12) :: st) h r := ev_bipush iX8_init_85 (by decide)
theorem iX8_init_87 : mn_ins 84 87 = some (8, true, .newarray .int, 2) := by decide +kernel
theorem eX8_init_87 : Ev 84 87 (ls) (.int x :: st) h r ↔ Evn 84 89 ls st (mn_na h 0 x) r := ev_newi iX8_init_87
theorem iX8_init_89 : mn_ins 84 89 = some (8, true, .putfield 42, 3) := by decide +kernel
theorem eX8_init_89 : Ev 84 89 (ls) (w :: .ref a :: st) h r ↔ Evh 84 92 ls st (mn_pf h a 8 17 w) r := ev_putf iX8_init_89 (by decide +kernel) (by decide +kernel)
theorem iX8_init_92 : mn_ins 84 92 = some (8, true, .aload_n 0, 1) := by decide +kernel
theorem eX8_init_92 : Ev 84 92 (some (.ref a) :: ls) (st) h r ↔ Ev 84 93 (some (.ref a) :: ls) (.ref a :: st) h r := ev_aload_n iX8_init_92 rfl rfl
theorem iX8_init_93 : mn_ins 84 93 = some (8, true, .bipush 12, 2) := by decide +kernel
theorem eX8_init_93 : Ev 84 93 (ls) (st) h r ↔ Ev 84 95 (ls) (.int (nI 12) :: st) h r := ev_bipush iX8_init_93 (by decide)
theorem iX8_init_95 : mn_ins 84 95 = some (8, true, .newarray .int, 2) := by decide +kernel
theorem eX8_init_95 : Ev 84 95 (ls) (.int x :: st) h r ↔ Evn 84 97 ls st (mn_na h 0 x) r := ev_newi iX8_init_95
theorem iX8_init_97 : mn_ins 84 97 = some (8, true, .putfield 45, 3) := by decide +kernel
theorem eX8_init_97 : Ev 84 97 (ls) (w :: .ref a :: st) h r ↔ Evh 84 100 ls st (mn_pf h a 8 18 w) r := ev_putf iX8_init_97 (by decide +kernel) (by decide +kernel)
theorem iX8_init_100 : mn_ins 84 100 = some (8, true, .aload_n 0, 1) := by decide +kernel
theorem eX8_init_100 : Ev 84 100 (some (.ref a) :: ls) (st) h r ↔ Ev 84 101 (some (.ref a) :: ls) (.ref a :: st) h r := ev_aload_n iX8_init_100 rfl rfl
theorem iX8_init_101 : mn_ins 84 101 = some (8, true, .bipush 12, 2) := by decide +kernel
theorem eX8_init_101 : Ev 84 101 (ls) (st) h r ↔ Ev 84 103 (ls) (.int (nI 12) :: st) h r := ev_bipush iX8_init_101 (by decide)
theorem iX8_init_103 : mn_ins 84 103 = some (8, true, .newarray .int, 2) := by decide +kernel
theorem eX8_init_103 : Ev 84 103 (ls) (.int x :: st) h r ↔ Evn 84 105 ls st (mn_na h 0 x) r := ev_newi iX8_init_103
theorem iX8_init_105 : mn_ins 84 105 = some (8, true, .putfield 48, 3) := by decide +kernel
theorem eX8_init_105 : Ev 84 105 (ls) (w :: .ref a :: st) h r ↔ Evh 84 108 ls st (mn_pf h a 8 19 w) r := ev_putf iX8_init_105 (by decide +kernel) (by decide +kernel)
theorem iX8_init_108 : mn_ins 84 108 = some (8, true, .aload_n 0, 1) := by decide +kernel
theorem eX8_init_108 : Ev 84 108 (some (.ref a) :: ls) (st) h r ↔ Ev 84 109 (some (.ref a) :: ls) (.ref a :: st) h r := ev_aload_n iX8_init_108 rfl rfl
theorem iX8_init_109 : mn_ins 84 109 = some (8, true, .bipush 12, 2) := by decide +kernel
theorem eX8_init_109 : Ev 84 109 (ls) (st) h r ↔ Ev 84 111 (ls) (.int (nI 12) :: st) h r := ev_bipush iX8_init_109 (by decide)
theorem iX8_init_111 : mn_ins 84 111 = some (8, true, .newarray .int, 2) := by decide +kernel
theorem eX8_init_111 : Ev 84 111 (ls) (.int x :: st) h r ↔ Evn 84 113 ls st (mn_na h 0 x) r := ev_newi iX8_init_111
theorem iX8_init_113 : mn_ins 84 113 = some (8, true, .putfield 51, 3) := by decide +kernel
theorem eX8_init_113 : Ev 84 113 (ls) (w :: .ref a :: st) h r ↔ Evh 84 116 ls st (mn_pf h a 8 20 w) r := ev_putf iX8_init_113 (by decide +kernel) (by decide +kernel)
theorem iX8_init_116 : mn_ins 84 116 = some (8, true, .aload_n 0, 1) := by decide +kernel
theorem eX8_init_116 : Ev 84 116 (some (.ref a) :: ls) (st) h r ↔ Ev 84 117 (some (.ref a) :: ls) (.ref a :: st) h r := ev_aload_n iX8_init_116 rfl rfl
theorem iX8_init_117 : mn_ins 84 117 = some (8, true, .bipush 12, 2) := by decide +kernel
theorem eX8_init_117 : Ev 84 117 (ls) (st) h r ↔ Ev 84 119 (ls) (.int (nI 12) :: st) h r := ev_bipush iX8_init_117 (by decide)
theorem iX8_init_119 : mn_ins 84 119 = some (8, true, .newarray .int, 2) := by decide +kernel
theorem eX8_init_119 : Ev 84 119 (ls) (.int x :: st) h r ↔ Evn 84 121 ls st (mn_na h 0 x) r := ev_newi iX8_init_119
theorem iX8_init_121 : mn_ins 84 121 = some (8, true, .putfield 54, 3) := by decide +kernel
theorem eX8_init_121 : Ev 84 121 (ls) (w :: .ref a :: st) h r ↔ Evh 84 124 ls st (mn_pf h a 8 21 w) r := ev_putf iX8_init_121 (by decide +kernel) (by decide +kernel)
theorem iX8_init_124 : mn_ins 84 124 = some (8, true, .aload_n 0, 1) := by decide +kernel
theorem eX8_init_124 : Ev 84 124 (some (.ref a) :: ls) (st) h r ↔ Ev 84 125 (some (.ref a) :: ls) (.ref a :: st) h r := ev_aload_n iX8_init_124 rfl rfl
theorem iX8_init_125 : mn_ins 84 125 = some (8, true, .bipush 96, 2) := by decide +kernel
theorem eX8_init_125 : Ev 84 125 (ls) (st) h r ↔ Ev 84 127 (ls) (.int (nI 96) :: st) h r := ev_bipush iX8_init_125 (by decide)
theorem iX8_init_127 : mn_ins 84 127 = some (8, true, .newarray .long, 2) := by decide +kernel
theorem eX8_init_127 : Ev 84 127 (ls) (.int x :: st) h r ↔ Evn 84 129 ls st (mn_na h 1 x) r := ev_newl iX8_init_127
theorem iX8_init_129 : mn_ins 84 129 = some (8, true, .putfield 57, 3) := by decide +kernel
theorem eX8_init_129 : Ev 84 129 (ls) (w :: .ref a :: st) h r ↔ Evh 84 132 ls st (mn_pf h a 8 22 w) r := ev_putf iX8_init_129 (by decide +kernel) (by decide +kernel)
theorem iX8_init_132 : mn_ins 84 132 = some (8, true, .aload_n 0, 1) := by decide +kernel
theorem eX8_init_132 : Ev 84 132 (some (.ref a) :: ls) (st) h r ↔ Ev 84 133 (some (.ref a) :: ls) (.ref a :: st) h r := ev_aload_n iX8_init_132 rfl rfl
theorem iX8_init_133 : mn_ins 84 133 = some (8, true, .bipush 48, 2) := by decide +kernel
theorem eX8_init_133 : Ev 84 133 (ls) (st) h r ↔ Ev 84 135 (ls) (.int (nI 48) :: st) h r := ev_bipush iX8_init_133 (by decide)
theorem iX8_init_135 : mn_ins 84 135 = some (8, true, .newarray .long, 2) := by decide +kernel
theorem eX8_init_135 : Ev 84 135 (ls) (.int x :: st) h r ↔ Evn 84 137 ls st (mn_na h 1 x) r := ev_newl iX8_init_135
theorem iX8_init_137 : mn_ins 84 137 = some (8, true, .putfield 61, 3) := by decide +kernel
theorem eX8_init_137 : Ev 84 137 (ls) (w :: .ref a :: st) h r ↔ Evh 84 140 ls st (mn_pf h a 8 23 w) r := ev_putf iX8_init_137 (by decide +kernel) (by decide +kernel)
theorem iX8_init_140 : mn_ins 84 140 = some (8, true, .aload_n 0, 1) := by decide +kernel
theorem eX8_init_140 : Ev 84 140 (some (.ref a) :: ls) (st) h r ↔ Ev 84 141 (some (.ref a) :: ls) (.ref a :: st) h r := ev_aload_n iX8_init_140 rfl rfl
theorem iX8_init_141 : mn_ins 84 141 = some (8, true, .bipush 12, 2) := by decide +kernel
theorem eX8_init_141 : Ev 84 141 (ls) (st) h r ↔ Ev 84 143 (ls) (.int (nI 12) :: st) h r := ev_bipush iX8_init_141 (by decide)
theorem iX8_init_143 : mn_ins 84 143 = some (8, true, .newarray .int, 2) := by decide +kernel
theorem eX8_init_143 : Ev 84 143 (ls) (.int x :: st) h r ↔ Evn 84 145 ls st (mn_na h 0 x) r := ev_newi iX8_init_143
theorem iX8_init_145 : mn_ins 84 145 = some (8, true, .putfield 64, 3) := by decide +kernel
theorem eX8_init_145 : Ev 84 145 (ls) (w :: .ref a :: st) h r ↔ Evh 84 148 ls st (mn_pf h a 8 24 w) r := ev_putf iX8_init_145 (by decide +kernel) (by decide +kernel)
theorem iX8_init_148 : mn_ins 84 148 = some (8, true, .aload_n 0, 1) := by decide +kernel
theorem eX8_init_148 : Ev 84 148 (some (.ref a) :: ls) (st) h r ↔ Ev 84 149 (some (.ref a) :: ls) (.ref a :: st) h r := ev_aload_n iX8_init_148 rfl rfl
theorem iX8_init_149 : mn_ins 84 149 = some (8, true, .sipush 360, 3) := by decide +kernel
theorem eX8_init_149 : Ev 84 149 (ls) (st) h r ↔ Ev 84 152 (ls) (.int (nI 360) :: st) h r := ev_sipush iX8_init_149 (by decide)
theorem iX8_init_152 : mn_ins 84 152 = some (8, true, .newarray .long, 2) := by decide +kernel
theorem eX8_init_152 : Ev 84 152 (ls) (.int x :: st) h r ↔ Evn 84 154 ls st (mn_na h 1 x) r := ev_newl iX8_init_152
theorem iX8_init_154 : mn_ins 84 154 = some (8, true, .putfield 67, 3) := by decide +kernel
theorem eX8_init_154 : Ev 84 154 (ls) (w :: .ref a :: st) h r ↔ Evh 84 157 ls st (mn_pf h a 8 25 w) r := ev_putf iX8_init_154 (by decide +kernel) (by decide +kernel)
theorem iX8_init_157 : mn_ins 84 157 = some (8, true, .aload_n 0, 1) := by decide +kernel
theorem eX8_init_157 : Ev 84 157 (some (.ref a) :: ls) (st) h r ↔ Ev 84 158 (some (.ref a) :: ls) (.ref a :: st) h r := ev_aload_n iX8_init_157 rfl rfl
theorem iX8_init_158 : mn_ins 84 158 = some (8, true, .bipush 12, 2) := by decide +kernel
theorem eX8_init_158 : Ev 84 158 (ls) (st) h r ↔ Ev 84 160 (ls) (.int (nI 12) :: st) h r := ev_bipush iX8_init_158 (by decide)
theorem iX8_init_160 : mn_ins 84 160 = some (8, true, .newarray .long, 2) := by decide +kernel
theorem eX8_init_160 : Ev 84 160 (ls) (.int x :: st) h r ↔ Evn 84 162 ls st (mn_na h 1 x) r := ev_newl iX8_init_160
theorem iX8_init_162 : mn_ins 84 162 = some (8, true, .putfield 70, 3) := by decide +kernel
theorem eX8_init_162 : Ev 84 162 (ls) (w :: .ref a :: st) h r ↔ Evh 84 165 ls st (mn_pf h a 8 26 w) r := ev_putf iX8_init_162 (by decide +kernel) (by decide +kernel)
theorem iX8_init_165 : mn_ins 84 165 = some (8, true, .aload_n 0, 1) := by decide +kernel
theorem eX8_init_165 : Ev 84 165 (some (.ref a) :: ls) (st) h r ↔ Ev 84 166 (some (.ref a) :: ls) (.ref a :: st) h r := ev_aload_n iX8_init_165 rfl rfl
theorem iX8_init_166 : mn_ins 84 166 = some (8, true, .bipush 12, 2) := by decide +kernel
theorem eX8_init_166 : Ev 84 166 (ls) (st) h r ↔ Ev 84 168 (ls) (.int (nI 12) :: st) h r := ev_bipush iX8_init_166 (by decide)
theorem iX8_init_168 : mn_ins 84 168 = some (8, true, .newarray .int, 2) := by decide +kernel
theorem eX8_init_168 : Ev 84 168 (ls) (.int x :: st) h r ↔ Evn 84 170 ls st (mn_na h 0 x) r := ev_newi iX8_init_168
theorem iX8_init_170 : mn_ins 84 170 = some (8, true, .putfield 73, 3) := by decide +kernel
theorem eX8_init_170 : Ev 84 170 (ls) (w :: .ref a :: st) h r ↔ Evh 84 173 ls st (mn_pf h a 8 27 w) r := ev_putf iX8_init_170 (by decide +kernel) (by decide +kernel)
theorem iX8_init_173 : mn_ins 84 173 = some (8, true, .aload_n 0, 1) := by decide +kernel
theorem eX8_init_173 : Ev 84 173 (some (.ref a) :: ls) (st) h r ↔ Ev 84 174 (some (.ref a) :: ls) (.ref a :: st) h r := ev_aload_n iX8_init_173 rfl rfl
theorem iX8_init_174 : mn_ins 84 174 = some (8, true, .bipush 12, 2) := by decide +kernel
theorem eX8_init_174 : Ev 84 174 (ls) (st) h r ↔ Ev 84 176 (ls) (.int (nI 12) :: st) h r := ev_bipush iX8_init_174 (by decide)
theorem iX8_init_176 : mn_ins 84 176 = some (8, true, .newarray .int, 2) := by decide +kernel
theorem eX8_init_176 : Ev 84 176 (ls) (.int x :: st) h r ↔ Evn 84 178 ls st (mn_na h 0 x) r := ev_newi iX8_init_176
theorem iX8_init_178 : mn_ins 84 178 = some (8, true, .putfield 76, 3) := by decide +kernel
theorem eX8_init_178 : Ev 84 178 (ls) (w :: .ref a :: st) h r ↔ Evh 84 181 ls st (mn_pf h a 8 28 w) r := ev_putf iX8_init_178 (by decide +kernel) (by decide +kernel)
theorem iX8_init_181 : mn_ins 84 181 = some (8, true, .aload_n 0, 1) := by decide +kernel
theorem eX8_init_181 : Ev 84 181 (some (.ref a) :: ls) (st) h r ↔ Ev 84 182 (some (.ref a) :: ls) (.ref a :: st) h r := ev_aload_n iX8_init_181 rfl rfl
theorem iX8_init_182 : mn_ins 84 182 = some (8, true, .bipush 40, 2) := by decide +kernel
theorem eX8_init_182 : Ev 84 182 (ls) (st) h r ↔ Ev 84 184 (ls) (.int (nI 40) :: st) h r := ev_bipush iX8_init_182 (by decide)
theorem iX8_init_184 : mn_ins 84 184 = some (8, true, .newarray .boolean, 2) := by decide +kernel
theorem eX8_init_184 : Ev 84 184 (ls) (.int x :: st) h r ↔ Evn 84 186 ls st (mn_na h 2 x) r := ev_newz iX8_init_184
theorem iX8_init_186 : mn_ins 84 186 = some (8, true, .putfield 79, 3) := by decide +kernel
theorem eX8_init_186 : Ev 84 186 (ls) (w :: .ref a :: st) h r ↔ Evh 84 189 ls st (mn_pf h a 8 29 w) r := ev_putf iX8_init_186 (by decide +kernel) (by decide +kernel)
theorem iX8_init_189 : mn_ins 84 189 = some (8, true, .aload_n 0, 1) := by decide +kernel
theorem eX8_init_189 : Ev 84 189 (some (.ref a) :: ls) (st) h r ↔ Ev 84 190 (some (.ref a) :: ls) (.ref a :: st) h r := ev_aload_n iX8_init_189 rfl rfl
theorem iX8_init_190 : mn_ins 84 190 = some (8, true, .bipush 40, 2) := by decide +kernel
theorem eX8_init_190 : Ev 84 190 (ls) (st) h r ↔ Ev 84 192 (ls) (.int (nI 40) :: st) h r := ev_bipush iX8_init_190 (by decide)
theorem iX8_init_192 : mn_ins 84 192 = some (8, true, .newarray .int, 2) := by decide +kernel
theorem eX8_init_192 : Ev 84 192 (ls) (.int x :: st) h r ↔ Evn 84 194 ls st (mn_na h 0 x) r := ev_newi iX8_init_192
theorem iX8_init_194 : mn_ins 84 194 = some (8, true, .putfield 82, 3) := by decide +kernel
theorem eX8_init_194 : Ev 84 194 (ls) (w :: .ref a :: st) h r ↔ Evh 84 197 ls st (mn_pf h a 8 30 w) r := ev_putf iX8_init_194 (by decide +kernel) (by decide +kernel)
theorem iX8_init_197 : mn_ins 84 197 = some (8, true, .aload_n 0, 1) := by decide +kernel
theorem eX8_init_197 : Ev 84 197 (some (.ref a) :: ls) (st) h r ↔ Ev 84 198 (some (.ref a) :: ls) (.ref a :: st) h r := ev_aload_n iX8_init_197 rfl rfl
theorem iX8_init_198 : mn_ins 84 198 = some (8, true, .bipush 40, 2) := by decide +kernel
theorem eX8_init_198 : Ev 84 198 (ls) (st) h r ↔ Ev 84 200 (ls) (.int (nI 40) :: st) h r := ev_bipush iX8_init_198 (by decide)
theorem iX8_init_200 : mn_ins 84 200 = some (8, true, .newarray .int, 2) := by decide +kernel
theorem eX8_init_200 : Ev 84 200 (ls) (.int x :: st) h r ↔ Evn 84 202 ls st (mn_na h 0 x) r := ev_newi iX8_init_200
theorem iX8_init_202 : mn_ins 84 202 = some (8, true, .putfield 85, 3) := by decide +kernel
theorem eX8_init_202 : Ev 84 202 (ls) (w :: .ref a :: st) h r ↔ Evh 84 205 ls st (mn_pf h a 8 31 w) r := ev_putf iX8_init_202 (by decide +kernel) (by decide +kernel)
theorem iX8_init_205 : mn_ins 84 205 = some (8, true, .aload_n 0, 1) := by decide +kernel
theorem eX8_init_205 : Ev 84 205 (some (.ref a) :: ls) (st) h r ↔ Ev 84 206 (some (.ref a) :: ls) (.ref a :: st) h r := ev_aload_n iX8_init_205 rfl rfl
theorem iX8_init_206 : mn_ins 84 206 = some (8, true, .sipush 480, 3) := by decide +kernel
theorem eX8_init_206 : Ev 84 206 (ls) (st) h r ↔ Ev 84 209 (ls) (.int (nI 480) :: st) h r := ev_sipush iX8_init_206 (by decide)
theorem iX8_init_209 : mn_ins 84 209 = some (8, true, .newarray .long, 2) := by decide +kernel
theorem eX8_init_209 : Ev 84 209 (ls) (.int x :: st) h r ↔ Evn 84 211 ls st (mn_na h 1 x) r := ev_newl iX8_init_209
theorem iX8_init_211 : mn_ins 84 211 = some (8, true, .putfield 88, 3) := by decide +kernel
theorem eX8_init_211 : Ev 84 211 (ls) (w :: .ref a :: st) h r ↔ Evh 84 214 ls st (mn_pf h a 8 32 w) r := ev_putf iX8_init_211 (by decide +kernel) (by decide +kernel)
theorem iX8_init_214 : mn_ins 84 214 = some (8, true, .aload_n 0, 1) := by decide +kernel
theorem eX8_init_214 : Ev 84 214 (some (.ref a) :: ls) (st) h r ↔ Ev 84 215 (some (.ref a) :: ls) (.ref a :: st) h r := ev_aload_n iX8_init_214 rfl rfl
theorem iX8_init_215 : mn_ins 84 215 = some (8, true, .bipush 8, 2) := by decide +kernel
theorem eX8_init_215 : Ev 84 215 (ls) (st) h r ↔ Ev 84 217 (ls) (.int (nI 8) :: st) h r := ev_bipush iX8_init_215 (by decide)
theorem iX8_init_217 : mn_ins 84 217 = some (8, true, .newarray .long, 2) := by decide +kernel
theorem eX8_init_217 : Ev 84 217 (ls) (.int x :: st) h r ↔ Evn 84 219 ls st (mn_na h 1 x) r := ev_newl iX8_init_217
theorem iX8_init_219 : mn_ins 84 219 = some (8, true, .putfield 91, 3) := by decide +kernel
theorem eX8_init_219 : Ev 84 219 (ls) (w :: .ref a :: st) h r ↔ Evh 84 222 ls st (mn_pf h a 8 33 w) r := ev_putf iX8_init_219 (by decide +kernel) (by decide +kernel)
theorem iX8_init_222 : mn_ins 84 222 = some (8, true, .return_, 1) := by decide +kernel
theorem eX8_init_222 : Ev 84 222 (ls) [] h r ↔ r = (h, .inl none) := ev_vret iX8_init_222 (X := mnI_X8_init) rfl rfl
theorem iL_block_0 : mn_ins 137 0 = some (9, false, .aload_n 1, 1) := by decide +kernel
theorem eL_block_0 : Ev 137 0 (a0 :: some (.ref a) :: ls) (st) h r ↔ Ev 137 1 (a0 :: some (.ref a) :: ls) (.ref a :: st) h r := ev_aload_n iL_block_0 rfl rfl
theorem eL_block_0n : Ev 137 0 (a0 :: some (.null) :: ls) (st) h r ↔ Ev 137 1 (a0 :: some (.null) :: ls) (.null :: st) h r := ev_aload_n iL_block_0 rfl rfl
theorem eL_block_0t : Ev 137 0 (a0 :: some (tkv o1) :: ls) (st) h r ↔ Ev 137 1 (a0 :: some (tkv o1) :: ls) (tkv o1 :: st) h r := ev_aload_n iL_block_0 rfl tkv_r
theorem eL_block_0s : Ev 137 0 (a0 :: some (sgv o1) :: ls) (st) h r ↔ Ev 137 1 (a0 :: some (sgv o1) :: ls) (sgv o1 :: st) h r := ev_aload_n iL_block_0 rfl sgv_r
theorem eL_block_0c : Ev 137 0 (a0 :: some (cdv o1) :: ls) (st) h r ↔ Ev 137 1 (a0 :: some (cdv o1) :: ls) (cdv o1 :: st) h r := ev_aload_n iL_block_0 rfl cdv_r
theorem iL_block_1 : mn_ins 137 1 = some (9, false, .iconst 0, 1) := by decide +kernel
theorem eL_block_1 : Ev 137 1 (ls) (st) h r ↔ Ev 137 2 (ls) (.int (nI 0) :: st) h r := ev_iconst iL_block_1 (by decide)
theorem iL_block_2 : mn_ins 137 2 = some (9, false, .aload_n 0, 1) := by decide +kernel
theorem eL_block_2 : Ev 137 2 (some (.ref a) :: ls) (st) h r ↔ Ev 137 3 (some (.ref a) :: ls) (.ref a :: st) h r := ev_aload_n iL_block_2 rfl rfl
theorem eL_block_2n : Ev 137 2 (some (.null) :: ls) (st) h r ↔ Ev 137 3 (some (.null) :: ls) (.null :: st) h r := ev_aload_n iL_block_2 rfl rfl
theorem eL_block_2t : Ev 137 2 (some (tkv o1) :: ls) (st) h r ↔ Ev 137 3 (some (tkv o1) :: ls) (tkv o1 :: st) h r := ev_aload_n iL_block_2 rfl tkv_r
theorem eL_block_2s : Ev 137 2 (some (sgv o1) :: ls) (st) h r ↔ Ev 137 3 (some (sgv o1) :: ls) (sgv o1 :: st) h r := ev_aload_n iL_block_2 rfl sgv_r
theorem eL_block_2c : Ev 137 2 (some (cdv o1) :: ls) (st) h r ↔ Ev 137 3 (some (cdv o1) :: ls) (cdv o1 :: st) h r := ev_aload_n iL_block_2 rfl cdv_r
theorem iL_block_3 : mn_ins 137 3 = some (9, false, .invokevirtual 7, 3) := by decide +kernel
theorem eL_block_3 : Ev 137 3 (ls) (.ref b :: st) h r ↔ Evr true (decide (mn_cats st ≤ 8) && mn_isc h b 7) 137 3 ls st h.2.2.1 h.2.2.2 (Cl 69 (.ref b :: []) h.1 h.2.1) r := Ev_V (As := []) iL_block_3 (by decide +kernel) (x := mnI_L_block) (x2 := mnI_X7_block) rfl rfl rfl (by decide +kernel) (Nat.le_of_ble_eq_true rfl) rfl
theorem iL_block_6 : mn_ins 137 6 = some (9, false, .i2l, 1) := by decide +kernel
theorem eL_block_6 : Ev 137 6 (ls) (.int x :: st) h r ↔ Ev 137 7 (ls) (.long x.toInt64 :: st) h r := ev_i2l iL_block_6
theorem iL_block_7 : mn_ins 137 7 = some (9, false, .lastore, 1) := by decide +kernel
theorem eL_block_7 : Ev 137 7 (ls) (.long u :: .int x :: .ref a :: st) h r ↔ Evh 137 8 ls st (mn_asl h a x u) r := ev_last iL_block_7
theorem iL_block_8 : mn_ins 137 8 = some (9, false, .goto 6, 3) := by decide +kernel
theorem eL_block_8 : Ev 137 8 (ls) (st) h r ↔ Ev 137 14 (ls) (st) h r := ev_goto iL_block_8 (by decide)
theorem iL_block_11 : mn_ins 137 11 = some (9, false, .astore_n 2, 1) := by decide +kernel
theorem eL_block_11 : Ev 137 11 (a0 :: a1 :: a2 :: ls) (.ref a :: st) h r ↔ Ev 137 12 (a0 :: mn_k a1 :: some (.ref a) :: ls) (st) h r := ev_astore_n iL_block_11 (by show 2 < _; simp only [List.length_cons]; omega) rfl
theorem eL_block_11n : Ev 137 11 (a0 :: a1 :: a2 :: ls) (.null :: st) h r ↔ Ev 137 12 (a0 :: mn_k a1 :: some (.null) :: ls) (st) h r := ev_astore_n iL_block_11 (by show 2 < _; simp only [List.length_cons]; omega) rfl
theorem eL_block_11t : Ev 137 11 (a0 :: a1 :: a2 :: ls) (tkv o1 :: st) h r ↔ Ev 137 12 (a0 :: mn_k a1 :: some (tkv o1) :: ls) (st) h r := ev_astore_n iL_block_11 (by show 2 < _; simp only [List.length_cons]; omega) tkv_r
theorem eL_block_11s : Ev 137 11 (a0 :: a1 :: a2 :: ls) (sgv o1 :: st) h r ↔ Ev 137 12 (a0 :: mn_k a1 :: some (sgv o1) :: ls) (st) h r := ev_astore_n iL_block_11 (by show 2 < _; simp only [List.length_cons]; omega) sgv_r
theorem eL_block_11c : Ev 137 11 (a0 :: a1 :: a2 :: ls) (cdv o1 :: st) h r ↔ Ev 137 12 (a0 :: mn_k a1 :: some (cdv o1) :: ls) (st) h r := ev_astore_n iL_block_11 (by show 2 < _; simp only [List.length_cons]; omega) cdv_r
theorem iL_block_12 : mn_ins 137 12 = some (9, false, .iconst 1, 1) := by decide +kernel
theorem eL_block_12 : Ev 137 12 (ls) (st) h r ↔ Ev 137 13 (ls) (.int (nI 1) :: st) h r := ev_iconst iL_block_12 (by decide)
theorem iL_block_13 : mn_ins 137 13 = some (9, false, .ireturn, 1) := by decide +kernel
theorem eL_block_13 : Ev 137 13 (ls) [.int x] h r ↔ r = (h, .inl (some (.int x))) := ev_iret iL_block_13 (X := mnI_L_block) rfl rfl
theorem iL_block_14 : mn_ins 137 14 = some (9, false, .iconst 0, 1) := by decide +kernel
theorem eL_block_14 : Ev 137 14 (ls) (st) h r ↔ Ev 137 15 (ls) (.int (nI 0) :: st) h r := ev_iconst iL_block_14 (by decide)
theorem iL_block_15 : mn_ins 137 15 = some (9, false, .ireturn, 1) := by decide +kernel
theorem eL_block_15 : Ev 137 15 (ls) [.int x] h r ↔ r = (h, .inl (some (.int x))) := ev_iret iL_block_15 (X := mnI_L_block) rfl rfl
theorem iL_add_0 : mn_ins 138 0 = some (9, false, .aload_n 3, 1) := by decide +kernel
theorem eL_add_0 : Ev 138 0 (a0 :: a1 :: a2 :: some (.ref a) :: ls) (st) h r ↔ Ev 138 1 (a0 :: a1 :: a2 :: some (.ref a) :: ls) (.ref a :: st) h r := ev_aload_n iL_add_0 rfl rfl
theorem eL_add_0n : Ev 138 0 (a0 :: a1 :: a2 :: some (.null) :: ls) (st) h r ↔ Ev 138 1 (a0 :: a1 :: a2 :: some (.null) :: ls) (.null :: st) h r := ev_aload_n iL_add_0 rfl rfl
theorem eL_add_0t : Ev 138 0 (a0 :: a1 :: a2 :: some (tkv o1) :: ls) (st) h r ↔ Ev 138 1 (a0 :: a1 :: a2 :: some (tkv o1) :: ls) (tkv o1 :: st) h r := ev_aload_n iL_add_0 rfl tkv_r
theorem eL_add_0s : Ev 138 0 (a0 :: a1 :: a2 :: some (sgv o1) :: ls) (st) h r ↔ Ev 138 1 (a0 :: a1 :: a2 :: some (sgv o1) :: ls) (sgv o1 :: st) h r := ev_aload_n iL_add_0 rfl sgv_r
theorem eL_add_0c : Ev 138 0 (a0 :: a1 :: a2 :: some (cdv o1) :: ls) (st) h r ↔ Ev 138 1 (a0 :: a1 :: a2 :: some (cdv o1) :: ls) (cdv o1 :: st) h r := ev_aload_n iL_add_0 rfl cdv_r
theorem iL_add_1 : mn_ins 138 1 = some (9, false, .iconst 0, 1) := by decide +kernel
theorem eL_add_1 : Ev 138 1 (ls) (st) h r ↔ Ev 138 2 (ls) (.int (nI 0) :: st) h r := ev_iconst iL_add_1 (by decide)
theorem iL_add_2 : mn_ins 138 2 = some (9, false, .aload_n 0, 1) := by decide +kernel
theorem eL_add_2 : Ev 138 2 (some (.ref a) :: ls) (st) h r ↔ Ev 138 3 (some (.ref a) :: ls) (.ref a :: st) h r := ev_aload_n iL_add_2 rfl rfl
theorem eL_add_2n : Ev 138 2 (some (.null) :: ls) (st) h r ↔ Ev 138 3 (some (.null) :: ls) (.null :: st) h r := ev_aload_n iL_add_2 rfl rfl
theorem eL_add_2t : Ev 138 2 (some (tkv o1) :: ls) (st) h r ↔ Ev 138 3 (some (tkv o1) :: ls) (tkv o1 :: st) h r := ev_aload_n iL_add_2 rfl tkv_r
theorem eL_add_2s : Ev 138 2 (some (sgv o1) :: ls) (st) h r ↔ Ev 138 3 (some (sgv o1) :: ls) (sgv o1 :: st) h r := ev_aload_n iL_add_2 rfl sgv_r
theorem eL_add_2c : Ev 138 2 (some (cdv o1) :: ls) (st) h r ↔ Ev 138 3 (some (cdv o1) :: ls) (cdv o1 :: st) h r := ev_aload_n iL_add_2 rfl cdv_r
theorem iL_add_3 : mn_ins 138 3 = some (9, false, .iload_n 1, 1) := by decide +kernel
theorem eL_add_3 : Ev 138 3 (a0 :: some (.int x) :: ls) (st) h r ↔ Ev 138 4 (a0 :: some (.int x) :: ls) (.int x :: st) h r := ev_iload_n iL_add_3 rfl
theorem iL_add_4 : mn_ins 138 4 = some (9, false, .iload_n 2, 1) := by decide +kernel
theorem eL_add_4 : Ev 138 4 (a0 :: a1 :: some (.int x) :: ls) (st) h r ↔ Ev 138 5 (a0 :: a1 :: some (.int x) :: ls) (.int x :: st) h r := ev_iload_n iL_add_4 rfl
theorem iL_add_5 : mn_ins 138 5 = some (9, false, .invokevirtual 15, 3) := by decide +kernel
theorem eL_add_5 : Ev 138 5 (ls) (.int x1 :: .int x0 :: .ref b :: st) h r ↔ Evr true (decide (mn_cats st ≤ 8) && mn_isc h b 7) 138 5 ls st h.2.2.1 h.2.2.2 (Cl 70 (.ref b :: [.int x0, .int x1]) h.1 h.2.1) r := Ev_V (As := [.int x0, .int x1]) iL_add_5 (by decide +kernel) (x := mnI_L_add) (x2 := mnI_X7_add) rfl rfl rfl (by decide +kernel) (Nat.le_of_ble_eq_true rfl) rfl
theorem iL_add_8 : mn_ins 138 8 = some (9, false, .i2l, 1) := by decide +kernel
theorem eL_add_8 : Ev 138 8 (ls) (.int x :: st) h r ↔ Ev 138 9 (ls) (.long x.toInt64 :: st) h r := ev_i2l iL_add_8
theorem iL_add_9 : mn_ins 138 9 = some (9, false, .lastore, 1) := by decide +kernel
theorem eL_add_9 : Ev 138 9 (ls) (.long u :: .int x :: .ref a :: st) h r ↔ Evh 138 10 ls st (mn_asl h a x u) r := ev_last iL_add_9
theorem iL_add_10 : mn_ins 138 10 = some (9, false, .goto 11, 3) := by decide +kernel
theorem eL_add_10 : Ev 138 10 (ls) (st) h r ↔ Ev 138 21 (ls) (st) h r := ev_goto iL_add_10 (by decide)
theorem iL_add_13 : mn_ins 138 13 = some (9, false, .astore 4, 2) := by decide +kernel
theorem eL_add_13 : Ev 138 13 (a0 :: a1 :: a2 :: a3 :: a4 :: ls) (.ref a :: st) h r ↔ Ev 138 15 (a0 :: a1 :: a2 :: mn_k a3 :: some (.ref a) :: ls) (st) h r := ev_astore iL_add_13 (by show 4 < _; simp only [List.length_cons]; omega) rfl
theorem eL_add_13n : Ev 138 13 (a0 :: a1 :: a2 :: a3 :: a4 :: ls) (.null :: st) h r ↔ Ev 138 15 (a0 :: a1 :: a2 :: mn_k a3 :: some (.null) :: ls) (st) h r := ev_astore iL_add_13 (by show 4 < _; simp only [List.length_cons]; omega) rfl
theorem eL_add_13t : Ev 138 13 (a0 :: a1 :: a2 :: a3 :: a4 :: ls) (tkv o1 :: st) h r ↔ Ev 138 15 (a0 :: a1 :: a2 :: mn_k a3 :: some (tkv o1) :: ls) (st) h r := ev_astore iL_add_13 (by show 4 < _; simp only [List.length_cons]; omega) tkv_r
theorem eL_add_13s : Ev 138 13 (a0 :: a1 :: a2 :: a3 :: a4 :: ls) (sgv o1 :: st) h r ↔ Ev 138 15 (a0 :: a1 :: a2 :: mn_k a3 :: some (sgv o1) :: ls) (st) h r := ev_astore iL_add_13 (by show 4 < _; simp only [List.length_cons]; omega) sgv_r
theorem eL_add_13c : Ev 138 13 (a0 :: a1 :: a2 :: a3 :: a4 :: ls) (cdv o1 :: st) h r ↔ Ev 138 15 (a0 :: a1 :: a2 :: mn_k a3 :: some (cdv o1) :: ls) (st) h r := ev_astore iL_add_13 (by show 4 < _; simp only [List.length_cons]; omega) cdv_r
theorem iL_add_15 : mn_ins 138 15 = some (9, false, .iconst 1, 1) := by decide +kernel
theorem eL_add_15 : Ev 138 15 (ls) (st) h r ↔ Ev 138 16 (ls) (.int (nI 1) :: st) h r := ev_iconst iL_add_15 (by decide)
theorem iL_add_16 : mn_ins 138 16 = some (9, false, .ireturn, 1) := by decide +kernel
theorem eL_add_16 : Ev 138 16 (ls) [.int x] h r ↔ r = (h, .inl (some (.int x))) := ev_iret iL_add_16 (X := mnI_L_add) rfl rfl
theorem iL_add_17 : mn_ins 138 17 = some (9, false, .astore 4, 2) := by decide +kernel
theorem eL_add_17 : Ev 138 17 (a0 :: a1 :: a2 :: a3 :: a4 :: ls) (.ref a :: st) h r ↔ Ev 138 19 (a0 :: a1 :: a2 :: mn_k a3 :: some (.ref a) :: ls) (st) h r := ev_astore iL_add_17 (by show 4 < _; simp only [List.length_cons]; omega) rfl
theorem eL_add_17n : Ev 138 17 (a0 :: a1 :: a2 :: a3 :: a4 :: ls) (.null :: st) h r ↔ Ev 138 19 (a0 :: a1 :: a2 :: mn_k a3 :: some (.null) :: ls) (st) h r := ev_astore iL_add_17 (by show 4 < _; simp only [List.length_cons]; omega) rfl
theorem eL_add_17t : Ev 138 17 (a0 :: a1 :: a2 :: a3 :: a4 :: ls) (tkv o1 :: st) h r ↔ Ev 138 19 (a0 :: a1 :: a2 :: mn_k a3 :: some (tkv o1) :: ls) (st) h r := ev_astore iL_add_17 (by show 4 < _; simp only [List.length_cons]; omega) tkv_r
theorem eL_add_17s : Ev 138 17 (a0 :: a1 :: a2 :: a3 :: a4 :: ls) (sgv o1 :: st) h r ↔ Ev 138 19 (a0 :: a1 :: a2 :: mn_k a3 :: some (sgv o1) :: ls) (st) h r := ev_astore iL_add_17 (by show 4 < _; simp only [List.length_cons]; omega) sgv_r
theorem eL_add_17c : Ev 138 17 (a0 :: a1 :: a2 :: a3 :: a4 :: ls) (cdv o1 :: st) h r ↔ Ev 138 19 (a0 :: a1 :: a2 :: mn_k a3 :: some (cdv o1) :: ls) (st) h r := ev_astore iL_add_17 (by show 4 < _; simp only [List.length_cons]; omega) cdv_r
theorem iL_add_19 : mn_ins 138 19 = some (9, false, .iconst 2, 1) := by decide +kernel
theorem eL_add_19 : Ev 138 19 (ls) (st) h r ↔ Ev 138 20 (ls) (.int (nI 2) :: st) h r := ev_iconst iL_add_19 (by decide)
theorem iL_add_20 : mn_ins 138 20 = some (9, false, .ireturn, 1) := by decide +kernel
theorem eL_add_20 : Ev 138 20 (ls) [.int x] h r ↔ r = (h, .inl (some (.int x))) := ev_iret iL_add_20 (X := mnI_L_add) rfl rfl
theorem iL_add_21 : mn_ins 138 21 = some (9, false, .iconst 0, 1) := by decide +kernel
theorem eL_add_21 : Ev 138 21 (ls) (st) h r ↔ Ev 138 22 (ls) (.int (nI 0) :: st) h r := ev_iconst iL_add_21 (by decide)
theorem iL_add_22 : mn_ins 138 22 = some (9, false, .ireturn, 1) := by decide +kernel
theorem eL_add_22 : Ev 138 22 (ls) [.int x] h r ↔ r = (h, .inl (some (.int x))) := ev_iret iL_add_22 (X := mnI_L_add) rfl rfl
theorem iL_merge_0 : mn_ins 139 0 = some (9, false, .aload_n 1, 1) := by decide +kernel
theorem eL_merge_0 : Ev 139 0 (a0 :: some (.ref a) :: ls) (st) h r ↔ Ev 139 1 (a0 :: some (.ref a) :: ls) (.ref a :: st) h r := ev_aload_n iL_merge_0 rfl rfl
theorem eL_merge_0n : Ev 139 0 (a0 :: some (.null) :: ls) (st) h r ↔ Ev 139 1 (a0 :: some (.null) :: ls) (.null :: st) h r := ev_aload_n iL_merge_0 rfl rfl
theorem eL_merge_0t : Ev 139 0 (a0 :: some (tkv o1) :: ls) (st) h r ↔ Ev 139 1 (a0 :: some (tkv o1) :: ls) (tkv o1 :: st) h r := ev_aload_n iL_merge_0 rfl tkv_r
theorem eL_merge_0s : Ev 139 0 (a0 :: some (sgv o1) :: ls) (st) h r ↔ Ev 139 1 (a0 :: some (sgv o1) :: ls) (sgv o1 :: st) h r := ev_aload_n iL_merge_0 rfl sgv_r
theorem eL_merge_0c : Ev 139 0 (a0 :: some (cdv o1) :: ls) (st) h r ↔ Ev 139 1 (a0 :: some (cdv o1) :: ls) (cdv o1 :: st) h r := ev_aload_n iL_merge_0 rfl cdv_r
theorem iL_merge_1 : mn_ins 139 1 = some (9, false, .iconst 0, 1) := by decide +kernel
theorem eL_merge_1 : Ev 139 1 (ls) (st) h r ↔ Ev 139 2 (ls) (.int (nI 0) :: st) h r := ev_iconst iL_merge_1 (by decide)
theorem iL_merge_2 : mn_ins 139 2 = some (9, false, .aload_n 0, 1) := by decide +kernel
theorem eL_merge_2 : Ev 139 2 (some (.ref a) :: ls) (st) h r ↔ Ev 139 3 (some (.ref a) :: ls) (.ref a :: st) h r := ev_aload_n iL_merge_2 rfl rfl
theorem eL_merge_2n : Ev 139 2 (some (.null) :: ls) (st) h r ↔ Ev 139 3 (some (.null) :: ls) (.null :: st) h r := ev_aload_n iL_merge_2 rfl rfl
theorem eL_merge_2t : Ev 139 2 (some (tkv o1) :: ls) (st) h r ↔ Ev 139 3 (some (tkv o1) :: ls) (tkv o1 :: st) h r := ev_aload_n iL_merge_2 rfl tkv_r
theorem eL_merge_2s : Ev 139 2 (some (sgv o1) :: ls) (st) h r ↔ Ev 139 3 (some (sgv o1) :: ls) (sgv o1 :: st) h r := ev_aload_n iL_merge_2 rfl sgv_r
theorem eL_merge_2c : Ev 139 2 (some (cdv o1) :: ls) (st) h r ↔ Ev 139 3 (some (cdv o1) :: ls) (cdv o1 :: st) h r := ev_aload_n iL_merge_2 rfl cdv_r
theorem iL_merge_3 : mn_ins 139 3 = some (9, false, .invokevirtual 21, 3) := by decide +kernel
theorem eL_merge_3 : Ev 139 3 (ls) (.ref b :: st) h r ↔ Evr true (decide (mn_cats st ≤ 8) && mn_isc h b 7) 139 3 ls st h.2.2.1 h.2.2.2 (Cl 71 (.ref b :: []) h.1 h.2.1) r := Ev_V (As := []) iL_merge_3 (by decide +kernel) (x := mnI_L_merge) (x2 := mnI_X7_merge) rfl rfl rfl (by decide +kernel) (Nat.le_of_ble_eq_true rfl) rfl
theorem iL_merge_6 : mn_ins 139 6 = some (9, false, .i2l, 1) := by decide +kernel
theorem eL_merge_6 : Ev 139 6 (ls) (.int x :: st) h r ↔ Ev 139 7 (ls) (.long x.toInt64 :: st) h r := ev_i2l iL_merge_6
theorem iL_merge_7 : mn_ins 139 7 = some (9, false, .lastore, 1) := by decide +kernel
theorem eL_merge_7 : Ev 139 7 (ls) (.long u :: .int x :: .ref a :: st) h r ↔ Evh 139 8 ls st (mn_asl h a x u) r := ev_last iL_merge_7
theorem iL_merge_8 : mn_ins 139 8 = some (9, false, .goto 6, 3) := by decide +kernel
theorem eL_merge_8 : Ev 139 8 (ls) (st) h r ↔ Ev 139 14 (ls) (st) h r := ev_goto iL_merge_8 (by decide)
theorem iL_merge_11 : mn_ins 139 11 = some (9, false, .astore_n 2, 1) := by decide +kernel
theorem eL_merge_11 : Ev 139 11 (a0 :: a1 :: a2 :: ls) (.ref a :: st) h r ↔ Ev 139 12 (a0 :: mn_k a1 :: some (.ref a) :: ls) (st) h r := ev_astore_n iL_merge_11 (by show 2 < _; simp only [List.length_cons]; omega) rfl
theorem eL_merge_11n : Ev 139 11 (a0 :: a1 :: a2 :: ls) (.null :: st) h r ↔ Ev 139 12 (a0 :: mn_k a1 :: some (.null) :: ls) (st) h r := ev_astore_n iL_merge_11 (by show 2 < _; simp only [List.length_cons]; omega) rfl
theorem eL_merge_11t : Ev 139 11 (a0 :: a1 :: a2 :: ls) (tkv o1 :: st) h r ↔ Ev 139 12 (a0 :: mn_k a1 :: some (tkv o1) :: ls) (st) h r := ev_astore_n iL_merge_11 (by show 2 < _; simp only [List.length_cons]; omega) tkv_r
theorem eL_merge_11s : Ev 139 11 (a0 :: a1 :: a2 :: ls) (sgv o1 :: st) h r ↔ Ev 139 12 (a0 :: mn_k a1 :: some (sgv o1) :: ls) (st) h r := ev_astore_n iL_merge_11 (by show 2 < _; simp only [List.length_cons]; omega) sgv_r
theorem eL_merge_11c : Ev 139 11 (a0 :: a1 :: a2 :: ls) (cdv o1 :: st) h r ↔ Ev 139 12 (a0 :: mn_k a1 :: some (cdv o1) :: ls) (st) h r := ev_astore_n iL_merge_11 (by show 2 < _; simp only [List.length_cons]; omega) cdv_r
theorem iL_merge_12 : mn_ins 139 12 = some (9, false, .iconst 1, 1) := by decide +kernel
theorem eL_merge_12 : Ev 139 12 (ls) (st) h r ↔ Ev 139 13 (ls) (.int (nI 1) :: st) h r := ev_iconst iL_merge_12 (by decide)
theorem iL_merge_13 : mn_ins 139 13 = some (9, false, .ireturn, 1) := by decide +kernel
theorem eL_merge_13 : Ev 139 13 (ls) [.int x] h r ↔ r = (h, .inl (some (.int x))) := ev_iret iL_merge_13 (X := mnI_L_merge) rfl rfl
theorem iL_merge_14 : mn_ins 139 14 = some (9, false, .iconst 0, 1) := by decide +kernel
theorem eL_merge_14 : Ev 139 14 (ls) (st) h r ↔ Ev 139 15 (ls) (.int (nI 0) :: st) h r := ev_iconst iL_merge_14 (by decide)
theorem iL_merge_15 : mn_ins 139 15 = some (9, false, .ireturn, 1) := by decide +kernel
theorem eL_merge_15 : Ev 139 15 (ls) [.int x] h r ↔ r = (h, .inl (some (.int x))) := ev_iret iL_merge_15 (X := mnI_L_merge) rfl rfl
theorem iL_cell_0 : mn_ins 140 0 = some (9, false, .aload_n 0, 1) := by decide +kernel
theorem eL_cell_0 : Ev 140 0 (some (.ref a) :: ls) (st) h r ↔ Ev 140 1 (some (.ref a) :: ls) (.ref a :: st) h r := ev_aload_n iL_cell_0 rfl rfl
theorem eL_cell_0n : Ev 140 0 (some (.null) :: ls) (st) h r ↔ Ev 140 1 (some (.null) :: ls) (.null :: st) h r := ev_aload_n iL_cell_0 rfl rfl
theorem eL_cell_0t : Ev 140 0 (some (tkv o1) :: ls) (st) h r ↔ Ev 140 1 (some (tkv o1) :: ls) (tkv o1 :: st) h r := ev_aload_n iL_cell_0 rfl tkv_r
theorem eL_cell_0s : Ev 140 0 (some (sgv o1) :: ls) (st) h r ↔ Ev 140 1 (some (sgv o1) :: ls) (sgv o1 :: st) h r := ev_aload_n iL_cell_0 rfl sgv_r
theorem eL_cell_0c : Ev 140 0 (some (cdv o1) :: ls) (st) h r ↔ Ev 140 1 (some (cdv o1) :: ls) (cdv o1 :: st) h r := ev_aload_n iL_cell_0 rfl cdv_r
theorem iL_cell_1 : mn_ins 140 1 = some (9, false, .iload_n 1, 1) := by decide +kernel
theorem eL_cell_1 : Ev 140 1 (a0 :: some (.int x) :: ls) (st) h r ↔ Ev 140 2 (a0 :: some (.int x) :: ls) (.int x :: st) h r := ev_iload_n iL_cell_1 rfl
theorem iL_cell_2 : mn_ins 140 2 = some (9, false, .iload_n 2, 1) := by decide +kernel
theorem eL_cell_2 : Ev 140 2 (a0 :: a1 :: some (.int x) :: ls) (st) h r ↔ Ev 140 3 (a0 :: a1 :: some (.int x) :: ls) (.int x :: st) h r := ev_iload_n iL_cell_2 rfl
theorem iL_cell_3 : mn_ins 140 3 = some (9, false, .iload_n 3, 1) := by decide +kernel
theorem eL_cell_3 : Ev 140 3 (a0 :: a1 :: a2 :: some (.int x) :: ls) (st) h r ↔ Ev 140 4 (a0 :: a1 :: a2 :: some (.int x) :: ls) (.int x :: st) h r := ev_iload_n iL_cell_3 rfl
theorem iL_cell_4 : mn_ins 140 4 = some (9, false, .invokevirtual 24, 3) := by decide +kernel
theorem eL_cell_4 : Ev 140 4 (ls) (.int x2 :: .int x1 :: .int x0 :: .ref b :: st) h r ↔ Evr true (decide (mn_cats st ≤ 8) && mn_isc h b 7) 140 4 ls st h.2.2.1 h.2.2.2 (Cl 72 (.ref b :: [.int x0, .int x1, .int x2]) h.1 h.2.1) r := Ev_V (As := [.int x0, .int x1, .int x2]) iL_cell_4 (by decide +kernel) (x := mnI_L_cell) (x2 := mnI_X7_cell) rfl rfl rfl (by decide +kernel) (Nat.le_of_ble_eq_true rfl) rfl
theorem iL_cell_7 : mn_ins 140 7 = some (9, false, .goto 11, 3) := by decide +kernel
theorem eL_cell_7 : Ev 140 7 (ls) (st) h r ↔ Ev 140 18 (ls) (st) h r := ev_goto iL_cell_7 (by decide)
theorem iL_cell_10 : mn_ins 140 10 = some (9, false, .astore 4, 2) := by decide +kernel
theorem eL_cell_10 : Ev 140 10 (a0 :: a1 :: a2 :: a3 :: a4 :: ls) (.ref a :: st) h r ↔ Ev 140 12 (a0 :: a1 :: a2 :: mn_k a3 :: some (.ref a) :: ls) (st) h r := ev_astore iL_cell_10 (by show 4 < _; simp only [List.length_cons]; omega) rfl
theorem eL_cell_10n : Ev 140 10 (a0 :: a1 :: a2 :: a3 :: a4 :: ls) (.null :: st) h r ↔ Ev 140 12 (a0 :: a1 :: a2 :: mn_k a3 :: some (.null) :: ls) (st) h r := ev_astore iL_cell_10 (by show 4 < _; simp only [List.length_cons]; omega) rfl
theorem eL_cell_10t : Ev 140 10 (a0 :: a1 :: a2 :: a3 :: a4 :: ls) (tkv o1 :: st) h r ↔ Ev 140 12 (a0 :: a1 :: a2 :: mn_k a3 :: some (tkv o1) :: ls) (st) h r := ev_astore iL_cell_10 (by show 4 < _; simp only [List.length_cons]; omega) tkv_r
theorem eL_cell_10s : Ev 140 10 (a0 :: a1 :: a2 :: a3 :: a4 :: ls) (sgv o1 :: st) h r ↔ Ev 140 12 (a0 :: a1 :: a2 :: mn_k a3 :: some (sgv o1) :: ls) (st) h r := ev_astore iL_cell_10 (by show 4 < _; simp only [List.length_cons]; omega) sgv_r
theorem eL_cell_10c : Ev 140 10 (a0 :: a1 :: a2 :: a3 :: a4 :: ls) (cdv o1 :: st) h r ↔ Ev 140 12 (a0 :: a1 :: a2 :: mn_k a3 :: some (cdv o1) :: ls) (st) h r := ev_astore iL_cell_10 (by show 4 < _; simp only [List.length_cons]; omega) cdv_r
theorem iL_cell_12 : mn_ins 140 12 = some (9, false, .iconst 1, 1) := by decide +kernel
theorem eL_cell_12 : Ev 140 12 (ls) (st) h r ↔ Ev 140 13 (ls) (.int (nI 1) :: st) h r := ev_iconst iL_cell_12 (by decide)
theorem iL_cell_13 : mn_ins 140 13 = some (9, false, .ireturn, 1) := by decide +kernel
theorem eL_cell_13 : Ev 140 13 (ls) [.int x] h r ↔ r = (h, .inl (some (.int x))) := ev_iret iL_cell_13 (X := mnI_L_cell) rfl rfl
theorem iL_cell_14 : mn_ins 140 14 = some (9, false, .astore 4, 2) := by decide +kernel
theorem eL_cell_14 : Ev 140 14 (a0 :: a1 :: a2 :: a3 :: a4 :: ls) (.ref a :: st) h r ↔ Ev 140 16 (a0 :: a1 :: a2 :: mn_k a3 :: some (.ref a) :: ls) (st) h r := ev_astore iL_cell_14 (by show 4 < _; simp only [List.length_cons]; omega) rfl
theorem eL_cell_14n : Ev 140 14 (a0 :: a1 :: a2 :: a3 :: a4 :: ls) (.null :: st) h r ↔ Ev 140 16 (a0 :: a1 :: a2 :: mn_k a3 :: some (.null) :: ls) (st) h r := ev_astore iL_cell_14 (by show 4 < _; simp only [List.length_cons]; omega) rfl
theorem eL_cell_14t : Ev 140 14 (a0 :: a1 :: a2 :: a3 :: a4 :: ls) (tkv o1 :: st) h r ↔ Ev 140 16 (a0 :: a1 :: a2 :: mn_k a3 :: some (tkv o1) :: ls) (st) h r := ev_astore iL_cell_14 (by show 4 < _; simp only [List.length_cons]; omega) tkv_r
theorem eL_cell_14s : Ev 140 14 (a0 :: a1 :: a2 :: a3 :: a4 :: ls) (sgv o1 :: st) h r ↔ Ev 140 16 (a0 :: a1 :: a2 :: mn_k a3 :: some (sgv o1) :: ls) (st) h r := ev_astore iL_cell_14 (by show 4 < _; simp only [List.length_cons]; omega) sgv_r
theorem eL_cell_14c : Ev 140 14 (a0 :: a1 :: a2 :: a3 :: a4 :: ls) (cdv o1 :: st) h r ↔ Ev 140 16 (a0 :: a1 :: a2 :: mn_k a3 :: some (cdv o1) :: ls) (st) h r := ev_astore iL_cell_14 (by show 4 < _; simp only [List.length_cons]; omega) cdv_r
theorem iL_cell_16 : mn_ins 140 16 = some (9, false, .iconst 2, 1) := by decide +kernel
theorem eL_cell_16 : Ev 140 16 (ls) (st) h r ↔ Ev 140 17 (ls) (.int (nI 2) :: st) h r := ev_iconst iL_cell_16 (by decide)
theorem iL_cell_17 : mn_ins 140 17 = some (9, false, .ireturn, 1) := by decide +kernel
theorem eL_cell_17 : Ev 140 17 (ls) [.int x] h r ↔ r = (h, .inl (some (.int x))) := ev_iret iL_cell_17 (X := mnI_L_cell) rfl rfl
theorem iL_cell_18 : mn_ins 140 18 = some (9, false, .iconst 0, 1) := by decide +kernel
theorem eL_cell_18 : Ev 140 18 (ls) (st) h r ↔ Ev 140 19 (ls) (.int (nI 0) :: st) h r := ev_iconst iL_cell_18 (by decide)
theorem iL_cell_19 : mn_ins 140 19 = some (9, false, .ireturn, 1) := by decide +kernel
theorem eL_cell_19 : Ev 140 19 (ls) [.int x] h r ↔ r = (h, .inl (some (.int x))) := ev_iret iL_cell_19 (X := mnI_L_cell) rfl rfl
theorem iL_start_0 : mn_ins 141 0 = some (9, false, .aload_n 0, 1) := by decide +kernel
theorem eL_start_0 : Ev 141 0 (some (.ref a) :: ls) (st) h r ↔ Ev 141 1 (some (.ref a) :: ls) (.ref a :: st) h r := ev_aload_n iL_start_0 rfl rfl
theorem eL_start_0n : Ev 141 0 (some (.null) :: ls) (st) h r ↔ Ev 141 1 (some (.null) :: ls) (.null :: st) h r := ev_aload_n iL_start_0 rfl rfl
theorem eL_start_0t : Ev 141 0 (some (tkv o1) :: ls) (st) h r ↔ Ev 141 1 (some (tkv o1) :: ls) (tkv o1 :: st) h r := ev_aload_n iL_start_0 rfl tkv_r
theorem eL_start_0s : Ev 141 0 (some (sgv o1) :: ls) (st) h r ↔ Ev 141 1 (some (sgv o1) :: ls) (sgv o1 :: st) h r := ev_aload_n iL_start_0 rfl sgv_r
theorem eL_start_0c : Ev 141 0 (some (cdv o1) :: ls) (st) h r ↔ Ev 141 1 (some (cdv o1) :: ls) (cdv o1 :: st) h r := ev_aload_n iL_start_0 rfl cdv_r
theorem iL_start_1 : mn_ins 141 1 = some (9, false, .invokevirtual 28, 3) := by decide +kernel
theorem eL_start_1 : Ev 141 1 (ls) (.ref b :: st) h r ↔ Evr true (decide (mn_cats st ≤ 8) && mn_isc h b 7) 141 1 ls st h.2.2.1 h.2.2.2 (Cl 73 (.ref b :: []) h.1 h.2.1) r := Ev_V (As := []) iL_start_1 (by decide +kernel) (x := mnI_L_start) (x2 := mnI_X7_start) rfl rfl rfl (by decide +kernel) (Nat.le_of_ble_eq_true rfl) rfl
theorem iL_start_4 : mn_ins 141 4 = some (9, false, .goto 6, 3) := by decide +kernel
theorem eL_start_4 : Ev 141 4 (ls) (st) h r ↔ Ev 141 10 (ls) (st) h r := ev_goto iL_start_4 (by decide)
theorem iL_start_7 : mn_ins 141 7 = some (9, false, .astore_n 1, 1) := by decide +kernel
theorem eL_start_7 : Ev 141 7 (a0 :: a1 :: ls) (.ref a :: st) h r ↔ Ev 141 8 (mn_k a0 :: some (.ref a) :: ls) (st) h r := ev_astore_n iL_start_7 (by show 1 < _; simp only [List.length_cons]; omega) rfl
theorem eL_start_7n : Ev 141 7 (a0 :: a1 :: ls) (.null :: st) h r ↔ Ev 141 8 (mn_k a0 :: some (.null) :: ls) (st) h r := ev_astore_n iL_start_7 (by show 1 < _; simp only [List.length_cons]; omega) rfl
theorem eL_start_7t : Ev 141 7 (a0 :: a1 :: ls) (tkv o1 :: st) h r ↔ Ev 141 8 (mn_k a0 :: some (tkv o1) :: ls) (st) h r := ev_astore_n iL_start_7 (by show 1 < _; simp only [List.length_cons]; omega) tkv_r
theorem eL_start_7s : Ev 141 7 (a0 :: a1 :: ls) (sgv o1 :: st) h r ↔ Ev 141 8 (mn_k a0 :: some (sgv o1) :: ls) (st) h r := ev_astore_n iL_start_7 (by show 1 < _; simp only [List.length_cons]; omega) sgv_r
theorem eL_start_7c : Ev 141 7 (a0 :: a1 :: ls) (cdv o1 :: st) h r ↔ Ev 141 8 (mn_k a0 :: some (cdv o1) :: ls) (st) h r := ev_astore_n iL_start_7 (by show 1 < _; simp only [List.length_cons]; omega) cdv_r
theorem iL_start_8 : mn_ins 141 8 = some (9, false, .iconst 1, 1) := by decide +kernel
theorem eL_start_8 : Ev 141 8 (ls) (st) h r ↔ Ev 141 9 (ls) (.int (nI 1) :: st) h r := ev_iconst iL_start_8 (by decide)
theorem iL_start_9 : mn_ins 141 9 = some (9, false, .ireturn, 1) := by decide +kernel
theorem eL_start_9 : Ev 141 9 (ls) [.int x] h r ↔ r = (h, .inl (some (.int x))) := ev_iret iL_start_9 (X := mnI_L_start) rfl rfl
theorem iL_start_10 : mn_ins 141 10 = some (9, false, .iconst 0, 1) := by decide +kernel
theorem eL_start_10 : Ev 141 10 (ls) (st) h r ↔ Ev 141 11 (ls) (.int (nI 0) :: st) h r := ev_iconst iL_start_10 (by decide)
theorem iL_start_11 : mn_ins 141 11 = some (9, false, .ireturn, 1) := by decide +kernel
theorem eL_start_11 : Ev 141 11 (ls) [.int x] h r ↔ r = (h, .inl (some (.int x))) := ev_iret iL_start_11 (X := mnI_L_start) rfl rfl
theorem iL_step_0 : mn_ins 142 0 = some (9, false, .aload_n 3, 1) := by decide +kernel
theorem eL_step_0 : Ev 142 0 (a0 :: a1 :: a2 :: some (.ref a) :: ls) (st) h r ↔ Ev 142 1 (a0 :: a1 :: a2 :: some (.ref a) :: ls) (.ref a :: st) h r := ev_aload_n iL_step_0 rfl rfl
theorem eL_step_0n : Ev 142 0 (a0 :: a1 :: a2 :: some (.null) :: ls) (st) h r ↔ Ev 142 1 (a0 :: a1 :: a2 :: some (.null) :: ls) (.null :: st) h r := ev_aload_n iL_step_0 rfl rfl
theorem eL_step_0t : Ev 142 0 (a0 :: a1 :: a2 :: some (tkv o1) :: ls) (st) h r ↔ Ev 142 1 (a0 :: a1 :: a2 :: some (tkv o1) :: ls) (tkv o1 :: st) h r := ev_aload_n iL_step_0 rfl tkv_r
theorem eL_step_0s : Ev 142 0 (a0 :: a1 :: a2 :: some (sgv o1) :: ls) (st) h r ↔ Ev 142 1 (a0 :: a1 :: a2 :: some (sgv o1) :: ls) (sgv o1 :: st) h r := ev_aload_n iL_step_0 rfl sgv_r
theorem eL_step_0c : Ev 142 0 (a0 :: a1 :: a2 :: some (cdv o1) :: ls) (st) h r ↔ Ev 142 1 (a0 :: a1 :: a2 :: some (cdv o1) :: ls) (cdv o1 :: st) h r := ev_aload_n iL_step_0 rfl cdv_r
theorem iL_step_1 : mn_ins 142 1 = some (9, false, .iconst 0, 1) := by decide +kernel
theorem eL_step_1 : Ev 142 1 (ls) (st) h r ↔ Ev 142 2 (ls) (.int (nI 0) :: st) h r := ev_iconst iL_step_1 (by decide)
theorem iL_step_2 : mn_ins 142 2 = some (9, false, .aload_n 0, 1) := by decide +kernel
theorem eL_step_2 : Ev 142 2 (some (.ref a) :: ls) (st) h r ↔ Ev 142 3 (some (.ref a) :: ls) (.ref a :: st) h r := ev_aload_n iL_step_2 rfl rfl
theorem eL_step_2n : Ev 142 2 (some (.null) :: ls) (st) h r ↔ Ev 142 3 (some (.null) :: ls) (.null :: st) h r := ev_aload_n iL_step_2 rfl rfl
theorem eL_step_2t : Ev 142 2 (some (tkv o1) :: ls) (st) h r ↔ Ev 142 3 (some (tkv o1) :: ls) (tkv o1 :: st) h r := ev_aload_n iL_step_2 rfl tkv_r
theorem eL_step_2s : Ev 142 2 (some (sgv o1) :: ls) (st) h r ↔ Ev 142 3 (some (sgv o1) :: ls) (sgv o1 :: st) h r := ev_aload_n iL_step_2 rfl sgv_r
theorem eL_step_2c : Ev 142 2 (some (cdv o1) :: ls) (st) h r ↔ Ev 142 3 (some (cdv o1) :: ls) (cdv o1 :: st) h r := ev_aload_n iL_step_2 rfl cdv_r
theorem iL_step_3 : mn_ins 142 3 = some (9, false, .iload_n 1, 1) := by decide +kernel
theorem eL_step_3 : Ev 142 3 (a0 :: some (.int x) :: ls) (st) h r ↔ Ev 142 4 (a0 :: some (.int x) :: ls) (.int x :: st) h r := ev_iload_n iL_step_3 rfl
theorem iL_step_4 : mn_ins 142 4 = some (9, false, .iload_n 2, 1) := by decide +kernel
theorem eL_step_4 : Ev 142 4 (a0 :: a1 :: some (.int x) :: ls) (st) h r ↔ Ev 142 5 (a0 :: a1 :: some (.int x) :: ls) (.int x :: st) h r := ev_iload_n iL_step_4 rfl
theorem iL_step_5 : mn_ins 142 5 = some (9, false, .invokevirtual 31, 3) := by decide +kernel
theorem eL_step_5 : Ev 142 5 (ls) (.int x1 :: .int x0 :: .ref b :: st) h r ↔ Evr true (decide (mn_cats st ≤ 8) && mn_isc h b 7) 142 5 ls st h.2.2.1 h.2.2.2 (Cl 76 (.ref b :: [.int x0, .int x1]) h.1 h.2.1) r := Ev_V (As := [.int x0, .int x1]) iL_step_5 (by decide +kernel) (x := mnI_L_step) (x2 := mnI_X7_step) rfl rfl rfl (by decide +kernel) (Nat.le_of_ble_eq_true rfl) rfl
theorem iL_step_8 : mn_ins 142 8 = some (9, false, .i2l, 1) := by decide +kernel
theorem eL_step_8 : Ev 142 8 (ls) (.int x :: st) h r ↔ Ev 142 9 (ls) (.long x.toInt64 :: st) h r := ev_i2l iL_step_8
theorem iL_step_9 : mn_ins 142 9 = some (9, false, .lastore, 1) := by decide +kernel
theorem eL_step_9 : Ev 142 9 (ls) (.long u :: .int x :: .ref a :: st) h r ↔ Evh 142 10 ls st (mn_asl h a x u) r := ev_last iL_step_9
theorem iL_step_10 : mn_ins 142 10 = some (9, false, .goto 11, 3) := by decide +kernel
theorem eL_step_10 : Ev 142 10 (ls) (st) h r ↔ Ev 142 21 (ls) (st) h r := ev_goto iL_step_10 (by decide)
theorem iL_step_13 : mn_ins 142 13 = some (9, false, .astore 4, 2) := by decide +kernel
theorem eL_step_13 : Ev 142 13 (a0 :: a1 :: a2 :: a3 :: a4 :: ls) (.ref a :: st) h r ↔ Ev 142 15 (a0 :: a1 :: a2 :: mn_k a3 :: some (.ref a) :: ls) (st) h r := ev_astore iL_step_13 (by show 4 < _; simp only [List.length_cons]; omega) rfl
theorem eL_step_13n : Ev 142 13 (a0 :: a1 :: a2 :: a3 :: a4 :: ls) (.null :: st) h r ↔ Ev 142 15 (a0 :: a1 :: a2 :: mn_k a3 :: some (.null) :: ls) (st) h r := ev_astore iL_step_13 (by show 4 < _; simp only [List.length_cons]; omega) rfl
theorem eL_step_13t : Ev 142 13 (a0 :: a1 :: a2 :: a3 :: a4 :: ls) (tkv o1 :: st) h r ↔ Ev 142 15 (a0 :: a1 :: a2 :: mn_k a3 :: some (tkv o1) :: ls) (st) h r := ev_astore iL_step_13 (by show 4 < _; simp only [List.length_cons]; omega) tkv_r
theorem eL_step_13s : Ev 142 13 (a0 :: a1 :: a2 :: a3 :: a4 :: ls) (sgv o1 :: st) h r ↔ Ev 142 15 (a0 :: a1 :: a2 :: mn_k a3 :: some (sgv o1) :: ls) (st) h r := ev_astore iL_step_13 (by show 4 < _; simp only [List.length_cons]; omega) sgv_r
theorem eL_step_13c : Ev 142 13 (a0 :: a1 :: a2 :: a3 :: a4 :: ls) (cdv o1 :: st) h r ↔ Ev 142 15 (a0 :: a1 :: a2 :: mn_k a3 :: some (cdv o1) :: ls) (st) h r := ev_astore iL_step_13 (by show 4 < _; simp only [List.length_cons]; omega) cdv_r
theorem iL_step_15 : mn_ins 142 15 = some (9, false, .iconst 1, 1) := by decide +kernel
theorem eL_step_15 : Ev 142 15 (ls) (st) h r ↔ Ev 142 16 (ls) (.int (nI 1) :: st) h r := ev_iconst iL_step_15 (by decide)
theorem iL_step_16 : mn_ins 142 16 = some (9, false, .ireturn, 1) := by decide +kernel
theorem eL_step_16 : Ev 142 16 (ls) [.int x] h r ↔ r = (h, .inl (some (.int x))) := ev_iret iL_step_16 (X := mnI_L_step) rfl rfl
theorem iL_step_17 : mn_ins 142 17 = some (9, false, .astore 4, 2) := by decide +kernel
theorem eL_step_17 : Ev 142 17 (a0 :: a1 :: a2 :: a3 :: a4 :: ls) (.ref a :: st) h r ↔ Ev 142 19 (a0 :: a1 :: a2 :: mn_k a3 :: some (.ref a) :: ls) (st) h r := ev_astore iL_step_17 (by show 4 < _; simp only [List.length_cons]; omega) rfl
theorem eL_step_17n : Ev 142 17 (a0 :: a1 :: a2 :: a3 :: a4 :: ls) (.null :: st) h r ↔ Ev 142 19 (a0 :: a1 :: a2 :: mn_k a3 :: some (.null) :: ls) (st) h r := ev_astore iL_step_17 (by show 4 < _; simp only [List.length_cons]; omega) rfl
theorem eL_step_17t : Ev 142 17 (a0 :: a1 :: a2 :: a3 :: a4 :: ls) (tkv o1 :: st) h r ↔ Ev 142 19 (a0 :: a1 :: a2 :: mn_k a3 :: some (tkv o1) :: ls) (st) h r := ev_astore iL_step_17 (by show 4 < _; simp only [List.length_cons]; omega) tkv_r
theorem eL_step_17s : Ev 142 17 (a0 :: a1 :: a2 :: a3 :: a4 :: ls) (sgv o1 :: st) h r ↔ Ev 142 19 (a0 :: a1 :: a2 :: mn_k a3 :: some (sgv o1) :: ls) (st) h r := ev_astore iL_step_17 (by show 4 < _; simp only [List.length_cons]; omega) sgv_r
theorem eL_step_17c : Ev 142 17 (a0 :: a1 :: a2 :: a3 :: a4 :: ls) (cdv o1 :: st) h r ↔ Ev 142 19 (a0 :: a1 :: a2 :: mn_k a3 :: some (cdv o1) :: ls) (st) h r := ev_astore iL_step_17 (by show 4 < _; simp only [List.length_cons]; omega) cdv_r
theorem iL_step_19 : mn_ins 142 19 = some (9, false, .iconst 2, 1) := by decide +kernel
theorem eL_step_19 : Ev 142 19 (ls) (st) h r ↔ Ev 142 20 (ls) (.int (nI 2) :: st) h r := ev_iconst iL_step_19 (by decide)
theorem iL_step_20 : mn_ins 142 20 = some (9, false, .ireturn, 1) := by decide +kernel
theorem eL_step_20 : Ev 142 20 (ls) [.int x] h r ↔ r = (h, .inl (some (.int x))) := ev_iret iL_step_20 (X := mnI_L_step) rfl rfl
theorem iL_step_21 : mn_ins 142 21 = some (9, false, .iconst 0, 1) := by decide +kernel
theorem eL_step_21 : Ev 142 21 (ls) (st) h r ↔ Ev 142 22 (ls) (.int (nI 0) :: st) h r := ev_iconst iL_step_21 (by decide)
theorem iL_step_22 : mn_ins 142 22 = some (9, false, .ireturn, 1) := by decide +kernel
theorem eL_step_22 : Ev 142 22 (ls) [.int x] h r ↔ r = (h, .inl (some (.int x))) := ev_iret iL_step_22 (X := mnI_L_step) rfl rfl
theorem iL_run_0 : mn_ins 143 0 = some (9, false, .aload_n 2, 1) := by decide +kernel
theorem eL_run_0 : Ev 143 0 (a0 :: a1 :: some (.ref a) :: ls) (st) h r ↔ Ev 143 1 (a0 :: a1 :: some (.ref a) :: ls) (.ref a :: st) h r := ev_aload_n iL_run_0 rfl rfl
theorem eL_run_0n : Ev 143 0 (a0 :: a1 :: some (.null) :: ls) (st) h r ↔ Ev 143 1 (a0 :: a1 :: some (.null) :: ls) (.null :: st) h r := ev_aload_n iL_run_0 rfl rfl
theorem eL_run_0t : Ev 143 0 (a0 :: a1 :: some (tkv o1) :: ls) (st) h r ↔ Ev 143 1 (a0 :: a1 :: some (tkv o1) :: ls) (tkv o1 :: st) h r := ev_aload_n iL_run_0 rfl tkv_r
theorem eL_run_0s : Ev 143 0 (a0 :: a1 :: some (sgv o1) :: ls) (st) h r ↔ Ev 143 1 (a0 :: a1 :: some (sgv o1) :: ls) (sgv o1 :: st) h r := ev_aload_n iL_run_0 rfl sgv_r
theorem eL_run_0c : Ev 143 0 (a0 :: a1 :: some (cdv o1) :: ls) (st) h r ↔ Ev 143 1 (a0 :: a1 :: some (cdv o1) :: ls) (cdv o1 :: st) h r := ev_aload_n iL_run_0 rfl cdv_r
theorem iL_run_1 : mn_ins 143 1 = some (9, false, .iconst 0, 1) := by decide +kernel
theorem eL_run_1 : Ev 143 1 (ls) (st) h r ↔ Ev 143 2 (ls) (.int (nI 0) :: st) h r := ev_iconst iL_run_1 (by decide)
theorem iL_run_2 : mn_ins 143 2 = some (9, false, .aload_n 0, 1) := by decide +kernel
theorem eL_run_2 : Ev 143 2 (some (.ref a) :: ls) (st) h r ↔ Ev 143 3 (some (.ref a) :: ls) (.ref a :: st) h r := ev_aload_n iL_run_2 rfl rfl
theorem eL_run_2n : Ev 143 2 (some (.null) :: ls) (st) h r ↔ Ev 143 3 (some (.null) :: ls) (.null :: st) h r := ev_aload_n iL_run_2 rfl rfl
theorem eL_run_2t : Ev 143 2 (some (tkv o1) :: ls) (st) h r ↔ Ev 143 3 (some (tkv o1) :: ls) (tkv o1 :: st) h r := ev_aload_n iL_run_2 rfl tkv_r
theorem eL_run_2s : Ev 143 2 (some (sgv o1) :: ls) (st) h r ↔ Ev 143 3 (some (sgv o1) :: ls) (sgv o1 :: st) h r := ev_aload_n iL_run_2 rfl sgv_r
theorem eL_run_2c : Ev 143 2 (some (cdv o1) :: ls) (st) h r ↔ Ev 143 3 (some (cdv o1) :: ls) (cdv o1 :: st) h r := ev_aload_n iL_run_2 rfl cdv_r
theorem iL_run_3 : mn_ins 143 3 = some (9, false, .iload_n 1, 1) := by decide +kernel
theorem eL_run_3 : Ev 143 3 (a0 :: some (.int x) :: ls) (st) h r ↔ Ev 143 4 (a0 :: some (.int x) :: ls) (.int x :: st) h r := ev_iload_n iL_run_3 rfl
theorem iL_run_4 : mn_ins 143 4 = some (9, false, .invokevirtual 34, 3) := by decide +kernel
theorem eL_run_4 : Ev 143 4 (ls) (.int x0 :: .ref b :: st) h r ↔ Evr true (decide (mn_cats st ≤ 8) && mn_isc h b 7) 143 4 ls st h.2.2.1 h.2.2.2 (Cl 77 (.ref b :: [.int x0]) h.1 h.2.1) r := Ev_V (As := [.int x0]) iL_run_4 (by decide +kernel) (x := mnI_L_run) (x2 := mnI_X7_run) rfl rfl rfl (by decide +kernel) (Nat.le_of_ble_eq_true rfl) rfl
theorem iL_run_7 : mn_ins 143 7 = some (9, false, .i2l, 1) := by decide +kernel
theorem eL_run_7 : Ev 143 7 (ls) (.int x :: st) h r ↔ Ev 143 8 (ls) (.long x.toInt64 :: st) h r := ev_i2l iL_run_7
theorem iL_run_8 : mn_ins 143 8 = some (9, false, .lastore, 1) := by decide +kernel
theorem eL_run_8 : Ev 143 8 (ls) (.long u :: .int x :: .ref a :: st) h r ↔ Evh 143 9 ls st (mn_asl h a x u) r := ev_last iL_run_8
theorem iL_run_9 : mn_ins 143 9 = some (9, false, .goto 6, 3) := by decide +kernel
theorem eL_run_9 : Ev 143 9 (ls) (st) h r ↔ Ev 143 15 (ls) (st) h r := ev_goto iL_run_9 (by decide)
theorem iL_run_12 : mn_ins 143 12 = some (9, false, .astore_n 3, 1) := by decide +kernel
theorem eL_run_12 : Ev 143 12 (a0 :: a1 :: a2 :: a3 :: ls) (.ref a :: st) h r ↔ Ev 143 13 (a0 :: a1 :: mn_k a2 :: some (.ref a) :: ls) (st) h r := ev_astore_n iL_run_12 (by show 3 < _; simp only [List.length_cons]; omega) rfl
theorem eL_run_12n : Ev 143 12 (a0 :: a1 :: a2 :: a3 :: ls) (.null :: st) h r ↔ Ev 143 13 (a0 :: a1 :: mn_k a2 :: some (.null) :: ls) (st) h r := ev_astore_n iL_run_12 (by show 3 < _; simp only [List.length_cons]; omega) rfl
theorem eL_run_12t : Ev 143 12 (a0 :: a1 :: a2 :: a3 :: ls) (tkv o1 :: st) h r ↔ Ev 143 13 (a0 :: a1 :: mn_k a2 :: some (tkv o1) :: ls) (st) h r := ev_astore_n iL_run_12 (by show 3 < _; simp only [List.length_cons]; omega) tkv_r
theorem eL_run_12s : Ev 143 12 (a0 :: a1 :: a2 :: a3 :: ls) (sgv o1 :: st) h r ↔ Ev 143 13 (a0 :: a1 :: mn_k a2 :: some (sgv o1) :: ls) (st) h r := ev_astore_n iL_run_12 (by show 3 < _; simp only [List.length_cons]; omega) sgv_r
theorem eL_run_12c : Ev 143 12 (a0 :: a1 :: a2 :: a3 :: ls) (cdv o1 :: st) h r ↔ Ev 143 13 (a0 :: a1 :: mn_k a2 :: some (cdv o1) :: ls) (st) h r := ev_astore_n iL_run_12 (by show 3 < _; simp only [List.length_cons]; omega) cdv_r
theorem iL_run_13 : mn_ins 143 13 = some (9, false, .iconst 1, 1) := by decide +kernel
theorem eL_run_13 : Ev 143 13 (ls) (st) h r ↔ Ev 143 14 (ls) (.int (nI 1) :: st) h r := ev_iconst iL_run_13 (by decide)
theorem iL_run_14 : mn_ins 143 14 = some (9, false, .ireturn, 1) := by decide +kernel
theorem eL_run_14 : Ev 143 14 (ls) [.int x] h r ↔ r = (h, .inl (some (.int x))) := ev_iret iL_run_14 (X := mnI_L_run) rfl rfl
theorem iL_run_15 : mn_ins 143 15 = some (9, false, .iconst 0, 1) := by decide +kernel
theorem eL_run_15 : Ev 143 15 (ls) (st) h r ↔ Ev 143 16 (ls) (.int (nI 0) :: st) h r := ev_iconst iL_run_15 (by decide)
theorem iL_run_16 : mn_ins 143 16 = some (9, false, .ireturn, 1) := by decide +kernel
theorem eL_run_16 : Ev 143 16 (ls) [.int x] h r ↔ r = (h, .inl (some (.int x))) := ev_iret iL_run_16 (X := mnI_L_run) rfl rfl
theorem iL_task_0 : mn_ins 144 0 = some (9, false, .aload_n 3, 1) := by decide +kernel
theorem eL_task_0 : Ev 144 0 (a0 :: a1 :: a2 :: some (.ref a) :: ls) (st) h r ↔ Ev 144 1 (a0 :: a1 :: a2 :: some (.ref a) :: ls) (.ref a :: st) h r := ev_aload_n iL_task_0 rfl rfl
theorem eL_task_0n : Ev 144 0 (a0 :: a1 :: a2 :: some (.null) :: ls) (st) h r ↔ Ev 144 1 (a0 :: a1 :: a2 :: some (.null) :: ls) (.null :: st) h r := ev_aload_n iL_task_0 rfl rfl
theorem eL_task_0t : Ev 144 0 (a0 :: a1 :: a2 :: some (tkv o1) :: ls) (st) h r ↔ Ev 144 1 (a0 :: a1 :: a2 :: some (tkv o1) :: ls) (tkv o1 :: st) h r := ev_aload_n iL_task_0 rfl tkv_r
theorem eL_task_0s : Ev 144 0 (a0 :: a1 :: a2 :: some (sgv o1) :: ls) (st) h r ↔ Ev 144 1 (a0 :: a1 :: a2 :: some (sgv o1) :: ls) (sgv o1 :: st) h r := ev_aload_n iL_task_0 rfl sgv_r
theorem eL_task_0c : Ev 144 0 (a0 :: a1 :: a2 :: some (cdv o1) :: ls) (st) h r ↔ Ev 144 1 (a0 :: a1 :: a2 :: some (cdv o1) :: ls) (cdv o1 :: st) h r := ev_aload_n iL_task_0 rfl cdv_r
theorem iL_task_1 : mn_ins 144 1 = some (9, false, .iconst 0, 1) := by decide +kernel
theorem eL_task_1 : Ev 144 1 (ls) (st) h r ↔ Ev 144 2 (ls) (.int (nI 0) :: st) h r := ev_iconst iL_task_1 (by decide)
theorem iL_task_2 : mn_ins 144 2 = some (9, false, .aload_n 0, 1) := by decide +kernel
theorem eL_task_2 : Ev 144 2 (some (.ref a) :: ls) (st) h r ↔ Ev 144 3 (some (.ref a) :: ls) (.ref a :: st) h r := ev_aload_n iL_task_2 rfl rfl
theorem eL_task_2n : Ev 144 2 (some (.null) :: ls) (st) h r ↔ Ev 144 3 (some (.null) :: ls) (.null :: st) h r := ev_aload_n iL_task_2 rfl rfl
theorem eL_task_2t : Ev 144 2 (some (tkv o1) :: ls) (st) h r ↔ Ev 144 3 (some (tkv o1) :: ls) (tkv o1 :: st) h r := ev_aload_n iL_task_2 rfl tkv_r
theorem eL_task_2s : Ev 144 2 (some (sgv o1) :: ls) (st) h r ↔ Ev 144 3 (some (sgv o1) :: ls) (sgv o1 :: st) h r := ev_aload_n iL_task_2 rfl sgv_r
theorem eL_task_2c : Ev 144 2 (some (cdv o1) :: ls) (st) h r ↔ Ev 144 3 (some (cdv o1) :: ls) (cdv o1 :: st) h r := ev_aload_n iL_task_2 rfl cdv_r
theorem iL_task_3 : mn_ins 144 3 = some (9, false, .iload_n 1, 1) := by decide +kernel
theorem eL_task_3 : Ev 144 3 (a0 :: some (.int x) :: ls) (st) h r ↔ Ev 144 4 (a0 :: some (.int x) :: ls) (.int x :: st) h r := ev_iload_n iL_task_3 rfl
theorem iL_task_4 : mn_ins 144 4 = some (9, false, .iload_n 2, 1) := by decide +kernel
theorem eL_task_4 : Ev 144 4 (a0 :: a1 :: some (.int x) :: ls) (st) h r ↔ Ev 144 5 (a0 :: a1 :: some (.int x) :: ls) (.int x :: st) h r := ev_iload_n iL_task_4 rfl
theorem iL_task_5 : mn_ins 144 5 = some (9, false, .invokevirtual 38, 3) := by decide +kernel
theorem eL_task_5 : Ev 144 5 (ls) (.int x1 :: .int x0 :: .ref b :: st) h r ↔ Evr true (decide (mn_cats st ≤ 8) && mn_isc h b 7) 144 5 ls st h.2.2.1 h.2.2.2 (Cl 78 (.ref b :: [.int x0, .int x1]) h.1 h.2.1) r := Ev_V (As := [.int x0, .int x1]) iL_task_5 (by decide +kernel) (x := mnI_L_task) (x2 := mnI_X7_task) rfl rfl rfl (by decide +kernel) (Nat.le_of_ble_eq_true rfl) rfl
theorem iL_task_8 : mn_ins 144 8 = some (9, false, .i2l, 1) := by decide +kernel
theorem eL_task_8 : Ev 144 8 (ls) (.int x :: st) h r ↔ Ev 144 9 (ls) (.long x.toInt64 :: st) h r := ev_i2l iL_task_8
theorem iL_task_9 : mn_ins 144 9 = some (9, false, .lastore, 1) := by decide +kernel
theorem eL_task_9 : Ev 144 9 (ls) (.long u :: .int x :: .ref a :: st) h r ↔ Evh 144 10 ls st (mn_asl h a x u) r := ev_last iL_task_9
theorem iL_task_10 : mn_ins 144 10 = some (9, false, .goto 11, 3) := by decide +kernel
theorem eL_task_10 : Ev 144 10 (ls) (st) h r ↔ Ev 144 21 (ls) (st) h r := ev_goto iL_task_10 (by decide)
theorem iL_task_13 : mn_ins 144 13 = some (9, false, .astore 4, 2) := by decide +kernel
theorem eL_task_13 : Ev 144 13 (a0 :: a1 :: a2 :: a3 :: a4 :: ls) (.ref a :: st) h r ↔ Ev 144 15 (a0 :: a1 :: a2 :: mn_k a3 :: some (.ref a) :: ls) (st) h r := ev_astore iL_task_13 (by show 4 < _; simp only [List.length_cons]; omega) rfl
theorem eL_task_13n : Ev 144 13 (a0 :: a1 :: a2 :: a3 :: a4 :: ls) (.null :: st) h r ↔ Ev 144 15 (a0 :: a1 :: a2 :: mn_k a3 :: some (.null) :: ls) (st) h r := ev_astore iL_task_13 (by show 4 < _; simp only [List.length_cons]; omega) rfl
theorem eL_task_13t : Ev 144 13 (a0 :: a1 :: a2 :: a3 :: a4 :: ls) (tkv o1 :: st) h r ↔ Ev 144 15 (a0 :: a1 :: a2 :: mn_k a3 :: some (tkv o1) :: ls) (st) h r := ev_astore iL_task_13 (by show 4 < _; simp only [List.length_cons]; omega) tkv_r
theorem eL_task_13s : Ev 144 13 (a0 :: a1 :: a2 :: a3 :: a4 :: ls) (sgv o1 :: st) h r ↔ Ev 144 15 (a0 :: a1 :: a2 :: mn_k a3 :: some (sgv o1) :: ls) (st) h r := ev_astore iL_task_13 (by show 4 < _; simp only [List.length_cons]; omega) sgv_r
theorem eL_task_13c : Ev 144 13 (a0 :: a1 :: a2 :: a3 :: a4 :: ls) (cdv o1 :: st) h r ↔ Ev 144 15 (a0 :: a1 :: a2 :: mn_k a3 :: some (cdv o1) :: ls) (st) h r := ev_astore iL_task_13 (by show 4 < _; simp only [List.length_cons]; omega) cdv_r
theorem iL_task_15 : mn_ins 144 15 = some (9, false, .iconst 1, 1) := by decide +kernel
theorem eL_task_15 : Ev 144 15 (ls) (st) h r ↔ Ev 144 16 (ls) (.int (nI 1) :: st) h r := ev_iconst iL_task_15 (by decide)
theorem iL_task_16 : mn_ins 144 16 = some (9, false, .ireturn, 1) := by decide +kernel
theorem eL_task_16 : Ev 144 16 (ls) [.int x] h r ↔ r = (h, .inl (some (.int x))) := ev_iret iL_task_16 (X := mnI_L_task) rfl rfl
theorem iL_task_17 : mn_ins 144 17 = some (9, false, .astore 4, 2) := by decide +kernel
theorem eL_task_17 : Ev 144 17 (a0 :: a1 :: a2 :: a3 :: a4 :: ls) (.ref a :: st) h r ↔ Ev 144 19 (a0 :: a1 :: a2 :: mn_k a3 :: some (.ref a) :: ls) (st) h r := ev_astore iL_task_17 (by show 4 < _; simp only [List.length_cons]; omega) rfl
theorem eL_task_17n : Ev 144 17 (a0 :: a1 :: a2 :: a3 :: a4 :: ls) (.null :: st) h r ↔ Ev 144 19 (a0 :: a1 :: a2 :: mn_k a3 :: some (.null) :: ls) (st) h r := ev_astore iL_task_17 (by show 4 < _; simp only [List.length_cons]; omega) rfl
theorem eL_task_17t : Ev 144 17 (a0 :: a1 :: a2 :: a3 :: a4 :: ls) (tkv o1 :: st) h r ↔ Ev 144 19 (a0 :: a1 :: a2 :: mn_k a3 :: some (tkv o1) :: ls) (st) h r := ev_astore iL_task_17 (by show 4 < _; simp only [List.length_cons]; omega) tkv_r
theorem eL_task_17s : Ev 144 17 (a0 :: a1 :: a2 :: a3 :: a4 :: ls) (sgv o1 :: st) h r ↔ Ev 144 19 (a0 :: a1 :: a2 :: mn_k a3 :: some (sgv o1) :: ls) (st) h r := ev_astore iL_task_17 (by show 4 < _; simp only [List.length_cons]; omega) sgv_r
theorem eL_task_17c : Ev 144 17 (a0 :: a1 :: a2 :: a3 :: a4 :: ls) (cdv o1 :: st) h r ↔ Ev 144 19 (a0 :: a1 :: a2 :: mn_k a3 :: some (cdv o1) :: ls) (st) h r := ev_astore iL_task_17 (by show 4 < _; simp only [List.length_cons]; omega) cdv_r
theorem iL_task_19 : mn_ins 144 19 = some (9, false, .iconst 2, 1) := by decide +kernel
theorem eL_task_19 : Ev 144 19 (ls) (st) h r ↔ Ev 144 20 (ls) (.int (nI 2) :: st) h r := ev_iconst iL_task_19 (by decide)
theorem iL_task_20 : mn_ins 144 20 = some (9, false, .ireturn, 1) := by decide +kernel
theorem eL_task_20 : Ev 144 20 (ls) [.int x] h r ↔ r = (h, .inl (some (.int x))) := ev_iret iL_task_20 (X := mnI_L_task) rfl rfl
theorem iL_task_21 : mn_ins 144 21 = some (9, false, .iconst 0, 1) := by decide +kernel
theorem eL_task_21 : Ev 144 21 (ls) (st) h r ↔ Ev 144 22 (ls) (.int (nI 0) :: st) h r := ev_iconst iL_task_21 (by decide)
theorem iL_task_22 : mn_ins 144 22 = some (9, false, .ireturn, 1) := by decide +kernel
theorem eL_task_22 : Ev 144 22 (ls) [.int x] h r ↔ r = (h, .inl (some (.int x))) := ev_iret iL_task_22 (X := mnI_L_task) rfl rfl
theorem iL_read_0 : mn_ins 145 0 = some (9, false, .aload_n 3, 1) := by decide +kernel
theorem eL_read_0 : Ev 145 0 (a0 :: a1 :: a2 :: some (.ref a) :: ls) (st) h r ↔ Ev 145 1 (a0 :: a1 :: a2 :: some (.ref a) :: ls) (.ref a :: st) h r := ev_aload_n iL_read_0 rfl rfl
theorem eL_read_0n : Ev 145 0 (a0 :: a1 :: a2 :: some (.null) :: ls) (st) h r ↔ Ev 145 1 (a0 :: a1 :: a2 :: some (.null) :: ls) (.null :: st) h r := ev_aload_n iL_read_0 rfl rfl
theorem eL_read_0t : Ev 145 0 (a0 :: a1 :: a2 :: some (tkv o1) :: ls) (st) h r ↔ Ev 145 1 (a0 :: a1 :: a2 :: some (tkv o1) :: ls) (tkv o1 :: st) h r := ev_aload_n iL_read_0 rfl tkv_r
theorem eL_read_0s : Ev 145 0 (a0 :: a1 :: a2 :: some (sgv o1) :: ls) (st) h r ↔ Ev 145 1 (a0 :: a1 :: a2 :: some (sgv o1) :: ls) (sgv o1 :: st) h r := ev_aload_n iL_read_0 rfl sgv_r
theorem eL_read_0c : Ev 145 0 (a0 :: a1 :: a2 :: some (cdv o1) :: ls) (st) h r ↔ Ev 145 1 (a0 :: a1 :: a2 :: some (cdv o1) :: ls) (cdv o1 :: st) h r := ev_aload_n iL_read_0 rfl cdv_r
theorem iL_read_1 : mn_ins 145 1 = some (9, false, .iconst 0, 1) := by decide +kernel
theorem eL_read_1 : Ev 145 1 (ls) (st) h r ↔ Ev 145 2 (ls) (.int (nI 0) :: st) h r := ev_iconst iL_read_1 (by decide)
theorem iL_read_2 : mn_ins 145 2 = some (9, false, .aload_n 0, 1) := by decide +kernel
theorem eL_read_2 : Ev 145 2 (some (.ref a) :: ls) (st) h r ↔ Ev 145 3 (some (.ref a) :: ls) (.ref a :: st) h r := ev_aload_n iL_read_2 rfl rfl
theorem eL_read_2n : Ev 145 2 (some (.null) :: ls) (st) h r ↔ Ev 145 3 (some (.null) :: ls) (.null :: st) h r := ev_aload_n iL_read_2 rfl rfl
theorem eL_read_2t : Ev 145 2 (some (tkv o1) :: ls) (st) h r ↔ Ev 145 3 (some (tkv o1) :: ls) (tkv o1 :: st) h r := ev_aload_n iL_read_2 rfl tkv_r
theorem eL_read_2s : Ev 145 2 (some (sgv o1) :: ls) (st) h r ↔ Ev 145 3 (some (sgv o1) :: ls) (sgv o1 :: st) h r := ev_aload_n iL_read_2 rfl sgv_r
theorem eL_read_2c : Ev 145 2 (some (cdv o1) :: ls) (st) h r ↔ Ev 145 3 (some (cdv o1) :: ls) (cdv o1 :: st) h r := ev_aload_n iL_read_2 rfl cdv_r
theorem iL_read_3 : mn_ins 145 3 = some (9, false, .iload_n 1, 1) := by decide +kernel
theorem eL_read_3 : Ev 145 3 (a0 :: some (.int x) :: ls) (st) h r ↔ Ev 145 4 (a0 :: some (.int x) :: ls) (.int x :: st) h r := ev_iload_n iL_read_3 rfl
theorem iL_read_4 : mn_ins 145 4 = some (9, false, .iload_n 2, 1) := by decide +kernel
theorem eL_read_4 : Ev 145 4 (a0 :: a1 :: some (.int x) :: ls) (st) h r ↔ Ev 145 5 (a0 :: a1 :: some (.int x) :: ls) (.int x :: st) h r := ev_iload_n iL_read_4 rfl
theorem iL_read_5 : mn_ins 145 5 = some (9, false, .invokevirtual 43, 3) := by decide +kernel
theorem eL_read_5 : Ev 145 5 (ls) (.int x1 :: .int x0 :: .ref b :: st) h r ↔ Evr true (decide (mn_cats st ≤ 8) && mn_isc h b 7) 145 5 ls st h.2.2.1 h.2.2.2 (Cl 80 (.ref b :: [.int x0, .int x1]) h.1 h.2.1) r := Ev_V (As := [.int x0, .int x1]) iL_read_5 (by decide +kernel) (x := mnI_L_read) (x2 := mnI_X7_read) rfl rfl rfl (by decide +kernel) (Nat.le_of_ble_eq_true rfl) rfl
theorem iL_read_8 : mn_ins 145 8 = some (9, false, .lastore, 1) := by decide +kernel
theorem eL_read_8 : Ev 145 8 (ls) (.long u :: .int x :: .ref a :: st) h r ↔ Evh 145 9 ls st (mn_asl h a x u) r := ev_last iL_read_8
theorem iL_read_9 : mn_ins 145 9 = some (9, false, .goto 11, 3) := by decide +kernel
theorem eL_read_9 : Ev 145 9 (ls) (st) h r ↔ Ev 145 20 (ls) (st) h r := ev_goto iL_read_9 (by decide)
theorem iL_read_12 : mn_ins 145 12 = some (9, false, .astore 4, 2) := by decide +kernel
theorem eL_read_12 : Ev 145 12 (a0 :: a1 :: a2 :: a3 :: a4 :: ls) (.ref a :: st) h r ↔ Ev 145 14 (a0 :: a1 :: a2 :: mn_k a3 :: some (.ref a) :: ls) (st) h r := ev_astore iL_read_12 (by show 4 < _; simp only [List.length_cons]; omega) rfl
theorem eL_read_12n : Ev 145 12 (a0 :: a1 :: a2 :: a3 :: a4 :: ls) (.null :: st) h r ↔ Ev 145 14 (a0 :: a1 :: a2 :: mn_k a3 :: some (.null) :: ls) (st) h r := ev_astore iL_read_12 (by show 4 < _; simp only [List.length_cons]; omega) rfl
theorem eL_read_12t : Ev 145 12 (a0 :: a1 :: a2 :: a3 :: a4 :: ls) (tkv o1 :: st) h r ↔ Ev 145 14 (a0 :: a1 :: a2 :: mn_k a3 :: some (tkv o1) :: ls) (st) h r := ev_astore iL_read_12 (by show 4 < _; simp only [List.length_cons]; omega) tkv_r
theorem eL_read_12s : Ev 145 12 (a0 :: a1 :: a2 :: a3 :: a4 :: ls) (sgv o1 :: st) h r ↔ Ev 145 14 (a0 :: a1 :: a2 :: mn_k a3 :: some (sgv o1) :: ls) (st) h r := ev_astore iL_read_12 (by show 4 < _; simp only [List.length_cons]; omega) sgv_r
theorem eL_read_12c : Ev 145 12 (a0 :: a1 :: a2 :: a3 :: a4 :: ls) (cdv o1 :: st) h r ↔ Ev 145 14 (a0 :: a1 :: a2 :: mn_k a3 :: some (cdv o1) :: ls) (st) h r := ev_astore iL_read_12 (by show 4 < _; simp only [List.length_cons]; omega) cdv_r
theorem iL_read_14 : mn_ins 145 14 = some (9, false, .iconst 1, 1) := by decide +kernel
theorem eL_read_14 : Ev 145 14 (ls) (st) h r ↔ Ev 145 15 (ls) (.int (nI 1) :: st) h r := ev_iconst iL_read_14 (by decide)
theorem iL_read_15 : mn_ins 145 15 = some (9, false, .ireturn, 1) := by decide +kernel
theorem eL_read_15 : Ev 145 15 (ls) [.int x] h r ↔ r = (h, .inl (some (.int x))) := ev_iret iL_read_15 (X := mnI_L_read) rfl rfl
theorem iL_read_16 : mn_ins 145 16 = some (9, false, .astore 4, 2) := by decide +kernel
theorem eL_read_16 : Ev 145 16 (a0 :: a1 :: a2 :: a3 :: a4 :: ls) (.ref a :: st) h r ↔ Ev 145 18 (a0 :: a1 :: a2 :: mn_k a3 :: some (.ref a) :: ls) (st) h r := ev_astore iL_read_16 (by show 4 < _; simp only [List.length_cons]; omega) rfl
theorem eL_read_16n : Ev 145 16 (a0 :: a1 :: a2 :: a3 :: a4 :: ls) (.null :: st) h r ↔ Ev 145 18 (a0 :: a1 :: a2 :: mn_k a3 :: some (.null) :: ls) (st) h r := ev_astore iL_read_16 (by show 4 < _; simp only [List.length_cons]; omega) rfl
theorem eL_read_16t : Ev 145 16 (a0 :: a1 :: a2 :: a3 :: a4 :: ls) (tkv o1 :: st) h r ↔ Ev 145 18 (a0 :: a1 :: a2 :: mn_k a3 :: some (tkv o1) :: ls) (st) h r := ev_astore iL_read_16 (by show 4 < _; simp only [List.length_cons]; omega) tkv_r
theorem eL_read_16s : Ev 145 16 (a0 :: a1 :: a2 :: a3 :: a4 :: ls) (sgv o1 :: st) h r ↔ Ev 145 18 (a0 :: a1 :: a2 :: mn_k a3 :: some (sgv o1) :: ls) (st) h r := ev_astore iL_read_16 (by show 4 < _; simp only [List.length_cons]; omega) sgv_r
theorem eL_read_16c : Ev 145 16 (a0 :: a1 :: a2 :: a3 :: a4 :: ls) (cdv o1 :: st) h r ↔ Ev 145 18 (a0 :: a1 :: a2 :: mn_k a3 :: some (cdv o1) :: ls) (st) h r := ev_astore iL_read_16 (by show 4 < _; simp only [List.length_cons]; omega) cdv_r
theorem iL_read_18 : mn_ins 145 18 = some (9, false, .iconst 2, 1) := by decide +kernel
theorem eL_read_18 : Ev 145 18 (ls) (st) h r ↔ Ev 145 19 (ls) (.int (nI 2) :: st) h r := ev_iconst iL_read_18 (by decide)
theorem iL_read_19 : mn_ins 145 19 = some (9, false, .ireturn, 1) := by decide +kernel
theorem eL_read_19 : Ev 145 19 (ls) [.int x] h r ↔ r = (h, .inl (some (.int x))) := ev_iret iL_read_19 (X := mnI_L_read) rfl rfl
theorem iL_read_20 : mn_ins 145 20 = some (9, false, .iconst 0, 1) := by decide +kernel
theorem eL_read_20 : Ev 145 20 (ls) (st) h r ↔ Ev 145 21 (ls) (.int (nI 0) :: st) h r := ev_iconst iL_read_20 (by decide)
theorem iL_read_21 : mn_ins 145 21 = some (9, false, .ireturn, 1) := by decide +kernel
theorem eL_read_21 : Ev 145 21 (ls) [.int x] h r ↔ r = (h, .inl (some (.int x))) := ev_iret iL_read_21 (X := mnI_L_read) rfl rfl
theorem iL_print_0 : mn_ins 146 0 = some (9, false, .aload_n 3, 1) := by decide +kernel
theorem eL_print_0 : Ev 146 0 (a0 :: a1 :: a2 :: some (.ref a) :: ls) (st) h r ↔ Ev 146 1 (a0 :: a1 :: a2 :: some (.ref a) :: ls) (.ref a :: st) h r := ev_aload_n iL_print_0 rfl rfl
theorem eL_print_0n : Ev 146 0 (a0 :: a1 :: a2 :: some (.null) :: ls) (st) h r ↔ Ev 146 1 (a0 :: a1 :: a2 :: some (.null) :: ls) (.null :: st) h r := ev_aload_n iL_print_0 rfl rfl
theorem eL_print_0t : Ev 146 0 (a0 :: a1 :: a2 :: some (tkv o1) :: ls) (st) h r ↔ Ev 146 1 (a0 :: a1 :: a2 :: some (tkv o1) :: ls) (tkv o1 :: st) h r := ev_aload_n iL_print_0 rfl tkv_r
theorem eL_print_0s : Ev 146 0 (a0 :: a1 :: a2 :: some (sgv o1) :: ls) (st) h r ↔ Ev 146 1 (a0 :: a1 :: a2 :: some (sgv o1) :: ls) (sgv o1 :: st) h r := ev_aload_n iL_print_0 rfl sgv_r
theorem eL_print_0c : Ev 146 0 (a0 :: a1 :: a2 :: some (cdv o1) :: ls) (st) h r ↔ Ev 146 1 (a0 :: a1 :: a2 :: some (cdv o1) :: ls) (cdv o1 :: st) h r := ev_aload_n iL_print_0 rfl cdv_r
theorem iL_print_1 : mn_ins 146 1 = some (9, false, .iconst 0, 1) := by decide +kernel
theorem eL_print_1 : Ev 146 1 (ls) (st) h r ↔ Ev 146 2 (ls) (.int (nI 0) :: st) h r := ev_iconst iL_print_1 (by decide)
theorem iL_print_2 : mn_ins 146 2 = some (9, false, .aload_n 0, 1) := by decide +kernel
theorem eL_print_2 : Ev 146 2 (some (.ref a) :: ls) (st) h r ↔ Ev 146 3 (some (.ref a) :: ls) (.ref a :: st) h r := ev_aload_n iL_print_2 rfl rfl
theorem eL_print_2n : Ev 146 2 (some (.null) :: ls) (st) h r ↔ Ev 146 3 (some (.null) :: ls) (.null :: st) h r := ev_aload_n iL_print_2 rfl rfl
theorem eL_print_2t : Ev 146 2 (some (tkv o1) :: ls) (st) h r ↔ Ev 146 3 (some (tkv o1) :: ls) (tkv o1 :: st) h r := ev_aload_n iL_print_2 rfl tkv_r
theorem eL_print_2s : Ev 146 2 (some (sgv o1) :: ls) (st) h r ↔ Ev 146 3 (some (sgv o1) :: ls) (sgv o1 :: st) h r := ev_aload_n iL_print_2 rfl sgv_r
theorem eL_print_2c : Ev 146 2 (some (cdv o1) :: ls) (st) h r ↔ Ev 146 3 (some (cdv o1) :: ls) (cdv o1 :: st) h r := ev_aload_n iL_print_2 rfl cdv_r
theorem iL_print_3 : mn_ins 146 3 = some (9, false, .iload_n 1, 1) := by decide +kernel
theorem eL_print_3 : Ev 146 3 (a0 :: some (.int x) :: ls) (st) h r ↔ Ev 146 4 (a0 :: some (.int x) :: ls) (.int x :: st) h r := ev_iload_n iL_print_3 rfl
theorem iL_print_4 : mn_ins 146 4 = some (9, false, .iload_n 2, 1) := by decide +kernel
theorem eL_print_4 : Ev 146 4 (a0 :: a1 :: some (.int x) :: ls) (st) h r ↔ Ev 146 5 (a0 :: a1 :: some (.int x) :: ls) (.int x :: st) h r := ev_iload_n iL_print_4 rfl
theorem iL_print_5 : mn_ins 146 5 = some (9, false, .invokevirtual 47, 3) := by decide +kernel
theorem eL_print_5 : Ev 146 5 (ls) (.int x1 :: .int x0 :: .ref b :: st) h r ↔ Evr true (decide (mn_cats st ≤ 8) && mn_isc h b 7) 146 5 ls st h.2.2.1 h.2.2.2 (Cl 81 (.ref b :: [.int x0, .int x1]) h.1 h.2.1) r := Ev_V (As := [.int x0, .int x1]) iL_print_5 (by decide +kernel) (x := mnI_L_print) (x2 := mnI_X7_print) rfl rfl rfl (by decide +kernel) (Nat.le_of_ble_eq_true rfl) rfl
theorem iL_print_8 : mn_ins 146 8 = some (9, false, .lastore, 1) := by decide +kernel
theorem eL_print_8 : Ev 146 8 (ls) (.long u :: .int x :: .ref a :: st) h r ↔ Evh 146 9 ls st (mn_asl h a x u) r := ev_last iL_print_8
theorem iL_print_9 : mn_ins 146 9 = some (9, false, .goto 7, 3) := by decide +kernel
theorem eL_print_9 : Ev 146 9 (ls) (st) h r ↔ Ev 146 16 (ls) (st) h r := ev_goto iL_print_9 (by decide)
theorem iL_print_12 : mn_ins 146 12 = some (9, false, .astore 4, 2) := by decide +kernel
theorem eL_print_12 : Ev 146 12 (a0 :: a1 :: a2 :: a3 :: a4 :: ls) (.ref a :: st) h r ↔ Ev 146 14 (a0 :: a1 :: a2 :: mn_k a3 :: some (.ref a) :: ls) (st) h r := ev_astore iL_print_12 (by show 4 < _; simp only [List.length_cons]; omega) rfl
theorem eL_print_12n : Ev 146 12 (a0 :: a1 :: a2 :: a3 :: a4 :: ls) (.null :: st) h r ↔ Ev 146 14 (a0 :: a1 :: a2 :: mn_k a3 :: some (.null) :: ls) (st) h r := ev_astore iL_print_12 (by show 4 < _; simp only [List.length_cons]; omega) rfl
theorem eL_print_12t : Ev 146 12 (a0 :: a1 :: a2 :: a3 :: a4 :: ls) (tkv o1 :: st) h r ↔ Ev 146 14 (a0 :: a1 :: a2 :: mn_k a3 :: some (tkv o1) :: ls) (st) h r := ev_astore iL_print_12 (by show 4 < _; simp only [List.length_cons]; omega) tkv_r
theorem eL_print_12s : Ev 146 12 (a0 :: a1 :: a2 :: a3 :: a4 :: ls) (sgv o1 :: st) h r ↔ Ev 146 14 (a0 :: a1 :: a2 :: mn_k a3 :: some (sgv o1) :: ls) (st) h r := ev_astore iL_print_12 (by show 4 < _; simp only [List.length_cons]; omega) sgv_r
theorem eL_print_12c : Ev 146 12 (a0 :: a1 :: a2 :: a3 :: a4 :: ls) (cdv o1 :: st) h r ↔ Ev 146 14 (a0 :: a1 :: a2 :: mn_k a3 :: some (cdv o1) :: ls) (st) h r := ev_astore iL_print_12 (by show 4 < _; simp only [List.length_cons]; omega) cdv_r
theorem iL_print_14 : mn_ins 146 14 = some (9, false, .iconst 1, 1) := by decide +kernel
theorem eL_print_14 : Ev 146 14 (ls) (st) h r ↔ Ev 146 15 (ls) (.int (nI 1) :: st) h r := ev_iconst iL_print_14 (by decide)
theorem iL_print_15 : mn_ins 146 15 = some (9, false, .ireturn, 1) := by decide +kernel
theorem eL_print_15 : Ev 146 15 (ls) [.int x] h r ↔ r = (h, .inl (some (.int x))) := ev_iret iL_print_15 (X := mnI_L_print) rfl rfl
theorem iL_print_16 : mn_ins 146 16 = some (9, false, .iconst 0, 1) := by decide +kernel
theorem eL_print_16 : Ev 146 16 (ls) (st) h r ↔ Ev 146 17 (ls) (.int (nI 0) :: st) h r := ev_iconst iL_print_16 (by decide)
theorem iL_print_17 : mn_ins 146 17 = some (9, false, .ireturn, 1) := by decide +kernel
theorem eL_print_17 : Ev 146 17 (ls) [.int x] h r ↔ r = (h, .inl (some (.int x))) := ev_iret iL_print_17 (X := mnI_L_print) rfl rfl
theorem iL_law_0 : mn_ins 147 0 = some (9, false, .new 8, 3) := by decide +kernel
theorem eL_law_0 (hs : (mn_new h 7).isSome = true) : Ev 147 0 (ls) (st) h r ↔ Evn 147 3 ls st (mn_new h 7) r := ev_new iL_law_0 (by decide +kernel) hs
theorem iL_law_3 : mn_ins 147 3 = some (9, false, .dup, 1) := by decide +kernel
theorem eL_law_3 : Ev 147 3 (ls) (.ref a :: st) h r ↔ Ev 147 4 (ls) (.ref a :: .ref a :: st) h r := ev_dup iL_law_3 rfl
theorem iL_law_4 : mn_ins 147 4 = some (9, false, .invokespecial 50, 3) := by decide +kernel
theorem eL_law_4 : Ev 147 4 (ls) (.ref b :: st) h r ↔ Evr false (decide (mn_cats st ≤ 8)) 147 4 ls st h.2.2.1 h.2.2.2 (Cl 68 (.ref b :: []) h.1 h.2.1) r := Ev_N (As := []) (q := 2) iL_law_4 (by decide +kernel) (by decide) (x := mnI_L_law) (x2 := mnI_X7_init) rfl rfl rfl (by decide +kernel) (Nat.le_of_ble_eq_true rfl) rfl
theorem iL_law_7 : mn_ins 147 7 = some (9, false, .astore_n 1, 1) := by decide +kernel
theorem eL_law_7 : Ev 147 7 (a0 :: a1 :: ls) (.ref a :: st) h r ↔ Ev 147 8 (mn_k a0 :: some (.ref a) :: ls) (st) h r := ev_astore_n iL_law_7 (by show 1 < _; simp only [List.length_cons]; omega) rfl
theorem eL_law_7n : Ev 147 7 (a0 :: a1 :: ls) (.null :: st) h r ↔ Ev 147 8 (mn_k a0 :: some (.null) :: ls) (st) h r := ev_astore_n iL_law_7 (by show 1 < _; simp only [List.length_cons]; omega) rfl
theorem eL_law_7t : Ev 147 7 (a0 :: a1 :: ls) (tkv o1 :: st) h r ↔ Ev 147 8 (mn_k a0 :: some (tkv o1) :: ls) (st) h r := ev_astore_n iL_law_7 (by show 1 < _; simp only [List.length_cons]; omega) tkv_r
theorem eL_law_7s : Ev 147 7 (a0 :: a1 :: ls) (sgv o1 :: st) h r ↔ Ev 147 8 (mn_k a0 :: some (sgv o1) :: ls) (st) h r := ev_astore_n iL_law_7 (by show 1 < _; simp only [List.length_cons]; omega) sgv_r
theorem eL_law_7c : Ev 147 7 (a0 :: a1 :: ls) (cdv o1 :: st) h r ↔ Ev 147 8 (mn_k a0 :: some (cdv o1) :: ls) (st) h r := ev_astore_n iL_law_7 (by show 1 < _; simp only [List.length_cons]; omega) cdv_r
theorem iL_law_8 : mn_ins 147 8 = some (9, false, .new 51, 3) := by decide +kernel
theorem eL_law_8 (hs : (mn_new h 8).isSome = true) : Ev 147 8 (ls) (st) h r ↔ Evn 147 11 ls st (mn_new h 8) r := ev_new iL_law_8 (by decide +kernel) hs
theorem iL_law_11 : mn_ins 147 11 = some (9, false, .dup, 1) := by decide +kernel
theorem eL_law_11 : Ev 147 11 (ls) (.ref a :: st) h r ↔ Ev 147 12 (ls) (.ref a :: .ref a :: st) h r := ev_dup iL_law_11 rfl
theorem iL_law_12 : mn_ins 147 12 = some (9, false, .invokespecial 53, 3) := by decide +kernel
theorem eL_law_12 : Ev 147 12 (ls) (.ref b :: st) h r ↔ Evr false (decide (mn_cats st ≤ 8)) 147 12 ls st h.2.2.1 h.2.2.2 (Cl 84 (.ref b :: []) h.1 h.2.1) r := Ev_N (As := []) (q := 2) iL_law_12 (by decide +kernel) (by decide) (x := mnI_L_law) (x2 := mnI_X8_init) rfl rfl rfl (by decide +kernel) (Nat.le_of_ble_eq_true rfl) rfl
theorem iL_law_15 : mn_ins 147 15 = some (9, false, .astore_n 2, 1) := by decide +kernel
theorem eL_law_15 : Ev 147 15 (a0 :: a1 :: a2 :: ls) (.ref a :: st) h r ↔ Ev 147 16 (a0 :: mn_k a1 :: some (.ref a) :: ls) (st) h r := ev_astore_n iL_law_15 (by show 2 < _; simp only [List.length_cons]; omega) rfl
theorem eL_law_15n : Ev 147 15 (a0 :: a1 :: a2 :: ls) (.null :: st) h r ↔ Ev 147 16 (a0 :: mn_k a1 :: some (.null) :: ls) (st) h r := ev_astore_n iL_law_15 (by show 2 < _; simp only [List.length_cons]; omega) rfl
theorem eL_law_15t : Ev 147 15 (a0 :: a1 :: a2 :: ls) (tkv o1 :: st) h r ↔ Ev 147 16 (a0 :: mn_k a1 :: some (tkv o1) :: ls) (st) h r := ev_astore_n iL_law_15 (by show 2 < _; simp only [List.length_cons]; omega) tkv_r
theorem eL_law_15s : Ev 147 15 (a0 :: a1 :: a2 :: ls) (sgv o1 :: st) h r ↔ Ev 147 16 (a0 :: mn_k a1 :: some (sgv o1) :: ls) (st) h r := ev_astore_n iL_law_15 (by show 2 < _; simp only [List.length_cons]; omega) sgv_r
theorem eL_law_15c : Ev 147 15 (a0 :: a1 :: a2 :: ls) (cdv o1 :: st) h r ↔ Ev 147 16 (a0 :: mn_k a1 :: some (cdv o1) :: ls) (st) h r := ev_astore_n iL_law_15 (by show 2 < _; simp only [List.length_cons]; omega) cdv_r
theorem iL_law_16 : mn_ins 147 16 = some (9, false, .iconst 1, 1) := by decide +kernel
theorem eL_law_16 : Ev 147 16 (ls) (st) h r ↔ Ev 147 17 (ls) (.int (nI 1) :: st) h r := ev_iconst iL_law_16 (by decide)
theorem iL_law_17 : mn_ins 147 17 = some (9, false, .newarray .long, 2) := by decide +kernel
theorem eL_law_17 : Ev 147 17 (ls) (.int x :: st) h r ↔ Evn 147 19 ls st (mn_na h 1 x) r := ev_newl iL_law_17
theorem iL_law_19 : mn_ins 147 19 = some (9, false, .astore_n 3, 1) := by decide +kernel
theorem eL_law_19 : Ev 147 19 (a0 :: a1 :: a2 :: a3 :: ls) (.ref a :: st) h r ↔ Ev 147 20 (a0 :: a1 :: mn_k a2 :: some (.ref a) :: ls) (st) h r := ev_astore_n iL_law_19 (by show 3 < _; simp only [List.length_cons]; omega) rfl
theorem eL_law_19n : Ev 147 19 (a0 :: a1 :: a2 :: a3 :: ls) (.null :: st) h r ↔ Ev 147 20 (a0 :: a1 :: mn_k a2 :: some (.null) :: ls) (st) h r := ev_astore_n iL_law_19 (by show 3 < _; simp only [List.length_cons]; omega) rfl
theorem eL_law_19t : Ev 147 19 (a0 :: a1 :: a2 :: a3 :: ls) (tkv o1 :: st) h r ↔ Ev 147 20 (a0 :: a1 :: mn_k a2 :: some (tkv o1) :: ls) (st) h r := ev_astore_n iL_law_19 (by show 3 < _; simp only [List.length_cons]; omega) tkv_r
theorem eL_law_19s : Ev 147 19 (a0 :: a1 :: a2 :: a3 :: ls) (sgv o1 :: st) h r ↔ Ev 147 20 (a0 :: a1 :: mn_k a2 :: some (sgv o1) :: ls) (st) h r := ev_astore_n iL_law_19 (by show 3 < _; simp only [List.length_cons]; omega) sgv_r
theorem eL_law_19c : Ev 147 19 (a0 :: a1 :: a2 :: a3 :: ls) (cdv o1 :: st) h r ↔ Ev 147 20 (a0 :: a1 :: mn_k a2 :: some (cdv o1) :: ls) (st) h r := ev_astore_n iL_law_19 (by show 3 < _; simp only [List.length_cons]; omega) cdv_r
theorem iL_law_20 : mn_ins 147 20 = some (9, false, .iconst 0, 1) := by decide +kernel
theorem eL_law_20 : Ev 147 20 (ls) (st) h r ↔ Ev 147 21 (ls) (.int (nI 0) :: st) h r := ev_iconst iL_law_20 (by decide)
theorem iL_law_21 : mn_ins 147 21 = some (9, false, .istore 4, 2) := by decide +kernel
theorem eL_law_21 : Ev 147 21 (a0 :: a1 :: a2 :: a3 :: a4 :: ls) (.int x :: st) h r ↔ Ev 147 23 (a0 :: a1 :: a2 :: mn_k a3 :: some (.int x) :: ls) (st) h r := ev_istore iL_law_21 (by show 4 < _; simp only [List.length_cons]; omega)
theorem iL_law_23 : mn_ins 147 23 = some (9, false, .iload 4, 2) := by decide +kernel
theorem eL_law_23 : Ev 147 23 (a0 :: a1 :: a2 :: a3 :: some (.int x) :: ls) (st) h r ↔ Ev 147 25 (a0 :: a1 :: a2 :: a3 :: some (.int x) :: ls) (.int x :: st) h r := ev_iload iL_law_23 rfl
theorem iL_law_25 : mn_ins 147 25 = some (9, false, .aload_n 0, 1) := by decide +kernel
theorem eL_law_25 : Ev 147 25 (some (.ref a) :: ls) (st) h r ↔ Ev 147 26 (some (.ref a) :: ls) (.ref a :: st) h r := ev_aload_n iL_law_25 rfl rfl
theorem eL_law_25n : Ev 147 25 (some (.null) :: ls) (st) h r ↔ Ev 147 26 (some (.null) :: ls) (.null :: st) h r := ev_aload_n iL_law_25 rfl rfl
theorem eL_law_25t : Ev 147 25 (some (tkv o1) :: ls) (st) h r ↔ Ev 147 26 (some (tkv o1) :: ls) (tkv o1 :: st) h r := ev_aload_n iL_law_25 rfl tkv_r
theorem eL_law_25s : Ev 147 25 (some (sgv o1) :: ls) (st) h r ↔ Ev 147 26 (some (sgv o1) :: ls) (sgv o1 :: st) h r := ev_aload_n iL_law_25 rfl sgv_r
theorem eL_law_25c : Ev 147 25 (some (cdv o1) :: ls) (st) h r ↔ Ev 147 26 (some (cdv o1) :: ls) (cdv o1 :: st) h r := ev_aload_n iL_law_25 rfl cdv_r
theorem iL_law_26 : mn_ins 147 26 = some (9, false, .arraylength, 1) := by decide +kernel
theorem eL_law_26 : Ev 147 26 (ls) (.ref a :: st) h r ↔ Evk 147 27 ls (mn_len h a) st h r := ev_alen iL_law_26
theorem iL_law_27 : mn_ins 147 27 = some (9, false, .iconst 4, 1) := by decide +kernel
theorem eL_law_27 : Ev 147 27 (ls) (st) h r ↔ Ev 147 28 (ls) (.int (nI 4) :: st) h r := ev_iconst iL_law_27 (by decide)
theorem iL_law_28 : mn_ins 147 28 = some (9, false, .isub, 1) := by decide +kernel
theorem eL_law_28 : Ev 147 28 (ls) (.int y :: .int x :: st) h r ↔ Ev 147 29 (ls) (.int (x - y) :: st) h r := ev_isub iL_law_28
theorem iL_law_29 : mn_ins 147 29 = some (9, false, .if_icmp .gt 713, 3) := by decide +kernel
theorem eL_law_29 : Ev 147 29 (ls) (.int y :: .int x :: st) h r ↔ if y < x then Ev 147 742 (ls) (st) h r else Ev 147 32 (ls) (st) h r := ev_cmpgt iL_law_29 (by decide)
theorem iL_law_32 : mn_ins 147 32 = some (9, false, .aload_n 0, 1) := by decide +kernel
theorem eL_law_32 : Ev 147 32 (some (.ref a) :: ls) (st) h r ↔ Ev 147 33 (some (.ref a) :: ls) (.ref a :: st) h r := ev_aload_n iL_law_32 rfl rfl
theorem eL_law_32n : Ev 147 32 (some (.null) :: ls) (st) h r ↔ Ev 147 33 (some (.null) :: ls) (.null :: st) h r := ev_aload_n iL_law_32 rfl rfl
theorem eL_law_32t : Ev 147 32 (some (tkv o1) :: ls) (st) h r ↔ Ev 147 33 (some (tkv o1) :: ls) (tkv o1 :: st) h r := ev_aload_n iL_law_32 rfl tkv_r
theorem eL_law_32s : Ev 147 32 (some (sgv o1) :: ls) (st) h r ↔ Ev 147 33 (some (sgv o1) :: ls) (sgv o1 :: st) h r := ev_aload_n iL_law_32 rfl sgv_r
theorem eL_law_32c : Ev 147 32 (some (cdv o1) :: ls) (st) h r ↔ Ev 147 33 (some (cdv o1) :: ls) (cdv o1 :: st) h r := ev_aload_n iL_law_32 rfl cdv_r
theorem iL_law_33 : mn_ins 147 33 = some (9, false, .iload 4, 2) := by decide +kernel
theorem eL_law_33 : Ev 147 33 (a0 :: a1 :: a2 :: a3 :: some (.int x) :: ls) (st) h r ↔ Ev 147 35 (a0 :: a1 :: a2 :: a3 :: some (.int x) :: ls) (.int x :: st) h r := ev_iload iL_law_33 rfl
theorem iL_law_35 : mn_ins 147 35 = some (9, false, .iaload, 1) := by decide +kernel
theorem eL_law_35 : Ev 147 35 (ls) (.int x :: .ref a :: st) h r ↔ Evk 147 36 ls (mn_al h a 0 x) st h r := ev_iald iL_law_35
theorem iL_law_36 : mn_ins 147 36 = some (9, false, .bipush 15, 2) := by decide +kernel
theorem eL_law_36 : Ev 147 36 (ls) (st) h r ↔ Ev 147 38 (ls) (.int (nI 15) :: st) h r := ev_bipush iL_law_36 (by decide)
theorem iL_law_38 : mn_ins 147 38 = some (9, false, .iand, 1) := by decide +kernel
theorem eL_law_38 : Ev 147 38 (ls) (.int y :: .int x :: st) h r ↔ Ev 147 39 (ls) (.int (x &&& y) :: st) h r := ev_iand iL_law_38
theorem iL_law_39 : mn_ins 147 39 = some (9, false, .tableswitch 697 0 13 #[69, 113, 181, 225, 285, 309, 322, 333, 401, 457, 525, 538, 605, 672], 69) := by decide +kernel
theorem eL_law_39_c0 : Ev 147 39 (ls) (.int (nI 0) :: st) h r ↔ Ev 147 108 (ls) (st) h r := ev_tsIn iL_law_39 (by decide) (off := 69) (by decide) (by decide)
theorem eL_law_39_c1 : Ev 147 39 (ls) (.int (nI 1) :: st) h r ↔ Ev 147 152 (ls) (st) h r := ev_tsIn iL_law_39 (by decide) (off := 113) (by decide) (by decide)
theorem eL_law_39_c2 : Ev 147 39 (ls) (.int (nI 2) :: st) h r ↔ Ev 147 220 (ls) (st) h r := ev_tsIn iL_law_39 (by decide) (off := 181) (by decide) (by decide)
theorem eL_law_39_c3 : Ev 147 39 (ls) (.int (nI 3) :: st) h r ↔ Ev 147 264 (ls) (st) h r := ev_tsIn iL_law_39 (by decide) (off := 225) (by decide) (by decide)
theorem eL_law_39_c4 : Ev 147 39 (ls) (.int (nI 4) :: st) h r ↔ Ev 147 324 (ls) (st) h r := ev_tsIn iL_law_39 (by decide) (off := 285) (by decide) (by decide)
theorem eL_law_39_c5 : Ev 147 39 (ls) (.int (nI 5) :: st) h r ↔ Ev 147 348 (ls) (st) h r := ev_tsIn iL_law_39 (by decide) (off := 309) (by decide) (by decide)
theorem eL_law_39_c6 : Ev 147 39 (ls) (.int (nI 6) :: st) h r ↔ Ev 147 361 (ls) (st) h r := ev_tsIn iL_law_39 (by decide) (off := 322) (by decide) (by decide)
theorem eL_law_39_c7 : Ev 147 39 (ls) (.int (nI 7) :: st) h r ↔ Ev 147 372 (ls) (st) h r := ev_tsIn iL_law_39 (by decide) (off := 333) (by decide) (by decide)
theorem eL_law_39_c8 : Ev 147 39 (ls) (.int (nI 8) :: st) h r ↔ Ev 147 440 (ls) (st) h r := ev_tsIn iL_law_39 (by decide) (off := 401) (by decide) (by decide)
theorem eL_law_39_c9 : Ev 147 39 (ls) (.int (nI 9) :: st) h r ↔ Ev 147 496 (ls) (st) h r := ev_tsIn iL_law_39 (by decide) (off := 457) (by decide) (by decide)
theorem eL_law_39_c10 : Ev 147 39 (ls) (.int (nI 10) :: st) h r ↔ Ev 147 564 (ls) (st) h r := ev_tsIn iL_law_39 (by decide) (off := 525) (by decide) (by decide)
theorem eL_law_39_c11 : Ev 147 39 (ls) (.int (nI 11) :: st) h r ↔ Ev 147 577 (ls) (st) h r := ev_tsIn iL_law_39 (by decide) (off := 538) (by decide) (by decide)
theorem eL_law_39_c12 : Ev 147 39 (ls) (.int (nI 12) :: st) h r ↔ Ev 147 644 (ls) (st) h r := ev_tsIn iL_law_39 (by decide) (off := 605) (by decide) (by decide)
theorem eL_law_39_c13 : Ev 147 39 (ls) (.int (nI 13) :: st) h r ↔ Ev 147 711 (ls) (st) h r := ev_tsIn iL_law_39 (by decide) (off := 672) (by decide) (by decide)
theorem eL_law_39_c14 : Ev 147 39 (ls) (.int (nI 14) :: st) h r ↔ Ev 147 736 (ls) (st) h r := ev_tsOut iL_law_39 (by decide) (by decide)
theorem eL_law_39_c15 : Ev 147 39 (ls) (.int (nI 15) :: st) h r ↔ Ev 147 736 (ls) (st) h r := ev_tsOut iL_law_39 (by decide) (by decide)
theorem eL_law_39_c16 : Ev 147 39 (ls) (.int (nI 16) :: st) h r ↔ Ev 147 736 (ls) (st) h r := ev_tsOut iL_law_39 (by decide) (by decide)
theorem eL_law_39_c17 : Ev 147 39 (ls) (.int (nI 17) :: st) h r ↔ Ev 147 736 (ls) (st) h r := ev_tsOut iL_law_39 (by decide) (by decide)
theorem eL_law_39_c18 : Ev 147 39 (ls) (.int (nI 18) :: st) h r ↔ Ev 147 736 (ls) (st) h r := ev_tsOut iL_law_39 (by decide) (by decide)
theorem eL_law_39_c19 : Ev 147 39 (ls) (.int (nI 19) :: st) h r ↔ Ev 147 736 (ls) (st) h r := ev_tsOut iL_law_39 (by decide) (by decide)
theorem eL_law_39_d (hx : x.toInt < 0 ∨ 13 < x.toInt) : Ev 147 39 (ls) (.int x :: st) h r ↔ Ev 147 736 (ls) (st) h r := ev_tsOut iL_law_39 hx (by decide)
theorem iL_law_108 : mn_ins 147 108 = some (9, false, .aload_n 1, 1) := by decide +kernel
theorem eL_law_108 : Ev 147 108 (a0 :: some (.ref a) :: ls) (st) h r ↔ Ev 147 109 (a0 :: some (.ref a) :: ls) (.ref a :: st) h r := ev_aload_n iL_law_108 rfl rfl
theorem eL_law_108n : Ev 147 108 (a0 :: some (.null) :: ls) (st) h r ↔ Ev 147 109 (a0 :: some (.null) :: ls) (.null :: st) h r := ev_aload_n iL_law_108 rfl rfl
theorem eL_law_108t : Ev 147 108 (a0 :: some (tkv o1) :: ls) (st) h r ↔ Ev 147 109 (a0 :: some (tkv o1) :: ls) (tkv o1 :: st) h r := ev_aload_n iL_law_108 rfl tkv_r
theorem eL_law_108s : Ev 147 108 (a0 :: some (sgv o1) :: ls) (st) h r ↔ Ev 147 109 (a0 :: some (sgv o1) :: ls) (sgv o1 :: st) h r := ev_aload_n iL_law_108 rfl sgv_r
theorem eL_law_108c : Ev 147 108 (a0 :: some (cdv o1) :: ls) (st) h r ↔ Ev 147 109 (a0 :: some (cdv o1) :: ls) (cdv o1 :: st) h r := ev_aload_n iL_law_108 rfl cdv_r
theorem iL_law_109 : mn_ins 147 109 = some (9, false, .aload_n 3, 1) := by decide +kernel
theorem eL_law_109 : Ev 147 109 (a0 :: a1 :: a2 :: some (.ref a) :: ls) (st) h r ↔ Ev 147 110 (a0 :: a1 :: a2 :: some (.ref a) :: ls) (.ref a :: st) h r := ev_aload_n iL_law_109 rfl rfl
theorem eL_law_109n : Ev 147 109 (a0 :: a1 :: a2 :: some (.null) :: ls) (st) h r ↔ Ev 147 110 (a0 :: a1 :: a2 :: some (.null) :: ls) (.null :: st) h r := ev_aload_n iL_law_109 rfl rfl
theorem eL_law_109t : Ev 147 109 (a0 :: a1 :: a2 :: some (tkv o1) :: ls) (st) h r ↔ Ev 147 110 (a0 :: a1 :: a2 :: some (tkv o1) :: ls) (tkv o1 :: st) h r := ev_aload_n iL_law_109 rfl tkv_r
theorem eL_law_109s : Ev 147 109 (a0 :: a1 :: a2 :: some (sgv o1) :: ls) (st) h r ↔ Ev 147 110 (a0 :: a1 :: a2 :: some (sgv o1) :: ls) (sgv o1 :: st) h r := ev_aload_n iL_law_109 rfl sgv_r
theorem eL_law_109c : Ev 147 109 (a0 :: a1 :: a2 :: some (cdv o1) :: ls) (st) h r ↔ Ev 147 110 (a0 :: a1 :: a2 :: some (cdv o1) :: ls) (cdv o1 :: st) h r := ev_aload_n iL_law_109 rfl cdv_r
theorem iL_law_110 : mn_ins 147 110 = some (9, false, .invokestatic 54, 3) := by decide +kernel
theorem EgL_law_110 (hw3 : (mn_r w3).isSome = true) (hw4 : (mn_r w4).isSome = true) : Ev 147 110 (ls) (w4 :: w3 :: st) h r ↔ Evr false (decide (mn_cats st ≤ 8)) 147 110 ls st h.2.2.1 h.2.2.2 (Cl 137 [w3, w4] h.1 h.2.1) r := Ev_T (As := [w3, w4]) (q := 1) iL_law_110 (by decide +kernel) (by decide) (x := mnI_L_law) (x2 := mnI_L_block) rfl rfl rfl (by decide +kernel) (by rcases mn_r_is hw3 with ⟨_, rfl⟩ | rfl <;> rcases mn_r_is hw4 with ⟨_, rfl⟩ | rfl <;> exact Nat.le_of_ble_eq_true rfl) rfl
theorem eL_law_110 {cw3 : Nat} {cw4 : Nat} : Ev 147 110 (ls) ((.ref cw4) :: (.ref cw3) :: st) h r ↔ Evr false (decide (mn_cats st ≤ 8)) 147 110 ls st h.2.2.1 h.2.2.2 (Cl 137 [(.ref cw3), (.ref cw4)] h.1 h.2.1) r := EgL_law_110 rfl rfl
theorem iL_law_113 : mn_ins 147 113 = some (9, false, .istore 5, 2) := by decide +kernel
theorem eL_law_113 : Ev 147 113 (a0 :: a1 :: a2 :: a3 :: a4 :: a5 :: ls) (.int x :: st) h r ↔ Ev 147 115 (a0 :: a1 :: a2 :: a3 :: mn_k a4 :: some (.int x) :: ls) (st) h r := ev_istore iL_law_113 (by show 5 < _; simp only [List.length_cons]; omega)
theorem iL_law_115 : mn_ins 147 115 = some (9, false, .aload_n 2, 1) := by decide +kernel
theorem eL_law_115 : Ev 147 115 (a0 :: a1 :: some (.ref a) :: ls) (st) h r ↔ Ev 147 116 (a0 :: a1 :: some (.ref a) :: ls) (.ref a :: st) h r := ev_aload_n iL_law_115 rfl rfl
theorem eL_law_115n : Ev 147 115 (a0 :: a1 :: some (.null) :: ls) (st) h r ↔ Ev 147 116 (a0 :: a1 :: some (.null) :: ls) (.null :: st) h r := ev_aload_n iL_law_115 rfl rfl
theorem eL_law_115t : Ev 147 115 (a0 :: a1 :: some (tkv o1) :: ls) (st) h r ↔ Ev 147 116 (a0 :: a1 :: some (tkv o1) :: ls) (tkv o1 :: st) h r := ev_aload_n iL_law_115 rfl tkv_r
theorem eL_law_115s : Ev 147 115 (a0 :: a1 :: some (sgv o1) :: ls) (st) h r ↔ Ev 147 116 (a0 :: a1 :: some (sgv o1) :: ls) (sgv o1 :: st) h r := ev_aload_n iL_law_115 rfl sgv_r
theorem eL_law_115c : Ev 147 115 (a0 :: a1 :: some (cdv o1) :: ls) (st) h r ↔ Ev 147 116 (a0 :: a1 :: some (cdv o1) :: ls) (cdv o1 :: st) h r := ev_aload_n iL_law_115 rfl cdv_r
theorem iL_law_116 : mn_ins 147 116 = some (9, false, .invokevirtual 59, 3) := by decide +kernel
theorem eL_law_116 : Ev 147 116 (ls) (.ref b :: st) h r ↔ Evr true (decide (mn_cats st ≤ 8) && mn_isc h b 8) 147 116 ls st h.2.2.1 h.2.2.2 (Cl 88 (.ref b :: []) h.1 h.2.1) r := Ev_V (As := []) iL_law_116 (by decide +kernel) (x := mnI_L_law) (x2 := mnI_X8_block) rfl rfl rfl (by decide +kernel) (Nat.le_of_ble_eq_true rfl) rfl
theorem iL_law_119 : mn_ins 147 119 = some (9, false, .istore 6, 2) := by decide +kernel
theorem eL_law_119 : Ev 147 119 (a0 :: a1 :: a2 :: a3 :: a4 :: a5 :: a6 :: ls) (.int x :: st) h r ↔ Ev 147 121 (a0 :: a1 :: a2 :: a3 :: a4 :: mn_k a5 :: some (.int x) :: ls) (st) h r := ev_istore iL_law_119 (by show 6 < _; simp only [List.length_cons]; omega)
theorem iL_law_121 : mn_ins 147 121 = some (9, false, .aload_n 2, 1) := by decide +kernel
theorem eL_law_121 : Ev 147 121 (a0 :: a1 :: some (.ref a) :: ls) (st) h r ↔ Ev 147 122 (a0 :: a1 :: some (.ref a) :: ls) (.ref a :: st) h r := ev_aload_n iL_law_121 rfl rfl
theorem eL_law_121n : Ev 147 121 (a0 :: a1 :: some (.null) :: ls) (st) h r ↔ Ev 147 122 (a0 :: a1 :: some (.null) :: ls) (.null :: st) h r := ev_aload_n iL_law_121 rfl rfl
theorem eL_law_121t : Ev 147 121 (a0 :: a1 :: some (tkv o1) :: ls) (st) h r ↔ Ev 147 122 (a0 :: a1 :: some (tkv o1) :: ls) (tkv o1 :: st) h r := ev_aload_n iL_law_121 rfl tkv_r
theorem eL_law_121s : Ev 147 121 (a0 :: a1 :: some (sgv o1) :: ls) (st) h r ↔ Ev 147 122 (a0 :: a1 :: some (sgv o1) :: ls) (sgv o1 :: st) h r := ev_aload_n iL_law_121 rfl sgv_r
theorem eL_law_121c : Ev 147 121 (a0 :: a1 :: some (cdv o1) :: ls) (st) h r ↔ Ev 147 122 (a0 :: a1 :: some (cdv o1) :: ls) (cdv o1 :: st) h r := ev_aload_n iL_law_121 rfl cdv_r
theorem iL_law_122 : mn_ins 147 122 = some (9, false, .invokevirtual 60, 3) := by decide +kernel
theorem eL_law_122 : Ev 147 122 (ls) (.ref b :: st) h r ↔ Evr true (decide (mn_cats st ≤ 8) && mn_isc h b 8) 147 122 ls st h.2.2.1 h.2.2.2 (Cl 85 (.ref b :: []) h.1 h.2.1) r := Ev_V (As := []) iL_law_122 (by decide +kernel) (x := mnI_L_law) (x2 := mnI_X8_thrown) rfl rfl rfl (by decide +kernel) (Nat.le_of_ble_eq_true rfl) rfl
theorem iL_law_125 : mn_ins 147 125 = some (9, false, .iload 5, 2) := by decide +kernel
theorem eL_law_125 : Ev 147 125 (a0 :: a1 :: a2 :: a3 :: a4 :: some (.int x) :: ls) (st) h r ↔ Ev 147 127 (a0 :: a1 :: a2 :: a3 :: a4 :: some (.int x) :: ls) (.int x :: st) h r := ev_iload iL_law_125 rfl
theorem iL_law_127 : mn_ins 147 127 = some (9, false, .if_icmp .eq 5, 3) := by decide +kernel
theorem eL_law_127 : Ev 147 127 (ls) (.int y :: .int x :: st) h r ↔ if x = y then Ev 147 132 (ls) (st) h r else Ev 147 130 (ls) (st) h r := ev_cmpeq iL_law_127 (by decide)
theorem iL_law_130 : mn_ins 147 130 = some (9, false, .iconst 0, 1) := by decide +kernel
theorem eL_law_130 : Ev 147 130 (ls) (st) h r ↔ Ev 147 131 (ls) (.int (nI 0) :: st) h r := ev_iconst iL_law_130 (by decide)
theorem iL_law_131 : mn_ins 147 131 = some (9, false, .ireturn, 1) := by decide +kernel
theorem eL_law_131 (hx : x = 0 ∨ x = 1) : Ev 147 131 (ls) [.int x] h r ↔ r = (h, .inl (some (.int x))) := ev_zret iL_law_131 (X := mnI_L_law) rfl rfl hx
theorem iL_law_132 : mn_ins 147 132 = some (9, false, .iload 5, 2) := by decide +kernel
theorem eL_law_132 : Ev 147 132 (a0 :: a1 :: a2 :: a3 :: a4 :: some (.int x) :: ls) (st) h r ↔ Ev 147 134 (a0 :: a1 :: a2 :: a3 :: a4 :: some (.int x) :: ls) (.int x :: st) h r := ev_iload iL_law_132 rfl
theorem iL_law_134 : mn_ins 147 134 = some (9, false, .ifCond .ne 15, 3) := by decide +kernel
theorem eL_law_134 : Ev 147 134 (ls) (.int x :: st) h r ↔ if x = nI 0 then Ev 147 137 (ls) (st) h r else Ev 147 149 (ls) (st) h r := ev_ifne iL_law_134 (by decide)
theorem iL_law_137 : mn_ins 147 137 = some (9, false, .aload_n 3, 1) := by decide +kernel
theorem eL_law_137 : Ev 147 137 (a0 :: a1 :: a2 :: some (.ref a) :: ls) (st) h r ↔ Ev 147 138 (a0 :: a1 :: a2 :: some (.ref a) :: ls) (.ref a :: st) h r := ev_aload_n iL_law_137 rfl rfl
theorem eL_law_137n : Ev 147 137 (a0 :: a1 :: a2 :: some (.null) :: ls) (st) h r ↔ Ev 147 138 (a0 :: a1 :: a2 :: some (.null) :: ls) (.null :: st) h r := ev_aload_n iL_law_137 rfl rfl
theorem eL_law_137t : Ev 147 137 (a0 :: a1 :: a2 :: some (tkv o1) :: ls) (st) h r ↔ Ev 147 138 (a0 :: a1 :: a2 :: some (tkv o1) :: ls) (tkv o1 :: st) h r := ev_aload_n iL_law_137 rfl tkv_r
theorem eL_law_137s : Ev 147 137 (a0 :: a1 :: a2 :: some (sgv o1) :: ls) (st) h r ↔ Ev 147 138 (a0 :: a1 :: a2 :: some (sgv o1) :: ls) (sgv o1 :: st) h r := ev_aload_n iL_law_137 rfl sgv_r
theorem eL_law_137c : Ev 147 137 (a0 :: a1 :: a2 :: some (cdv o1) :: ls) (st) h r ↔ Ev 147 138 (a0 :: a1 :: a2 :: some (cdv o1) :: ls) (cdv o1 :: st) h r := ev_aload_n iL_law_137 rfl cdv_r
theorem iL_law_138 : mn_ins 147 138 = some (9, false, .iconst 0, 1) := by decide +kernel
theorem eL_law_138 : Ev 147 138 (ls) (st) h r ↔ Ev 147 139 (ls) (.int (nI 0) :: st) h r := ev_iconst iL_law_138 (by decide)
theorem iL_law_139 : mn_ins 147 139 = some (9, false, .laload, 1) := by decide +kernel
theorem eL_law_139 : Ev 147 139 (ls) (.int x :: .ref a :: st) h r ↔ Evk 147 140 ls (mn_al h a 1 x) st h r := ev_lald iL_law_139
theorem iL_law_140 : mn_ins 147 140 = some (9, false, .iload 6, 2) := by decide +kernel
theorem eL_law_140 : Ev 147 140 (a0 :: a1 :: a2 :: a3 :: a4 :: a5 :: some (.int x) :: ls) (st) h r ↔ Ev 147 142 (a0 :: a1 :: a2 :: a3 :: a4 :: a5 :: some (.int x) :: ls) (.int x :: st) h r := ev_iload iL_law_140 rfl
theorem iL_law_142 : mn_ins 147 142 = some (9, false, .i2l, 1) := by decide +kernel
theorem eL_law_142 : Ev 147 142 (ls) (.int x :: st) h r ↔ Ev 147 143 (ls) (.long x.toInt64 :: st) h r := ev_i2l iL_law_142
theorem iL_law_143 : mn_ins 147 143 = some (9, false, .lcmp, 1) := by decide +kernel
theorem eL_law_143 : Ev 147 143 (ls) (.long v :: .long u :: st) h r ↔ Ev 147 144 (ls) (.int (lg_cmp u v) :: st) h r := ev_lcmp iL_law_143
theorem iL_law_144 : mn_ins 147 144 = some (9, false, .ifCond .eq 5, 3) := by decide +kernel
theorem eL_law_144 : Ev 147 144 (ls) (.int x :: st) h r ↔ if x = nI 0 then Ev 147 149 (ls) (st) h r else Ev 147 147 (ls) (st) h r := ev_ifeq iL_law_144 (by decide)
theorem iL_law_147 : mn_ins 147 147 = some (9, false, .iconst 0, 1) := by decide +kernel
theorem eL_law_147 : Ev 147 147 (ls) (st) h r ↔ Ev 147 148 (ls) (.int (nI 0) :: st) h r := ev_iconst iL_law_147 (by decide)
theorem iL_law_148 : mn_ins 147 148 = some (9, false, .ireturn, 1) := by decide +kernel
theorem eL_law_148 (hx : x = 0 ∨ x = 1) : Ev 147 148 (ls) [.int x] h r ↔ r = (h, .inl (some (.int x))) := ev_zret iL_law_148 (X := mnI_L_law) rfl rfl hx
theorem iL_law_149 : mn_ins 147 149 = some (9, false, .goto 587, 3) := by decide +kernel
theorem eL_law_149 : Ev 147 149 (ls) (st) h r ↔ Ev 147 736 (ls) (st) h r := ev_goto iL_law_149 (by decide)
theorem iL_law_152 : mn_ins 147 152 = some (9, false, .aload_n 1, 1) := by decide +kernel
theorem eL_law_152 : Ev 147 152 (a0 :: some (.ref a) :: ls) (st) h r ↔ Ev 147 153 (a0 :: some (.ref a) :: ls) (.ref a :: st) h r := ev_aload_n iL_law_152 rfl rfl
theorem eL_law_152n : Ev 147 152 (a0 :: some (.null) :: ls) (st) h r ↔ Ev 147 153 (a0 :: some (.null) :: ls) (.null :: st) h r := ev_aload_n iL_law_152 rfl rfl
theorem eL_law_152t : Ev 147 152 (a0 :: some (tkv o1) :: ls) (st) h r ↔ Ev 147 153 (a0 :: some (tkv o1) :: ls) (tkv o1 :: st) h r := ev_aload_n iL_law_152 rfl tkv_r
theorem eL_law_152s : Ev 147 152 (a0 :: some (sgv o1) :: ls) (st) h r ↔ Ev 147 153 (a0 :: some (sgv o1) :: ls) (sgv o1 :: st) h r := ev_aload_n iL_law_152 rfl sgv_r
theorem eL_law_152c : Ev 147 152 (a0 :: some (cdv o1) :: ls) (st) h r ↔ Ev 147 153 (a0 :: some (cdv o1) :: ls) (cdv o1 :: st) h r := ev_aload_n iL_law_152 rfl cdv_r
theorem iL_law_153 : mn_ins 147 153 = some (9, false, .aload_n 0, 1) := by decide +kernel
theorem eL_law_153 : Ev 147 153 (some (.ref a) :: ls) (st) h r ↔ Ev 147 154 (some (.ref a) :: ls) (.ref a :: st) h r := ev_aload_n iL_law_153 rfl rfl
theorem eL_law_153n : Ev 147 153 (some (.null) :: ls) (st) h r ↔ Ev 147 154 (some (.null) :: ls) (.null :: st) h r := ev_aload_n iL_law_153 rfl rfl
theorem eL_law_153t : Ev 147 153 (some (tkv o1) :: ls) (st) h r ↔ Ev 147 154 (some (tkv o1) :: ls) (tkv o1 :: st) h r := ev_aload_n iL_law_153 rfl tkv_r
theorem eL_law_153s : Ev 147 153 (some (sgv o1) :: ls) (st) h r ↔ Ev 147 154 (some (sgv o1) :: ls) (sgv o1 :: st) h r := ev_aload_n iL_law_153 rfl sgv_r
theorem eL_law_153c : Ev 147 153 (some (cdv o1) :: ls) (st) h r ↔ Ev 147 154 (some (cdv o1) :: ls) (cdv o1 :: st) h r := ev_aload_n iL_law_153 rfl cdv_r
theorem iL_law_154 : mn_ins 147 154 = some (9, false, .iload 4, 2) := by decide +kernel
theorem eL_law_154 : Ev 147 154 (a0 :: a1 :: a2 :: a3 :: some (.int x) :: ls) (st) h r ↔ Ev 147 156 (a0 :: a1 :: a2 :: a3 :: some (.int x) :: ls) (.int x :: st) h r := ev_iload iL_law_154 rfl
theorem iL_law_156 : mn_ins 147 156 = some (9, false, .iconst 1, 1) := by decide +kernel
theorem eL_law_156 : Ev 147 156 (ls) (st) h r ↔ Ev 147 157 (ls) (.int (nI 1) :: st) h r := ev_iconst iL_law_156 (by decide)
theorem iL_law_157 : mn_ins 147 157 = some (9, false, .iadd, 1) := by decide +kernel
theorem eL_law_157 : Ev 147 157 (ls) (.int y :: .int x :: st) h r ↔ Ev 147 158 (ls) (.int (x + y) :: st) h r := ev_iadd iL_law_157
theorem iL_law_158 : mn_ins 147 158 = some (9, false, .iaload, 1) := by decide +kernel
theorem eL_law_158 : Ev 147 158 (ls) (.int x :: .ref a :: st) h r ↔ Evk 147 159 ls (mn_al h a 0 x) st h r := ev_iald iL_law_158
theorem iL_law_159 : mn_ins 147 159 = some (9, false, .aload_n 0, 1) := by decide +kernel
theorem eL_law_159 : Ev 147 159 (some (.ref a) :: ls) (st) h r ↔ Ev 147 160 (some (.ref a) :: ls) (.ref a :: st) h r := ev_aload_n iL_law_159 rfl rfl
theorem eL_law_159n : Ev 147 159 (some (.null) :: ls) (st) h r ↔ Ev 147 160 (some (.null) :: ls) (.null :: st) h r := ev_aload_n iL_law_159 rfl rfl
theorem eL_law_159t : Ev 147 159 (some (tkv o1) :: ls) (st) h r ↔ Ev 147 160 (some (tkv o1) :: ls) (tkv o1 :: st) h r := ev_aload_n iL_law_159 rfl tkv_r
theorem eL_law_159s : Ev 147 159 (some (sgv o1) :: ls) (st) h r ↔ Ev 147 160 (some (sgv o1) :: ls) (sgv o1 :: st) h r := ev_aload_n iL_law_159 rfl sgv_r
theorem eL_law_159c : Ev 147 159 (some (cdv o1) :: ls) (st) h r ↔ Ev 147 160 (some (cdv o1) :: ls) (cdv o1 :: st) h r := ev_aload_n iL_law_159 rfl cdv_r
theorem iL_law_160 : mn_ins 147 160 = some (9, false, .iload 4, 2) := by decide +kernel
theorem eL_law_160 : Ev 147 160 (a0 :: a1 :: a2 :: a3 :: some (.int x) :: ls) (st) h r ↔ Ev 147 162 (a0 :: a1 :: a2 :: a3 :: some (.int x) :: ls) (.int x :: st) h r := ev_iload iL_law_160 rfl
theorem iL_law_162 : mn_ins 147 162 = some (9, false, .iconst 2, 1) := by decide +kernel
theorem eL_law_162 : Ev 147 162 (ls) (st) h r ↔ Ev 147 163 (ls) (.int (nI 2) :: st) h r := ev_iconst iL_law_162 (by decide)
theorem iL_law_163 : mn_ins 147 163 = some (9, false, .iadd, 1) := by decide +kernel
theorem eL_law_163 : Ev 147 163 (ls) (.int y :: .int x :: st) h r ↔ Ev 147 164 (ls) (.int (x + y) :: st) h r := ev_iadd iL_law_163
theorem iL_law_164 : mn_ins 147 164 = some (9, false, .iaload, 1) := by decide +kernel
theorem eL_law_164 : Ev 147 164 (ls) (.int x :: .ref a :: st) h r ↔ Evk 147 165 ls (mn_al h a 0 x) st h r := ev_iald iL_law_164
theorem iL_law_165 : mn_ins 147 165 = some (9, false, .aload_n 3, 1) := by decide +kernel
theorem eL_law_165 : Ev 147 165 (a0 :: a1 :: a2 :: some (.ref a) :: ls) (st) h r ↔ Ev 147 166 (a0 :: a1 :: a2 :: some (.ref a) :: ls) (.ref a :: st) h r := ev_aload_n iL_law_165 rfl rfl
theorem eL_law_165n : Ev 147 165 (a0 :: a1 :: a2 :: some (.null) :: ls) (st) h r ↔ Ev 147 166 (a0 :: a1 :: a2 :: some (.null) :: ls) (.null :: st) h r := ev_aload_n iL_law_165 rfl rfl
theorem eL_law_165t : Ev 147 165 (a0 :: a1 :: a2 :: some (tkv o1) :: ls) (st) h r ↔ Ev 147 166 (a0 :: a1 :: a2 :: some (tkv o1) :: ls) (tkv o1 :: st) h r := ev_aload_n iL_law_165 rfl tkv_r
theorem eL_law_165s : Ev 147 165 (a0 :: a1 :: a2 :: some (sgv o1) :: ls) (st) h r ↔ Ev 147 166 (a0 :: a1 :: a2 :: some (sgv o1) :: ls) (sgv o1 :: st) h r := ev_aload_n iL_law_165 rfl sgv_r
theorem eL_law_165c : Ev 147 165 (a0 :: a1 :: a2 :: some (cdv o1) :: ls) (st) h r ↔ Ev 147 166 (a0 :: a1 :: a2 :: some (cdv o1) :: ls) (cdv o1 :: st) h r := ev_aload_n iL_law_165 rfl cdv_r
theorem iL_law_166 : mn_ins 147 166 = some (9, false, .invokestatic 63, 3) := by decide +kernel
theorem EgL_law_166 (hw3 : (mn_r w3).isSome = true) (hw6 : (mn_r w6).isSome = true) : Ev 147 166 (ls) (w6 :: .int x2 :: .int x1 :: w3 :: st) h r ↔ Evr false (decide (mn_cats st ≤ 8)) 147 166 ls st h.2.2.1 h.2.2.2 (Cl 138 [w3, .int x1, .int x2, w6] h.1 h.2.1) r := Ev_T (As := [w3, .int x1, .int x2, w6]) (q := 1) iL_law_166 (by decide +kernel) (by decide) (x := mnI_L_law) (x2 := mnI_L_add) rfl rfl rfl (by decide +kernel) (by rcases mn_r_is hw3 with ⟨_, rfl⟩ | rfl <;> rcases mn_r_is hw6 with ⟨_, rfl⟩ | rfl <;> exact Nat.le_of_ble_eq_true rfl) rfl
theorem eL_law_166 {cw3 : Nat} {cw6 : Nat} : Ev 147 166 (ls) ((.ref cw6) :: .int x2 :: .int x1 :: (.ref cw3) :: st) h r ↔ Evr false (decide (mn_cats st ≤ 8)) 147 166 ls st h.2.2.1 h.2.2.2 (Cl 138 [(.ref cw3), .int x1, .int x2, (.ref cw6)] h.1 h.2.1) r := EgL_law_166 rfl rfl
theorem iL_law_169 : mn_ins 147 169 = some (9, false, .istore 5, 2) := by decide +kernel
theorem eL_law_169 : Ev 147 169 (a0 :: a1 :: a2 :: a3 :: a4 :: a5 :: ls) (.int x :: st) h r ↔ Ev 147 171 (a0 :: a1 :: a2 :: a3 :: mn_k a4 :: some (.int x) :: ls) (st) h r := ev_istore iL_law_169 (by show 5 < _; simp only [List.length_cons]; omega)
theorem iL_law_171 : mn_ins 147 171 = some (9, false, .aload_n 2, 1) := by decide +kernel
theorem eL_law_171 : Ev 147 171 (a0 :: a1 :: some (.ref a) :: ls) (st) h r ↔ Ev 147 172 (a0 :: a1 :: some (.ref a) :: ls) (.ref a :: st) h r := ev_aload_n iL_law_171 rfl rfl
theorem eL_law_171n : Ev 147 171 (a0 :: a1 :: some (.null) :: ls) (st) h r ↔ Ev 147 172 (a0 :: a1 :: some (.null) :: ls) (.null :: st) h r := ev_aload_n iL_law_171 rfl rfl
theorem eL_law_171t : Ev 147 171 (a0 :: a1 :: some (tkv o1) :: ls) (st) h r ↔ Ev 147 172 (a0 :: a1 :: some (tkv o1) :: ls) (tkv o1 :: st) h r := ev_aload_n iL_law_171 rfl tkv_r
theorem eL_law_171s : Ev 147 171 (a0 :: a1 :: some (sgv o1) :: ls) (st) h r ↔ Ev 147 172 (a0 :: a1 :: some (sgv o1) :: ls) (sgv o1 :: st) h r := ev_aload_n iL_law_171 rfl sgv_r
theorem eL_law_171c : Ev 147 171 (a0 :: a1 :: some (cdv o1) :: ls) (st) h r ↔ Ev 147 172 (a0 :: a1 :: some (cdv o1) :: ls) (cdv o1 :: st) h r := ev_aload_n iL_law_171 rfl cdv_r
theorem iL_law_172 : mn_ins 147 172 = some (9, false, .aload_n 0, 1) := by decide +kernel
theorem eL_law_172 : Ev 147 172 (some (.ref a) :: ls) (st) h r ↔ Ev 147 173 (some (.ref a) :: ls) (.ref a :: st) h r := ev_aload_n iL_law_172 rfl rfl
theorem eL_law_172n : Ev 147 172 (some (.null) :: ls) (st) h r ↔ Ev 147 173 (some (.null) :: ls) (.null :: st) h r := ev_aload_n iL_law_172 rfl rfl
theorem eL_law_172t : Ev 147 172 (some (tkv o1) :: ls) (st) h r ↔ Ev 147 173 (some (tkv o1) :: ls) (tkv o1 :: st) h r := ev_aload_n iL_law_172 rfl tkv_r
theorem eL_law_172s : Ev 147 172 (some (sgv o1) :: ls) (st) h r ↔ Ev 147 173 (some (sgv o1) :: ls) (sgv o1 :: st) h r := ev_aload_n iL_law_172 rfl sgv_r
theorem eL_law_172c : Ev 147 172 (some (cdv o1) :: ls) (st) h r ↔ Ev 147 173 (some (cdv o1) :: ls) (cdv o1 :: st) h r := ev_aload_n iL_law_172 rfl cdv_r
theorem iL_law_173 : mn_ins 147 173 = some (9, false, .iload 4, 2) := by decide +kernel
theorem eL_law_173 : Ev 147 173 (a0 :: a1 :: a2 :: a3 :: some (.int x) :: ls) (st) h r ↔ Ev 147 175 (a0 :: a1 :: a2 :: a3 :: some (.int x) :: ls) (.int x :: st) h r := ev_iload iL_law_173 rfl
theorem iL_law_175 : mn_ins 147 175 = some (9, false, .iconst 1, 1) := by decide +kernel
theorem eL_law_175 : Ev 147 175 (ls) (st) h r ↔ Ev 147 176 (ls) (.int (nI 1) :: st) h r := ev_iconst iL_law_175 (by decide)
theorem iL_law_176 : mn_ins 147 176 = some (9, false, .iadd, 1) := by decide +kernel
theorem eL_law_176 : Ev 147 176 (ls) (.int y :: .int x :: st) h r ↔ Ev 147 177 (ls) (.int (x + y) :: st) h r := ev_iadd iL_law_176
theorem iL_law_177 : mn_ins 147 177 = some (9, false, .iaload, 1) := by decide +kernel
theorem eL_law_177 : Ev 147 177 (ls) (.int x :: .ref a :: st) h r ↔ Evk 147 178 ls (mn_al h a 0 x) st h r := ev_iald iL_law_177
theorem iL_law_178 : mn_ins 147 178 = some (9, false, .aload_n 0, 1) := by decide +kernel
theorem eL_law_178 : Ev 147 178 (some (.ref a) :: ls) (st) h r ↔ Ev 147 179 (some (.ref a) :: ls) (.ref a :: st) h r := ev_aload_n iL_law_178 rfl rfl
theorem eL_law_178n : Ev 147 178 (some (.null) :: ls) (st) h r ↔ Ev 147 179 (some (.null) :: ls) (.null :: st) h r := ev_aload_n iL_law_178 rfl rfl
theorem eL_law_178t : Ev 147 178 (some (tkv o1) :: ls) (st) h r ↔ Ev 147 179 (some (tkv o1) :: ls) (tkv o1 :: st) h r := ev_aload_n iL_law_178 rfl tkv_r
theorem eL_law_178s : Ev 147 178 (some (sgv o1) :: ls) (st) h r ↔ Ev 147 179 (some (sgv o1) :: ls) (sgv o1 :: st) h r := ev_aload_n iL_law_178 rfl sgv_r
theorem eL_law_178c : Ev 147 178 (some (cdv o1) :: ls) (st) h r ↔ Ev 147 179 (some (cdv o1) :: ls) (cdv o1 :: st) h r := ev_aload_n iL_law_178 rfl cdv_r
theorem iL_law_179 : mn_ins 147 179 = some (9, false, .iload 4, 2) := by decide +kernel
theorem eL_law_179 : Ev 147 179 (a0 :: a1 :: a2 :: a3 :: some (.int x) :: ls) (st) h r ↔ Ev 147 181 (a0 :: a1 :: a2 :: a3 :: some (.int x) :: ls) (.int x :: st) h r := ev_iload iL_law_179 rfl
theorem iL_law_181 : mn_ins 147 181 = some (9, false, .iconst 2, 1) := by decide +kernel
theorem eL_law_181 : Ev 147 181 (ls) (st) h r ↔ Ev 147 182 (ls) (.int (nI 2) :: st) h r := ev_iconst iL_law_181 (by decide)
theorem iL_law_182 : mn_ins 147 182 = some (9, false, .iadd, 1) := by decide +kernel
theorem eL_law_182 : Ev 147 182 (ls) (.int y :: .int x :: st) h r ↔ Ev 147 183 (ls) (.int (x + y) :: st) h r := ev_iadd iL_law_182
theorem iL_law_183 : mn_ins 147 183 = some (9, false, .iaload, 1) := by decide +kernel
theorem eL_law_183 : Ev 147 183 (ls) (.int x :: .ref a :: st) h r ↔ Evk 147 184 ls (mn_al h a 0 x) st h r := ev_iald iL_law_183
theorem iL_law_184 : mn_ins 147 184 = some (9, false, .invokevirtual 66, 3) := by decide +kernel
theorem eL_law_184 : Ev 147 184 (ls) (.int x1 :: .int x0 :: .ref b :: st) h r ↔ Evr true (decide (mn_cats st ≤ 8) && mn_isc h b 8) 147 184 ls st h.2.2.1 h.2.2.2 (Cl 90 (.ref b :: [.int x0, .int x1]) h.1 h.2.1) r := Ev_V (As := [.int x0, .int x1]) iL_law_184 (by decide +kernel) (x := mnI_L_law) (x2 := mnI_X8_add) rfl rfl rfl (by decide +kernel) (Nat.le_of_ble_eq_true rfl) rfl
theorem iL_law_187 : mn_ins 147 187 = some (9, false, .istore 6, 2) := by decide +kernel
theorem eL_law_187 : Ev 147 187 (a0 :: a1 :: a2 :: a3 :: a4 :: a5 :: a6 :: ls) (.int x :: st) h r ↔ Ev 147 189 (a0 :: a1 :: a2 :: a3 :: a4 :: mn_k a5 :: some (.int x) :: ls) (st) h r := ev_istore iL_law_187 (by show 6 < _; simp only [List.length_cons]; omega)
theorem iL_law_189 : mn_ins 147 189 = some (9, false, .aload_n 2, 1) := by decide +kernel
theorem eL_law_189 : Ev 147 189 (a0 :: a1 :: some (.ref a) :: ls) (st) h r ↔ Ev 147 190 (a0 :: a1 :: some (.ref a) :: ls) (.ref a :: st) h r := ev_aload_n iL_law_189 rfl rfl
theorem eL_law_189n : Ev 147 189 (a0 :: a1 :: some (.null) :: ls) (st) h r ↔ Ev 147 190 (a0 :: a1 :: some (.null) :: ls) (.null :: st) h r := ev_aload_n iL_law_189 rfl rfl
theorem eL_law_189t : Ev 147 189 (a0 :: a1 :: some (tkv o1) :: ls) (st) h r ↔ Ev 147 190 (a0 :: a1 :: some (tkv o1) :: ls) (tkv o1 :: st) h r := ev_aload_n iL_law_189 rfl tkv_r
theorem eL_law_189s : Ev 147 189 (a0 :: a1 :: some (sgv o1) :: ls) (st) h r ↔ Ev 147 190 (a0 :: a1 :: some (sgv o1) :: ls) (sgv o1 :: st) h r := ev_aload_n iL_law_189 rfl sgv_r
theorem eL_law_189c : Ev 147 189 (a0 :: a1 :: some (cdv o1) :: ls) (st) h r ↔ Ev 147 190 (a0 :: a1 :: some (cdv o1) :: ls) (cdv o1 :: st) h r := ev_aload_n iL_law_189 rfl cdv_r
theorem iL_law_190 : mn_ins 147 190 = some (9, false, .invokevirtual 60, 3) := by decide +kernel
theorem eL_law_190 : Ev 147 190 (ls) (.ref b :: st) h r ↔ Evr true (decide (mn_cats st ≤ 8) && mn_isc h b 8) 147 190 ls st h.2.2.1 h.2.2.2 (Cl 85 (.ref b :: []) h.1 h.2.1) r := Ev_V (As := []) iL_law_190 (by decide +kernel) (x := mnI_L_law) (x2 := mnI_X8_thrown) rfl rfl rfl (by decide +kernel) (Nat.le_of_ble_eq_true rfl) rfl
theorem iL_law_193 : mn_ins 147 193 = some (9, false, .iload 5, 2) := by decide +kernel
theorem eL_law_193 : Ev 147 193 (a0 :: a1 :: a2 :: a3 :: a4 :: some (.int x) :: ls) (st) h r ↔ Ev 147 195 (a0 :: a1 :: a2 :: a3 :: a4 :: some (.int x) :: ls) (.int x :: st) h r := ev_iload iL_law_193 rfl
theorem iL_law_195 : mn_ins 147 195 = some (9, false, .if_icmp .eq 5, 3) := by decide +kernel
theorem eL_law_195 : Ev 147 195 (ls) (.int y :: .int x :: st) h r ↔ if x = y then Ev 147 200 (ls) (st) h r else Ev 147 198 (ls) (st) h r := ev_cmpeq iL_law_195 (by decide)
theorem iL_law_198 : mn_ins 147 198 = some (9, false, .iconst 0, 1) := by decide +kernel
theorem eL_law_198 : Ev 147 198 (ls) (st) h r ↔ Ev 147 199 (ls) (.int (nI 0) :: st) h r := ev_iconst iL_law_198 (by decide)
theorem iL_law_199 : mn_ins 147 199 = some (9, false, .ireturn, 1) := by decide +kernel
theorem eL_law_199 (hx : x = 0 ∨ x = 1) : Ev 147 199 (ls) [.int x] h r ↔ r = (h, .inl (some (.int x))) := ev_zret iL_law_199 (X := mnI_L_law) rfl rfl hx
theorem iL_law_200 : mn_ins 147 200 = some (9, false, .iload 5, 2) := by decide +kernel
theorem eL_law_200 : Ev 147 200 (a0 :: a1 :: a2 :: a3 :: a4 :: some (.int x) :: ls) (st) h r ↔ Ev 147 202 (a0 :: a1 :: a2 :: a3 :: a4 :: some (.int x) :: ls) (.int x :: st) h r := ev_iload iL_law_200 rfl
theorem iL_law_202 : mn_ins 147 202 = some (9, false, .ifCond .ne 15, 3) := by decide +kernel
theorem eL_law_202 : Ev 147 202 (ls) (.int x :: st) h r ↔ if x = nI 0 then Ev 147 205 (ls) (st) h r else Ev 147 217 (ls) (st) h r := ev_ifne iL_law_202 (by decide)
theorem iL_law_205 : mn_ins 147 205 = some (9, false, .aload_n 3, 1) := by decide +kernel
theorem eL_law_205 : Ev 147 205 (a0 :: a1 :: a2 :: some (.ref a) :: ls) (st) h r ↔ Ev 147 206 (a0 :: a1 :: a2 :: some (.ref a) :: ls) (.ref a :: st) h r := ev_aload_n iL_law_205 rfl rfl
theorem eL_law_205n : Ev 147 205 (a0 :: a1 :: a2 :: some (.null) :: ls) (st) h r ↔ Ev 147 206 (a0 :: a1 :: a2 :: some (.null) :: ls) (.null :: st) h r := ev_aload_n iL_law_205 rfl rfl
theorem eL_law_205t : Ev 147 205 (a0 :: a1 :: a2 :: some (tkv o1) :: ls) (st) h r ↔ Ev 147 206 (a0 :: a1 :: a2 :: some (tkv o1) :: ls) (tkv o1 :: st) h r := ev_aload_n iL_law_205 rfl tkv_r
theorem eL_law_205s : Ev 147 205 (a0 :: a1 :: a2 :: some (sgv o1) :: ls) (st) h r ↔ Ev 147 206 (a0 :: a1 :: a2 :: some (sgv o1) :: ls) (sgv o1 :: st) h r := ev_aload_n iL_law_205 rfl sgv_r
theorem eL_law_205c : Ev 147 205 (a0 :: a1 :: a2 :: some (cdv o1) :: ls) (st) h r ↔ Ev 147 206 (a0 :: a1 :: a2 :: some (cdv o1) :: ls) (cdv o1 :: st) h r := ev_aload_n iL_law_205 rfl cdv_r
theorem iL_law_206 : mn_ins 147 206 = some (9, false, .iconst 0, 1) := by decide +kernel
theorem eL_law_206 : Ev 147 206 (ls) (st) h r ↔ Ev 147 207 (ls) (.int (nI 0) :: st) h r := ev_iconst iL_law_206 (by decide)
theorem iL_law_207 : mn_ins 147 207 = some (9, false, .laload, 1) := by decide +kernel
theorem eL_law_207 : Ev 147 207 (ls) (.int x :: .ref a :: st) h r ↔ Evk 147 208 ls (mn_al h a 1 x) st h r := ev_lald iL_law_207
theorem iL_law_208 : mn_ins 147 208 = some (9, false, .iload 6, 2) := by decide +kernel
theorem eL_law_208 : Ev 147 208 (a0 :: a1 :: a2 :: a3 :: a4 :: a5 :: some (.int x) :: ls) (st) h r ↔ Ev 147 210 (a0 :: a1 :: a2 :: a3 :: a4 :: a5 :: some (.int x) :: ls) (.int x :: st) h r := ev_iload iL_law_208 rfl
theorem iL_law_210 : mn_ins 147 210 = some (9, false, .i2l, 1) := by decide +kernel
theorem eL_law_210 : Ev 147 210 (ls) (.int x :: st) h r ↔ Ev 147 211 (ls) (.long x.toInt64 :: st) h r := ev_i2l iL_law_210
theorem iL_law_211 : mn_ins 147 211 = some (9, false, .lcmp, 1) := by decide +kernel
theorem eL_law_211 : Ev 147 211 (ls) (.long v :: .long u :: st) h r ↔ Ev 147 212 (ls) (.int (lg_cmp u v) :: st) h r := ev_lcmp iL_law_211
theorem iL_law_212 : mn_ins 147 212 = some (9, false, .ifCond .eq 5, 3) := by decide +kernel
theorem eL_law_212 : Ev 147 212 (ls) (.int x :: st) h r ↔ if x = nI 0 then Ev 147 217 (ls) (st) h r else Ev 147 215 (ls) (st) h r := ev_ifeq iL_law_212 (by decide)
theorem iL_law_215 : mn_ins 147 215 = some (9, false, .iconst 0, 1) := by decide +kernel
theorem eL_law_215 : Ev 147 215 (ls) (st) h r ↔ Ev 147 216 (ls) (.int (nI 0) :: st) h r := ev_iconst iL_law_215 (by decide)
theorem iL_law_216 : mn_ins 147 216 = some (9, false, .ireturn, 1) := by decide +kernel
theorem eL_law_216 (hx : x = 0 ∨ x = 1) : Ev 147 216 (ls) [.int x] h r ↔ r = (h, .inl (some (.int x))) := ev_zret iL_law_216 (X := mnI_L_law) rfl rfl hx
theorem iL_law_217 : mn_ins 147 217 = some (9, false, .goto 519, 3) := by decide +kernel
theorem eL_law_217 : Ev 147 217 (ls) (st) h r ↔ Ev 147 736 (ls) (st) h r := ev_goto iL_law_217 (by decide)
theorem iL_law_220 : mn_ins 147 220 = some (9, false, .aload_n 1, 1) := by decide +kernel
theorem eL_law_220 : Ev 147 220 (a0 :: some (.ref a) :: ls) (st) h r ↔ Ev 147 221 (a0 :: some (.ref a) :: ls) (.ref a :: st) h r := ev_aload_n iL_law_220 rfl rfl
theorem eL_law_220n : Ev 147 220 (a0 :: some (.null) :: ls) (st) h r ↔ Ev 147 221 (a0 :: some (.null) :: ls) (.null :: st) h r := ev_aload_n iL_law_220 rfl rfl
theorem eL_law_220t : Ev 147 220 (a0 :: some (tkv o1) :: ls) (st) h r ↔ Ev 147 221 (a0 :: some (tkv o1) :: ls) (tkv o1 :: st) h r := ev_aload_n iL_law_220 rfl tkv_r
theorem eL_law_220s : Ev 147 220 (a0 :: some (sgv o1) :: ls) (st) h r ↔ Ev 147 221 (a0 :: some (sgv o1) :: ls) (sgv o1 :: st) h r := ev_aload_n iL_law_220 rfl sgv_r
theorem eL_law_220c : Ev 147 220 (a0 :: some (cdv o1) :: ls) (st) h r ↔ Ev 147 221 (a0 :: some (cdv o1) :: ls) (cdv o1 :: st) h r := ev_aload_n iL_law_220 rfl cdv_r
theorem iL_law_221 : mn_ins 147 221 = some (9, false, .aload_n 3, 1) := by decide +kernel
theorem eL_law_221 : Ev 147 221 (a0 :: a1 :: a2 :: some (.ref a) :: ls) (st) h r ↔ Ev 147 222 (a0 :: a1 :: a2 :: some (.ref a) :: ls) (.ref a :: st) h r := ev_aload_n iL_law_221 rfl rfl
theorem eL_law_221n : Ev 147 221 (a0 :: a1 :: a2 :: some (.null) :: ls) (st) h r ↔ Ev 147 222 (a0 :: a1 :: a2 :: some (.null) :: ls) (.null :: st) h r := ev_aload_n iL_law_221 rfl rfl
theorem eL_law_221t : Ev 147 221 (a0 :: a1 :: a2 :: some (tkv o1) :: ls) (st) h r ↔ Ev 147 222 (a0 :: a1 :: a2 :: some (tkv o1) :: ls) (tkv o1 :: st) h r := ev_aload_n iL_law_221 rfl tkv_r
theorem eL_law_221s : Ev 147 221 (a0 :: a1 :: a2 :: some (sgv o1) :: ls) (st) h r ↔ Ev 147 222 (a0 :: a1 :: a2 :: some (sgv o1) :: ls) (sgv o1 :: st) h r := ev_aload_n iL_law_221 rfl sgv_r
theorem eL_law_221c : Ev 147 221 (a0 :: a1 :: a2 :: some (cdv o1) :: ls) (st) h r ↔ Ev 147 222 (a0 :: a1 :: a2 :: some (cdv o1) :: ls) (cdv o1 :: st) h r := ev_aload_n iL_law_221 rfl cdv_r
theorem iL_law_222 : mn_ins 147 222 = some (9, false, .invokestatic 67, 3) := by decide +kernel
theorem EgL_law_222 (hw3 : (mn_r w3).isSome = true) (hw4 : (mn_r w4).isSome = true) : Ev 147 222 (ls) (w4 :: w3 :: st) h r ↔ Evr false (decide (mn_cats st ≤ 8)) 147 222 ls st h.2.2.1 h.2.2.2 (Cl 139 [w3, w4] h.1 h.2.1) r := Ev_T (As := [w3, w4]) (q := 1) iL_law_222 (by decide +kernel) (by decide) (x := mnI_L_law) (x2 := mnI_L_merge) rfl rfl rfl (by decide +kernel) (by rcases mn_r_is hw3 with ⟨_, rfl⟩ | rfl <;> rcases mn_r_is hw4 with ⟨_, rfl⟩ | rfl <;> exact Nat.le_of_ble_eq_true rfl) rfl
theorem eL_law_222 {cw3 : Nat} {cw4 : Nat} : Ev 147 222 (ls) ((.ref cw4) :: (.ref cw3) :: st) h r ↔ Evr false (decide (mn_cats st ≤ 8)) 147 222 ls st h.2.2.1 h.2.2.2 (Cl 139 [(.ref cw3), (.ref cw4)] h.1 h.2.1) r := EgL_law_222 rfl rfl
theorem iL_law_225 : mn_ins 147 225 = some (9, false, .istore 5, 2) := by decide +kernel
theorem eL_law_225 : Ev 147 225 (a0 :: a1 :: a2 :: a3 :: a4 :: a5 :: ls) (.int x :: st) h r ↔ Ev 147 227 (a0 :: a1 :: a2 :: a3 :: mn_k a4 :: some (.int x) :: ls) (st) h r := ev_istore iL_law_225 (by show 5 < _; simp only [List.length_cons]; omega)
theorem iL_law_227 : mn_ins 147 227 = some (9, false, .aload_n 2, 1) := by decide +kernel
theorem eL_law_227 : Ev 147 227 (a0 :: a1 :: some (.ref a) :: ls) (st) h r ↔ Ev 147 228 (a0 :: a1 :: some (.ref a) :: ls) (.ref a :: st) h r := ev_aload_n iL_law_227 rfl rfl
theorem eL_law_227n : Ev 147 227 (a0 :: a1 :: some (.null) :: ls) (st) h r ↔ Ev 147 228 (a0 :: a1 :: some (.null) :: ls) (.null :: st) h r := ev_aload_n iL_law_227 rfl rfl
theorem eL_law_227t : Ev 147 227 (a0 :: a1 :: some (tkv o1) :: ls) (st) h r ↔ Ev 147 228 (a0 :: a1 :: some (tkv o1) :: ls) (tkv o1 :: st) h r := ev_aload_n iL_law_227 rfl tkv_r
theorem eL_law_227s : Ev 147 227 (a0 :: a1 :: some (sgv o1) :: ls) (st) h r ↔ Ev 147 228 (a0 :: a1 :: some (sgv o1) :: ls) (sgv o1 :: st) h r := ev_aload_n iL_law_227 rfl sgv_r
theorem eL_law_227c : Ev 147 227 (a0 :: a1 :: some (cdv o1) :: ls) (st) h r ↔ Ev 147 228 (a0 :: a1 :: some (cdv o1) :: ls) (cdv o1 :: st) h r := ev_aload_n iL_law_227 rfl cdv_r
theorem iL_law_228 : mn_ins 147 228 = some (9, false, .invokevirtual 69, 3) := by decide +kernel
theorem eL_law_228 : Ev 147 228 (ls) (.ref b :: st) h r ↔ Evr true (decide (mn_cats st ≤ 8) && mn_isc h b 8) 147 228 ls st h.2.2.1 h.2.2.2 (Cl 89 (.ref b :: []) h.1 h.2.1) r := Ev_V (As := []) iL_law_228 (by decide +kernel) (x := mnI_L_law) (x2 := mnI_X8_merge) rfl rfl rfl (by decide +kernel) (Nat.le_of_ble_eq_true rfl) rfl
theorem iL_law_231 : mn_ins 147 231 = some (9, false, .istore 6, 2) := by decide +kernel
theorem eL_law_231 : Ev 147 231 (a0 :: a1 :: a2 :: a3 :: a4 :: a5 :: a6 :: ls) (.int x :: st) h r ↔ Ev 147 233 (a0 :: a1 :: a2 :: a3 :: a4 :: mn_k a5 :: some (.int x) :: ls) (st) h r := ev_istore iL_law_231 (by show 6 < _; simp only [List.length_cons]; omega)
theorem iL_law_233 : mn_ins 147 233 = some (9, false, .aload_n 2, 1) := by decide +kernel
theorem eL_law_233 : Ev 147 233 (a0 :: a1 :: some (.ref a) :: ls) (st) h r ↔ Ev 147 234 (a0 :: a1 :: some (.ref a) :: ls) (.ref a :: st) h r := ev_aload_n iL_law_233 rfl rfl
theorem eL_law_233n : Ev 147 233 (a0 :: a1 :: some (.null) :: ls) (st) h r ↔ Ev 147 234 (a0 :: a1 :: some (.null) :: ls) (.null :: st) h r := ev_aload_n iL_law_233 rfl rfl
theorem eL_law_233t : Ev 147 233 (a0 :: a1 :: some (tkv o1) :: ls) (st) h r ↔ Ev 147 234 (a0 :: a1 :: some (tkv o1) :: ls) (tkv o1 :: st) h r := ev_aload_n iL_law_233 rfl tkv_r
theorem eL_law_233s : Ev 147 233 (a0 :: a1 :: some (sgv o1) :: ls) (st) h r ↔ Ev 147 234 (a0 :: a1 :: some (sgv o1) :: ls) (sgv o1 :: st) h r := ev_aload_n iL_law_233 rfl sgv_r
theorem eL_law_233c : Ev 147 233 (a0 :: a1 :: some (cdv o1) :: ls) (st) h r ↔ Ev 147 234 (a0 :: a1 :: some (cdv o1) :: ls) (cdv o1 :: st) h r := ev_aload_n iL_law_233 rfl cdv_r
theorem iL_law_234 : mn_ins 147 234 = some (9, false, .invokevirtual 60, 3) := by decide +kernel
theorem eL_law_234 : Ev 147 234 (ls) (.ref b :: st) h r ↔ Evr true (decide (mn_cats st ≤ 8) && mn_isc h b 8) 147 234 ls st h.2.2.1 h.2.2.2 (Cl 85 (.ref b :: []) h.1 h.2.1) r := Ev_V (As := []) iL_law_234 (by decide +kernel) (x := mnI_L_law) (x2 := mnI_X8_thrown) rfl rfl rfl (by decide +kernel) (Nat.le_of_ble_eq_true rfl) rfl
theorem iL_law_237 : mn_ins 147 237 = some (9, false, .iload 5, 2) := by decide +kernel
theorem eL_law_237 : Ev 147 237 (a0 :: a1 :: a2 :: a3 :: a4 :: some (.int x) :: ls) (st) h r ↔ Ev 147 239 (a0 :: a1 :: a2 :: a3 :: a4 :: some (.int x) :: ls) (.int x :: st) h r := ev_iload iL_law_237 rfl
theorem iL_law_239 : mn_ins 147 239 = some (9, false, .if_icmp .eq 5, 3) := by decide +kernel
theorem eL_law_239 : Ev 147 239 (ls) (.int y :: .int x :: st) h r ↔ if x = y then Ev 147 244 (ls) (st) h r else Ev 147 242 (ls) (st) h r := ev_cmpeq iL_law_239 (by decide)
theorem iL_law_242 : mn_ins 147 242 = some (9, false, .iconst 0, 1) := by decide +kernel
theorem eL_law_242 : Ev 147 242 (ls) (st) h r ↔ Ev 147 243 (ls) (.int (nI 0) :: st) h r := ev_iconst iL_law_242 (by decide)
theorem iL_law_243 : mn_ins 147 243 = some (9, false, .ireturn, 1) := by decide +kernel
theorem eL_law_243 (hx : x = 0 ∨ x = 1) : Ev 147 243 (ls) [.int x] h r ↔ r = (h, .inl (some (.int x))) := ev_zret iL_law_243 (X := mnI_L_law) rfl rfl hx
theorem iL_law_244 : mn_ins 147 244 = some (9, false, .iload 5, 2) := by decide +kernel
theorem eL_law_244 : Ev 147 244 (a0 :: a1 :: a2 :: a3 :: a4 :: some (.int x) :: ls) (st) h r ↔ Ev 147 246 (a0 :: a1 :: a2 :: a3 :: a4 :: some (.int x) :: ls) (.int x :: st) h r := ev_iload iL_law_244 rfl
theorem iL_law_246 : mn_ins 147 246 = some (9, false, .ifCond .ne 15, 3) := by decide +kernel
theorem eL_law_246 : Ev 147 246 (ls) (.int x :: st) h r ↔ if x = nI 0 then Ev 147 249 (ls) (st) h r else Ev 147 261 (ls) (st) h r := ev_ifne iL_law_246 (by decide)
theorem iL_law_249 : mn_ins 147 249 = some (9, false, .aload_n 3, 1) := by decide +kernel
theorem eL_law_249 : Ev 147 249 (a0 :: a1 :: a2 :: some (.ref a) :: ls) (st) h r ↔ Ev 147 250 (a0 :: a1 :: a2 :: some (.ref a) :: ls) (.ref a :: st) h r := ev_aload_n iL_law_249 rfl rfl
theorem eL_law_249n : Ev 147 249 (a0 :: a1 :: a2 :: some (.null) :: ls) (st) h r ↔ Ev 147 250 (a0 :: a1 :: a2 :: some (.null) :: ls) (.null :: st) h r := ev_aload_n iL_law_249 rfl rfl
theorem eL_law_249t : Ev 147 249 (a0 :: a1 :: a2 :: some (tkv o1) :: ls) (st) h r ↔ Ev 147 250 (a0 :: a1 :: a2 :: some (tkv o1) :: ls) (tkv o1 :: st) h r := ev_aload_n iL_law_249 rfl tkv_r
theorem eL_law_249s : Ev 147 249 (a0 :: a1 :: a2 :: some (sgv o1) :: ls) (st) h r ↔ Ev 147 250 (a0 :: a1 :: a2 :: some (sgv o1) :: ls) (sgv o1 :: st) h r := ev_aload_n iL_law_249 rfl sgv_r
theorem eL_law_249c : Ev 147 249 (a0 :: a1 :: a2 :: some (cdv o1) :: ls) (st) h r ↔ Ev 147 250 (a0 :: a1 :: a2 :: some (cdv o1) :: ls) (cdv o1 :: st) h r := ev_aload_n iL_law_249 rfl cdv_r
theorem iL_law_250 : mn_ins 147 250 = some (9, false, .iconst 0, 1) := by decide +kernel
theorem eL_law_250 : Ev 147 250 (ls) (st) h r ↔ Ev 147 251 (ls) (.int (nI 0) :: st) h r := ev_iconst iL_law_250 (by decide)
theorem iL_law_251 : mn_ins 147 251 = some (9, false, .laload, 1) := by decide +kernel
theorem eL_law_251 : Ev 147 251 (ls) (.int x :: .ref a :: st) h r ↔ Evk 147 252 ls (mn_al h a 1 x) st h r := ev_lald iL_law_251
theorem iL_law_252 : mn_ins 147 252 = some (9, false, .iload 6, 2) := by decide +kernel
theorem eL_law_252 : Ev 147 252 (a0 :: a1 :: a2 :: a3 :: a4 :: a5 :: some (.int x) :: ls) (st) h r ↔ Ev 147 254 (a0 :: a1 :: a2 :: a3 :: a4 :: a5 :: some (.int x) :: ls) (.int x :: st) h r := ev_iload iL_law_252 rfl
theorem iL_law_254 : mn_ins 147 254 = some (9, false, .i2l, 1) := by decide +kernel
theorem eL_law_254 : Ev 147 254 (ls) (.int x :: st) h r ↔ Ev 147 255 (ls) (.long x.toInt64 :: st) h r := ev_i2l iL_law_254
theorem iL_law_255 : mn_ins 147 255 = some (9, false, .lcmp, 1) := by decide +kernel
theorem eL_law_255 : Ev 147 255 (ls) (.long v :: .long u :: st) h r ↔ Ev 147 256 (ls) (.int (lg_cmp u v) :: st) h r := ev_lcmp iL_law_255
theorem iL_law_256 : mn_ins 147 256 = some (9, false, .ifCond .eq 5, 3) := by decide +kernel
theorem eL_law_256 : Ev 147 256 (ls) (.int x :: st) h r ↔ if x = nI 0 then Ev 147 261 (ls) (st) h r else Ev 147 259 (ls) (st) h r := ev_ifeq iL_law_256 (by decide)
theorem iL_law_259 : mn_ins 147 259 = some (9, false, .iconst 0, 1) := by decide +kernel
theorem eL_law_259 : Ev 147 259 (ls) (st) h r ↔ Ev 147 260 (ls) (.int (nI 0) :: st) h r := ev_iconst iL_law_259 (by decide)
theorem iL_law_260 : mn_ins 147 260 = some (9, false, .ireturn, 1) := by decide +kernel
theorem eL_law_260 (hx : x = 0 ∨ x = 1) : Ev 147 260 (ls) [.int x] h r ↔ r = (h, .inl (some (.int x))) := ev_zret iL_law_260 (X := mnI_L_law) rfl rfl hx
theorem iL_law_261 : mn_ins 147 261 = some (9, false, .goto 475, 3) := by decide +kernel
theorem eL_law_261 : Ev 147 261 (ls) (st) h r ↔ Ev 147 736 (ls) (st) h r := ev_goto iL_law_261 (by decide)
theorem iL_law_264 : mn_ins 147 264 = some (9, false, .aload_n 1, 1) := by decide +kernel
theorem eL_law_264 : Ev 147 264 (a0 :: some (.ref a) :: ls) (st) h r ↔ Ev 147 265 (a0 :: some (.ref a) :: ls) (.ref a :: st) h r := ev_aload_n iL_law_264 rfl rfl
theorem eL_law_264n : Ev 147 264 (a0 :: some (.null) :: ls) (st) h r ↔ Ev 147 265 (a0 :: some (.null) :: ls) (.null :: st) h r := ev_aload_n iL_law_264 rfl rfl
theorem eL_law_264t : Ev 147 264 (a0 :: some (tkv o1) :: ls) (st) h r ↔ Ev 147 265 (a0 :: some (tkv o1) :: ls) (tkv o1 :: st) h r := ev_aload_n iL_law_264 rfl tkv_r
theorem eL_law_264s : Ev 147 264 (a0 :: some (sgv o1) :: ls) (st) h r ↔ Ev 147 265 (a0 :: some (sgv o1) :: ls) (sgv o1 :: st) h r := ev_aload_n iL_law_264 rfl sgv_r
theorem eL_law_264c : Ev 147 264 (a0 :: some (cdv o1) :: ls) (st) h r ↔ Ev 147 265 (a0 :: some (cdv o1) :: ls) (cdv o1 :: st) h r := ev_aload_n iL_law_264 rfl cdv_r
theorem iL_law_265 : mn_ins 147 265 = some (9, false, .aload_n 0, 1) := by decide +kernel
theorem eL_law_265 : Ev 147 265 (some (.ref a) :: ls) (st) h r ↔ Ev 147 266 (some (.ref a) :: ls) (.ref a :: st) h r := ev_aload_n iL_law_265 rfl rfl
theorem eL_law_265n : Ev 147 265 (some (.null) :: ls) (st) h r ↔ Ev 147 266 (some (.null) :: ls) (.null :: st) h r := ev_aload_n iL_law_265 rfl rfl
theorem eL_law_265t : Ev 147 265 (some (tkv o1) :: ls) (st) h r ↔ Ev 147 266 (some (tkv o1) :: ls) (tkv o1 :: st) h r := ev_aload_n iL_law_265 rfl tkv_r
theorem eL_law_265s : Ev 147 265 (some (sgv o1) :: ls) (st) h r ↔ Ev 147 266 (some (sgv o1) :: ls) (sgv o1 :: st) h r := ev_aload_n iL_law_265 rfl sgv_r
theorem eL_law_265c : Ev 147 265 (some (cdv o1) :: ls) (st) h r ↔ Ev 147 266 (some (cdv o1) :: ls) (cdv o1 :: st) h r := ev_aload_n iL_law_265 rfl cdv_r
theorem iL_law_266 : mn_ins 147 266 = some (9, false, .iload 4, 2) := by decide +kernel
theorem eL_law_266 : Ev 147 266 (a0 :: a1 :: a2 :: a3 :: some (.int x) :: ls) (st) h r ↔ Ev 147 268 (a0 :: a1 :: a2 :: a3 :: some (.int x) :: ls) (.int x :: st) h r := ev_iload iL_law_266 rfl
theorem iL_law_268 : mn_ins 147 268 = some (9, false, .iconst 1, 1) := by decide +kernel
theorem eL_law_268 : Ev 147 268 (ls) (st) h r ↔ Ev 147 269 (ls) (.int (nI 1) :: st) h r := ev_iconst iL_law_268 (by decide)
theorem iL_law_269 : mn_ins 147 269 = some (9, false, .iadd, 1) := by decide +kernel
theorem eL_law_269 : Ev 147 269 (ls) (.int y :: .int x :: st) h r ↔ Ev 147 270 (ls) (.int (x + y) :: st) h r := ev_iadd iL_law_269
theorem iL_law_270 : mn_ins 147 270 = some (9, false, .iaload, 1) := by decide +kernel
theorem eL_law_270 : Ev 147 270 (ls) (.int x :: .ref a :: st) h r ↔ Evk 147 271 ls (mn_al h a 0 x) st h r := ev_iald iL_law_270
theorem iL_law_271 : mn_ins 147 271 = some (9, false, .aload_n 0, 1) := by decide +kernel
theorem eL_law_271 : Ev 147 271 (some (.ref a) :: ls) (st) h r ↔ Ev 147 272 (some (.ref a) :: ls) (.ref a :: st) h r := ev_aload_n iL_law_271 rfl rfl
theorem eL_law_271n : Ev 147 271 (some (.null) :: ls) (st) h r ↔ Ev 147 272 (some (.null) :: ls) (.null :: st) h r := ev_aload_n iL_law_271 rfl rfl
theorem eL_law_271t : Ev 147 271 (some (tkv o1) :: ls) (st) h r ↔ Ev 147 272 (some (tkv o1) :: ls) (tkv o1 :: st) h r := ev_aload_n iL_law_271 rfl tkv_r
theorem eL_law_271s : Ev 147 271 (some (sgv o1) :: ls) (st) h r ↔ Ev 147 272 (some (sgv o1) :: ls) (sgv o1 :: st) h r := ev_aload_n iL_law_271 rfl sgv_r
theorem eL_law_271c : Ev 147 271 (some (cdv o1) :: ls) (st) h r ↔ Ev 147 272 (some (cdv o1) :: ls) (cdv o1 :: st) h r := ev_aload_n iL_law_271 rfl cdv_r
theorem iL_law_272 : mn_ins 147 272 = some (9, false, .iload 4, 2) := by decide +kernel
theorem eL_law_272 : Ev 147 272 (a0 :: a1 :: a2 :: a3 :: some (.int x) :: ls) (st) h r ↔ Ev 147 274 (a0 :: a1 :: a2 :: a3 :: some (.int x) :: ls) (.int x :: st) h r := ev_iload iL_law_272 rfl
theorem iL_law_274 : mn_ins 147 274 = some (9, false, .iconst 2, 1) := by decide +kernel
theorem eL_law_274 : Ev 147 274 (ls) (st) h r ↔ Ev 147 275 (ls) (.int (nI 2) :: st) h r := ev_iconst iL_law_274 (by decide)
theorem iL_law_275 : mn_ins 147 275 = some (9, false, .iadd, 1) := by decide +kernel
theorem eL_law_275 : Ev 147 275 (ls) (.int y :: .int x :: st) h r ↔ Ev 147 276 (ls) (.int (x + y) :: st) h r := ev_iadd iL_law_275
theorem iL_law_276 : mn_ins 147 276 = some (9, false, .iaload, 1) := by decide +kernel
theorem eL_law_276 : Ev 147 276 (ls) (.int x :: .ref a :: st) h r ↔ Evk 147 277 ls (mn_al h a 0 x) st h r := ev_iald iL_law_276
theorem iL_law_277 : mn_ins 147 277 = some (9, false, .aload_n 0, 1) := by decide +kernel
theorem eL_law_277 : Ev 147 277 (some (.ref a) :: ls) (st) h r ↔ Ev 147 278 (some (.ref a) :: ls) (.ref a :: st) h r := ev_aload_n iL_law_277 rfl rfl
theorem eL_law_277n : Ev 147 277 (some (.null) :: ls) (st) h r ↔ Ev 147 278 (some (.null) :: ls) (.null :: st) h r := ev_aload_n iL_law_277 rfl rfl
theorem eL_law_277t : Ev 147 277 (some (tkv o1) :: ls) (st) h r ↔ Ev 147 278 (some (tkv o1) :: ls) (tkv o1 :: st) h r := ev_aload_n iL_law_277 rfl tkv_r
theorem eL_law_277s : Ev 147 277 (some (sgv o1) :: ls) (st) h r ↔ Ev 147 278 (some (sgv o1) :: ls) (sgv o1 :: st) h r := ev_aload_n iL_law_277 rfl sgv_r
theorem eL_law_277c : Ev 147 277 (some (cdv o1) :: ls) (st) h r ↔ Ev 147 278 (some (cdv o1) :: ls) (cdv o1 :: st) h r := ev_aload_n iL_law_277 rfl cdv_r
theorem iL_law_278 : mn_ins 147 278 = some (9, false, .iload 4, 2) := by decide +kernel
theorem eL_law_278 : Ev 147 278 (a0 :: a1 :: a2 :: a3 :: some (.int x) :: ls) (st) h r ↔ Ev 147 280 (a0 :: a1 :: a2 :: a3 :: some (.int x) :: ls) (.int x :: st) h r := ev_iload iL_law_278 rfl
theorem iL_law_280 : mn_ins 147 280 = some (9, false, .iconst 3, 1) := by decide +kernel
theorem eL_law_280 : Ev 147 280 (ls) (st) h r ↔ Ev 147 281 (ls) (.int (nI 3) :: st) h r := ev_iconst iL_law_280 (by decide)
theorem iL_law_281 : mn_ins 147 281 = some (9, false, .iadd, 1) := by decide +kernel
theorem eL_law_281 : Ev 147 281 (ls) (.int y :: .int x :: st) h r ↔ Ev 147 282 (ls) (.int (x + y) :: st) h r := ev_iadd iL_law_281
theorem iL_law_282 : mn_ins 147 282 = some (9, false, .iaload, 1) := by decide +kernel
theorem eL_law_282 : Ev 147 282 (ls) (.int x :: .ref a :: st) h r ↔ Evk 147 283 ls (mn_al h a 0 x) st h r := ev_iald iL_law_282
theorem iL_law_283 : mn_ins 147 283 = some (9, false, .invokestatic 70, 3) := by decide +kernel
theorem EgL_law_283 (hw3 : (mn_r w3).isSome = true) : Ev 147 283 (ls) (.int x3 :: .int x2 :: .int x1 :: w3 :: st) h r ↔ Evr false (decide (mn_cats st ≤ 8)) 147 283 ls st h.2.2.1 h.2.2.2 (Cl 140 [w3, .int x1, .int x2, .int x3] h.1 h.2.1) r := Ev_T (As := [w3, .int x1, .int x2, .int x3]) (q := 1) iL_law_283 (by decide +kernel) (by decide) (x := mnI_L_law) (x2 := mnI_L_cell) rfl rfl rfl (by decide +kernel) (by rcases mn_r_is hw3 with ⟨_, rfl⟩ | rfl <;> exact Nat.le_of_ble_eq_true rfl) rfl
theorem eL_law_283 {cw3 : Nat} : Ev 147 283 (ls) (.int x3 :: .int x2 :: .int x1 :: (.ref cw3) :: st) h r ↔ Evr false (decide (mn_cats st ≤ 8)) 147 283 ls st h.2.2.1 h.2.2.2 (Cl 140 [(.ref cw3), .int x1, .int x2, .int x3] h.1 h.2.1) r := EgL_law_283 rfl
theorem iL_law_286 : mn_ins 147 286 = some (9, false, .istore 5, 2) := by decide +kernel
theorem eL_law_286 : Ev 147 286 (a0 :: a1 :: a2 :: a3 :: a4 :: a5 :: ls) (.int x :: st) h r ↔ Ev 147 288 (a0 :: a1 :: a2 :: a3 :: mn_k a4 :: some (.int x) :: ls) (st) h r := ev_istore iL_law_286 (by show 5 < _; simp only [List.length_cons]; omega)
theorem iL_law_288 : mn_ins 147 288 = some (9, false, .aload_n 2, 1) := by decide +kernel
theorem eL_law_288 : Ev 147 288 (a0 :: a1 :: some (.ref a) :: ls) (st) h r ↔ Ev 147 289 (a0 :: a1 :: some (.ref a) :: ls) (.ref a :: st) h r := ev_aload_n iL_law_288 rfl rfl
theorem eL_law_288n : Ev 147 288 (a0 :: a1 :: some (.null) :: ls) (st) h r ↔ Ev 147 289 (a0 :: a1 :: some (.null) :: ls) (.null :: st) h r := ev_aload_n iL_law_288 rfl rfl
theorem eL_law_288t : Ev 147 288 (a0 :: a1 :: some (tkv o1) :: ls) (st) h r ↔ Ev 147 289 (a0 :: a1 :: some (tkv o1) :: ls) (tkv o1 :: st) h r := ev_aload_n iL_law_288 rfl tkv_r
theorem eL_law_288s : Ev 147 288 (a0 :: a1 :: some (sgv o1) :: ls) (st) h r ↔ Ev 147 289 (a0 :: a1 :: some (sgv o1) :: ls) (sgv o1 :: st) h r := ev_aload_n iL_law_288 rfl sgv_r
theorem eL_law_288c : Ev 147 288 (a0 :: a1 :: some (cdv o1) :: ls) (st) h r ↔ Ev 147 289 (a0 :: a1 :: some (cdv o1) :: ls) (cdv o1 :: st) h r := ev_aload_n iL_law_288 rfl cdv_r
theorem iL_law_289 : mn_ins 147 289 = some (9, false, .aload_n 0, 1) := by decide +kernel
theorem eL_law_289 : Ev 147 289 (some (.ref a) :: ls) (st) h r ↔ Ev 147 290 (some (.ref a) :: ls) (.ref a :: st) h r := ev_aload_n iL_law_289 rfl rfl
theorem eL_law_289n : Ev 147 289 (some (.null) :: ls) (st) h r ↔ Ev 147 290 (some (.null) :: ls) (.null :: st) h r := ev_aload_n iL_law_289 rfl rfl
theorem eL_law_289t : Ev 147 289 (some (tkv o1) :: ls) (st) h r ↔ Ev 147 290 (some (tkv o1) :: ls) (tkv o1 :: st) h r := ev_aload_n iL_law_289 rfl tkv_r
theorem eL_law_289s : Ev 147 289 (some (sgv o1) :: ls) (st) h r ↔ Ev 147 290 (some (sgv o1) :: ls) (sgv o1 :: st) h r := ev_aload_n iL_law_289 rfl sgv_r
theorem eL_law_289c : Ev 147 289 (some (cdv o1) :: ls) (st) h r ↔ Ev 147 290 (some (cdv o1) :: ls) (cdv o1 :: st) h r := ev_aload_n iL_law_289 rfl cdv_r
theorem iL_law_290 : mn_ins 147 290 = some (9, false, .iload 4, 2) := by decide +kernel
theorem eL_law_290 : Ev 147 290 (a0 :: a1 :: a2 :: a3 :: some (.int x) :: ls) (st) h r ↔ Ev 147 292 (a0 :: a1 :: a2 :: a3 :: some (.int x) :: ls) (.int x :: st) h r := ev_iload iL_law_290 rfl
theorem iL_law_292 : mn_ins 147 292 = some (9, false, .iconst 1, 1) := by decide +kernel
theorem eL_law_292 : Ev 147 292 (ls) (st) h r ↔ Ev 147 293 (ls) (.int (nI 1) :: st) h r := ev_iconst iL_law_292 (by decide)
theorem iL_law_293 : mn_ins 147 293 = some (9, false, .iadd, 1) := by decide +kernel
theorem eL_law_293 : Ev 147 293 (ls) (.int y :: .int x :: st) h r ↔ Ev 147 294 (ls) (.int (x + y) :: st) h r := ev_iadd iL_law_293
theorem iL_law_294 : mn_ins 147 294 = some (9, false, .iaload, 1) := by decide +kernel
theorem eL_law_294 : Ev 147 294 (ls) (.int x :: .ref a :: st) h r ↔ Evk 147 295 ls (mn_al h a 0 x) st h r := ev_iald iL_law_294
theorem iL_law_295 : mn_ins 147 295 = some (9, false, .aload_n 0, 1) := by decide +kernel
theorem eL_law_295 : Ev 147 295 (some (.ref a) :: ls) (st) h r ↔ Ev 147 296 (some (.ref a) :: ls) (.ref a :: st) h r := ev_aload_n iL_law_295 rfl rfl
theorem eL_law_295n : Ev 147 295 (some (.null) :: ls) (st) h r ↔ Ev 147 296 (some (.null) :: ls) (.null :: st) h r := ev_aload_n iL_law_295 rfl rfl
theorem eL_law_295t : Ev 147 295 (some (tkv o1) :: ls) (st) h r ↔ Ev 147 296 (some (tkv o1) :: ls) (tkv o1 :: st) h r := ev_aload_n iL_law_295 rfl tkv_r
theorem eL_law_295s : Ev 147 295 (some (sgv o1) :: ls) (st) h r ↔ Ev 147 296 (some (sgv o1) :: ls) (sgv o1 :: st) h r := ev_aload_n iL_law_295 rfl sgv_r
theorem eL_law_295c : Ev 147 295 (some (cdv o1) :: ls) (st) h r ↔ Ev 147 296 (some (cdv o1) :: ls) (cdv o1 :: st) h r := ev_aload_n iL_law_295 rfl cdv_r
theorem iL_law_296 : mn_ins 147 296 = some (9, false, .iload 4, 2) := by decide +kernel
theorem eL_law_296 : Ev 147 296 (a0 :: a1 :: a2 :: a3 :: some (.int x) :: ls) (st) h r ↔ Ev 147 298 (a0 :: a1 :: a2 :: a3 :: some (.int x) :: ls) (.int x :: st) h r := ev_iload iL_law_296 rfl
theorem iL_law_298 : mn_ins 147 298 = some (9, false, .iconst 2, 1) := by decide +kernel
theorem eL_law_298 : Ev 147 298 (ls) (st) h r ↔ Ev 147 299 (ls) (.int (nI 2) :: st) h r := ev_iconst iL_law_298 (by decide)
theorem iL_law_299 : mn_ins 147 299 = some (9, false, .iadd, 1) := by decide +kernel
theorem eL_law_299 : Ev 147 299 (ls) (.int y :: .int x :: st) h r ↔ Ev 147 300 (ls) (.int (x + y) :: st) h r := ev_iadd iL_law_299
theorem iL_law_300 : mn_ins 147 300 = some (9, false, .iaload, 1) := by decide +kernel
theorem eL_law_300 : Ev 147 300 (ls) (.int x :: .ref a :: st) h r ↔ Evk 147 301 ls (mn_al h a 0 x) st h r := ev_iald iL_law_300
theorem iL_law_301 : mn_ins 147 301 = some (9, false, .aload_n 0, 1) := by decide +kernel
theorem eL_law_301 : Ev 147 301 (some (.ref a) :: ls) (st) h r ↔ Ev 147 302 (some (.ref a) :: ls) (.ref a :: st) h r := ev_aload_n iL_law_301 rfl rfl
theorem eL_law_301n : Ev 147 301 (some (.null) :: ls) (st) h r ↔ Ev 147 302 (some (.null) :: ls) (.null :: st) h r := ev_aload_n iL_law_301 rfl rfl
theorem eL_law_301t : Ev 147 301 (some (tkv o1) :: ls) (st) h r ↔ Ev 147 302 (some (tkv o1) :: ls) (tkv o1 :: st) h r := ev_aload_n iL_law_301 rfl tkv_r
theorem eL_law_301s : Ev 147 301 (some (sgv o1) :: ls) (st) h r ↔ Ev 147 302 (some (sgv o1) :: ls) (sgv o1 :: st) h r := ev_aload_n iL_law_301 rfl sgv_r
theorem eL_law_301c : Ev 147 301 (some (cdv o1) :: ls) (st) h r ↔ Ev 147 302 (some (cdv o1) :: ls) (cdv o1 :: st) h r := ev_aload_n iL_law_301 rfl cdv_r
theorem iL_law_302 : mn_ins 147 302 = some (9, false, .iload 4, 2) := by decide +kernel
theorem eL_law_302 : Ev 147 302 (a0 :: a1 :: a2 :: a3 :: some (.int x) :: ls) (st) h r ↔ Ev 147 304 (a0 :: a1 :: a2 :: a3 :: some (.int x) :: ls) (.int x :: st) h r := ev_iload iL_law_302 rfl
theorem iL_law_304 : mn_ins 147 304 = some (9, false, .iconst 3, 1) := by decide +kernel
theorem eL_law_304 : Ev 147 304 (ls) (st) h r ↔ Ev 147 305 (ls) (.int (nI 3) :: st) h r := ev_iconst iL_law_304 (by decide)
theorem iL_law_305 : mn_ins 147 305 = some (9, false, .iadd, 1) := by decide +kernel
theorem eL_law_305 : Ev 147 305 (ls) (.int y :: .int x :: st) h r ↔ Ev 147 306 (ls) (.int (x + y) :: st) h r := ev_iadd iL_law_305
theorem iL_law_306 : mn_ins 147 306 = some (9, false, .iaload, 1) := by decide +kernel
theorem eL_law_306 : Ev 147 306 (ls) (.int x :: .ref a :: st) h r ↔ Evk 147 307 ls (mn_al h a 0 x) st h r := ev_iald iL_law_306
theorem iL_law_307 : mn_ins 147 307 = some (9, false, .invokevirtual 73, 3) := by decide +kernel
theorem eL_law_307 : Ev 147 307 (ls) (.int x2 :: .int x1 :: .int x0 :: .ref b :: st) h r ↔ Evr true (decide (mn_cats st ≤ 8) && mn_isc h b 8) 147 307 ls st h.2.2.1 h.2.2.2 (Cl 91 (.ref b :: [.int x0, .int x1, .int x2]) h.1 h.2.1) r := Ev_V (As := [.int x0, .int x1, .int x2]) iL_law_307 (by decide +kernel) (x := mnI_L_law) (x2 := mnI_X8_cell) rfl rfl rfl (by decide +kernel) (Nat.le_of_ble_eq_true rfl) rfl
theorem iL_law_310 : mn_ins 147 310 = some (9, false, .aload_n 2, 1) := by decide +kernel
theorem eL_law_310 : Ev 147 310 (a0 :: a1 :: some (.ref a) :: ls) (st) h r ↔ Ev 147 311 (a0 :: a1 :: some (.ref a) :: ls) (.ref a :: st) h r := ev_aload_n iL_law_310 rfl rfl
theorem eL_law_310n : Ev 147 310 (a0 :: a1 :: some (.null) :: ls) (st) h r ↔ Ev 147 311 (a0 :: a1 :: some (.null) :: ls) (.null :: st) h r := ev_aload_n iL_law_310 rfl rfl
theorem eL_law_310t : Ev 147 310 (a0 :: a1 :: some (tkv o1) :: ls) (st) h r ↔ Ev 147 311 (a0 :: a1 :: some (tkv o1) :: ls) (tkv o1 :: st) h r := ev_aload_n iL_law_310 rfl tkv_r
theorem eL_law_310s : Ev 147 310 (a0 :: a1 :: some (sgv o1) :: ls) (st) h r ↔ Ev 147 311 (a0 :: a1 :: some (sgv o1) :: ls) (sgv o1 :: st) h r := ev_aload_n iL_law_310 rfl sgv_r
theorem eL_law_310c : Ev 147 310 (a0 :: a1 :: some (cdv o1) :: ls) (st) h r ↔ Ev 147 311 (a0 :: a1 :: some (cdv o1) :: ls) (cdv o1 :: st) h r := ev_aload_n iL_law_310 rfl cdv_r
theorem iL_law_311 : mn_ins 147 311 = some (9, false, .invokevirtual 60, 3) := by decide +kernel
theorem eL_law_311 : Ev 147 311 (ls) (.ref b :: st) h r ↔ Evr true (decide (mn_cats st ≤ 8) && mn_isc h b 8) 147 311 ls st h.2.2.1 h.2.2.2 (Cl 85 (.ref b :: []) h.1 h.2.1) r := Ev_V (As := []) iL_law_311 (by decide +kernel) (x := mnI_L_law) (x2 := mnI_X8_thrown) rfl rfl rfl (by decide +kernel) (Nat.le_of_ble_eq_true rfl) rfl
theorem iL_law_314 : mn_ins 147 314 = some (9, false, .iload 5, 2) := by decide +kernel
theorem eL_law_314 : Ev 147 314 (a0 :: a1 :: a2 :: a3 :: a4 :: some (.int x) :: ls) (st) h r ↔ Ev 147 316 (a0 :: a1 :: a2 :: a3 :: a4 :: some (.int x) :: ls) (.int x :: st) h r := ev_iload iL_law_314 rfl
theorem iL_law_316 : mn_ins 147 316 = some (9, false, .if_icmp .eq 5, 3) := by decide +kernel
theorem eL_law_316 : Ev 147 316 (ls) (.int y :: .int x :: st) h r ↔ if x = y then Ev 147 321 (ls) (st) h r else Ev 147 319 (ls) (st) h r := ev_cmpeq iL_law_316 (by decide)
theorem iL_law_319 : mn_ins 147 319 = some (9, false, .iconst 0, 1) := by decide +kernel
theorem eL_law_319 : Ev 147 319 (ls) (st) h r ↔ Ev 147 320 (ls) (.int (nI 0) :: st) h r := ev_iconst iL_law_319 (by decide)
theorem iL_law_320 : mn_ins 147 320 = some (9, false, .ireturn, 1) := by decide +kernel
theorem eL_law_320 (hx : x = 0 ∨ x = 1) : Ev 147 320 (ls) [.int x] h r ↔ r = (h, .inl (some (.int x))) := ev_zret iL_law_320 (X := mnI_L_law) rfl rfl hx
theorem iL_law_321 : mn_ins 147 321 = some (9, false, .goto 415, 3) := by decide +kernel
theorem eL_law_321 : Ev 147 321 (ls) (st) h r ↔ Ev 147 736 (ls) (st) h r := ev_goto iL_law_321 (by decide)
theorem iL_law_324 : mn_ins 147 324 = some (9, false, .aload_n 1, 1) := by decide +kernel
theorem eL_law_324 : Ev 147 324 (a0 :: some (.ref a) :: ls) (st) h r ↔ Ev 147 325 (a0 :: some (.ref a) :: ls) (.ref a :: st) h r := ev_aload_n iL_law_324 rfl rfl
theorem eL_law_324n : Ev 147 324 (a0 :: some (.null) :: ls) (st) h r ↔ Ev 147 325 (a0 :: some (.null) :: ls) (.null :: st) h r := ev_aload_n iL_law_324 rfl rfl
theorem eL_law_324t : Ev 147 324 (a0 :: some (tkv o1) :: ls) (st) h r ↔ Ev 147 325 (a0 :: some (tkv o1) :: ls) (tkv o1 :: st) h r := ev_aload_n iL_law_324 rfl tkv_r
theorem eL_law_324s : Ev 147 324 (a0 :: some (sgv o1) :: ls) (st) h r ↔ Ev 147 325 (a0 :: some (sgv o1) :: ls) (sgv o1 :: st) h r := ev_aload_n iL_law_324 rfl sgv_r
theorem eL_law_324c : Ev 147 324 (a0 :: some (cdv o1) :: ls) (st) h r ↔ Ev 147 325 (a0 :: some (cdv o1) :: ls) (cdv o1 :: st) h r := ev_aload_n iL_law_324 rfl cdv_r
theorem iL_law_325 : mn_ins 147 325 = some (9, false, .invokestatic 74, 3) := by decide +kernel
theorem EgL_law_325 (hw3 : (mn_r w3).isSome = true) : Ev 147 325 (ls) (w3 :: st) h r ↔ Evr false (decide (mn_cats st ≤ 8)) 147 325 ls st h.2.2.1 h.2.2.2 (Cl 141 [w3] h.1 h.2.1) r := Ev_T (As := [w3]) (q := 1) iL_law_325 (by decide +kernel) (by decide) (x := mnI_L_law) (x2 := mnI_L_start) rfl rfl rfl (by decide +kernel) (by rcases mn_r_is hw3 with ⟨_, rfl⟩ | rfl <;> exact Nat.le_of_ble_eq_true rfl) rfl
theorem eL_law_325 {cw3 : Nat} : Ev 147 325 (ls) ((.ref cw3) :: st) h r ↔ Evr false (decide (mn_cats st ≤ 8)) 147 325 ls st h.2.2.1 h.2.2.2 (Cl 141 [(.ref cw3)] h.1 h.2.1) r := EgL_law_325 rfl
theorem iL_law_328 : mn_ins 147 328 = some (9, false, .istore 5, 2) := by decide +kernel
theorem eL_law_328 : Ev 147 328 (a0 :: a1 :: a2 :: a3 :: a4 :: a5 :: ls) (.int x :: st) h r ↔ Ev 147 330 (a0 :: a1 :: a2 :: a3 :: mn_k a4 :: some (.int x) :: ls) (st) h r := ev_istore iL_law_328 (by show 5 < _; simp only [List.length_cons]; omega)
theorem iL_law_330 : mn_ins 147 330 = some (9, false, .aload_n 2, 1) := by decide +kernel
theorem eL_law_330 : Ev 147 330 (a0 :: a1 :: some (.ref a) :: ls) (st) h r ↔ Ev 147 331 (a0 :: a1 :: some (.ref a) :: ls) (.ref a :: st) h r := ev_aload_n iL_law_330 rfl rfl
theorem eL_law_330n : Ev 147 330 (a0 :: a1 :: some (.null) :: ls) (st) h r ↔ Ev 147 331 (a0 :: a1 :: some (.null) :: ls) (.null :: st) h r := ev_aload_n iL_law_330 rfl rfl
theorem eL_law_330t : Ev 147 330 (a0 :: a1 :: some (tkv o1) :: ls) (st) h r ↔ Ev 147 331 (a0 :: a1 :: some (tkv o1) :: ls) (tkv o1 :: st) h r := ev_aload_n iL_law_330 rfl tkv_r
theorem eL_law_330s : Ev 147 330 (a0 :: a1 :: some (sgv o1) :: ls) (st) h r ↔ Ev 147 331 (a0 :: a1 :: some (sgv o1) :: ls) (sgv o1 :: st) h r := ev_aload_n iL_law_330 rfl sgv_r
theorem eL_law_330c : Ev 147 330 (a0 :: a1 :: some (cdv o1) :: ls) (st) h r ↔ Ev 147 331 (a0 :: a1 :: some (cdv o1) :: ls) (cdv o1 :: st) h r := ev_aload_n iL_law_330 rfl cdv_r
theorem iL_law_331 : mn_ins 147 331 = some (9, false, .invokevirtual 77, 3) := by decide +kernel
theorem eL_law_331 : Ev 147 331 (ls) (.ref b :: st) h r ↔ Evr true (decide (mn_cats st ≤ 8) && mn_isc h b 8) 147 331 ls st h.2.2.1 h.2.2.2 (Cl 101 (.ref b :: []) h.1 h.2.1) r := Ev_V (As := []) iL_law_331 (by decide +kernel) (x := mnI_L_law) (x2 := mnI_X8_start) rfl rfl rfl (by decide +kernel) (Nat.le_of_ble_eq_true rfl) rfl
theorem iL_law_334 : mn_ins 147 334 = some (9, false, .aload_n 2, 1) := by decide +kernel
theorem eL_law_334 : Ev 147 334 (a0 :: a1 :: some (.ref a) :: ls) (st) h r ↔ Ev 147 335 (a0 :: a1 :: some (.ref a) :: ls) (.ref a :: st) h r := ev_aload_n iL_law_334 rfl rfl
theorem eL_law_334n : Ev 147 334 (a0 :: a1 :: some (.null) :: ls) (st) h r ↔ Ev 147 335 (a0 :: a1 :: some (.null) :: ls) (.null :: st) h r := ev_aload_n iL_law_334 rfl rfl
theorem eL_law_334t : Ev 147 334 (a0 :: a1 :: some (tkv o1) :: ls) (st) h r ↔ Ev 147 335 (a0 :: a1 :: some (tkv o1) :: ls) (tkv o1 :: st) h r := ev_aload_n iL_law_334 rfl tkv_r
theorem eL_law_334s : Ev 147 334 (a0 :: a1 :: some (sgv o1) :: ls) (st) h r ↔ Ev 147 335 (a0 :: a1 :: some (sgv o1) :: ls) (sgv o1 :: st) h r := ev_aload_n iL_law_334 rfl sgv_r
theorem eL_law_334c : Ev 147 334 (a0 :: a1 :: some (cdv o1) :: ls) (st) h r ↔ Ev 147 335 (a0 :: a1 :: some (cdv o1) :: ls) (cdv o1 :: st) h r := ev_aload_n iL_law_334 rfl cdv_r
theorem iL_law_335 : mn_ins 147 335 = some (9, false, .invokevirtual 60, 3) := by decide +kernel
theorem eL_law_335 : Ev 147 335 (ls) (.ref b :: st) h r ↔ Evr true (decide (mn_cats st ≤ 8) && mn_isc h b 8) 147 335 ls st h.2.2.1 h.2.2.2 (Cl 85 (.ref b :: []) h.1 h.2.1) r := Ev_V (As := []) iL_law_335 (by decide +kernel) (x := mnI_L_law) (x2 := mnI_X8_thrown) rfl rfl rfl (by decide +kernel) (Nat.le_of_ble_eq_true rfl) rfl
theorem iL_law_338 : mn_ins 147 338 = some (9, false, .iload 5, 2) := by decide +kernel
theorem eL_law_338 : Ev 147 338 (a0 :: a1 :: a2 :: a3 :: a4 :: some (.int x) :: ls) (st) h r ↔ Ev 147 340 (a0 :: a1 :: a2 :: a3 :: a4 :: some (.int x) :: ls) (.int x :: st) h r := ev_iload iL_law_338 rfl
theorem iL_law_340 : mn_ins 147 340 = some (9, false, .if_icmp .eq 5, 3) := by decide +kernel
theorem eL_law_340 : Ev 147 340 (ls) (.int y :: .int x :: st) h r ↔ if x = y then Ev 147 345 (ls) (st) h r else Ev 147 343 (ls) (st) h r := ev_cmpeq iL_law_340 (by decide)
theorem iL_law_343 : mn_ins 147 343 = some (9, false, .iconst 0, 1) := by decide +kernel
theorem eL_law_343 : Ev 147 343 (ls) (st) h r ↔ Ev 147 344 (ls) (.int (nI 0) :: st) h r := ev_iconst iL_law_343 (by decide)
theorem iL_law_344 : mn_ins 147 344 = some (9, false, .ireturn, 1) := by decide +kernel
theorem eL_law_344 (hx : x = 0 ∨ x = 1) : Ev 147 344 (ls) [.int x] h r ↔ r = (h, .inl (some (.int x))) := ev_zret iL_law_344 (X := mnI_L_law) rfl rfl hx
theorem iL_law_345 : mn_ins 147 345 = some (9, false, .goto 391, 3) := by decide +kernel
theorem eL_law_345 : Ev 147 345 (ls) (st) h r ↔ Ev 147 736 (ls) (st) h r := ev_goto iL_law_345 (by decide)
theorem iL_law_348 : mn_ins 147 348 = some (9, false, .aload_n 1, 1) := by decide +kernel
theorem eL_law_348 : Ev 147 348 (a0 :: some (.ref a) :: ls) (st) h r ↔ Ev 147 349 (a0 :: some (.ref a) :: ls) (.ref a :: st) h r := ev_aload_n iL_law_348 rfl rfl
theorem eL_law_348n : Ev 147 348 (a0 :: some (.null) :: ls) (st) h r ↔ Ev 147 349 (a0 :: some (.null) :: ls) (.null :: st) h r := ev_aload_n iL_law_348 rfl rfl
theorem eL_law_348t : Ev 147 348 (a0 :: some (tkv o1) :: ls) (st) h r ↔ Ev 147 349 (a0 :: some (tkv o1) :: ls) (tkv o1 :: st) h r := ev_aload_n iL_law_348 rfl tkv_r
theorem eL_law_348s : Ev 147 348 (a0 :: some (sgv o1) :: ls) (st) h r ↔ Ev 147 349 (a0 :: some (sgv o1) :: ls) (sgv o1 :: st) h r := ev_aload_n iL_law_348 rfl sgv_r
theorem eL_law_348c : Ev 147 348 (a0 :: some (cdv o1) :: ls) (st) h r ↔ Ev 147 349 (a0 :: some (cdv o1) :: ls) (cdv o1 :: st) h r := ev_aload_n iL_law_348 rfl cdv_r
theorem iL_law_349 : mn_ins 147 349 = some (9, false, .invokevirtual 78, 3) := by decide +kernel
theorem eL_law_349 : Ev 147 349 (ls) (.ref b :: st) h r ↔ Evr true (decide (mn_cats st ≤ 8) && mn_isc h b 7) 147 349 ls st h.2.2.1 h.2.2.2 (Cl 74 (.ref b :: []) h.1 h.2.1) r := Ev_V (As := []) iL_law_349 (by decide +kernel) (x := mnI_L_law) (x2 := mnI_X7_fault) rfl rfl rfl (by decide +kernel) (Nat.le_of_ble_eq_true rfl) rfl
theorem iL_law_352 : mn_ins 147 352 = some (9, false, .aload_n 2, 1) := by decide +kernel
theorem eL_law_352 : Ev 147 352 (a0 :: a1 :: some (.ref a) :: ls) (st) h r ↔ Ev 147 353 (a0 :: a1 :: some (.ref a) :: ls) (.ref a :: st) h r := ev_aload_n iL_law_352 rfl rfl
theorem eL_law_352n : Ev 147 352 (a0 :: a1 :: some (.null) :: ls) (st) h r ↔ Ev 147 353 (a0 :: a1 :: some (.null) :: ls) (.null :: st) h r := ev_aload_n iL_law_352 rfl rfl
theorem eL_law_352t : Ev 147 352 (a0 :: a1 :: some (tkv o1) :: ls) (st) h r ↔ Ev 147 353 (a0 :: a1 :: some (tkv o1) :: ls) (tkv o1 :: st) h r := ev_aload_n iL_law_352 rfl tkv_r
theorem eL_law_352s : Ev 147 352 (a0 :: a1 :: some (sgv o1) :: ls) (st) h r ↔ Ev 147 353 (a0 :: a1 :: some (sgv o1) :: ls) (sgv o1 :: st) h r := ev_aload_n iL_law_352 rfl sgv_r
theorem eL_law_352c : Ev 147 352 (a0 :: a1 :: some (cdv o1) :: ls) (st) h r ↔ Ev 147 353 (a0 :: a1 :: some (cdv o1) :: ls) (cdv o1 :: st) h r := ev_aload_n iL_law_352 rfl cdv_r
theorem iL_law_353 : mn_ins 147 353 = some (9, false, .invokevirtual 81, 3) := by decide +kernel
theorem eL_law_353 : Ev 147 353 (ls) (.ref b :: st) h r ↔ Evr true (decide (mn_cats st ≤ 8) && mn_isc h b 8) 147 353 ls st h.2.2.1 h.2.2.2 (Cl 100 (.ref b :: []) h.1 h.2.1) r := Ev_V (As := []) iL_law_353 (by decide +kernel) (x := mnI_L_law) (x2 := mnI_X8_fault) rfl rfl rfl (by decide +kernel) (Nat.le_of_ble_eq_true rfl) rfl
theorem iL_law_356 : mn_ins 147 356 = some (9, false, .if_icmp .eq 380, 3) := by decide +kernel
theorem eL_law_356 : Ev 147 356 (ls) (.int y :: .int x :: st) h r ↔ if x = y then Ev 147 736 (ls) (st) h r else Ev 147 359 (ls) (st) h r := ev_cmpeq iL_law_356 (by decide)
theorem iL_law_359 : mn_ins 147 359 = some (9, false, .iconst 0, 1) := by decide +kernel
theorem eL_law_359 : Ev 147 359 (ls) (st) h r ↔ Ev 147 360 (ls) (.int (nI 0) :: st) h r := ev_iconst iL_law_359 (by decide)
theorem iL_law_360 : mn_ins 147 360 = some (9, false, .ireturn, 1) := by decide +kernel
theorem eL_law_360 (hx : x = 0 ∨ x = 1) : Ev 147 360 (ls) [.int x] h r ↔ r = (h, .inl (some (.int x))) := ev_zret iL_law_360 (X := mnI_L_law) rfl rfl hx
theorem iL_law_361 : mn_ins 147 361 = some (9, false, .aload_n 1, 1) := by decide +kernel
theorem eL_law_361 : Ev 147 361 (a0 :: some (.ref a) :: ls) (st) h r ↔ Ev 147 362 (a0 :: some (.ref a) :: ls) (.ref a :: st) h r := ev_aload_n iL_law_361 rfl rfl
theorem eL_law_361n : Ev 147 361 (a0 :: some (.null) :: ls) (st) h r ↔ Ev 147 362 (a0 :: some (.null) :: ls) (.null :: st) h r := ev_aload_n iL_law_361 rfl rfl
theorem eL_law_361t : Ev 147 361 (a0 :: some (tkv o1) :: ls) (st) h r ↔ Ev 147 362 (a0 :: some (tkv o1) :: ls) (tkv o1 :: st) h r := ev_aload_n iL_law_361 rfl tkv_r
theorem eL_law_361s : Ev 147 361 (a0 :: some (sgv o1) :: ls) (st) h r ↔ Ev 147 362 (a0 :: some (sgv o1) :: ls) (sgv o1 :: st) h r := ev_aload_n iL_law_361 rfl sgv_r
theorem eL_law_361c : Ev 147 361 (a0 :: some (cdv o1) :: ls) (st) h r ↔ Ev 147 362 (a0 :: some (cdv o1) :: ls) (cdv o1 :: st) h r := ev_aload_n iL_law_361 rfl cdv_r
theorem iL_law_362 : mn_ins 147 362 = some (9, false, .invokevirtual 82, 3) := by decide +kernel
theorem eL_law_362 : Ev 147 362 (ls) (.ref b :: st) h r ↔ Evr true (decide (mn_cats st ≤ 8) && mn_isc h b 7) 147 362 ls st h.2.2.1 h.2.2.2 (Cl 75 (.ref b :: []) h.1 h.2.1) r := Ev_V (As := []) iL_law_362 (by decide +kernel) (x := mnI_L_law) (x2 := mnI_X7_reset) rfl rfl rfl (by decide +kernel) (Nat.le_of_ble_eq_true rfl) rfl
theorem iL_law_365 : mn_ins 147 365 = some (9, false, .aload_n 2, 1) := by decide +kernel
theorem eL_law_365 : Ev 147 365 (a0 :: a1 :: some (.ref a) :: ls) (st) h r ↔ Ev 147 366 (a0 :: a1 :: some (.ref a) :: ls) (.ref a :: st) h r := ev_aload_n iL_law_365 rfl rfl
theorem eL_law_365n : Ev 147 365 (a0 :: a1 :: some (.null) :: ls) (st) h r ↔ Ev 147 366 (a0 :: a1 :: some (.null) :: ls) (.null :: st) h r := ev_aload_n iL_law_365 rfl rfl
theorem eL_law_365t : Ev 147 365 (a0 :: a1 :: some (tkv o1) :: ls) (st) h r ↔ Ev 147 366 (a0 :: a1 :: some (tkv o1) :: ls) (tkv o1 :: st) h r := ev_aload_n iL_law_365 rfl tkv_r
theorem eL_law_365s : Ev 147 365 (a0 :: a1 :: some (sgv o1) :: ls) (st) h r ↔ Ev 147 366 (a0 :: a1 :: some (sgv o1) :: ls) (sgv o1 :: st) h r := ev_aload_n iL_law_365 rfl sgv_r
theorem eL_law_365c : Ev 147 365 (a0 :: a1 :: some (cdv o1) :: ls) (st) h r ↔ Ev 147 366 (a0 :: a1 :: some (cdv o1) :: ls) (cdv o1 :: st) h r := ev_aload_n iL_law_365 rfl cdv_r
theorem iL_law_366 : mn_ins 147 366 = some (9, false, .invokevirtual 85, 3) := by decide +kernel
theorem eL_law_366 : Ev 147 366 (ls) (.ref b :: st) h r ↔ Evr true (decide (mn_cats st ≤ 8) && mn_isc h b 8) 147 366 ls st h.2.2.1 h.2.2.2 (Cl 102 (.ref b :: []) h.1 h.2.1) r := Ev_V (As := []) iL_law_366 (by decide +kernel) (x := mnI_L_law) (x2 := mnI_X8_reset) rfl rfl rfl (by decide +kernel) (Nat.le_of_ble_eq_true rfl) rfl
theorem iL_law_369 : mn_ins 147 369 = some (9, false, .goto 367, 3) := by decide +kernel
theorem eL_law_369 : Ev 147 369 (ls) (st) h r ↔ Ev 147 736 (ls) (st) h r := ev_goto iL_law_369 (by decide)
theorem iL_law_372 : mn_ins 147 372 = some (9, false, .aload_n 1, 1) := by decide +kernel
theorem eL_law_372 : Ev 147 372 (a0 :: some (.ref a) :: ls) (st) h r ↔ Ev 147 373 (a0 :: some (.ref a) :: ls) (.ref a :: st) h r := ev_aload_n iL_law_372 rfl rfl
theorem eL_law_372n : Ev 147 372 (a0 :: some (.null) :: ls) (st) h r ↔ Ev 147 373 (a0 :: some (.null) :: ls) (.null :: st) h r := ev_aload_n iL_law_372 rfl rfl
theorem eL_law_372t : Ev 147 372 (a0 :: some (tkv o1) :: ls) (st) h r ↔ Ev 147 373 (a0 :: some (tkv o1) :: ls) (tkv o1 :: st) h r := ev_aload_n iL_law_372 rfl tkv_r
theorem eL_law_372s : Ev 147 372 (a0 :: some (sgv o1) :: ls) (st) h r ↔ Ev 147 373 (a0 :: some (sgv o1) :: ls) (sgv o1 :: st) h r := ev_aload_n iL_law_372 rfl sgv_r
theorem eL_law_372c : Ev 147 372 (a0 :: some (cdv o1) :: ls) (st) h r ↔ Ev 147 373 (a0 :: some (cdv o1) :: ls) (cdv o1 :: st) h r := ev_aload_n iL_law_372 rfl cdv_r
theorem iL_law_373 : mn_ins 147 373 = some (9, false, .aload_n 0, 1) := by decide +kernel
theorem eL_law_373 : Ev 147 373 (some (.ref a) :: ls) (st) h r ↔ Ev 147 374 (some (.ref a) :: ls) (.ref a :: st) h r := ev_aload_n iL_law_373 rfl rfl
theorem eL_law_373n : Ev 147 373 (some (.null) :: ls) (st) h r ↔ Ev 147 374 (some (.null) :: ls) (.null :: st) h r := ev_aload_n iL_law_373 rfl rfl
theorem eL_law_373t : Ev 147 373 (some (tkv o1) :: ls) (st) h r ↔ Ev 147 374 (some (tkv o1) :: ls) (tkv o1 :: st) h r := ev_aload_n iL_law_373 rfl tkv_r
theorem eL_law_373s : Ev 147 373 (some (sgv o1) :: ls) (st) h r ↔ Ev 147 374 (some (sgv o1) :: ls) (sgv o1 :: st) h r := ev_aload_n iL_law_373 rfl sgv_r
theorem eL_law_373c : Ev 147 373 (some (cdv o1) :: ls) (st) h r ↔ Ev 147 374 (some (cdv o1) :: ls) (cdv o1 :: st) h r := ev_aload_n iL_law_373 rfl cdv_r
theorem iL_law_374 : mn_ins 147 374 = some (9, false, .iload 4, 2) := by decide +kernel
theorem eL_law_374 : Ev 147 374 (a0 :: a1 :: a2 :: a3 :: some (.int x) :: ls) (st) h r ↔ Ev 147 376 (a0 :: a1 :: a2 :: a3 :: some (.int x) :: ls) (.int x :: st) h r := ev_iload iL_law_374 rfl
theorem iL_law_376 : mn_ins 147 376 = some (9, false, .iconst 1, 1) := by decide +kernel
theorem eL_law_376 : Ev 147 376 (ls) (st) h r ↔ Ev 147 377 (ls) (.int (nI 1) :: st) h r := ev_iconst iL_law_376 (by decide)
theorem iL_law_377 : mn_ins 147 377 = some (9, false, .iadd, 1) := by decide +kernel
theorem eL_law_377 : Ev 147 377 (ls) (.int y :: .int x :: st) h r ↔ Ev 147 378 (ls) (.int (x + y) :: st) h r := ev_iadd iL_law_377
theorem iL_law_378 : mn_ins 147 378 = some (9, false, .iaload, 1) := by decide +kernel
theorem eL_law_378 : Ev 147 378 (ls) (.int x :: .ref a :: st) h r ↔ Evk 147 379 ls (mn_al h a 0 x) st h r := ev_iald iL_law_378
theorem iL_law_379 : mn_ins 147 379 = some (9, false, .aload_n 0, 1) := by decide +kernel
theorem eL_law_379 : Ev 147 379 (some (.ref a) :: ls) (st) h r ↔ Ev 147 380 (some (.ref a) :: ls) (.ref a :: st) h r := ev_aload_n iL_law_379 rfl rfl
theorem eL_law_379n : Ev 147 379 (some (.null) :: ls) (st) h r ↔ Ev 147 380 (some (.null) :: ls) (.null :: st) h r := ev_aload_n iL_law_379 rfl rfl
theorem eL_law_379t : Ev 147 379 (some (tkv o1) :: ls) (st) h r ↔ Ev 147 380 (some (tkv o1) :: ls) (tkv o1 :: st) h r := ev_aload_n iL_law_379 rfl tkv_r
theorem eL_law_379s : Ev 147 379 (some (sgv o1) :: ls) (st) h r ↔ Ev 147 380 (some (sgv o1) :: ls) (sgv o1 :: st) h r := ev_aload_n iL_law_379 rfl sgv_r
theorem eL_law_379c : Ev 147 379 (some (cdv o1) :: ls) (st) h r ↔ Ev 147 380 (some (cdv o1) :: ls) (cdv o1 :: st) h r := ev_aload_n iL_law_379 rfl cdv_r
theorem iL_law_380 : mn_ins 147 380 = some (9, false, .iload 4, 2) := by decide +kernel
theorem eL_law_380 : Ev 147 380 (a0 :: a1 :: a2 :: a3 :: some (.int x) :: ls) (st) h r ↔ Ev 147 382 (a0 :: a1 :: a2 :: a3 :: some (.int x) :: ls) (.int x :: st) h r := ev_iload iL_law_380 rfl
theorem iL_law_382 : mn_ins 147 382 = some (9, false, .iconst 2, 1) := by decide +kernel
theorem eL_law_382 : Ev 147 382 (ls) (st) h r ↔ Ev 147 383 (ls) (.int (nI 2) :: st) h r := ev_iconst iL_law_382 (by decide)
theorem iL_law_383 : mn_ins 147 383 = some (9, false, .iadd, 1) := by decide +kernel
theorem eL_law_383 : Ev 147 383 (ls) (.int y :: .int x :: st) h r ↔ Ev 147 384 (ls) (.int (x + y) :: st) h r := ev_iadd iL_law_383
theorem iL_law_384 : mn_ins 147 384 = some (9, false, .iaload, 1) := by decide +kernel
theorem eL_law_384 : Ev 147 384 (ls) (.int x :: .ref a :: st) h r ↔ Evk 147 385 ls (mn_al h a 0 x) st h r := ev_iald iL_law_384
theorem iL_law_385 : mn_ins 147 385 = some (9, false, .aload_n 3, 1) := by decide +kernel
theorem eL_law_385 : Ev 147 385 (a0 :: a1 :: a2 :: some (.ref a) :: ls) (st) h r ↔ Ev 147 386 (a0 :: a1 :: a2 :: some (.ref a) :: ls) (.ref a :: st) h r := ev_aload_n iL_law_385 rfl rfl
theorem eL_law_385n : Ev 147 385 (a0 :: a1 :: a2 :: some (.null) :: ls) (st) h r ↔ Ev 147 386 (a0 :: a1 :: a2 :: some (.null) :: ls) (.null :: st) h r := ev_aload_n iL_law_385 rfl rfl
theorem eL_law_385t : Ev 147 385 (a0 :: a1 :: a2 :: some (tkv o1) :: ls) (st) h r ↔ Ev 147 386 (a0 :: a1 :: a2 :: some (tkv o1) :: ls) (tkv o1 :: st) h r := ev_aload_n iL_law_385 rfl tkv_r
theorem eL_law_385s : Ev 147 385 (a0 :: a1 :: a2 :: some (sgv o1) :: ls) (st) h r ↔ Ev 147 386 (a0 :: a1 :: a2 :: some (sgv o1) :: ls) (sgv o1 :: st) h r := ev_aload_n iL_law_385 rfl sgv_r
theorem eL_law_385c : Ev 147 385 (a0 :: a1 :: a2 :: some (cdv o1) :: ls) (st) h r ↔ Ev 147 386 (a0 :: a1 :: a2 :: some (cdv o1) :: ls) (cdv o1 :: st) h r := ev_aload_n iL_law_385 rfl cdv_r
theorem iL_law_386 : mn_ins 147 386 = some (9, false, .invokestatic 86, 3) := by decide +kernel
theorem EgL_law_386 (hw3 : (mn_r w3).isSome = true) (hw6 : (mn_r w6).isSome = true) : Ev 147 386 (ls) (w6 :: .int x2 :: .int x1 :: w3 :: st) h r ↔ Evr false (decide (mn_cats st ≤ 8)) 147 386 ls st h.2.2.1 h.2.2.2 (Cl 142 [w3, .int x1, .int x2, w6] h.1 h.2.1) r := Ev_T (As := [w3, .int x1, .int x2, w6]) (q := 1) iL_law_386 (by decide +kernel) (by decide) (x := mnI_L_law) (x2 := mnI_L_step) rfl rfl rfl (by decide +kernel) (by rcases mn_r_is hw3 with ⟨_, rfl⟩ | rfl <;> rcases mn_r_is hw6 with ⟨_, rfl⟩ | rfl <;> exact Nat.le_of_ble_eq_true rfl) rfl
theorem eL_law_386 {cw3 : Nat} {cw6 : Nat} : Ev 147 386 (ls) ((.ref cw6) :: .int x2 :: .int x1 :: (.ref cw3) :: st) h r ↔ Evr false (decide (mn_cats st ≤ 8)) 147 386 ls st h.2.2.1 h.2.2.2 (Cl 142 [(.ref cw3), .int x1, .int x2, (.ref cw6)] h.1 h.2.1) r := EgL_law_386 rfl rfl
theorem iL_law_389 : mn_ins 147 389 = some (9, false, .istore 5, 2) := by decide +kernel
theorem eL_law_389 : Ev 147 389 (a0 :: a1 :: a2 :: a3 :: a4 :: a5 :: ls) (.int x :: st) h r ↔ Ev 147 391 (a0 :: a1 :: a2 :: a3 :: mn_k a4 :: some (.int x) :: ls) (st) h r := ev_istore iL_law_389 (by show 5 < _; simp only [List.length_cons]; omega)
theorem iL_law_391 : mn_ins 147 391 = some (9, false, .aload_n 2, 1) := by decide +kernel
theorem eL_law_391 : Ev 147 391 (a0 :: a1 :: some (.ref a) :: ls) (st) h r ↔ Ev 147 392 (a0 :: a1 :: some (.ref a) :: ls) (.ref a :: st) h r := ev_aload_n iL_law_391 rfl rfl
theorem eL_law_391n : Ev 147 391 (a0 :: a1 :: some (.null) :: ls) (st) h r ↔ Ev 147 392 (a0 :: a1 :: some (.null) :: ls) (.null :: st) h r := ev_aload_n iL_law_391 rfl rfl
theorem eL_law_391t : Ev 147 391 (a0 :: a1 :: some (tkv o1) :: ls) (st) h r ↔ Ev 147 392 (a0 :: a1 :: some (tkv o1) :: ls) (tkv o1 :: st) h r := ev_aload_n iL_law_391 rfl tkv_r
theorem eL_law_391s : Ev 147 391 (a0 :: a1 :: some (sgv o1) :: ls) (st) h r ↔ Ev 147 392 (a0 :: a1 :: some (sgv o1) :: ls) (sgv o1 :: st) h r := ev_aload_n iL_law_391 rfl sgv_r
theorem eL_law_391c : Ev 147 391 (a0 :: a1 :: some (cdv o1) :: ls) (st) h r ↔ Ev 147 392 (a0 :: a1 :: some (cdv o1) :: ls) (cdv o1 :: st) h r := ev_aload_n iL_law_391 rfl cdv_r
theorem iL_law_392 : mn_ins 147 392 = some (9, false, .aload_n 0, 1) := by decide +kernel
theorem eL_law_392 : Ev 147 392 (some (.ref a) :: ls) (st) h r ↔ Ev 147 393 (some (.ref a) :: ls) (.ref a :: st) h r := ev_aload_n iL_law_392 rfl rfl
theorem eL_law_392n : Ev 147 392 (some (.null) :: ls) (st) h r ↔ Ev 147 393 (some (.null) :: ls) (.null :: st) h r := ev_aload_n iL_law_392 rfl rfl
theorem eL_law_392t : Ev 147 392 (some (tkv o1) :: ls) (st) h r ↔ Ev 147 393 (some (tkv o1) :: ls) (tkv o1 :: st) h r := ev_aload_n iL_law_392 rfl tkv_r
theorem eL_law_392s : Ev 147 392 (some (sgv o1) :: ls) (st) h r ↔ Ev 147 393 (some (sgv o1) :: ls) (sgv o1 :: st) h r := ev_aload_n iL_law_392 rfl sgv_r
theorem eL_law_392c : Ev 147 392 (some (cdv o1) :: ls) (st) h r ↔ Ev 147 393 (some (cdv o1) :: ls) (cdv o1 :: st) h r := ev_aload_n iL_law_392 rfl cdv_r
theorem iL_law_393 : mn_ins 147 393 = some (9, false, .iload 4, 2) := by decide +kernel
theorem eL_law_393 : Ev 147 393 (a0 :: a1 :: a2 :: a3 :: some (.int x) :: ls) (st) h r ↔ Ev 147 395 (a0 :: a1 :: a2 :: a3 :: some (.int x) :: ls) (.int x :: st) h r := ev_iload iL_law_393 rfl
theorem iL_law_395 : mn_ins 147 395 = some (9, false, .iconst 1, 1) := by decide +kernel
theorem eL_law_395 : Ev 147 395 (ls) (st) h r ↔ Ev 147 396 (ls) (.int (nI 1) :: st) h r := ev_iconst iL_law_395 (by decide)
theorem iL_law_396 : mn_ins 147 396 = some (9, false, .iadd, 1) := by decide +kernel
theorem eL_law_396 : Ev 147 396 (ls) (.int y :: .int x :: st) h r ↔ Ev 147 397 (ls) (.int (x + y) :: st) h r := ev_iadd iL_law_396
theorem iL_law_397 : mn_ins 147 397 = some (9, false, .iaload, 1) := by decide +kernel
theorem eL_law_397 : Ev 147 397 (ls) (.int x :: .ref a :: st) h r ↔ Evk 147 398 ls (mn_al h a 0 x) st h r := ev_iald iL_law_397
theorem iL_law_398 : mn_ins 147 398 = some (9, false, .aload_n 0, 1) := by decide +kernel
theorem eL_law_398 : Ev 147 398 (some (.ref a) :: ls) (st) h r ↔ Ev 147 399 (some (.ref a) :: ls) (.ref a :: st) h r := ev_aload_n iL_law_398 rfl rfl
theorem eL_law_398n : Ev 147 398 (some (.null) :: ls) (st) h r ↔ Ev 147 399 (some (.null) :: ls) (.null :: st) h r := ev_aload_n iL_law_398 rfl rfl
theorem eL_law_398t : Ev 147 398 (some (tkv o1) :: ls) (st) h r ↔ Ev 147 399 (some (tkv o1) :: ls) (tkv o1 :: st) h r := ev_aload_n iL_law_398 rfl tkv_r
theorem eL_law_398s : Ev 147 398 (some (sgv o1) :: ls) (st) h r ↔ Ev 147 399 (some (sgv o1) :: ls) (sgv o1 :: st) h r := ev_aload_n iL_law_398 rfl sgv_r
theorem eL_law_398c : Ev 147 398 (some (cdv o1) :: ls) (st) h r ↔ Ev 147 399 (some (cdv o1) :: ls) (cdv o1 :: st) h r := ev_aload_n iL_law_398 rfl cdv_r
theorem iL_law_399 : mn_ins 147 399 = some (9, false, .iload 4, 2) := by decide +kernel
theorem eL_law_399 : Ev 147 399 (a0 :: a1 :: a2 :: a3 :: some (.int x) :: ls) (st) h r ↔ Ev 147 401 (a0 :: a1 :: a2 :: a3 :: some (.int x) :: ls) (.int x :: st) h r := ev_iload iL_law_399 rfl
theorem iL_law_401 : mn_ins 147 401 = some (9, false, .iconst 2, 1) := by decide +kernel
theorem eL_law_401 : Ev 147 401 (ls) (st) h r ↔ Ev 147 402 (ls) (.int (nI 2) :: st) h r := ev_iconst iL_law_401 (by decide)
theorem iL_law_402 : mn_ins 147 402 = some (9, false, .iadd, 1) := by decide +kernel
theorem eL_law_402 : Ev 147 402 (ls) (.int y :: .int x :: st) h r ↔ Ev 147 403 (ls) (.int (x + y) :: st) h r := ev_iadd iL_law_402
theorem iL_law_403 : mn_ins 147 403 = some (9, false, .iaload, 1) := by decide +kernel
theorem eL_law_403 : Ev 147 403 (ls) (.int x :: .ref a :: st) h r ↔ Evk 147 404 ls (mn_al h a 0 x) st h r := ev_iald iL_law_403
theorem iL_law_404 : mn_ins 147 404 = some (9, false, .invokevirtual 88, 3) := by decide +kernel
theorem eL_law_404 : Ev 147 404 (ls) (.int x1 :: .int x0 :: .ref b :: st) h r ↔ Evr true (decide (mn_cats st ≤ 8) && mn_isc h b 8) 147 404 ls st h.2.2.1 h.2.2.2 (Cl 124 (.ref b :: [.int x0, .int x1]) h.1 h.2.1) r := Ev_V (As := [.int x0, .int x1]) iL_law_404 (by decide +kernel) (x := mnI_L_law) (x2 := mnI_X8_step) rfl rfl rfl (by decide +kernel) (Nat.le_of_ble_eq_true rfl) rfl
theorem iL_law_407 : mn_ins 147 407 = some (9, false, .istore 6, 2) := by decide +kernel
theorem eL_law_407 : Ev 147 407 (a0 :: a1 :: a2 :: a3 :: a4 :: a5 :: a6 :: ls) (.int x :: st) h r ↔ Ev 147 409 (a0 :: a1 :: a2 :: a3 :: a4 :: mn_k a5 :: some (.int x) :: ls) (st) h r := ev_istore iL_law_407 (by show 6 < _; simp only [List.length_cons]; omega)
theorem iL_law_409 : mn_ins 147 409 = some (9, false, .aload_n 2, 1) := by decide +kernel
theorem eL_law_409 : Ev 147 409 (a0 :: a1 :: some (.ref a) :: ls) (st) h r ↔ Ev 147 410 (a0 :: a1 :: some (.ref a) :: ls) (.ref a :: st) h r := ev_aload_n iL_law_409 rfl rfl
theorem eL_law_409n : Ev 147 409 (a0 :: a1 :: some (.null) :: ls) (st) h r ↔ Ev 147 410 (a0 :: a1 :: some (.null) :: ls) (.null :: st) h r := ev_aload_n iL_law_409 rfl rfl
theorem eL_law_409t : Ev 147 409 (a0 :: a1 :: some (tkv o1) :: ls) (st) h r ↔ Ev 147 410 (a0 :: a1 :: some (tkv o1) :: ls) (tkv o1 :: st) h r := ev_aload_n iL_law_409 rfl tkv_r
theorem eL_law_409s : Ev 147 409 (a0 :: a1 :: some (sgv o1) :: ls) (st) h r ↔ Ev 147 410 (a0 :: a1 :: some (sgv o1) :: ls) (sgv o1 :: st) h r := ev_aload_n iL_law_409 rfl sgv_r
theorem eL_law_409c : Ev 147 409 (a0 :: a1 :: some (cdv o1) :: ls) (st) h r ↔ Ev 147 410 (a0 :: a1 :: some (cdv o1) :: ls) (cdv o1 :: st) h r := ev_aload_n iL_law_409 rfl cdv_r
theorem iL_law_410 : mn_ins 147 410 = some (9, false, .invokevirtual 60, 3) := by decide +kernel
theorem eL_law_410 : Ev 147 410 (ls) (.ref b :: st) h r ↔ Evr true (decide (mn_cats st ≤ 8) && mn_isc h b 8) 147 410 ls st h.2.2.1 h.2.2.2 (Cl 85 (.ref b :: []) h.1 h.2.1) r := Ev_V (As := []) iL_law_410 (by decide +kernel) (x := mnI_L_law) (x2 := mnI_X8_thrown) rfl rfl rfl (by decide +kernel) (Nat.le_of_ble_eq_true rfl) rfl
theorem iL_law_413 : mn_ins 147 413 = some (9, false, .iload 5, 2) := by decide +kernel
theorem eL_law_413 : Ev 147 413 (a0 :: a1 :: a2 :: a3 :: a4 :: some (.int x) :: ls) (st) h r ↔ Ev 147 415 (a0 :: a1 :: a2 :: a3 :: a4 :: some (.int x) :: ls) (.int x :: st) h r := ev_iload iL_law_413 rfl
theorem iL_law_415 : mn_ins 147 415 = some (9, false, .if_icmp .eq 5, 3) := by decide +kernel
theorem eL_law_415 : Ev 147 415 (ls) (.int y :: .int x :: st) h r ↔ if x = y then Ev 147 420 (ls) (st) h r else Ev 147 418 (ls) (st) h r := ev_cmpeq iL_law_415 (by decide)
theorem iL_law_418 : mn_ins 147 418 = some (9, false, .iconst 0, 1) := by decide +kernel
theorem eL_law_418 : Ev 147 418 (ls) (st) h r ↔ Ev 147 419 (ls) (.int (nI 0) :: st) h r := ev_iconst iL_law_418 (by decide)
theorem iL_law_419 : mn_ins 147 419 = some (9, false, .ireturn, 1) := by decide +kernel
theorem eL_law_419 (hx : x = 0 ∨ x = 1) : Ev 147 419 (ls) [.int x] h r ↔ r = (h, .inl (some (.int x))) := ev_zret iL_law_419 (X := mnI_L_law) rfl rfl hx
theorem iL_law_420 : mn_ins 147 420 = some (9, false, .iload 5, 2) := by decide +kernel
theorem eL_law_420 : Ev 147 420 (a0 :: a1 :: a2 :: a3 :: a4 :: some (.int x) :: ls) (st) h r ↔ Ev 147 422 (a0 :: a1 :: a2 :: a3 :: a4 :: some (.int x) :: ls) (.int x :: st) h r := ev_iload iL_law_420 rfl
theorem iL_law_422 : mn_ins 147 422 = some (9, false, .ifCond .ne 15, 3) := by decide +kernel
theorem eL_law_422 : Ev 147 422 (ls) (.int x :: st) h r ↔ if x = nI 0 then Ev 147 425 (ls) (st) h r else Ev 147 437 (ls) (st) h r := ev_ifne iL_law_422 (by decide)
theorem iL_law_425 : mn_ins 147 425 = some (9, false, .aload_n 3, 1) := by decide +kernel
theorem eL_law_425 : Ev 147 425 (a0 :: a1 :: a2 :: some (.ref a) :: ls) (st) h r ↔ Ev 147 426 (a0 :: a1 :: a2 :: some (.ref a) :: ls) (.ref a :: st) h r := ev_aload_n iL_law_425 rfl rfl
theorem eL_law_425n : Ev 147 425 (a0 :: a1 :: a2 :: some (.null) :: ls) (st) h r ↔ Ev 147 426 (a0 :: a1 :: a2 :: some (.null) :: ls) (.null :: st) h r := ev_aload_n iL_law_425 rfl rfl
theorem eL_law_425t : Ev 147 425 (a0 :: a1 :: a2 :: some (tkv o1) :: ls) (st) h r ↔ Ev 147 426 (a0 :: a1 :: a2 :: some (tkv o1) :: ls) (tkv o1 :: st) h r := ev_aload_n iL_law_425 rfl tkv_r
theorem eL_law_425s : Ev 147 425 (a0 :: a1 :: a2 :: some (sgv o1) :: ls) (st) h r ↔ Ev 147 426 (a0 :: a1 :: a2 :: some (sgv o1) :: ls) (sgv o1 :: st) h r := ev_aload_n iL_law_425 rfl sgv_r
theorem eL_law_425c : Ev 147 425 (a0 :: a1 :: a2 :: some (cdv o1) :: ls) (st) h r ↔ Ev 147 426 (a0 :: a1 :: a2 :: some (cdv o1) :: ls) (cdv o1 :: st) h r := ev_aload_n iL_law_425 rfl cdv_r
theorem iL_law_426 : mn_ins 147 426 = some (9, false, .iconst 0, 1) := by decide +kernel
theorem eL_law_426 : Ev 147 426 (ls) (st) h r ↔ Ev 147 427 (ls) (.int (nI 0) :: st) h r := ev_iconst iL_law_426 (by decide)
theorem iL_law_427 : mn_ins 147 427 = some (9, false, .laload, 1) := by decide +kernel
theorem eL_law_427 : Ev 147 427 (ls) (.int x :: .ref a :: st) h r ↔ Evk 147 428 ls (mn_al h a 1 x) st h r := ev_lald iL_law_427
theorem iL_law_428 : mn_ins 147 428 = some (9, false, .iload 6, 2) := by decide +kernel
theorem eL_law_428 : Ev 147 428 (a0 :: a1 :: a2 :: a3 :: a4 :: a5 :: some (.int x) :: ls) (st) h r ↔ Ev 147 430 (a0 :: a1 :: a2 :: a3 :: a4 :: a5 :: some (.int x) :: ls) (.int x :: st) h r := ev_iload iL_law_428 rfl
theorem iL_law_430 : mn_ins 147 430 = some (9, false, .i2l, 1) := by decide +kernel
theorem eL_law_430 : Ev 147 430 (ls) (.int x :: st) h r ↔ Ev 147 431 (ls) (.long x.toInt64 :: st) h r := ev_i2l iL_law_430
theorem iL_law_431 : mn_ins 147 431 = some (9, false, .lcmp, 1) := by decide +kernel
theorem eL_law_431 : Ev 147 431 (ls) (.long v :: .long u :: st) h r ↔ Ev 147 432 (ls) (.int (lg_cmp u v) :: st) h r := ev_lcmp iL_law_431
theorem iL_law_432 : mn_ins 147 432 = some (9, false, .ifCond .eq 5, 3) := by decide +kernel
theorem eL_law_432 : Ev 147 432 (ls) (.int x :: st) h r ↔ if x = nI 0 then Ev 147 437 (ls) (st) h r else Ev 147 435 (ls) (st) h r := ev_ifeq iL_law_432 (by decide)
theorem iL_law_435 : mn_ins 147 435 = some (9, false, .iconst 0, 1) := by decide +kernel
theorem eL_law_435 : Ev 147 435 (ls) (st) h r ↔ Ev 147 436 (ls) (.int (nI 0) :: st) h r := ev_iconst iL_law_435 (by decide)
theorem iL_law_436 : mn_ins 147 436 = some (9, false, .ireturn, 1) := by decide +kernel
theorem eL_law_436 (hx : x = 0 ∨ x = 1) : Ev 147 436 (ls) [.int x] h r ↔ r = (h, .inl (some (.int x))) := ev_zret iL_law_436 (X := mnI_L_law) rfl rfl hx
theorem iL_law_437 : mn_ins 147 437 = some (9, false, .goto 299, 3) := by decide +kernel
theorem eL_law_437 : Ev 147 437 (ls) (st) h r ↔ Ev 147 736 (ls) (st) h r := ev_goto iL_law_437 (by decide)
theorem iL_law_440 : mn_ins 147 440 = some (9, false, .aload_n 1, 1) := by decide +kernel
theorem eL_law_440 : Ev 147 440 (a0 :: some (.ref a) :: ls) (st) h r ↔ Ev 147 441 (a0 :: some (.ref a) :: ls) (.ref a :: st) h r := ev_aload_n iL_law_440 rfl rfl
theorem eL_law_440n : Ev 147 440 (a0 :: some (.null) :: ls) (st) h r ↔ Ev 147 441 (a0 :: some (.null) :: ls) (.null :: st) h r := ev_aload_n iL_law_440 rfl rfl
theorem eL_law_440t : Ev 147 440 (a0 :: some (tkv o1) :: ls) (st) h r ↔ Ev 147 441 (a0 :: some (tkv o1) :: ls) (tkv o1 :: st) h r := ev_aload_n iL_law_440 rfl tkv_r
theorem eL_law_440s : Ev 147 440 (a0 :: some (sgv o1) :: ls) (st) h r ↔ Ev 147 441 (a0 :: some (sgv o1) :: ls) (sgv o1 :: st) h r := ev_aload_n iL_law_440 rfl sgv_r
theorem eL_law_440c : Ev 147 440 (a0 :: some (cdv o1) :: ls) (st) h r ↔ Ev 147 441 (a0 :: some (cdv o1) :: ls) (cdv o1 :: st) h r := ev_aload_n iL_law_440 rfl cdv_r
theorem iL_law_441 : mn_ins 147 441 = some (9, false, .aload_n 0, 1) := by decide +kernel
theorem eL_law_441 : Ev 147 441 (some (.ref a) :: ls) (st) h r ↔ Ev 147 442 (some (.ref a) :: ls) (.ref a :: st) h r := ev_aload_n iL_law_441 rfl rfl
theorem eL_law_441n : Ev 147 441 (some (.null) :: ls) (st) h r ↔ Ev 147 442 (some (.null) :: ls) (.null :: st) h r := ev_aload_n iL_law_441 rfl rfl
theorem eL_law_441t : Ev 147 441 (some (tkv o1) :: ls) (st) h r ↔ Ev 147 442 (some (tkv o1) :: ls) (tkv o1 :: st) h r := ev_aload_n iL_law_441 rfl tkv_r
theorem eL_law_441s : Ev 147 441 (some (sgv o1) :: ls) (st) h r ↔ Ev 147 442 (some (sgv o1) :: ls) (sgv o1 :: st) h r := ev_aload_n iL_law_441 rfl sgv_r
theorem eL_law_441c : Ev 147 441 (some (cdv o1) :: ls) (st) h r ↔ Ev 147 442 (some (cdv o1) :: ls) (cdv o1 :: st) h r := ev_aload_n iL_law_441 rfl cdv_r
theorem iL_law_442 : mn_ins 147 442 = some (9, false, .iload 4, 2) := by decide +kernel
theorem eL_law_442 : Ev 147 442 (a0 :: a1 :: a2 :: a3 :: some (.int x) :: ls) (st) h r ↔ Ev 147 444 (a0 :: a1 :: a2 :: a3 :: some (.int x) :: ls) (.int x :: st) h r := ev_iload iL_law_442 rfl
theorem iL_law_444 : mn_ins 147 444 = some (9, false, .iconst 1, 1) := by decide +kernel
theorem eL_law_444 : Ev 147 444 (ls) (st) h r ↔ Ev 147 445 (ls) (.int (nI 1) :: st) h r := ev_iconst iL_law_444 (by decide)
theorem iL_law_445 : mn_ins 147 445 = some (9, false, .iadd, 1) := by decide +kernel
theorem eL_law_445 : Ev 147 445 (ls) (.int y :: .int x :: st) h r ↔ Ev 147 446 (ls) (.int (x + y) :: st) h r := ev_iadd iL_law_445
theorem iL_law_446 : mn_ins 147 446 = some (9, false, .iaload, 1) := by decide +kernel
theorem eL_law_446 : Ev 147 446 (ls) (.int x :: .ref a :: st) h r ↔ Evk 147 447 ls (mn_al h a 0 x) st h r := ev_iald iL_law_446
theorem iL_law_447 : mn_ins 147 447 = some (9, false, .aload_n 3, 1) := by decide +kernel
theorem eL_law_447 : Ev 147 447 (a0 :: a1 :: a2 :: some (.ref a) :: ls) (st) h r ↔ Ev 147 448 (a0 :: a1 :: a2 :: some (.ref a) :: ls) (.ref a :: st) h r := ev_aload_n iL_law_447 rfl rfl
theorem eL_law_447n : Ev 147 447 (a0 :: a1 :: a2 :: some (.null) :: ls) (st) h r ↔ Ev 147 448 (a0 :: a1 :: a2 :: some (.null) :: ls) (.null :: st) h r := ev_aload_n iL_law_447 rfl rfl
theorem eL_law_447t : Ev 147 447 (a0 :: a1 :: a2 :: some (tkv o1) :: ls) (st) h r ↔ Ev 147 448 (a0 :: a1 :: a2 :: some (tkv o1) :: ls) (tkv o1 :: st) h r := ev_aload_n iL_law_447 rfl tkv_r
theorem eL_law_447s : Ev 147 447 (a0 :: a1 :: a2 :: some (sgv o1) :: ls) (st) h r ↔ Ev 147 448 (a0 :: a1 :: a2 :: some (sgv o1) :: ls) (sgv o1 :: st) h r := ev_aload_n iL_law_447 rfl sgv_r
theorem eL_law_447c : Ev 147 447 (a0 :: a1 :: a2 :: some (cdv o1) :: ls) (st) h r ↔ Ev 147 448 (a0 :: a1 :: a2 :: some (cdv o1) :: ls) (cdv o1 :: st) h r := ev_aload_n iL_law_447 rfl cdv_r
theorem iL_law_448 : mn_ins 147 448 = some (9, false, .invokestatic 89, 3) := by decide +kernel
theorem EgL_law_448 (hw3 : (mn_r w3).isSome = true) (hw5 : (mn_r w5).isSome = true) : Ev 147 448 (ls) (w5 :: .int x1 :: w3 :: st) h r ↔ Evr false (decide (mn_cats st ≤ 8)) 147 448 ls st h.2.2.1 h.2.2.2 (Cl 143 [w3, .int x1, w5] h.1 h.2.1) r := Ev_T (As := [w3, .int x1, w5]) (q := 1) iL_law_448 (by decide +kernel) (by decide) (x := mnI_L_law) (x2 := mnI_L_run) rfl rfl rfl (by decide +kernel) (by rcases mn_r_is hw3 with ⟨_, rfl⟩ | rfl <;> rcases mn_r_is hw5 with ⟨_, rfl⟩ | rfl <;> exact Nat.le_of_ble_eq_true rfl) rfl
theorem eL_law_448 {cw3 : Nat} {cw5 : Nat} : Ev 147 448 (ls) ((.ref cw5) :: .int x1 :: (.ref cw3) :: st) h r ↔ Evr false (decide (mn_cats st ≤ 8)) 147 448 ls st h.2.2.1 h.2.2.2 (Cl 143 [(.ref cw3), .int x1, (.ref cw5)] h.1 h.2.1) r := EgL_law_448 rfl rfl
theorem iL_law_451 : mn_ins 147 451 = some (9, false, .istore 5, 2) := by decide +kernel
theorem eL_law_451 : Ev 147 451 (a0 :: a1 :: a2 :: a3 :: a4 :: a5 :: ls) (.int x :: st) h r ↔ Ev 147 453 (a0 :: a1 :: a2 :: a3 :: mn_k a4 :: some (.int x) :: ls) (st) h r := ev_istore iL_law_451 (by show 5 < _; simp only [List.length_cons]; omega)
theorem iL_law_453 : mn_ins 147 453 = some (9, false, .aload_n 2, 1) := by decide +kernel
theorem eL_law_453 : Ev 147 453 (a0 :: a1 :: some (.ref a) :: ls) (st) h r ↔ Ev 147 454 (a0 :: a1 :: some (.ref a) :: ls) (.ref a :: st) h r := ev_aload_n iL_law_453 rfl rfl
theorem eL_law_453n : Ev 147 453 (a0 :: a1 :: some (.null) :: ls) (st) h r ↔ Ev 147 454 (a0 :: a1 :: some (.null) :: ls) (.null :: st) h r := ev_aload_n iL_law_453 rfl rfl
theorem eL_law_453t : Ev 147 453 (a0 :: a1 :: some (tkv o1) :: ls) (st) h r ↔ Ev 147 454 (a0 :: a1 :: some (tkv o1) :: ls) (tkv o1 :: st) h r := ev_aload_n iL_law_453 rfl tkv_r
theorem eL_law_453s : Ev 147 453 (a0 :: a1 :: some (sgv o1) :: ls) (st) h r ↔ Ev 147 454 (a0 :: a1 :: some (sgv o1) :: ls) (sgv o1 :: st) h r := ev_aload_n iL_law_453 rfl sgv_r
theorem eL_law_453c : Ev 147 453 (a0 :: a1 :: some (cdv o1) :: ls) (st) h r ↔ Ev 147 454 (a0 :: a1 :: some (cdv o1) :: ls) (cdv o1 :: st) h r := ev_aload_n iL_law_453 rfl cdv_r
theorem iL_law_454 : mn_ins 147 454 = some (9, false, .aload_n 0, 1) := by decide +kernel
theorem eL_law_454 : Ev 147 454 (some (.ref a) :: ls) (st) h r ↔ Ev 147 455 (some (.ref a) :: ls) (.ref a :: st) h r := ev_aload_n iL_law_454 rfl rfl
theorem eL_law_454n : Ev 147 454 (some (.null) :: ls) (st) h r ↔ Ev 147 455 (some (.null) :: ls) (.null :: st) h r := ev_aload_n iL_law_454 rfl rfl
theorem eL_law_454t : Ev 147 454 (some (tkv o1) :: ls) (st) h r ↔ Ev 147 455 (some (tkv o1) :: ls) (tkv o1 :: st) h r := ev_aload_n iL_law_454 rfl tkv_r
theorem eL_law_454s : Ev 147 454 (some (sgv o1) :: ls) (st) h r ↔ Ev 147 455 (some (sgv o1) :: ls) (sgv o1 :: st) h r := ev_aload_n iL_law_454 rfl sgv_r
theorem eL_law_454c : Ev 147 454 (some (cdv o1) :: ls) (st) h r ↔ Ev 147 455 (some (cdv o1) :: ls) (cdv o1 :: st) h r := ev_aload_n iL_law_454 rfl cdv_r
theorem iL_law_455 : mn_ins 147 455 = some (9, false, .iload 4, 2) := by decide +kernel
theorem eL_law_455 : Ev 147 455 (a0 :: a1 :: a2 :: a3 :: some (.int x) :: ls) (st) h r ↔ Ev 147 457 (a0 :: a1 :: a2 :: a3 :: some (.int x) :: ls) (.int x :: st) h r := ev_iload iL_law_455 rfl
theorem iL_law_457 : mn_ins 147 457 = some (9, false, .iconst 1, 1) := by decide +kernel
theorem eL_law_457 : Ev 147 457 (ls) (st) h r ↔ Ev 147 458 (ls) (.int (nI 1) :: st) h r := ev_iconst iL_law_457 (by decide)
theorem iL_law_458 : mn_ins 147 458 = some (9, false, .iadd, 1) := by decide +kernel
theorem eL_law_458 : Ev 147 458 (ls) (.int y :: .int x :: st) h r ↔ Ev 147 459 (ls) (.int (x + y) :: st) h r := ev_iadd iL_law_458
theorem iL_law_459 : mn_ins 147 459 = some (9, false, .iaload, 1) := by decide +kernel
theorem eL_law_459 : Ev 147 459 (ls) (.int x :: .ref a :: st) h r ↔ Evk 147 460 ls (mn_al h a 0 x) st h r := ev_iald iL_law_459
theorem iL_law_460 : mn_ins 147 460 = some (9, false, .invokevirtual 92, 3) := by decide +kernel
theorem eL_law_460 : Ev 147 460 (ls) (.int x0 :: .ref b :: st) h r ↔ Evr true (decide (mn_cats st ≤ 8) && mn_isc h b 8) 147 460 ls st h.2.2.1 h.2.2.2 (Cl 128 (.ref b :: [.int x0]) h.1 h.2.1) r := Ev_V (As := [.int x0]) iL_law_460 (by decide +kernel) (x := mnI_L_law) (x2 := mnI_X8_run) rfl rfl rfl (by decide +kernel) (Nat.le_of_ble_eq_true rfl) rfl
theorem iL_law_463 : mn_ins 147 463 = some (9, false, .istore 6, 2) := by decide +kernel
theorem eL_law_463 : Ev 147 463 (a0 :: a1 :: a2 :: a3 :: a4 :: a5 :: a6 :: ls) (.int x :: st) h r ↔ Ev 147 465 (a0 :: a1 :: a2 :: a3 :: a4 :: mn_k a5 :: some (.int x) :: ls) (st) h r := ev_istore iL_law_463 (by show 6 < _; simp only [List.length_cons]; omega)
theorem iL_law_465 : mn_ins 147 465 = some (9, false, .aload_n 2, 1) := by decide +kernel
theorem eL_law_465 : Ev 147 465 (a0 :: a1 :: some (.ref a) :: ls) (st) h r ↔ Ev 147 466 (a0 :: a1 :: some (.ref a) :: ls) (.ref a :: st) h r := ev_aload_n iL_law_465 rfl rfl
theorem eL_law_465n : Ev 147 465 (a0 :: a1 :: some (.null) :: ls) (st) h r ↔ Ev 147 466 (a0 :: a1 :: some (.null) :: ls) (.null :: st) h r := ev_aload_n iL_law_465 rfl rfl
theorem eL_law_465t : Ev 147 465 (a0 :: a1 :: some (tkv o1) :: ls) (st) h r ↔ Ev 147 466 (a0 :: a1 :: some (tkv o1) :: ls) (tkv o1 :: st) h r := ev_aload_n iL_law_465 rfl tkv_r
theorem eL_law_465s : Ev 147 465 (a0 :: a1 :: some (sgv o1) :: ls) (st) h r ↔ Ev 147 466 (a0 :: a1 :: some (sgv o1) :: ls) (sgv o1 :: st) h r := ev_aload_n iL_law_465 rfl sgv_r
theorem eL_law_465c : Ev 147 465 (a0 :: a1 :: some (cdv o1) :: ls) (st) h r ↔ Ev 147 466 (a0 :: a1 :: some (cdv o1) :: ls) (cdv o1 :: st) h r := ev_aload_n iL_law_465 rfl cdv_r
theorem iL_law_466 : mn_ins 147 466 = some (9, false, .invokevirtual 60, 3) := by decide +kernel
theorem eL_law_466 : Ev 147 466 (ls) (.ref b :: st) h r ↔ Evr true (decide (mn_cats st ≤ 8) && mn_isc h b 8) 147 466 ls st h.2.2.1 h.2.2.2 (Cl 85 (.ref b :: []) h.1 h.2.1) r := Ev_V (As := []) iL_law_466 (by decide +kernel) (x := mnI_L_law) (x2 := mnI_X8_thrown) rfl rfl rfl (by decide +kernel) (Nat.le_of_ble_eq_true rfl) rfl
theorem iL_law_469 : mn_ins 147 469 = some (9, false, .iload 5, 2) := by decide +kernel
theorem eL_law_469 : Ev 147 469 (a0 :: a1 :: a2 :: a3 :: a4 :: some (.int x) :: ls) (st) h r ↔ Ev 147 471 (a0 :: a1 :: a2 :: a3 :: a4 :: some (.int x) :: ls) (.int x :: st) h r := ev_iload iL_law_469 rfl
theorem iL_law_471 : mn_ins 147 471 = some (9, false, .if_icmp .eq 5, 3) := by decide +kernel
theorem eL_law_471 : Ev 147 471 (ls) (.int y :: .int x :: st) h r ↔ if x = y then Ev 147 476 (ls) (st) h r else Ev 147 474 (ls) (st) h r := ev_cmpeq iL_law_471 (by decide)
theorem iL_law_474 : mn_ins 147 474 = some (9, false, .iconst 0, 1) := by decide +kernel
theorem eL_law_474 : Ev 147 474 (ls) (st) h r ↔ Ev 147 475 (ls) (.int (nI 0) :: st) h r := ev_iconst iL_law_474 (by decide)
theorem iL_law_475 : mn_ins 147 475 = some (9, false, .ireturn, 1) := by decide +kernel
theorem eL_law_475 (hx : x = 0 ∨ x = 1) : Ev 147 475 (ls) [.int x] h r ↔ r = (h, .inl (some (.int x))) := ev_zret iL_law_475 (X := mnI_L_law) rfl rfl hx
theorem iL_law_476 : mn_ins 147 476 = some (9, false, .iload 5, 2) := by decide +kernel
theorem eL_law_476 : Ev 147 476 (a0 :: a1 :: a2 :: a3 :: a4 :: some (.int x) :: ls) (st) h r ↔ Ev 147 478 (a0 :: a1 :: a2 :: a3 :: a4 :: some (.int x) :: ls) (.int x :: st) h r := ev_iload iL_law_476 rfl
theorem iL_law_478 : mn_ins 147 478 = some (9, false, .ifCond .ne 15, 3) := by decide +kernel
theorem eL_law_478 : Ev 147 478 (ls) (.int x :: st) h r ↔ if x = nI 0 then Ev 147 481 (ls) (st) h r else Ev 147 493 (ls) (st) h r := ev_ifne iL_law_478 (by decide)
theorem iL_law_481 : mn_ins 147 481 = some (9, false, .aload_n 3, 1) := by decide +kernel
theorem eL_law_481 : Ev 147 481 (a0 :: a1 :: a2 :: some (.ref a) :: ls) (st) h r ↔ Ev 147 482 (a0 :: a1 :: a2 :: some (.ref a) :: ls) (.ref a :: st) h r := ev_aload_n iL_law_481 rfl rfl
theorem eL_law_481n : Ev 147 481 (a0 :: a1 :: a2 :: some (.null) :: ls) (st) h r ↔ Ev 147 482 (a0 :: a1 :: a2 :: some (.null) :: ls) (.null :: st) h r := ev_aload_n iL_law_481 rfl rfl
theorem eL_law_481t : Ev 147 481 (a0 :: a1 :: a2 :: some (tkv o1) :: ls) (st) h r ↔ Ev 147 482 (a0 :: a1 :: a2 :: some (tkv o1) :: ls) (tkv o1 :: st) h r := ev_aload_n iL_law_481 rfl tkv_r
theorem eL_law_481s : Ev 147 481 (a0 :: a1 :: a2 :: some (sgv o1) :: ls) (st) h r ↔ Ev 147 482 (a0 :: a1 :: a2 :: some (sgv o1) :: ls) (sgv o1 :: st) h r := ev_aload_n iL_law_481 rfl sgv_r
theorem eL_law_481c : Ev 147 481 (a0 :: a1 :: a2 :: some (cdv o1) :: ls) (st) h r ↔ Ev 147 482 (a0 :: a1 :: a2 :: some (cdv o1) :: ls) (cdv o1 :: st) h r := ev_aload_n iL_law_481 rfl cdv_r
theorem iL_law_482 : mn_ins 147 482 = some (9, false, .iconst 0, 1) := by decide +kernel
theorem eL_law_482 : Ev 147 482 (ls) (st) h r ↔ Ev 147 483 (ls) (.int (nI 0) :: st) h r := ev_iconst iL_law_482 (by decide)
theorem iL_law_483 : mn_ins 147 483 = some (9, false, .laload, 1) := by decide +kernel
theorem eL_law_483 : Ev 147 483 (ls) (.int x :: .ref a :: st) h r ↔ Evk 147 484 ls (mn_al h a 1 x) st h r := ev_lald iL_law_483
theorem iL_law_484 : mn_ins 147 484 = some (9, false, .iload 6, 2) := by decide +kernel
theorem eL_law_484 : Ev 147 484 (a0 :: a1 :: a2 :: a3 :: a4 :: a5 :: some (.int x) :: ls) (st) h r ↔ Ev 147 486 (a0 :: a1 :: a2 :: a3 :: a4 :: a5 :: some (.int x) :: ls) (.int x :: st) h r := ev_iload iL_law_484 rfl
theorem iL_law_486 : mn_ins 147 486 = some (9, false, .i2l, 1) := by decide +kernel
theorem eL_law_486 : Ev 147 486 (ls) (.int x :: st) h r ↔ Ev 147 487 (ls) (.long x.toInt64 :: st) h r := ev_i2l iL_law_486
theorem iL_law_487 : mn_ins 147 487 = some (9, false, .lcmp, 1) := by decide +kernel
theorem eL_law_487 : Ev 147 487 (ls) (.long v :: .long u :: st) h r ↔ Ev 147 488 (ls) (.int (lg_cmp u v) :: st) h r := ev_lcmp iL_law_487
theorem iL_law_488 : mn_ins 147 488 = some (9, false, .ifCond .eq 5, 3) := by decide +kernel
theorem eL_law_488 : Ev 147 488 (ls) (.int x :: st) h r ↔ if x = nI 0 then Ev 147 493 (ls) (st) h r else Ev 147 491 (ls) (st) h r := ev_ifeq iL_law_488 (by decide)
theorem iL_law_491 : mn_ins 147 491 = some (9, false, .iconst 0, 1) := by decide +kernel
theorem eL_law_491 : Ev 147 491 (ls) (st) h r ↔ Ev 147 492 (ls) (.int (nI 0) :: st) h r := ev_iconst iL_law_491 (by decide)
theorem iL_law_492 : mn_ins 147 492 = some (9, false, .ireturn, 1) := by decide +kernel
theorem eL_law_492 (hx : x = 0 ∨ x = 1) : Ev 147 492 (ls) [.int x] h r ↔ r = (h, .inl (some (.int x))) := ev_zret iL_law_492 (X := mnI_L_law) rfl rfl hx
theorem iL_law_493 : mn_ins 147 493 = some (9, false, .goto 243, 3) := by decide +kernel
theorem eL_law_493 : Ev 147 493 (ls) (st) h r ↔ Ev 147 736 (ls) (st) h r := ev_goto iL_law_493 (by decide)
theorem iL_law_496 : mn_ins 147 496 = some (9, false, .aload_n 1, 1) := by decide +kernel
theorem eL_law_496 : Ev 147 496 (a0 :: some (.ref a) :: ls) (st) h r ↔ Ev 147 497 (a0 :: some (.ref a) :: ls) (.ref a :: st) h r := ev_aload_n iL_law_496 rfl rfl
theorem eL_law_496n : Ev 147 496 (a0 :: some (.null) :: ls) (st) h r ↔ Ev 147 497 (a0 :: some (.null) :: ls) (.null :: st) h r := ev_aload_n iL_law_496 rfl rfl
theorem eL_law_496t : Ev 147 496 (a0 :: some (tkv o1) :: ls) (st) h r ↔ Ev 147 497 (a0 :: some (tkv o1) :: ls) (tkv o1 :: st) h r := ev_aload_n iL_law_496 rfl tkv_r
theorem eL_law_496s : Ev 147 496 (a0 :: some (sgv o1) :: ls) (st) h r ↔ Ev 147 497 (a0 :: some (sgv o1) :: ls) (sgv o1 :: st) h r := ev_aload_n iL_law_496 rfl sgv_r
theorem eL_law_496c : Ev 147 496 (a0 :: some (cdv o1) :: ls) (st) h r ↔ Ev 147 497 (a0 :: some (cdv o1) :: ls) (cdv o1 :: st) h r := ev_aload_n iL_law_496 rfl cdv_r
theorem iL_law_497 : mn_ins 147 497 = some (9, false, .aload_n 0, 1) := by decide +kernel
theorem eL_law_497 : Ev 147 497 (some (.ref a) :: ls) (st) h r ↔ Ev 147 498 (some (.ref a) :: ls) (.ref a :: st) h r := ev_aload_n iL_law_497 rfl rfl
theorem eL_law_497n : Ev 147 497 (some (.null) :: ls) (st) h r ↔ Ev 147 498 (some (.null) :: ls) (.null :: st) h r := ev_aload_n iL_law_497 rfl rfl
theorem eL_law_497t : Ev 147 497 (some (tkv o1) :: ls) (st) h r ↔ Ev 147 498 (some (tkv o1) :: ls) (tkv o1 :: st) h r := ev_aload_n iL_law_497 rfl tkv_r
theorem eL_law_497s : Ev 147 497 (some (sgv o1) :: ls) (st) h r ↔ Ev 147 498 (some (sgv o1) :: ls) (sgv o1 :: st) h r := ev_aload_n iL_law_497 rfl sgv_r
theorem eL_law_497c : Ev 147 497 (some (cdv o1) :: ls) (st) h r ↔ Ev 147 498 (some (cdv o1) :: ls) (cdv o1 :: st) h r := ev_aload_n iL_law_497 rfl cdv_r
theorem iL_law_498 : mn_ins 147 498 = some (9, false, .iload 4, 2) := by decide +kernel
theorem eL_law_498 : Ev 147 498 (a0 :: a1 :: a2 :: a3 :: some (.int x) :: ls) (st) h r ↔ Ev 147 500 (a0 :: a1 :: a2 :: a3 :: some (.int x) :: ls) (.int x :: st) h r := ev_iload iL_law_498 rfl
theorem iL_law_500 : mn_ins 147 500 = some (9, false, .iconst 1, 1) := by decide +kernel
theorem eL_law_500 : Ev 147 500 (ls) (st) h r ↔ Ev 147 501 (ls) (.int (nI 1) :: st) h r := ev_iconst iL_law_500 (by decide)
theorem iL_law_501 : mn_ins 147 501 = some (9, false, .iadd, 1) := by decide +kernel
theorem eL_law_501 : Ev 147 501 (ls) (.int y :: .int x :: st) h r ↔ Ev 147 502 (ls) (.int (x + y) :: st) h r := ev_iadd iL_law_501
theorem iL_law_502 : mn_ins 147 502 = some (9, false, .iaload, 1) := by decide +kernel
theorem eL_law_502 : Ev 147 502 (ls) (.int x :: .ref a :: st) h r ↔ Evk 147 503 ls (mn_al h a 0 x) st h r := ev_iald iL_law_502
theorem iL_law_503 : mn_ins 147 503 = some (9, false, .aload_n 0, 1) := by decide +kernel
theorem eL_law_503 : Ev 147 503 (some (.ref a) :: ls) (st) h r ↔ Ev 147 504 (some (.ref a) :: ls) (.ref a :: st) h r := ev_aload_n iL_law_503 rfl rfl
theorem eL_law_503n : Ev 147 503 (some (.null) :: ls) (st) h r ↔ Ev 147 504 (some (.null) :: ls) (.null :: st) h r := ev_aload_n iL_law_503 rfl rfl
theorem eL_law_503t : Ev 147 503 (some (tkv o1) :: ls) (st) h r ↔ Ev 147 504 (some (tkv o1) :: ls) (tkv o1 :: st) h r := ev_aload_n iL_law_503 rfl tkv_r
theorem eL_law_503s : Ev 147 503 (some (sgv o1) :: ls) (st) h r ↔ Ev 147 504 (some (sgv o1) :: ls) (sgv o1 :: st) h r := ev_aload_n iL_law_503 rfl sgv_r
theorem eL_law_503c : Ev 147 503 (some (cdv o1) :: ls) (st) h r ↔ Ev 147 504 (some (cdv o1) :: ls) (cdv o1 :: st) h r := ev_aload_n iL_law_503 rfl cdv_r
theorem iL_law_504 : mn_ins 147 504 = some (9, false, .iload 4, 2) := by decide +kernel
theorem eL_law_504 : Ev 147 504 (a0 :: a1 :: a2 :: a3 :: some (.int x) :: ls) (st) h r ↔ Ev 147 506 (a0 :: a1 :: a2 :: a3 :: some (.int x) :: ls) (.int x :: st) h r := ev_iload iL_law_504 rfl
theorem iL_law_506 : mn_ins 147 506 = some (9, false, .iconst 2, 1) := by decide +kernel
theorem eL_law_506 : Ev 147 506 (ls) (st) h r ↔ Ev 147 507 (ls) (.int (nI 2) :: st) h r := ev_iconst iL_law_506 (by decide)
theorem iL_law_507 : mn_ins 147 507 = some (9, false, .iadd, 1) := by decide +kernel
theorem eL_law_507 : Ev 147 507 (ls) (.int y :: .int x :: st) h r ↔ Ev 147 508 (ls) (.int (x + y) :: st) h r := ev_iadd iL_law_507
theorem iL_law_508 : mn_ins 147 508 = some (9, false, .iaload, 1) := by decide +kernel
theorem eL_law_508 : Ev 147 508 (ls) (.int x :: .ref a :: st) h r ↔ Evk 147 509 ls (mn_al h a 0 x) st h r := ev_iald iL_law_508
theorem iL_law_509 : mn_ins 147 509 = some (9, false, .aload_n 3, 1) := by decide +kernel
theorem eL_law_509 : Ev 147 509 (a0 :: a1 :: a2 :: some (.ref a) :: ls) (st) h r ↔ Ev 147 510 (a0 :: a1 :: a2 :: some (.ref a) :: ls) (.ref a :: st) h r := ev_aload_n iL_law_509 rfl rfl
theorem eL_law_509n : Ev 147 509 (a0 :: a1 :: a2 :: some (.null) :: ls) (st) h r ↔ Ev 147 510 (a0 :: a1 :: a2 :: some (.null) :: ls) (.null :: st) h r := ev_aload_n iL_law_509 rfl rfl
theorem eL_law_509t : Ev 147 509 (a0 :: a1 :: a2 :: some (tkv o1) :: ls) (st) h r ↔ Ev 147 510 (a0 :: a1 :: a2 :: some (tkv o1) :: ls) (tkv o1 :: st) h r := ev_aload_n iL_law_509 rfl tkv_r
theorem eL_law_509s : Ev 147 509 (a0 :: a1 :: a2 :: some (sgv o1) :: ls) (st) h r ↔ Ev 147 510 (a0 :: a1 :: a2 :: some (sgv o1) :: ls) (sgv o1 :: st) h r := ev_aload_n iL_law_509 rfl sgv_r
theorem eL_law_509c : Ev 147 509 (a0 :: a1 :: a2 :: some (cdv o1) :: ls) (st) h r ↔ Ev 147 510 (a0 :: a1 :: a2 :: some (cdv o1) :: ls) (cdv o1 :: st) h r := ev_aload_n iL_law_509 rfl cdv_r
theorem iL_law_510 : mn_ins 147 510 = some (9, false, .invokestatic 93, 3) := by decide +kernel
theorem EgL_law_510 (hw3 : (mn_r w3).isSome = true) (hw6 : (mn_r w6).isSome = true) : Ev 147 510 (ls) (w6 :: .int x2 :: .int x1 :: w3 :: st) h r ↔ Evr false (decide (mn_cats st ≤ 8)) 147 510 ls st h.2.2.1 h.2.2.2 (Cl 144 [w3, .int x1, .int x2, w6] h.1 h.2.1) r := Ev_T (As := [w3, .int x1, .int x2, w6]) (q := 1) iL_law_510 (by decide +kernel) (by decide) (x := mnI_L_law) (x2 := mnI_L_task) rfl rfl rfl (by decide +kernel) (by rcases mn_r_is hw3 with ⟨_, rfl⟩ | rfl <;> rcases mn_r_is hw6 with ⟨_, rfl⟩ | rfl <;> exact Nat.le_of_ble_eq_true rfl) rfl
theorem eL_law_510 {cw3 : Nat} {cw6 : Nat} : Ev 147 510 (ls) ((.ref cw6) :: .int x2 :: .int x1 :: (.ref cw3) :: st) h r ↔ Evr false (decide (mn_cats st ≤ 8)) 147 510 ls st h.2.2.1 h.2.2.2 (Cl 144 [(.ref cw3), .int x1, .int x2, (.ref cw6)] h.1 h.2.1) r := EgL_law_510 rfl rfl
theorem iL_law_513 : mn_ins 147 513 = some (9, false, .istore 5, 2) := by decide +kernel
theorem eL_law_513 : Ev 147 513 (a0 :: a1 :: a2 :: a3 :: a4 :: a5 :: ls) (.int x :: st) h r ↔ Ev 147 515 (a0 :: a1 :: a2 :: a3 :: mn_k a4 :: some (.int x) :: ls) (st) h r := ev_istore iL_law_513 (by show 5 < _; simp only [List.length_cons]; omega)
theorem iL_law_515 : mn_ins 147 515 = some (9, false, .aload_n 2, 1) := by decide +kernel
theorem eL_law_515 : Ev 147 515 (a0 :: a1 :: some (.ref a) :: ls) (st) h r ↔ Ev 147 516 (a0 :: a1 :: some (.ref a) :: ls) (.ref a :: st) h r := ev_aload_n iL_law_515 rfl rfl
theorem eL_law_515n : Ev 147 515 (a0 :: a1 :: some (.null) :: ls) (st) h r ↔ Ev 147 516 (a0 :: a1 :: some (.null) :: ls) (.null :: st) h r := ev_aload_n iL_law_515 rfl rfl
theorem eL_law_515t : Ev 147 515 (a0 :: a1 :: some (tkv o1) :: ls) (st) h r ↔ Ev 147 516 (a0 :: a1 :: some (tkv o1) :: ls) (tkv o1 :: st) h r := ev_aload_n iL_law_515 rfl tkv_r
theorem eL_law_515s : Ev 147 515 (a0 :: a1 :: some (sgv o1) :: ls) (st) h r ↔ Ev 147 516 (a0 :: a1 :: some (sgv o1) :: ls) (sgv o1 :: st) h r := ev_aload_n iL_law_515 rfl sgv_r
theorem eL_law_515c : Ev 147 515 (a0 :: a1 :: some (cdv o1) :: ls) (st) h r ↔ Ev 147 516 (a0 :: a1 :: some (cdv o1) :: ls) (cdv o1 :: st) h r := ev_aload_n iL_law_515 rfl cdv_r
theorem iL_law_516 : mn_ins 147 516 = some (9, false, .aload_n 0, 1) := by decide +kernel
theorem eL_law_516 : Ev 147 516 (some (.ref a) :: ls) (st) h r ↔ Ev 147 517 (some (.ref a) :: ls) (.ref a :: st) h r := ev_aload_n iL_law_516 rfl rfl
theorem eL_law_516n : Ev 147 516 (some (.null) :: ls) (st) h r ↔ Ev 147 517 (some (.null) :: ls) (.null :: st) h r := ev_aload_n iL_law_516 rfl rfl
theorem eL_law_516t : Ev 147 516 (some (tkv o1) :: ls) (st) h r ↔ Ev 147 517 (some (tkv o1) :: ls) (tkv o1 :: st) h r := ev_aload_n iL_law_516 rfl tkv_r
theorem eL_law_516s : Ev 147 516 (some (sgv o1) :: ls) (st) h r ↔ Ev 147 517 (some (sgv o1) :: ls) (sgv o1 :: st) h r := ev_aload_n iL_law_516 rfl sgv_r
theorem eL_law_516c : Ev 147 516 (some (cdv o1) :: ls) (st) h r ↔ Ev 147 517 (some (cdv o1) :: ls) (cdv o1 :: st) h r := ev_aload_n iL_law_516 rfl cdv_r
theorem iL_law_517 : mn_ins 147 517 = some (9, false, .iload 4, 2) := by decide +kernel
theorem eL_law_517 : Ev 147 517 (a0 :: a1 :: a2 :: a3 :: some (.int x) :: ls) (st) h r ↔ Ev 147 519 (a0 :: a1 :: a2 :: a3 :: some (.int x) :: ls) (.int x :: st) h r := ev_iload iL_law_517 rfl
theorem iL_law_519 : mn_ins 147 519 = some (9, false, .iconst 1, 1) := by decide +kernel
theorem eL_law_519 : Ev 147 519 (ls) (st) h r ↔ Ev 147 520 (ls) (.int (nI 1) :: st) h r := ev_iconst iL_law_519 (by decide)
theorem iL_law_520 : mn_ins 147 520 = some (9, false, .iadd, 1) := by decide +kernel
theorem eL_law_520 : Ev 147 520 (ls) (.int y :: .int x :: st) h r ↔ Ev 147 521 (ls) (.int (x + y) :: st) h r := ev_iadd iL_law_520
theorem iL_law_521 : mn_ins 147 521 = some (9, false, .iaload, 1) := by decide +kernel
theorem eL_law_521 : Ev 147 521 (ls) (.int x :: .ref a :: st) h r ↔ Evk 147 522 ls (mn_al h a 0 x) st h r := ev_iald iL_law_521
theorem iL_law_522 : mn_ins 147 522 = some (9, false, .aload_n 0, 1) := by decide +kernel
theorem eL_law_522 : Ev 147 522 (some (.ref a) :: ls) (st) h r ↔ Ev 147 523 (some (.ref a) :: ls) (.ref a :: st) h r := ev_aload_n iL_law_522 rfl rfl
theorem eL_law_522n : Ev 147 522 (some (.null) :: ls) (st) h r ↔ Ev 147 523 (some (.null) :: ls) (.null :: st) h r := ev_aload_n iL_law_522 rfl rfl
theorem eL_law_522t : Ev 147 522 (some (tkv o1) :: ls) (st) h r ↔ Ev 147 523 (some (tkv o1) :: ls) (tkv o1 :: st) h r := ev_aload_n iL_law_522 rfl tkv_r
theorem eL_law_522s : Ev 147 522 (some (sgv o1) :: ls) (st) h r ↔ Ev 147 523 (some (sgv o1) :: ls) (sgv o1 :: st) h r := ev_aload_n iL_law_522 rfl sgv_r
theorem eL_law_522c : Ev 147 522 (some (cdv o1) :: ls) (st) h r ↔ Ev 147 523 (some (cdv o1) :: ls) (cdv o1 :: st) h r := ev_aload_n iL_law_522 rfl cdv_r
theorem iL_law_523 : mn_ins 147 523 = some (9, false, .iload 4, 2) := by decide +kernel
theorem eL_law_523 : Ev 147 523 (a0 :: a1 :: a2 :: a3 :: some (.int x) :: ls) (st) h r ↔ Ev 147 525 (a0 :: a1 :: a2 :: a3 :: some (.int x) :: ls) (.int x :: st) h r := ev_iload iL_law_523 rfl
theorem iL_law_525 : mn_ins 147 525 = some (9, false, .iconst 2, 1) := by decide +kernel
theorem eL_law_525 : Ev 147 525 (ls) (st) h r ↔ Ev 147 526 (ls) (.int (nI 2) :: st) h r := ev_iconst iL_law_525 (by decide)
theorem iL_law_526 : mn_ins 147 526 = some (9, false, .iadd, 1) := by decide +kernel
theorem eL_law_526 : Ev 147 526 (ls) (.int y :: .int x :: st) h r ↔ Ev 147 527 (ls) (.int (x + y) :: st) h r := ev_iadd iL_law_526
theorem iL_law_527 : mn_ins 147 527 = some (9, false, .iaload, 1) := by decide +kernel
theorem eL_law_527 : Ev 147 527 (ls) (.int x :: .ref a :: st) h r ↔ Evk 147 528 ls (mn_al h a 0 x) st h r := ev_iald iL_law_527
theorem iL_law_528 : mn_ins 147 528 = some (9, false, .invokevirtual 95, 3) := by decide +kernel
theorem eL_law_528 : Ev 147 528 (ls) (.int x1 :: .int x0 :: .ref b :: st) h r ↔ Evr true (decide (mn_cats st ≤ 8) && mn_isc h b 8) 147 528 ls st h.2.2.1 h.2.2.2 (Cl 130 (.ref b :: [.int x0, .int x1]) h.1 h.2.1) r := Ev_V (As := [.int x0, .int x1]) iL_law_528 (by decide +kernel) (x := mnI_L_law) (x2 := mnI_X8_task) rfl rfl rfl (by decide +kernel) (Nat.le_of_ble_eq_true rfl) rfl
theorem iL_law_531 : mn_ins 147 531 = some (9, false, .istore 6, 2) := by decide +kernel
theorem eL_law_531 : Ev 147 531 (a0 :: a1 :: a2 :: a3 :: a4 :: a5 :: a6 :: ls) (.int x :: st) h r ↔ Ev 147 533 (a0 :: a1 :: a2 :: a3 :: a4 :: mn_k a5 :: some (.int x) :: ls) (st) h r := ev_istore iL_law_531 (by show 6 < _; simp only [List.length_cons]; omega)
theorem iL_law_533 : mn_ins 147 533 = some (9, false, .aload_n 2, 1) := by decide +kernel
theorem eL_law_533 : Ev 147 533 (a0 :: a1 :: some (.ref a) :: ls) (st) h r ↔ Ev 147 534 (a0 :: a1 :: some (.ref a) :: ls) (.ref a :: st) h r := ev_aload_n iL_law_533 rfl rfl
theorem eL_law_533n : Ev 147 533 (a0 :: a1 :: some (.null) :: ls) (st) h r ↔ Ev 147 534 (a0 :: a1 :: some (.null) :: ls) (.null :: st) h r := ev_aload_n iL_law_533 rfl rfl
theorem eL_law_533t : Ev 147 533 (a0 :: a1 :: some (tkv o1) :: ls) (st) h r ↔ Ev 147 534 (a0 :: a1 :: some (tkv o1) :: ls) (tkv o1 :: st) h r := ev_aload_n iL_law_533 rfl tkv_r
theorem eL_law_533s : Ev 147 533 (a0 :: a1 :: some (sgv o1) :: ls) (st) h r ↔ Ev 147 534 (a0 :: a1 :: some (sgv o1) :: ls) (sgv o1 :: st) h r := ev_aload_n iL_law_533 rfl sgv_r
theorem eL_law_533c : Ev 147 533 (a0 :: a1 :: some (cdv o1) :: ls) (st) h r ↔ Ev 147 534 (a0 :: a1 :: some (cdv o1) :: ls) (cdv o1 :: st) h r := ev_aload_n iL_law_533 rfl cdv_r
theorem iL_law_534 : mn_ins 147 534 = some (9, false, .invokevirtual 60, 3) := by decide +kernel
theorem eL_law_534 : Ev 147 534 (ls) (.ref b :: st) h r ↔ Evr true (decide (mn_cats st ≤ 8) && mn_isc h b 8) 147 534 ls st h.2.2.1 h.2.2.2 (Cl 85 (.ref b :: []) h.1 h.2.1) r := Ev_V (As := []) iL_law_534 (by decide +kernel) (x := mnI_L_law) (x2 := mnI_X8_thrown) rfl rfl rfl (by decide +kernel) (Nat.le_of_ble_eq_true rfl) rfl
theorem iL_law_537 : mn_ins 147 537 = some (9, false, .iload 5, 2) := by decide +kernel
theorem eL_law_537 : Ev 147 537 (a0 :: a1 :: a2 :: a3 :: a4 :: some (.int x) :: ls) (st) h r ↔ Ev 147 539 (a0 :: a1 :: a2 :: a3 :: a4 :: some (.int x) :: ls) (.int x :: st) h r := ev_iload iL_law_537 rfl
theorem iL_law_539 : mn_ins 147 539 = some (9, false, .if_icmp .eq 5, 3) := by decide +kernel
theorem eL_law_539 : Ev 147 539 (ls) (.int y :: .int x :: st) h r ↔ if x = y then Ev 147 544 (ls) (st) h r else Ev 147 542 (ls) (st) h r := ev_cmpeq iL_law_539 (by decide)
theorem iL_law_542 : mn_ins 147 542 = some (9, false, .iconst 0, 1) := by decide +kernel
theorem eL_law_542 : Ev 147 542 (ls) (st) h r ↔ Ev 147 543 (ls) (.int (nI 0) :: st) h r := ev_iconst iL_law_542 (by decide)
theorem iL_law_543 : mn_ins 147 543 = some (9, false, .ireturn, 1) := by decide +kernel
theorem eL_law_543 (hx : x = 0 ∨ x = 1) : Ev 147 543 (ls) [.int x] h r ↔ r = (h, .inl (some (.int x))) := ev_zret iL_law_543 (X := mnI_L_law) rfl rfl hx
theorem iL_law_544 : mn_ins 147 544 = some (9, false, .iload 5, 2) := by decide +kernel
theorem eL_law_544 : Ev 147 544 (a0 :: a1 :: a2 :: a3 :: a4 :: some (.int x) :: ls) (st) h r ↔ Ev 147 546 (a0 :: a1 :: a2 :: a3 :: a4 :: some (.int x) :: ls) (.int x :: st) h r := ev_iload iL_law_544 rfl
theorem iL_law_546 : mn_ins 147 546 = some (9, false, .ifCond .ne 15, 3) := by decide +kernel
theorem eL_law_546 : Ev 147 546 (ls) (.int x :: st) h r ↔ if x = nI 0 then Ev 147 549 (ls) (st) h r else Ev 147 561 (ls) (st) h r := ev_ifne iL_law_546 (by decide)
theorem iL_law_549 : mn_ins 147 549 = some (9, false, .aload_n 3, 1) := by decide +kernel
theorem eL_law_549 : Ev 147 549 (a0 :: a1 :: a2 :: some (.ref a) :: ls) (st) h r ↔ Ev 147 550 (a0 :: a1 :: a2 :: some (.ref a) :: ls) (.ref a :: st) h r := ev_aload_n iL_law_549 rfl rfl
theorem eL_law_549n : Ev 147 549 (a0 :: a1 :: a2 :: some (.null) :: ls) (st) h r ↔ Ev 147 550 (a0 :: a1 :: a2 :: some (.null) :: ls) (.null :: st) h r := ev_aload_n iL_law_549 rfl rfl
theorem eL_law_549t : Ev 147 549 (a0 :: a1 :: a2 :: some (tkv o1) :: ls) (st) h r ↔ Ev 147 550 (a0 :: a1 :: a2 :: some (tkv o1) :: ls) (tkv o1 :: st) h r := ev_aload_n iL_law_549 rfl tkv_r
theorem eL_law_549s : Ev 147 549 (a0 :: a1 :: a2 :: some (sgv o1) :: ls) (st) h r ↔ Ev 147 550 (a0 :: a1 :: a2 :: some (sgv o1) :: ls) (sgv o1 :: st) h r := ev_aload_n iL_law_549 rfl sgv_r
theorem eL_law_549c : Ev 147 549 (a0 :: a1 :: a2 :: some (cdv o1) :: ls) (st) h r ↔ Ev 147 550 (a0 :: a1 :: a2 :: some (cdv o1) :: ls) (cdv o1 :: st) h r := ev_aload_n iL_law_549 rfl cdv_r
theorem iL_law_550 : mn_ins 147 550 = some (9, false, .iconst 0, 1) := by decide +kernel
theorem eL_law_550 : Ev 147 550 (ls) (st) h r ↔ Ev 147 551 (ls) (.int (nI 0) :: st) h r := ev_iconst iL_law_550 (by decide)
theorem iL_law_551 : mn_ins 147 551 = some (9, false, .laload, 1) := by decide +kernel
theorem eL_law_551 : Ev 147 551 (ls) (.int x :: .ref a :: st) h r ↔ Evk 147 552 ls (mn_al h a 1 x) st h r := ev_lald iL_law_551
theorem iL_law_552 : mn_ins 147 552 = some (9, false, .iload 6, 2) := by decide +kernel
theorem eL_law_552 : Ev 147 552 (a0 :: a1 :: a2 :: a3 :: a4 :: a5 :: some (.int x) :: ls) (st) h r ↔ Ev 147 554 (a0 :: a1 :: a2 :: a3 :: a4 :: a5 :: some (.int x) :: ls) (.int x :: st) h r := ev_iload iL_law_552 rfl
theorem iL_law_554 : mn_ins 147 554 = some (9, false, .i2l, 1) := by decide +kernel
theorem eL_law_554 : Ev 147 554 (ls) (.int x :: st) h r ↔ Ev 147 555 (ls) (.long x.toInt64 :: st) h r := ev_i2l iL_law_554
theorem iL_law_555 : mn_ins 147 555 = some (9, false, .lcmp, 1) := by decide +kernel
theorem eL_law_555 : Ev 147 555 (ls) (.long v :: .long u :: st) h r ↔ Ev 147 556 (ls) (.int (lg_cmp u v) :: st) h r := ev_lcmp iL_law_555
theorem iL_law_556 : mn_ins 147 556 = some (9, false, .ifCond .eq 5, 3) := by decide +kernel
theorem eL_law_556 : Ev 147 556 (ls) (.int x :: st) h r ↔ if x = nI 0 then Ev 147 561 (ls) (st) h r else Ev 147 559 (ls) (st) h r := ev_ifeq iL_law_556 (by decide)
theorem iL_law_559 : mn_ins 147 559 = some (9, false, .iconst 0, 1) := by decide +kernel
theorem eL_law_559 : Ev 147 559 (ls) (st) h r ↔ Ev 147 560 (ls) (.int (nI 0) :: st) h r := ev_iconst iL_law_559 (by decide)
theorem iL_law_560 : mn_ins 147 560 = some (9, false, .ireturn, 1) := by decide +kernel
theorem eL_law_560 (hx : x = 0 ∨ x = 1) : Ev 147 560 (ls) [.int x] h r ↔ r = (h, .inl (some (.int x))) := ev_zret iL_law_560 (X := mnI_L_law) rfl rfl hx
theorem iL_law_561 : mn_ins 147 561 = some (9, false, .goto 175, 3) := by decide +kernel
theorem eL_law_561 : Ev 147 561 (ls) (st) h r ↔ Ev 147 736 (ls) (st) h r := ev_goto iL_law_561 (by decide)
theorem iL_law_564 : mn_ins 147 564 = some (9, false, .aload_n 1, 1) := by decide +kernel
theorem eL_law_564 : Ev 147 564 (a0 :: some (.ref a) :: ls) (st) h r ↔ Ev 147 565 (a0 :: some (.ref a) :: ls) (.ref a :: st) h r := ev_aload_n iL_law_564 rfl rfl
theorem eL_law_564n : Ev 147 564 (a0 :: some (.null) :: ls) (st) h r ↔ Ev 147 565 (a0 :: some (.null) :: ls) (.null :: st) h r := ev_aload_n iL_law_564 rfl rfl
theorem eL_law_564t : Ev 147 564 (a0 :: some (tkv o1) :: ls) (st) h r ↔ Ev 147 565 (a0 :: some (tkv o1) :: ls) (tkv o1 :: st) h r := ev_aload_n iL_law_564 rfl tkv_r
theorem eL_law_564s : Ev 147 564 (a0 :: some (sgv o1) :: ls) (st) h r ↔ Ev 147 565 (a0 :: some (sgv o1) :: ls) (sgv o1 :: st) h r := ev_aload_n iL_law_564 rfl sgv_r
theorem eL_law_564c : Ev 147 564 (a0 :: some (cdv o1) :: ls) (st) h r ↔ Ev 147 565 (a0 :: some (cdv o1) :: ls) (cdv o1 :: st) h r := ev_aload_n iL_law_564 rfl cdv_r
theorem iL_law_565 : mn_ins 147 565 = some (9, false, .invokevirtual 96, 3) := by decide +kernel
theorem eL_law_565 : Ev 147 565 (ls) (.ref b :: st) h r ↔ Evr true (decide (mn_cats st ≤ 8) && mn_isc h b 7) 147 565 ls st h.2.2.1 h.2.2.2 (Cl 79 (.ref b :: []) h.1 h.2.1) r := Ev_V (As := []) iL_law_565 (by decide +kernel) (x := mnI_L_law) (x2 := mnI_X7_tasks) rfl rfl rfl (by decide +kernel) (Nat.le_of_ble_eq_true rfl) rfl
theorem iL_law_568 : mn_ins 147 568 = some (9, false, .aload_n 2, 1) := by decide +kernel
theorem eL_law_568 : Ev 147 568 (a0 :: a1 :: some (.ref a) :: ls) (st) h r ↔ Ev 147 569 (a0 :: a1 :: some (.ref a) :: ls) (.ref a :: st) h r := ev_aload_n iL_law_568 rfl rfl
theorem eL_law_568n : Ev 147 568 (a0 :: a1 :: some (.null) :: ls) (st) h r ↔ Ev 147 569 (a0 :: a1 :: some (.null) :: ls) (.null :: st) h r := ev_aload_n iL_law_568 rfl rfl
theorem eL_law_568t : Ev 147 568 (a0 :: a1 :: some (tkv o1) :: ls) (st) h r ↔ Ev 147 569 (a0 :: a1 :: some (tkv o1) :: ls) (tkv o1 :: st) h r := ev_aload_n iL_law_568 rfl tkv_r
theorem eL_law_568s : Ev 147 568 (a0 :: a1 :: some (sgv o1) :: ls) (st) h r ↔ Ev 147 569 (a0 :: a1 :: some (sgv o1) :: ls) (sgv o1 :: st) h r := ev_aload_n iL_law_568 rfl sgv_r
theorem eL_law_568c : Ev 147 568 (a0 :: a1 :: some (cdv o1) :: ls) (st) h r ↔ Ev 147 569 (a0 :: a1 :: some (cdv o1) :: ls) (cdv o1 :: st) h r := ev_aload_n iL_law_568 rfl cdv_r
theorem iL_law_569 : mn_ins 147 569 = some (9, false, .invokevirtual 99, 3) := by decide +kernel
theorem eL_law_569 : Ev 147 569 (ls) (.ref b :: st) h r ↔ Evr true (decide (mn_cats st ≤ 8) && mn_isc h b 8) 147 569 ls st h.2.2.1 h.2.2.2 (Cl 131 (.ref b :: []) h.1 h.2.1) r := Ev_V (As := []) iL_law_569 (by decide +kernel) (x := mnI_L_law) (x2 := mnI_X8_tasks) rfl rfl rfl (by decide +kernel) (Nat.le_of_ble_eq_true rfl) rfl
theorem iL_law_572 : mn_ins 147 572 = some (9, false, .if_icmp .eq 164, 3) := by decide +kernel
theorem eL_law_572 : Ev 147 572 (ls) (.int y :: .int x :: st) h r ↔ if x = y then Ev 147 736 (ls) (st) h r else Ev 147 575 (ls) (st) h r := ev_cmpeq iL_law_572 (by decide)
theorem iL_law_575 : mn_ins 147 575 = some (9, false, .iconst 0, 1) := by decide +kernel
theorem eL_law_575 : Ev 147 575 (ls) (st) h r ↔ Ev 147 576 (ls) (.int (nI 0) :: st) h r := ev_iconst iL_law_575 (by decide)
theorem iL_law_576 : mn_ins 147 576 = some (9, false, .ireturn, 1) := by decide +kernel
theorem eL_law_576 (hx : x = 0 ∨ x = 1) : Ev 147 576 (ls) [.int x] h r ↔ r = (h, .inl (some (.int x))) := ev_zret iL_law_576 (X := mnI_L_law) rfl rfl hx
theorem iL_law_577 : mn_ins 147 577 = some (9, false, .aload_n 1, 1) := by decide +kernel
theorem eL_law_577 : Ev 147 577 (a0 :: some (.ref a) :: ls) (st) h r ↔ Ev 147 578 (a0 :: some (.ref a) :: ls) (.ref a :: st) h r := ev_aload_n iL_law_577 rfl rfl
theorem eL_law_577n : Ev 147 577 (a0 :: some (.null) :: ls) (st) h r ↔ Ev 147 578 (a0 :: some (.null) :: ls) (.null :: st) h r := ev_aload_n iL_law_577 rfl rfl
theorem eL_law_577t : Ev 147 577 (a0 :: some (tkv o1) :: ls) (st) h r ↔ Ev 147 578 (a0 :: some (tkv o1) :: ls) (tkv o1 :: st) h r := ev_aload_n iL_law_577 rfl tkv_r
theorem eL_law_577s : Ev 147 577 (a0 :: some (sgv o1) :: ls) (st) h r ↔ Ev 147 578 (a0 :: some (sgv o1) :: ls) (sgv o1 :: st) h r := ev_aload_n iL_law_577 rfl sgv_r
theorem eL_law_577c : Ev 147 577 (a0 :: some (cdv o1) :: ls) (st) h r ↔ Ev 147 578 (a0 :: some (cdv o1) :: ls) (cdv o1 :: st) h r := ev_aload_n iL_law_577 rfl cdv_r
theorem iL_law_578 : mn_ins 147 578 = some (9, false, .aload_n 0, 1) := by decide +kernel
theorem eL_law_578 : Ev 147 578 (some (.ref a) :: ls) (st) h r ↔ Ev 147 579 (some (.ref a) :: ls) (.ref a :: st) h r := ev_aload_n iL_law_578 rfl rfl
theorem eL_law_578n : Ev 147 578 (some (.null) :: ls) (st) h r ↔ Ev 147 579 (some (.null) :: ls) (.null :: st) h r := ev_aload_n iL_law_578 rfl rfl
theorem eL_law_578t : Ev 147 578 (some (tkv o1) :: ls) (st) h r ↔ Ev 147 579 (some (tkv o1) :: ls) (tkv o1 :: st) h r := ev_aload_n iL_law_578 rfl tkv_r
theorem eL_law_578s : Ev 147 578 (some (sgv o1) :: ls) (st) h r ↔ Ev 147 579 (some (sgv o1) :: ls) (sgv o1 :: st) h r := ev_aload_n iL_law_578 rfl sgv_r
theorem eL_law_578c : Ev 147 578 (some (cdv o1) :: ls) (st) h r ↔ Ev 147 579 (some (cdv o1) :: ls) (cdv o1 :: st) h r := ev_aload_n iL_law_578 rfl cdv_r
theorem iL_law_579 : mn_ins 147 579 = some (9, false, .iload 4, 2) := by decide +kernel
theorem eL_law_579 : Ev 147 579 (a0 :: a1 :: a2 :: a3 :: some (.int x) :: ls) (st) h r ↔ Ev 147 581 (a0 :: a1 :: a2 :: a3 :: some (.int x) :: ls) (.int x :: st) h r := ev_iload iL_law_579 rfl
theorem iL_law_581 : mn_ins 147 581 = some (9, false, .iconst 1, 1) := by decide +kernel
theorem eL_law_581 : Ev 147 581 (ls) (st) h r ↔ Ev 147 582 (ls) (.int (nI 1) :: st) h r := ev_iconst iL_law_581 (by decide)
theorem iL_law_582 : mn_ins 147 582 = some (9, false, .iadd, 1) := by decide +kernel
theorem eL_law_582 : Ev 147 582 (ls) (.int y :: .int x :: st) h r ↔ Ev 147 583 (ls) (.int (x + y) :: st) h r := ev_iadd iL_law_582
theorem iL_law_583 : mn_ins 147 583 = some (9, false, .iaload, 1) := by decide +kernel
theorem eL_law_583 : Ev 147 583 (ls) (.int x :: .ref a :: st) h r ↔ Evk 147 584 ls (mn_al h a 0 x) st h r := ev_iald iL_law_583
theorem iL_law_584 : mn_ins 147 584 = some (9, false, .aload_n 0, 1) := by decide +kernel
theorem eL_law_584 : Ev 147 584 (some (.ref a) :: ls) (st) h r ↔ Ev 147 585 (some (.ref a) :: ls) (.ref a :: st) h r := ev_aload_n iL_law_584 rfl rfl
theorem eL_law_584n : Ev 147 584 (some (.null) :: ls) (st) h r ↔ Ev 147 585 (some (.null) :: ls) (.null :: st) h r := ev_aload_n iL_law_584 rfl rfl
theorem eL_law_584t : Ev 147 584 (some (tkv o1) :: ls) (st) h r ↔ Ev 147 585 (some (tkv o1) :: ls) (tkv o1 :: st) h r := ev_aload_n iL_law_584 rfl tkv_r
theorem eL_law_584s : Ev 147 584 (some (sgv o1) :: ls) (st) h r ↔ Ev 147 585 (some (sgv o1) :: ls) (sgv o1 :: st) h r := ev_aload_n iL_law_584 rfl sgv_r
theorem eL_law_584c : Ev 147 584 (some (cdv o1) :: ls) (st) h r ↔ Ev 147 585 (some (cdv o1) :: ls) (cdv o1 :: st) h r := ev_aload_n iL_law_584 rfl cdv_r
theorem iL_law_585 : mn_ins 147 585 = some (9, false, .iload 4, 2) := by decide +kernel
theorem eL_law_585 : Ev 147 585 (a0 :: a1 :: a2 :: a3 :: some (.int x) :: ls) (st) h r ↔ Ev 147 587 (a0 :: a1 :: a2 :: a3 :: some (.int x) :: ls) (.int x :: st) h r := ev_iload iL_law_585 rfl
theorem iL_law_587 : mn_ins 147 587 = some (9, false, .iconst 2, 1) := by decide +kernel
theorem eL_law_587 : Ev 147 587 (ls) (st) h r ↔ Ev 147 588 (ls) (.int (nI 2) :: st) h r := ev_iconst iL_law_587 (by decide)
theorem iL_law_588 : mn_ins 147 588 = some (9, false, .iadd, 1) := by decide +kernel
theorem eL_law_588 : Ev 147 588 (ls) (.int y :: .int x :: st) h r ↔ Ev 147 589 (ls) (.int (x + y) :: st) h r := ev_iadd iL_law_588
theorem iL_law_589 : mn_ins 147 589 = some (9, false, .iaload, 1) := by decide +kernel
theorem eL_law_589 : Ev 147 589 (ls) (.int x :: .ref a :: st) h r ↔ Evk 147 590 ls (mn_al h a 0 x) st h r := ev_iald iL_law_589
theorem iL_law_590 : mn_ins 147 590 = some (9, false, .aload_n 3, 1) := by decide +kernel
theorem eL_law_590 : Ev 147 590 (a0 :: a1 :: a2 :: some (.ref a) :: ls) (st) h r ↔ Ev 147 591 (a0 :: a1 :: a2 :: some (.ref a) :: ls) (.ref a :: st) h r := ev_aload_n iL_law_590 rfl rfl
theorem eL_law_590n : Ev 147 590 (a0 :: a1 :: a2 :: some (.null) :: ls) (st) h r ↔ Ev 147 591 (a0 :: a1 :: a2 :: some (.null) :: ls) (.null :: st) h r := ev_aload_n iL_law_590 rfl rfl
theorem eL_law_590t : Ev 147 590 (a0 :: a1 :: a2 :: some (tkv o1) :: ls) (st) h r ↔ Ev 147 591 (a0 :: a1 :: a2 :: some (tkv o1) :: ls) (tkv o1 :: st) h r := ev_aload_n iL_law_590 rfl tkv_r
theorem eL_law_590s : Ev 147 590 (a0 :: a1 :: a2 :: some (sgv o1) :: ls) (st) h r ↔ Ev 147 591 (a0 :: a1 :: a2 :: some (sgv o1) :: ls) (sgv o1 :: st) h r := ev_aload_n iL_law_590 rfl sgv_r
theorem eL_law_590c : Ev 147 590 (a0 :: a1 :: a2 :: some (cdv o1) :: ls) (st) h r ↔ Ev 147 591 (a0 :: a1 :: a2 :: some (cdv o1) :: ls) (cdv o1 :: st) h r := ev_aload_n iL_law_590 rfl cdv_r
theorem iL_law_591 : mn_ins 147 591 = some (9, false, .invokestatic 100, 3) := by decide +kernel
theorem EgL_law_591 (hw3 : (mn_r w3).isSome = true) (hw6 : (mn_r w6).isSome = true) : Ev 147 591 (ls) (w6 :: .int x2 :: .int x1 :: w3 :: st) h r ↔ Evr false (decide (mn_cats st ≤ 8)) 147 591 ls st h.2.2.1 h.2.2.2 (Cl 145 [w3, .int x1, .int x2, w6] h.1 h.2.1) r := Ev_T (As := [w3, .int x1, .int x2, w6]) (q := 1) iL_law_591 (by decide +kernel) (by decide) (x := mnI_L_law) (x2 := mnI_L_read) rfl rfl rfl (by decide +kernel) (by rcases mn_r_is hw3 with ⟨_, rfl⟩ | rfl <;> rcases mn_r_is hw6 with ⟨_, rfl⟩ | rfl <;> exact Nat.le_of_ble_eq_true rfl) rfl
theorem eL_law_591 {cw3 : Nat} {cw6 : Nat} : Ev 147 591 (ls) ((.ref cw6) :: .int x2 :: .int x1 :: (.ref cw3) :: st) h r ↔ Evr false (decide (mn_cats st ≤ 8)) 147 591 ls st h.2.2.1 h.2.2.2 (Cl 145 [(.ref cw3), .int x1, .int x2, (.ref cw6)] h.1 h.2.1) r := EgL_law_591 rfl rfl
theorem iL_law_594 : mn_ins 147 594 = some (9, false, .istore 5, 2) := by decide +kernel
theorem eL_law_594 : Ev 147 594 (a0 :: a1 :: a2 :: a3 :: a4 :: a5 :: ls) (.int x :: st) h r ↔ Ev 147 596 (a0 :: a1 :: a2 :: a3 :: mn_k a4 :: some (.int x) :: ls) (st) h r := ev_istore iL_law_594 (by show 5 < _; simp only [List.length_cons]; omega)
theorem iL_law_596 : mn_ins 147 596 = some (9, false, .aload_n 2, 1) := by decide +kernel
theorem eL_law_596 : Ev 147 596 (a0 :: a1 :: some (.ref a) :: ls) (st) h r ↔ Ev 147 597 (a0 :: a1 :: some (.ref a) :: ls) (.ref a :: st) h r := ev_aload_n iL_law_596 rfl rfl
theorem eL_law_596n : Ev 147 596 (a0 :: a1 :: some (.null) :: ls) (st) h r ↔ Ev 147 597 (a0 :: a1 :: some (.null) :: ls) (.null :: st) h r := ev_aload_n iL_law_596 rfl rfl
theorem eL_law_596t : Ev 147 596 (a0 :: a1 :: some (tkv o1) :: ls) (st) h r ↔ Ev 147 597 (a0 :: a1 :: some (tkv o1) :: ls) (tkv o1 :: st) h r := ev_aload_n iL_law_596 rfl tkv_r
theorem eL_law_596s : Ev 147 596 (a0 :: a1 :: some (sgv o1) :: ls) (st) h r ↔ Ev 147 597 (a0 :: a1 :: some (sgv o1) :: ls) (sgv o1 :: st) h r := ev_aload_n iL_law_596 rfl sgv_r
theorem eL_law_596c : Ev 147 596 (a0 :: a1 :: some (cdv o1) :: ls) (st) h r ↔ Ev 147 597 (a0 :: a1 :: some (cdv o1) :: ls) (cdv o1 :: st) h r := ev_aload_n iL_law_596 rfl cdv_r
theorem iL_law_597 : mn_ins 147 597 = some (9, false, .aload_n 0, 1) := by decide +kernel
theorem eL_law_597 : Ev 147 597 (some (.ref a) :: ls) (st) h r ↔ Ev 147 598 (some (.ref a) :: ls) (.ref a :: st) h r := ev_aload_n iL_law_597 rfl rfl
theorem eL_law_597n : Ev 147 597 (some (.null) :: ls) (st) h r ↔ Ev 147 598 (some (.null) :: ls) (.null :: st) h r := ev_aload_n iL_law_597 rfl rfl
theorem eL_law_597t : Ev 147 597 (some (tkv o1) :: ls) (st) h r ↔ Ev 147 598 (some (tkv o1) :: ls) (tkv o1 :: st) h r := ev_aload_n iL_law_597 rfl tkv_r
theorem eL_law_597s : Ev 147 597 (some (sgv o1) :: ls) (st) h r ↔ Ev 147 598 (some (sgv o1) :: ls) (sgv o1 :: st) h r := ev_aload_n iL_law_597 rfl sgv_r
theorem eL_law_597c : Ev 147 597 (some (cdv o1) :: ls) (st) h r ↔ Ev 147 598 (some (cdv o1) :: ls) (cdv o1 :: st) h r := ev_aload_n iL_law_597 rfl cdv_r
theorem iL_law_598 : mn_ins 147 598 = some (9, false, .iload 4, 2) := by decide +kernel
theorem eL_law_598 : Ev 147 598 (a0 :: a1 :: a2 :: a3 :: some (.int x) :: ls) (st) h r ↔ Ev 147 600 (a0 :: a1 :: a2 :: a3 :: some (.int x) :: ls) (.int x :: st) h r := ev_iload iL_law_598 rfl
theorem iL_law_600 : mn_ins 147 600 = some (9, false, .iconst 1, 1) := by decide +kernel
theorem eL_law_600 : Ev 147 600 (ls) (st) h r ↔ Ev 147 601 (ls) (.int (nI 1) :: st) h r := ev_iconst iL_law_600 (by decide)
theorem iL_law_601 : mn_ins 147 601 = some (9, false, .iadd, 1) := by decide +kernel
theorem eL_law_601 : Ev 147 601 (ls) (.int y :: .int x :: st) h r ↔ Ev 147 602 (ls) (.int (x + y) :: st) h r := ev_iadd iL_law_601
theorem iL_law_602 : mn_ins 147 602 = some (9, false, .iaload, 1) := by decide +kernel
theorem eL_law_602 : Ev 147 602 (ls) (.int x :: .ref a :: st) h r ↔ Evk 147 603 ls (mn_al h a 0 x) st h r := ev_iald iL_law_602
theorem iL_law_603 : mn_ins 147 603 = some (9, false, .aload_n 0, 1) := by decide +kernel
theorem eL_law_603 : Ev 147 603 (some (.ref a) :: ls) (st) h r ↔ Ev 147 604 (some (.ref a) :: ls) (.ref a :: st) h r := ev_aload_n iL_law_603 rfl rfl
theorem eL_law_603n : Ev 147 603 (some (.null) :: ls) (st) h r ↔ Ev 147 604 (some (.null) :: ls) (.null :: st) h r := ev_aload_n iL_law_603 rfl rfl
theorem eL_law_603t : Ev 147 603 (some (tkv o1) :: ls) (st) h r ↔ Ev 147 604 (some (tkv o1) :: ls) (tkv o1 :: st) h r := ev_aload_n iL_law_603 rfl tkv_r
theorem eL_law_603s : Ev 147 603 (some (sgv o1) :: ls) (st) h r ↔ Ev 147 604 (some (sgv o1) :: ls) (sgv o1 :: st) h r := ev_aload_n iL_law_603 rfl sgv_r
theorem eL_law_603c : Ev 147 603 (some (cdv o1) :: ls) (st) h r ↔ Ev 147 604 (some (cdv o1) :: ls) (cdv o1 :: st) h r := ev_aload_n iL_law_603 rfl cdv_r
theorem iL_law_604 : mn_ins 147 604 = some (9, false, .iload 4, 2) := by decide +kernel
theorem eL_law_604 : Ev 147 604 (a0 :: a1 :: a2 :: a3 :: some (.int x) :: ls) (st) h r ↔ Ev 147 606 (a0 :: a1 :: a2 :: a3 :: some (.int x) :: ls) (.int x :: st) h r := ev_iload iL_law_604 rfl
theorem iL_law_606 : mn_ins 147 606 = some (9, false, .iconst 2, 1) := by decide +kernel
theorem eL_law_606 : Ev 147 606 (ls) (st) h r ↔ Ev 147 607 (ls) (.int (nI 2) :: st) h r := ev_iconst iL_law_606 (by decide)
theorem iL_law_607 : mn_ins 147 607 = some (9, false, .iadd, 1) := by decide +kernel
theorem eL_law_607 : Ev 147 607 (ls) (.int y :: .int x :: st) h r ↔ Ev 147 608 (ls) (.int (x + y) :: st) h r := ev_iadd iL_law_607
theorem iL_law_608 : mn_ins 147 608 = some (9, false, .iaload, 1) := by decide +kernel
theorem eL_law_608 : Ev 147 608 (ls) (.int x :: .ref a :: st) h r ↔ Evk 147 609 ls (mn_al h a 0 x) st h r := ev_iald iL_law_608
theorem iL_law_609 : mn_ins 147 609 = some (9, false, .invokevirtual 102, 3) := by decide +kernel
theorem eL_law_609 : Ev 147 609 (ls) (.int x1 :: .int x0 :: .ref b :: st) h r ↔ Evr true (decide (mn_cats st ≤ 8) && mn_isc h b 8) 147 609 ls st h.2.2.1 h.2.2.2 (Cl 132 (.ref b :: [.int x0, .int x1]) h.1 h.2.1) r := Ev_V (As := [.int x0, .int x1]) iL_law_609 (by decide +kernel) (x := mnI_L_law) (x2 := mnI_X8_read) rfl rfl rfl (by decide +kernel) (Nat.le_of_ble_eq_true rfl) rfl
theorem iL_law_612 : mn_ins 147 612 = some (9, false, .lstore 6, 2) := by decide +kernel
theorem eL_law_612 : Ev 147 612 (a0 :: a1 :: a2 :: a3 :: a4 :: a5 :: a6 :: a7 :: ls) (.long u :: st) h r ↔ Ev 147 614 (a0 :: a1 :: a2 :: a3 :: a4 :: mn_k a5 :: some (.long u) :: none :: ls) (st) h r := ev_lstore iL_law_612 (by show 7 < _; simp only [List.length_cons]; omega)
theorem iL_law_614 : mn_ins 147 614 = some (9, false, .aload_n 2, 1) := by decide +kernel
theorem eL_law_614 : Ev 147 614 (a0 :: a1 :: some (.ref a) :: ls) (st) h r ↔ Ev 147 615 (a0 :: a1 :: some (.ref a) :: ls) (.ref a :: st) h r := ev_aload_n iL_law_614 rfl rfl
theorem eL_law_614n : Ev 147 614 (a0 :: a1 :: some (.null) :: ls) (st) h r ↔ Ev 147 615 (a0 :: a1 :: some (.null) :: ls) (.null :: st) h r := ev_aload_n iL_law_614 rfl rfl
theorem eL_law_614t : Ev 147 614 (a0 :: a1 :: some (tkv o1) :: ls) (st) h r ↔ Ev 147 615 (a0 :: a1 :: some (tkv o1) :: ls) (tkv o1 :: st) h r := ev_aload_n iL_law_614 rfl tkv_r
theorem eL_law_614s : Ev 147 614 (a0 :: a1 :: some (sgv o1) :: ls) (st) h r ↔ Ev 147 615 (a0 :: a1 :: some (sgv o1) :: ls) (sgv o1 :: st) h r := ev_aload_n iL_law_614 rfl sgv_r
theorem eL_law_614c : Ev 147 614 (a0 :: a1 :: some (cdv o1) :: ls) (st) h r ↔ Ev 147 615 (a0 :: a1 :: some (cdv o1) :: ls) (cdv o1 :: st) h r := ev_aload_n iL_law_614 rfl cdv_r
theorem iL_law_615 : mn_ins 147 615 = some (9, false, .invokevirtual 60, 3) := by decide +kernel
theorem eL_law_615 : Ev 147 615 (ls) (.ref b :: st) h r ↔ Evr true (decide (mn_cats st ≤ 8) && mn_isc h b 8) 147 615 ls st h.2.2.1 h.2.2.2 (Cl 85 (.ref b :: []) h.1 h.2.1) r := Ev_V (As := []) iL_law_615 (by decide +kernel) (x := mnI_L_law) (x2 := mnI_X8_thrown) rfl rfl rfl (by decide +kernel) (Nat.le_of_ble_eq_true rfl) rfl
theorem iL_law_618 : mn_ins 147 618 = some (9, false, .iload 5, 2) := by decide +kernel
theorem eL_law_618 : Ev 147 618 (a0 :: a1 :: a2 :: a3 :: a4 :: some (.int x) :: ls) (st) h r ↔ Ev 147 620 (a0 :: a1 :: a2 :: a3 :: a4 :: some (.int x) :: ls) (.int x :: st) h r := ev_iload iL_law_618 rfl
theorem iL_law_620 : mn_ins 147 620 = some (9, false, .if_icmp .eq 5, 3) := by decide +kernel
theorem eL_law_620 : Ev 147 620 (ls) (.int y :: .int x :: st) h r ↔ if x = y then Ev 147 625 (ls) (st) h r else Ev 147 623 (ls) (st) h r := ev_cmpeq iL_law_620 (by decide)
theorem iL_law_623 : mn_ins 147 623 = some (9, false, .iconst 0, 1) := by decide +kernel
theorem eL_law_623 : Ev 147 623 (ls) (st) h r ↔ Ev 147 624 (ls) (.int (nI 0) :: st) h r := ev_iconst iL_law_623 (by decide)
theorem iL_law_624 : mn_ins 147 624 = some (9, false, .ireturn, 1) := by decide +kernel
theorem eL_law_624 (hx : x = 0 ∨ x = 1) : Ev 147 624 (ls) [.int x] h r ↔ r = (h, .inl (some (.int x))) := ev_zret iL_law_624 (X := mnI_L_law) rfl rfl hx
theorem iL_law_625 : mn_ins 147 625 = some (9, false, .iload 5, 2) := by decide +kernel
theorem eL_law_625 : Ev 147 625 (a0 :: a1 :: a2 :: a3 :: a4 :: some (.int x) :: ls) (st) h r ↔ Ev 147 627 (a0 :: a1 :: a2 :: a3 :: a4 :: some (.int x) :: ls) (.int x :: st) h r := ev_iload iL_law_625 rfl
theorem iL_law_627 : mn_ins 147 627 = some (9, false, .ifCond .ne 14, 3) := by decide +kernel
theorem eL_law_627 : Ev 147 627 (ls) (.int x :: st) h r ↔ if x = nI 0 then Ev 147 630 (ls) (st) h r else Ev 147 641 (ls) (st) h r := ev_ifne iL_law_627 (by decide)
theorem iL_law_630 : mn_ins 147 630 = some (9, false, .aload_n 3, 1) := by decide +kernel
theorem eL_law_630 : Ev 147 630 (a0 :: a1 :: a2 :: some (.ref a) :: ls) (st) h r ↔ Ev 147 631 (a0 :: a1 :: a2 :: some (.ref a) :: ls) (.ref a :: st) h r := ev_aload_n iL_law_630 rfl rfl
theorem eL_law_630n : Ev 147 630 (a0 :: a1 :: a2 :: some (.null) :: ls) (st) h r ↔ Ev 147 631 (a0 :: a1 :: a2 :: some (.null) :: ls) (.null :: st) h r := ev_aload_n iL_law_630 rfl rfl
theorem eL_law_630t : Ev 147 630 (a0 :: a1 :: a2 :: some (tkv o1) :: ls) (st) h r ↔ Ev 147 631 (a0 :: a1 :: a2 :: some (tkv o1) :: ls) (tkv o1 :: st) h r := ev_aload_n iL_law_630 rfl tkv_r
theorem eL_law_630s : Ev 147 630 (a0 :: a1 :: a2 :: some (sgv o1) :: ls) (st) h r ↔ Ev 147 631 (a0 :: a1 :: a2 :: some (sgv o1) :: ls) (sgv o1 :: st) h r := ev_aload_n iL_law_630 rfl sgv_r
theorem eL_law_630c : Ev 147 630 (a0 :: a1 :: a2 :: some (cdv o1) :: ls) (st) h r ↔ Ev 147 631 (a0 :: a1 :: a2 :: some (cdv o1) :: ls) (cdv o1 :: st) h r := ev_aload_n iL_law_630 rfl cdv_r
theorem iL_law_631 : mn_ins 147 631 = some (9, false, .iconst 0, 1) := by decide +kernel
theorem eL_law_631 : Ev 147 631 (ls) (st) h r ↔ Ev 147 632 (ls) (.int (nI 0) :: st) h r := ev_iconst iL_law_631 (by decide)
theorem iL_law_632 : mn_ins 147 632 = some (9, false, .laload, 1) := by decide +kernel
theorem eL_law_632 : Ev 147 632 (ls) (.int x :: .ref a :: st) h r ↔ Evk 147 633 ls (mn_al h a 1 x) st h r := ev_lald iL_law_632
theorem iL_law_633 : mn_ins 147 633 = some (9, false, .lload 6, 2) := by decide +kernel
theorem eL_law_633 : Ev 147 633 (a0 :: a1 :: a2 :: a3 :: a4 :: a5 :: some (.long u) :: ls) (st) h r ↔ Ev 147 635 (a0 :: a1 :: a2 :: a3 :: a4 :: a5 :: some (.long u) :: ls) (.long u :: st) h r := ev_lload iL_law_633 rfl
theorem iL_law_635 : mn_ins 147 635 = some (9, false, .lcmp, 1) := by decide +kernel
theorem eL_law_635 : Ev 147 635 (ls) (.long v :: .long u :: st) h r ↔ Ev 147 636 (ls) (.int (lg_cmp u v) :: st) h r := ev_lcmp iL_law_635
theorem iL_law_636 : mn_ins 147 636 = some (9, false, .ifCond .eq 5, 3) := by decide +kernel
theorem eL_law_636 : Ev 147 636 (ls) (.int x :: st) h r ↔ if x = nI 0 then Ev 147 641 (ls) (st) h r else Ev 147 639 (ls) (st) h r := ev_ifeq iL_law_636 (by decide)
theorem iL_law_639 : mn_ins 147 639 = some (9, false, .iconst 0, 1) := by decide +kernel
theorem eL_law_639 : Ev 147 639 (ls) (st) h r ↔ Ev 147 640 (ls) (.int (nI 0) :: st) h r := ev_iconst iL_law_639 (by decide)
theorem iL_law_640 : mn_ins 147 640 = some (9, false, .ireturn, 1) := by decide +kernel
theorem eL_law_640 (hx : x = 0 ∨ x = 1) : Ev 147 640 (ls) [.int x] h r ↔ r = (h, .inl (some (.int x))) := ev_zret iL_law_640 (X := mnI_L_law) rfl rfl hx
theorem iL_law_641 : mn_ins 147 641 = some (9, false, .goto 95, 3) := by decide +kernel
theorem eL_law_641 : Ev 147 641 (ls) (st) h r ↔ Ev 147 736 (ls) (st) h r := ev_goto iL_law_641 (by decide)
theorem iL_law_644 : mn_ins 147 644 = some (9, false, .aload_n 1, 1) := by decide +kernel
theorem eL_law_644 : Ev 147 644 (a0 :: some (.ref a) :: ls) (st) h r ↔ Ev 147 645 (a0 :: some (.ref a) :: ls) (.ref a :: st) h r := ev_aload_n iL_law_644 rfl rfl
theorem eL_law_644n : Ev 147 644 (a0 :: some (.null) :: ls) (st) h r ↔ Ev 147 645 (a0 :: some (.null) :: ls) (.null :: st) h r := ev_aload_n iL_law_644 rfl rfl
theorem eL_law_644t : Ev 147 644 (a0 :: some (tkv o1) :: ls) (st) h r ↔ Ev 147 645 (a0 :: some (tkv o1) :: ls) (tkv o1 :: st) h r := ev_aload_n iL_law_644 rfl tkv_r
theorem eL_law_644s : Ev 147 644 (a0 :: some (sgv o1) :: ls) (st) h r ↔ Ev 147 645 (a0 :: some (sgv o1) :: ls) (sgv o1 :: st) h r := ev_aload_n iL_law_644 rfl sgv_r
theorem eL_law_644c : Ev 147 644 (a0 :: some (cdv o1) :: ls) (st) h r ↔ Ev 147 645 (a0 :: some (cdv o1) :: ls) (cdv o1 :: st) h r := ev_aload_n iL_law_644 rfl cdv_r
theorem iL_law_645 : mn_ins 147 645 = some (9, false, .aload_n 0, 1) := by decide +kernel
theorem eL_law_645 : Ev 147 645 (some (.ref a) :: ls) (st) h r ↔ Ev 147 646 (some (.ref a) :: ls) (.ref a :: st) h r := ev_aload_n iL_law_645 rfl rfl
theorem eL_law_645n : Ev 147 645 (some (.null) :: ls) (st) h r ↔ Ev 147 646 (some (.null) :: ls) (.null :: st) h r := ev_aload_n iL_law_645 rfl rfl
theorem eL_law_645t : Ev 147 645 (some (tkv o1) :: ls) (st) h r ↔ Ev 147 646 (some (tkv o1) :: ls) (tkv o1 :: st) h r := ev_aload_n iL_law_645 rfl tkv_r
theorem eL_law_645s : Ev 147 645 (some (sgv o1) :: ls) (st) h r ↔ Ev 147 646 (some (sgv o1) :: ls) (sgv o1 :: st) h r := ev_aload_n iL_law_645 rfl sgv_r
theorem eL_law_645c : Ev 147 645 (some (cdv o1) :: ls) (st) h r ↔ Ev 147 646 (some (cdv o1) :: ls) (cdv o1 :: st) h r := ev_aload_n iL_law_645 rfl cdv_r
theorem iL_law_646 : mn_ins 147 646 = some (9, false, .iload 4, 2) := by decide +kernel
theorem eL_law_646 : Ev 147 646 (a0 :: a1 :: a2 :: a3 :: some (.int x) :: ls) (st) h r ↔ Ev 147 648 (a0 :: a1 :: a2 :: a3 :: some (.int x) :: ls) (.int x :: st) h r := ev_iload iL_law_646 rfl
theorem iL_law_648 : mn_ins 147 648 = some (9, false, .iconst 1, 1) := by decide +kernel
theorem eL_law_648 : Ev 147 648 (ls) (st) h r ↔ Ev 147 649 (ls) (.int (nI 1) :: st) h r := ev_iconst iL_law_648 (by decide)
theorem iL_law_649 : mn_ins 147 649 = some (9, false, .iadd, 1) := by decide +kernel
theorem eL_law_649 : Ev 147 649 (ls) (.int y :: .int x :: st) h r ↔ Ev 147 650 (ls) (.int (x + y) :: st) h r := ev_iadd iL_law_649
theorem iL_law_650 : mn_ins 147 650 = some (9, false, .iaload, 1) := by decide +kernel
theorem eL_law_650 : Ev 147 650 (ls) (.int x :: .ref a :: st) h r ↔ Evk 147 651 ls (mn_al h a 0 x) st h r := ev_iald iL_law_650
theorem iL_law_651 : mn_ins 147 651 = some (9, false, .aload_n 0, 1) := by decide +kernel
theorem eL_law_651 : Ev 147 651 (some (.ref a) :: ls) (st) h r ↔ Ev 147 652 (some (.ref a) :: ls) (.ref a :: st) h r := ev_aload_n iL_law_651 rfl rfl
theorem eL_law_651n : Ev 147 651 (some (.null) :: ls) (st) h r ↔ Ev 147 652 (some (.null) :: ls) (.null :: st) h r := ev_aload_n iL_law_651 rfl rfl
theorem eL_law_651t : Ev 147 651 (some (tkv o1) :: ls) (st) h r ↔ Ev 147 652 (some (tkv o1) :: ls) (tkv o1 :: st) h r := ev_aload_n iL_law_651 rfl tkv_r
theorem eL_law_651s : Ev 147 651 (some (sgv o1) :: ls) (st) h r ↔ Ev 147 652 (some (sgv o1) :: ls) (sgv o1 :: st) h r := ev_aload_n iL_law_651 rfl sgv_r
theorem eL_law_651c : Ev 147 651 (some (cdv o1) :: ls) (st) h r ↔ Ev 147 652 (some (cdv o1) :: ls) (cdv o1 :: st) h r := ev_aload_n iL_law_651 rfl cdv_r
theorem iL_law_652 : mn_ins 147 652 = some (9, false, .iload 4, 2) := by decide +kernel
theorem eL_law_652 : Ev 147 652 (a0 :: a1 :: a2 :: a3 :: some (.int x) :: ls) (st) h r ↔ Ev 147 654 (a0 :: a1 :: a2 :: a3 :: some (.int x) :: ls) (.int x :: st) h r := ev_iload iL_law_652 rfl
theorem iL_law_654 : mn_ins 147 654 = some (9, false, .iconst 2, 1) := by decide +kernel
theorem eL_law_654 : Ev 147 654 (ls) (st) h r ↔ Ev 147 655 (ls) (.int (nI 2) :: st) h r := ev_iconst iL_law_654 (by decide)
theorem iL_law_655 : mn_ins 147 655 = some (9, false, .iadd, 1) := by decide +kernel
theorem eL_law_655 : Ev 147 655 (ls) (.int y :: .int x :: st) h r ↔ Ev 147 656 (ls) (.int (x + y) :: st) h r := ev_iadd iL_law_655
theorem iL_law_656 : mn_ins 147 656 = some (9, false, .iaload, 1) := by decide +kernel
theorem eL_law_656 : Ev 147 656 (ls) (.int x :: .ref a :: st) h r ↔ Evk 147 657 ls (mn_al h a 0 x) st h r := ev_iald iL_law_656
theorem iL_law_657 : mn_ins 147 657 = some (9, false, .aload_n 3, 1) := by decide +kernel
theorem eL_law_657 : Ev 147 657 (a0 :: a1 :: a2 :: some (.ref a) :: ls) (st) h r ↔ Ev 147 658 (a0 :: a1 :: a2 :: some (.ref a) :: ls) (.ref a :: st) h r := ev_aload_n iL_law_657 rfl rfl
theorem eL_law_657n : Ev 147 657 (a0 :: a1 :: a2 :: some (.null) :: ls) (st) h r ↔ Ev 147 658 (a0 :: a1 :: a2 :: some (.null) :: ls) (.null :: st) h r := ev_aload_n iL_law_657 rfl rfl
theorem eL_law_657t : Ev 147 657 (a0 :: a1 :: a2 :: some (tkv o1) :: ls) (st) h r ↔ Ev 147 658 (a0 :: a1 :: a2 :: some (tkv o1) :: ls) (tkv o1 :: st) h r := ev_aload_n iL_law_657 rfl tkv_r
theorem eL_law_657s : Ev 147 657 (a0 :: a1 :: a2 :: some (sgv o1) :: ls) (st) h r ↔ Ev 147 658 (a0 :: a1 :: a2 :: some (sgv o1) :: ls) (sgv o1 :: st) h r := ev_aload_n iL_law_657 rfl sgv_r
theorem eL_law_657c : Ev 147 657 (a0 :: a1 :: a2 :: some (cdv o1) :: ls) (st) h r ↔ Ev 147 658 (a0 :: a1 :: a2 :: some (cdv o1) :: ls) (cdv o1 :: st) h r := ev_aload_n iL_law_657 rfl cdv_r
theorem iL_law_658 : mn_ins 147 658 = some (9, false, .invokestatic 103, 3) := by decide +kernel
theorem EgL_law_658 (hw3 : (mn_r w3).isSome = true) (hw6 : (mn_r w6).isSome = true) : Ev 147 658 (ls) (w6 :: .int x2 :: .int x1 :: w3 :: st) h r ↔ Evr false (decide (mn_cats st ≤ 8)) 147 658 ls st h.2.2.1 h.2.2.2 (Cl 146 [w3, .int x1, .int x2, w6] h.1 h.2.1) r := Ev_T (As := [w3, .int x1, .int x2, w6]) (q := 1) iL_law_658 (by decide +kernel) (by decide) (x := mnI_L_law) (x2 := mnI_L_print) rfl rfl rfl (by decide +kernel) (by rcases mn_r_is hw3 with ⟨_, rfl⟩ | rfl <;> rcases mn_r_is hw6 with ⟨_, rfl⟩ | rfl <;> exact Nat.le_of_ble_eq_true rfl) rfl
theorem eL_law_658 {cw3 : Nat} {cw6 : Nat} : Ev 147 658 (ls) ((.ref cw6) :: .int x2 :: .int x1 :: (.ref cw3) :: st) h r ↔ Evr false (decide (mn_cats st ≤ 8)) 147 658 ls st h.2.2.1 h.2.2.2 (Cl 146 [(.ref cw3), .int x1, .int x2, (.ref cw6)] h.1 h.2.1) r := EgL_law_658 rfl rfl
theorem iL_law_661 : mn_ins 147 661 = some (9, false, .istore 5, 2) := by decide +kernel
theorem eL_law_661 : Ev 147 661 (a0 :: a1 :: a2 :: a3 :: a4 :: a5 :: ls) (.int x :: st) h r ↔ Ev 147 663 (a0 :: a1 :: a2 :: a3 :: mn_k a4 :: some (.int x) :: ls) (st) h r := ev_istore iL_law_661 (by show 5 < _; simp only [List.length_cons]; omega)
theorem iL_law_663 : mn_ins 147 663 = some (9, false, .aload_n 2, 1) := by decide +kernel
theorem eL_law_663 : Ev 147 663 (a0 :: a1 :: some (.ref a) :: ls) (st) h r ↔ Ev 147 664 (a0 :: a1 :: some (.ref a) :: ls) (.ref a :: st) h r := ev_aload_n iL_law_663 rfl rfl
theorem eL_law_663n : Ev 147 663 (a0 :: a1 :: some (.null) :: ls) (st) h r ↔ Ev 147 664 (a0 :: a1 :: some (.null) :: ls) (.null :: st) h r := ev_aload_n iL_law_663 rfl rfl
theorem eL_law_663t : Ev 147 663 (a0 :: a1 :: some (tkv o1) :: ls) (st) h r ↔ Ev 147 664 (a0 :: a1 :: some (tkv o1) :: ls) (tkv o1 :: st) h r := ev_aload_n iL_law_663 rfl tkv_r
theorem eL_law_663s : Ev 147 663 (a0 :: a1 :: some (sgv o1) :: ls) (st) h r ↔ Ev 147 664 (a0 :: a1 :: some (sgv o1) :: ls) (sgv o1 :: st) h r := ev_aload_n iL_law_663 rfl sgv_r
theorem eL_law_663c : Ev 147 663 (a0 :: a1 :: some (cdv o1) :: ls) (st) h r ↔ Ev 147 664 (a0 :: a1 :: some (cdv o1) :: ls) (cdv o1 :: st) h r := ev_aload_n iL_law_663 rfl cdv_r
theorem iL_law_664 : mn_ins 147 664 = some (9, false, .aload_n 0, 1) := by decide +kernel
theorem eL_law_664 : Ev 147 664 (some (.ref a) :: ls) (st) h r ↔ Ev 147 665 (some (.ref a) :: ls) (.ref a :: st) h r := ev_aload_n iL_law_664 rfl rfl
theorem eL_law_664n : Ev 147 664 (some (.null) :: ls) (st) h r ↔ Ev 147 665 (some (.null) :: ls) (.null :: st) h r := ev_aload_n iL_law_664 rfl rfl
theorem eL_law_664t : Ev 147 664 (some (tkv o1) :: ls) (st) h r ↔ Ev 147 665 (some (tkv o1) :: ls) (tkv o1 :: st) h r := ev_aload_n iL_law_664 rfl tkv_r
theorem eL_law_664s : Ev 147 664 (some (sgv o1) :: ls) (st) h r ↔ Ev 147 665 (some (sgv o1) :: ls) (sgv o1 :: st) h r := ev_aload_n iL_law_664 rfl sgv_r
theorem eL_law_664c : Ev 147 664 (some (cdv o1) :: ls) (st) h r ↔ Ev 147 665 (some (cdv o1) :: ls) (cdv o1 :: st) h r := ev_aload_n iL_law_664 rfl cdv_r
theorem iL_law_665 : mn_ins 147 665 = some (9, false, .iload 4, 2) := by decide +kernel
theorem eL_law_665 : Ev 147 665 (a0 :: a1 :: a2 :: a3 :: some (.int x) :: ls) (st) h r ↔ Ev 147 667 (a0 :: a1 :: a2 :: a3 :: some (.int x) :: ls) (.int x :: st) h r := ev_iload iL_law_665 rfl
theorem iL_law_667 : mn_ins 147 667 = some (9, false, .iconst 1, 1) := by decide +kernel
theorem eL_law_667 : Ev 147 667 (ls) (st) h r ↔ Ev 147 668 (ls) (.int (nI 1) :: st) h r := ev_iconst iL_law_667 (by decide)
theorem iL_law_668 : mn_ins 147 668 = some (9, false, .iadd, 1) := by decide +kernel
theorem eL_law_668 : Ev 147 668 (ls) (.int y :: .int x :: st) h r ↔ Ev 147 669 (ls) (.int (x + y) :: st) h r := ev_iadd iL_law_668
theorem iL_law_669 : mn_ins 147 669 = some (9, false, .iaload, 1) := by decide +kernel
theorem eL_law_669 : Ev 147 669 (ls) (.int x :: .ref a :: st) h r ↔ Evk 147 670 ls (mn_al h a 0 x) st h r := ev_iald iL_law_669
theorem iL_law_670 : mn_ins 147 670 = some (9, false, .aload_n 0, 1) := by decide +kernel
theorem eL_law_670 : Ev 147 670 (some (.ref a) :: ls) (st) h r ↔ Ev 147 671 (some (.ref a) :: ls) (.ref a :: st) h r := ev_aload_n iL_law_670 rfl rfl
theorem eL_law_670n : Ev 147 670 (some (.null) :: ls) (st) h r ↔ Ev 147 671 (some (.null) :: ls) (.null :: st) h r := ev_aload_n iL_law_670 rfl rfl
theorem eL_law_670t : Ev 147 670 (some (tkv o1) :: ls) (st) h r ↔ Ev 147 671 (some (tkv o1) :: ls) (tkv o1 :: st) h r := ev_aload_n iL_law_670 rfl tkv_r
theorem eL_law_670s : Ev 147 670 (some (sgv o1) :: ls) (st) h r ↔ Ev 147 671 (some (sgv o1) :: ls) (sgv o1 :: st) h r := ev_aload_n iL_law_670 rfl sgv_r
theorem eL_law_670c : Ev 147 670 (some (cdv o1) :: ls) (st) h r ↔ Ev 147 671 (some (cdv o1) :: ls) (cdv o1 :: st) h r := ev_aload_n iL_law_670 rfl cdv_r
theorem iL_law_671 : mn_ins 147 671 = some (9, false, .iload 4, 2) := by decide +kernel
theorem eL_law_671 : Ev 147 671 (a0 :: a1 :: a2 :: a3 :: some (.int x) :: ls) (st) h r ↔ Ev 147 673 (a0 :: a1 :: a2 :: a3 :: some (.int x) :: ls) (.int x :: st) h r := ev_iload iL_law_671 rfl
theorem iL_law_673 : mn_ins 147 673 = some (9, false, .iconst 2, 1) := by decide +kernel
theorem eL_law_673 : Ev 147 673 (ls) (st) h r ↔ Ev 147 674 (ls) (.int (nI 2) :: st) h r := ev_iconst iL_law_673 (by decide)
theorem iL_law_674 : mn_ins 147 674 = some (9, false, .iadd, 1) := by decide +kernel
theorem eL_law_674 : Ev 147 674 (ls) (.int y :: .int x :: st) h r ↔ Ev 147 675 (ls) (.int (x + y) :: st) h r := ev_iadd iL_law_674
theorem iL_law_675 : mn_ins 147 675 = some (9, false, .iaload, 1) := by decide +kernel
theorem eL_law_675 : Ev 147 675 (ls) (.int x :: .ref a :: st) h r ↔ Evk 147 676 ls (mn_al h a 0 x) st h r := ev_iald iL_law_675
theorem iL_law_676 : mn_ins 147 676 = some (9, false, .invokevirtual 105, 3) := by decide +kernel
theorem eL_law_676 : Ev 147 676 (ls) (.int x1 :: .int x0 :: .ref b :: st) h r ↔ Evr true (decide (mn_cats st ≤ 8) && mn_isc h b 8) 147 676 ls st h.2.2.1 h.2.2.2 (Cl 133 (.ref b :: [.int x0, .int x1]) h.1 h.2.1) r := Ev_V (As := [.int x0, .int x1]) iL_law_676 (by decide +kernel) (x := mnI_L_law) (x2 := mnI_X8_print) rfl rfl rfl (by decide +kernel) (Nat.le_of_ble_eq_true rfl) rfl
theorem iL_law_679 : mn_ins 147 679 = some (9, false, .lstore 6, 2) := by decide +kernel
theorem eL_law_679 : Ev 147 679 (a0 :: a1 :: a2 :: a3 :: a4 :: a5 :: a6 :: a7 :: ls) (.long u :: st) h r ↔ Ev 147 681 (a0 :: a1 :: a2 :: a3 :: a4 :: mn_k a5 :: some (.long u) :: none :: ls) (st) h r := ev_lstore iL_law_679 (by show 7 < _; simp only [List.length_cons]; omega)
theorem iL_law_681 : mn_ins 147 681 = some (9, false, .aload_n 2, 1) := by decide +kernel
theorem eL_law_681 : Ev 147 681 (a0 :: a1 :: some (.ref a) :: ls) (st) h r ↔ Ev 147 682 (a0 :: a1 :: some (.ref a) :: ls) (.ref a :: st) h r := ev_aload_n iL_law_681 rfl rfl
theorem eL_law_681n : Ev 147 681 (a0 :: a1 :: some (.null) :: ls) (st) h r ↔ Ev 147 682 (a0 :: a1 :: some (.null) :: ls) (.null :: st) h r := ev_aload_n iL_law_681 rfl rfl
theorem eL_law_681t : Ev 147 681 (a0 :: a1 :: some (tkv o1) :: ls) (st) h r ↔ Ev 147 682 (a0 :: a1 :: some (tkv o1) :: ls) (tkv o1 :: st) h r := ev_aload_n iL_law_681 rfl tkv_r
theorem eL_law_681s : Ev 147 681 (a0 :: a1 :: some (sgv o1) :: ls) (st) h r ↔ Ev 147 682 (a0 :: a1 :: some (sgv o1) :: ls) (sgv o1 :: st) h r := ev_aload_n iL_law_681 rfl sgv_r
theorem eL_law_681c : Ev 147 681 (a0 :: a1 :: some (cdv o1) :: ls) (st) h r ↔ Ev 147 682 (a0 :: a1 :: some (cdv o1) :: ls) (cdv o1 :: st) h r := ev_aload_n iL_law_681 rfl cdv_r
theorem iL_law_682 : mn_ins 147 682 = some (9, false, .invokevirtual 60, 3) := by decide +kernel
theorem eL_law_682 : Ev 147 682 (ls) (.ref b :: st) h r ↔ Evr true (decide (mn_cats st ≤ 8) && mn_isc h b 8) 147 682 ls st h.2.2.1 h.2.2.2 (Cl 85 (.ref b :: []) h.1 h.2.1) r := Ev_V (As := []) iL_law_682 (by decide +kernel) (x := mnI_L_law) (x2 := mnI_X8_thrown) rfl rfl rfl (by decide +kernel) (Nat.le_of_ble_eq_true rfl) rfl
theorem iL_law_685 : mn_ins 147 685 = some (9, false, .iload 5, 2) := by decide +kernel
theorem eL_law_685 : Ev 147 685 (a0 :: a1 :: a2 :: a3 :: a4 :: some (.int x) :: ls) (st) h r ↔ Ev 147 687 (a0 :: a1 :: a2 :: a3 :: a4 :: some (.int x) :: ls) (.int x :: st) h r := ev_iload iL_law_685 rfl
theorem iL_law_687 : mn_ins 147 687 = some (9, false, .if_icmp .eq 5, 3) := by decide +kernel
theorem eL_law_687 : Ev 147 687 (ls) (.int y :: .int x :: st) h r ↔ if x = y then Ev 147 692 (ls) (st) h r else Ev 147 690 (ls) (st) h r := ev_cmpeq iL_law_687 (by decide)
theorem iL_law_690 : mn_ins 147 690 = some (9, false, .iconst 0, 1) := by decide +kernel
theorem eL_law_690 : Ev 147 690 (ls) (st) h r ↔ Ev 147 691 (ls) (.int (nI 0) :: st) h r := ev_iconst iL_law_690 (by decide)
theorem iL_law_691 : mn_ins 147 691 = some (9, false, .ireturn, 1) := by decide +kernel
theorem eL_law_691 (hx : x = 0 ∨ x = 1) : Ev 147 691 (ls) [.int x] h r ↔ r = (h, .inl (some (.int x))) := ev_zret iL_law_691 (X := mnI_L_law) rfl rfl hx
theorem iL_law_692 : mn_ins 147 692 = some (9, false, .iload 5, 2) := by decide +kernel
theorem eL_law_692 : Ev 147 692 (a0 :: a1 :: a2 :: a3 :: a4 :: some (.int x) :: ls) (st) h r ↔ Ev 147 694 (a0 :: a1 :: a2 :: a3 :: a4 :: some (.int x) :: ls) (.int x :: st) h r := ev_iload iL_law_692 rfl
theorem iL_law_694 : mn_ins 147 694 = some (9, false, .ifCond .ne 14, 3) := by decide +kernel
theorem eL_law_694 : Ev 147 694 (ls) (.int x :: st) h r ↔ if x = nI 0 then Ev 147 697 (ls) (st) h r else Ev 147 708 (ls) (st) h r := ev_ifne iL_law_694 (by decide)
theorem iL_law_697 : mn_ins 147 697 = some (9, false, .aload_n 3, 1) := by decide +kernel
theorem eL_law_697 : Ev 147 697 (a0 :: a1 :: a2 :: some (.ref a) :: ls) (st) h r ↔ Ev 147 698 (a0 :: a1 :: a2 :: some (.ref a) :: ls) (.ref a :: st) h r := ev_aload_n iL_law_697 rfl rfl
theorem eL_law_697n : Ev 147 697 (a0 :: a1 :: a2 :: some (.null) :: ls) (st) h r ↔ Ev 147 698 (a0 :: a1 :: a2 :: some (.null) :: ls) (.null :: st) h r := ev_aload_n iL_law_697 rfl rfl
theorem eL_law_697t : Ev 147 697 (a0 :: a1 :: a2 :: some (tkv o1) :: ls) (st) h r ↔ Ev 147 698 (a0 :: a1 :: a2 :: some (tkv o1) :: ls) (tkv o1 :: st) h r := ev_aload_n iL_law_697 rfl tkv_r
theorem eL_law_697s : Ev 147 697 (a0 :: a1 :: a2 :: some (sgv o1) :: ls) (st) h r ↔ Ev 147 698 (a0 :: a1 :: a2 :: some (sgv o1) :: ls) (sgv o1 :: st) h r := ev_aload_n iL_law_697 rfl sgv_r
theorem eL_law_697c : Ev 147 697 (a0 :: a1 :: a2 :: some (cdv o1) :: ls) (st) h r ↔ Ev 147 698 (a0 :: a1 :: a2 :: some (cdv o1) :: ls) (cdv o1 :: st) h r := ev_aload_n iL_law_697 rfl cdv_r
theorem iL_law_698 : mn_ins 147 698 = some (9, false, .iconst 0, 1) := by decide +kernel
theorem eL_law_698 : Ev 147 698 (ls) (st) h r ↔ Ev 147 699 (ls) (.int (nI 0) :: st) h r := ev_iconst iL_law_698 (by decide)
theorem iL_law_699 : mn_ins 147 699 = some (9, false, .laload, 1) := by decide +kernel
theorem eL_law_699 : Ev 147 699 (ls) (.int x :: .ref a :: st) h r ↔ Evk 147 700 ls (mn_al h a 1 x) st h r := ev_lald iL_law_699
theorem iL_law_700 : mn_ins 147 700 = some (9, false, .lload 6, 2) := by decide +kernel
theorem eL_law_700 : Ev 147 700 (a0 :: a1 :: a2 :: a3 :: a4 :: a5 :: some (.long u) :: ls) (st) h r ↔ Ev 147 702 (a0 :: a1 :: a2 :: a3 :: a4 :: a5 :: some (.long u) :: ls) (.long u :: st) h r := ev_lload iL_law_700 rfl
theorem iL_law_702 : mn_ins 147 702 = some (9, false, .lcmp, 1) := by decide +kernel
theorem eL_law_702 : Ev 147 702 (ls) (.long v :: .long u :: st) h r ↔ Ev 147 703 (ls) (.int (lg_cmp u v) :: st) h r := ev_lcmp iL_law_702
theorem iL_law_703 : mn_ins 147 703 = some (9, false, .ifCond .eq 5, 3) := by decide +kernel
theorem eL_law_703 : Ev 147 703 (ls) (.int x :: st) h r ↔ if x = nI 0 then Ev 147 708 (ls) (st) h r else Ev 147 706 (ls) (st) h r := ev_ifeq iL_law_703 (by decide)
theorem iL_law_706 : mn_ins 147 706 = some (9, false, .iconst 0, 1) := by decide +kernel
theorem eL_law_706 : Ev 147 706 (ls) (st) h r ↔ Ev 147 707 (ls) (.int (nI 0) :: st) h r := ev_iconst iL_law_706 (by decide)
theorem iL_law_707 : mn_ins 147 707 = some (9, false, .ireturn, 1) := by decide +kernel
theorem eL_law_707 (hx : x = 0 ∨ x = 1) : Ev 147 707 (ls) [.int x] h r ↔ r = (h, .inl (some (.int x))) := ev_zret iL_law_707 (X := mnI_L_law) rfl rfl hx
theorem iL_law_708 : mn_ins 147 708 = some (9, false, .goto 28, 3) := by decide +kernel
theorem eL_law_708 : Ev 147 708 (ls) (st) h r ↔ Ev 147 736 (ls) (st) h r := ev_goto iL_law_708 (by decide)
theorem iL_law_711 : mn_ins 147 711 = some (9, false, .aload_n 1, 1) := by decide +kernel
theorem eL_law_711 : Ev 147 711 (a0 :: some (.ref a) :: ls) (st) h r ↔ Ev 147 712 (a0 :: some (.ref a) :: ls) (.ref a :: st) h r := ev_aload_n iL_law_711 rfl rfl
theorem eL_law_711n : Ev 147 711 (a0 :: some (.null) :: ls) (st) h r ↔ Ev 147 712 (a0 :: some (.null) :: ls) (.null :: st) h r := ev_aload_n iL_law_711 rfl rfl
theorem eL_law_711t : Ev 147 711 (a0 :: some (tkv o1) :: ls) (st) h r ↔ Ev 147 712 (a0 :: some (tkv o1) :: ls) (tkv o1 :: st) h r := ev_aload_n iL_law_711 rfl tkv_r
theorem eL_law_711s : Ev 147 711 (a0 :: some (sgv o1) :: ls) (st) h r ↔ Ev 147 712 (a0 :: some (sgv o1) :: ls) (sgv o1 :: st) h r := ev_aload_n iL_law_711 rfl sgv_r
theorem eL_law_711c : Ev 147 711 (a0 :: some (cdv o1) :: ls) (st) h r ↔ Ev 147 712 (a0 :: some (cdv o1) :: ls) (cdv o1 :: st) h r := ev_aload_n iL_law_711 rfl cdv_r
theorem iL_law_712 : mn_ins 147 712 = some (9, false, .aload_n 0, 1) := by decide +kernel
theorem eL_law_712 : Ev 147 712 (some (.ref a) :: ls) (st) h r ↔ Ev 147 713 (some (.ref a) :: ls) (.ref a :: st) h r := ev_aload_n iL_law_712 rfl rfl
theorem eL_law_712n : Ev 147 712 (some (.null) :: ls) (st) h r ↔ Ev 147 713 (some (.null) :: ls) (.null :: st) h r := ev_aload_n iL_law_712 rfl rfl
theorem eL_law_712t : Ev 147 712 (some (tkv o1) :: ls) (st) h r ↔ Ev 147 713 (some (tkv o1) :: ls) (tkv o1 :: st) h r := ev_aload_n iL_law_712 rfl tkv_r
theorem eL_law_712s : Ev 147 712 (some (sgv o1) :: ls) (st) h r ↔ Ev 147 713 (some (sgv o1) :: ls) (sgv o1 :: st) h r := ev_aload_n iL_law_712 rfl sgv_r
theorem eL_law_712c : Ev 147 712 (some (cdv o1) :: ls) (st) h r ↔ Ev 147 713 (some (cdv o1) :: ls) (cdv o1 :: st) h r := ev_aload_n iL_law_712 rfl cdv_r
theorem iL_law_713 : mn_ins 147 713 = some (9, false, .iload 4, 2) := by decide +kernel
theorem eL_law_713 : Ev 147 713 (a0 :: a1 :: a2 :: a3 :: some (.int x) :: ls) (st) h r ↔ Ev 147 715 (a0 :: a1 :: a2 :: a3 :: some (.int x) :: ls) (.int x :: st) h r := ev_iload iL_law_713 rfl
theorem iL_law_715 : mn_ins 147 715 = some (9, false, .iconst 1, 1) := by decide +kernel
theorem eL_law_715 : Ev 147 715 (ls) (st) h r ↔ Ev 147 716 (ls) (.int (nI 1) :: st) h r := ev_iconst iL_law_715 (by decide)
theorem iL_law_716 : mn_ins 147 716 = some (9, false, .iadd, 1) := by decide +kernel
theorem eL_law_716 : Ev 147 716 (ls) (.int y :: .int x :: st) h r ↔ Ev 147 717 (ls) (.int (x + y) :: st) h r := ev_iadd iL_law_716
theorem iL_law_717 : mn_ins 147 717 = some (9, false, .iaload, 1) := by decide +kernel
theorem eL_law_717 : Ev 147 717 (ls) (.int x :: .ref a :: st) h r ↔ Evk 147 718 ls (mn_al h a 0 x) st h r := ev_iald iL_law_717
theorem iL_law_718 : mn_ins 147 718 = some (9, false, .invokevirtual 106, 3) := by decide +kernel
theorem eL_law_718 : Ev 147 718 (ls) (.int x0 :: .ref b :: st) h r ↔ Evr true (decide (mn_cats st ≤ 8) && mn_isc h b 7) 147 718 ls st h.2.2.1 h.2.2.2 (Cl 82 (.ref b :: [.int x0]) h.1 h.2.1) r := Ev_V (As := [.int x0]) iL_law_718 (by decide +kernel) (x := mnI_L_law) (x2 := mnI_X7_count) rfl rfl rfl (by decide +kernel) (Nat.le_of_ble_eq_true rfl) rfl
theorem iL_law_721 : mn_ins 147 721 = some (9, false, .aload_n 2, 1) := by decide +kernel
theorem eL_law_721 : Ev 147 721 (a0 :: a1 :: some (.ref a) :: ls) (st) h r ↔ Ev 147 722 (a0 :: a1 :: some (.ref a) :: ls) (.ref a :: st) h r := ev_aload_n iL_law_721 rfl rfl
theorem eL_law_721n : Ev 147 721 (a0 :: a1 :: some (.null) :: ls) (st) h r ↔ Ev 147 722 (a0 :: a1 :: some (.null) :: ls) (.null :: st) h r := ev_aload_n iL_law_721 rfl rfl
theorem eL_law_721t : Ev 147 721 (a0 :: a1 :: some (tkv o1) :: ls) (st) h r ↔ Ev 147 722 (a0 :: a1 :: some (tkv o1) :: ls) (tkv o1 :: st) h r := ev_aload_n iL_law_721 rfl tkv_r
theorem eL_law_721s : Ev 147 721 (a0 :: a1 :: some (sgv o1) :: ls) (st) h r ↔ Ev 147 722 (a0 :: a1 :: some (sgv o1) :: ls) (sgv o1 :: st) h r := ev_aload_n iL_law_721 rfl sgv_r
theorem eL_law_721c : Ev 147 721 (a0 :: a1 :: some (cdv o1) :: ls) (st) h r ↔ Ev 147 722 (a0 :: a1 :: some (cdv o1) :: ls) (cdv o1 :: st) h r := ev_aload_n iL_law_721 rfl cdv_r
theorem iL_law_722 : mn_ins 147 722 = some (9, false, .aload_n 0, 1) := by decide +kernel
theorem eL_law_722 : Ev 147 722 (some (.ref a) :: ls) (st) h r ↔ Ev 147 723 (some (.ref a) :: ls) (.ref a :: st) h r := ev_aload_n iL_law_722 rfl rfl
theorem eL_law_722n : Ev 147 722 (some (.null) :: ls) (st) h r ↔ Ev 147 723 (some (.null) :: ls) (.null :: st) h r := ev_aload_n iL_law_722 rfl rfl
theorem eL_law_722t : Ev 147 722 (some (tkv o1) :: ls) (st) h r ↔ Ev 147 723 (some (tkv o1) :: ls) (tkv o1 :: st) h r := ev_aload_n iL_law_722 rfl tkv_r
theorem eL_law_722s : Ev 147 722 (some (sgv o1) :: ls) (st) h r ↔ Ev 147 723 (some (sgv o1) :: ls) (sgv o1 :: st) h r := ev_aload_n iL_law_722 rfl sgv_r
theorem eL_law_722c : Ev 147 722 (some (cdv o1) :: ls) (st) h r ↔ Ev 147 723 (some (cdv o1) :: ls) (cdv o1 :: st) h r := ev_aload_n iL_law_722 rfl cdv_r
theorem iL_law_723 : mn_ins 147 723 = some (9, false, .iload 4, 2) := by decide +kernel
theorem eL_law_723 : Ev 147 723 (a0 :: a1 :: a2 :: a3 :: some (.int x) :: ls) (st) h r ↔ Ev 147 725 (a0 :: a1 :: a2 :: a3 :: some (.int x) :: ls) (.int x :: st) h r := ev_iload iL_law_723 rfl
theorem iL_law_725 : mn_ins 147 725 = some (9, false, .iconst 1, 1) := by decide +kernel
theorem eL_law_725 : Ev 147 725 (ls) (st) h r ↔ Ev 147 726 (ls) (.int (nI 1) :: st) h r := ev_iconst iL_law_725 (by decide)
theorem iL_law_726 : mn_ins 147 726 = some (9, false, .iadd, 1) := by decide +kernel
theorem eL_law_726 : Ev 147 726 (ls) (.int y :: .int x :: st) h r ↔ Ev 147 727 (ls) (.int (x + y) :: st) h r := ev_iadd iL_law_726
theorem iL_law_727 : mn_ins 147 727 = some (9, false, .iaload, 1) := by decide +kernel
theorem eL_law_727 : Ev 147 727 (ls) (.int x :: .ref a :: st) h r ↔ Evk 147 728 ls (mn_al h a 0 x) st h r := ev_iald iL_law_727
theorem iL_law_728 : mn_ins 147 728 = some (9, false, .invokevirtual 109, 3) := by decide +kernel
theorem eL_law_728 : Ev 147 728 (ls) (.int x0 :: .ref b :: st) h r ↔ Evr true (decide (mn_cats st ≤ 8) && mn_isc h b 8) 147 728 ls st h.2.2.1 h.2.2.2 (Cl 134 (.ref b :: [.int x0]) h.1 h.2.1) r := Ev_V (As := [.int x0]) iL_law_728 (by decide +kernel) (x := mnI_L_law) (x2 := mnI_X8_count) rfl rfl rfl (by decide +kernel) (Nat.le_of_ble_eq_true rfl) rfl
theorem iL_law_731 : mn_ins 147 731 = some (9, false, .if_icmp .eq 5, 3) := by decide +kernel
theorem eL_law_731 : Ev 147 731 (ls) (.int y :: .int x :: st) h r ↔ if x = y then Ev 147 736 (ls) (st) h r else Ev 147 734 (ls) (st) h r := ev_cmpeq iL_law_731 (by decide)
theorem iL_law_734 : mn_ins 147 734 = some (9, false, .iconst 0, 1) := by decide +kernel
theorem eL_law_734 : Ev 147 734 (ls) (st) h r ↔ Ev 147 735 (ls) (.int (nI 0) :: st) h r := ev_iconst iL_law_734 (by decide)
theorem iL_law_735 : mn_ins 147 735 = some (9, false, .ireturn, 1) := by decide +kernel
theorem eL_law_735 (hx : x = 0 ∨ x = 1) : Ev 147 735 (ls) [.int x] h r ↔ r = (h, .inl (some (.int x))) := ev_zret iL_law_735 (X := mnI_L_law) rfl rfl hx
theorem iL_law_736 : mn_ins 147 736 = some (9, false, .iinc 4 4, 3) := by decide +kernel
theorem eL_law_736 : Ev 147 736 (a0 :: a1 :: a2 :: a3 :: some (.int x) :: ls) (st) h r ↔ Ev 147 739 (a0 :: a1 :: a2 :: mn_k a3 :: some (.int (x + (nI 4))) :: ls) (st) h r := ev_iinc iL_law_736 rfl (by decide)
theorem iL_law_739 : mn_ins 147 739 = some (9, false, .goto (-716), 3) := by decide +kernel
theorem eL_law_739 : Ev 147 739 (ls) (st) h r ↔ Ev 147 23 (ls) (st) h r := ev_goto iL_law_739 (by decide)
theorem iL_law_742 : mn_ins 147 742 = some (9, false, .iconst 1, 1) := by decide +kernel
theorem eL_law_742 : Ev 147 742 (ls) (st) h r ↔ Ev 147 743 (ls) (.int (nI 1) :: st) h r := ev_iconst iL_law_742 (by decide)
theorem iL_law_743 : mn_ins 147 743 = some (9, false, .ireturn, 1) := by decide +kernel
theorem eL_law_743 (hx : x = 0 ∨ x = 1) : Ev 147 743 (ls) [.int x] h r ↔ r = (h, .inl (some (.int x))) := ev_zret iL_law_743 (X := mnI_L_law) rfl rfl hx
end E_93b_rows
