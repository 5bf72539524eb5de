def mn_flT : Nat → List (Nat × Nat × Nat)
  | 0 => [(9, 0, 0), (15, 0, 1), (18, 1, 3), (32, 1, 0), (40, 0, 3), (50, 0, 2)]
  | 1 => [(9, 1, 0), (15, 1, 1), (19, 1, 2), (22, 1, 3)]
  | 2 => [(9, 2, 0), (15, 2, 1), (18, 2, 2), (22, 2, 3), (26, 2, 4), (64, 1, 3)]
  | 3 => [(11, 3, 0), (17, 3, 1), (20, 3, 2), (24, 3, 3), (30, 3, 4), (37, 3, 5), (45, 3, 7), (49, 3, 6)]
  | 4 => [(9, 4, 0), (15, 4, 2), (19, 4, 1), (23, 4, 3)]
  | 5 => [(12, 5, 1), (18, 5, 2), (22, 5, 0), (26, 5, 8), (30, 5, 10), (34, 5, 11), (37, 5, 9), (40, 5, 3), (43, 5, 4), (46, 5, 5), (49, 5, 6), (52, 5, 7)]
  | 6 => [(11, 6, 1), (17, 6, 2), (22, 6, 3), (29, 6, 4), (33, 6, 0), (41, 6, 5), (49, 5, 4), (52, 6, 6), (55, 6, 7), (58, 6, 8), (72, 5, 1), (102, 5, 6), (103, 5, 11), (139, 5, 7), (153, 5, 0), (167, 5, 3), (170, 5, 2), (174, 5, 9), (178, 5, 5), (184, 5, 8), (190, 5, 10), (197, 3, 2), (217, 4, 3), (221, 4, 4), (227, 4, 2)]
  | 7 => [(10, 7, 0), (21, 7, 1), (61, 3, 7), (83, 3, 2), (86, 3, 3), (89, 3, 5), (115, 6, 1), (119, 5, 4), (133, 6, 7), (140, 6, 2), (148, 5, 5), (151, 5, 8), (155, 5, 0), (158, 5, 6), (159, 5, 3), (164, 6, 5), (174, 5, 11), (184, 5, 7), (190, 5, 2), (200, 6, 8)]
  | 8 => [(9, 8, 3), (13, 8, 4), (17, 8, 5), (20, 8, 6), (23, 8, 7), (26, 8, 8), (29, 8, 10), (33, 8, 14), (36, 8, 15), (39, 8, 16), (42, 8, 17), (45, 8, 18), (48, 8, 19), (51, 8, 20), (54, 8, 21), (57, 8, 22), (61, 8, 23), (64, 8, 24), (67, 8, 25), (70, 8, 26), (73, 8, 27), (76, 8, 28), (79, 8, 29), (82, 8, 30), (85, 8, 31), (88, 8, 32), (91, 8, 33), (94, 8, 0), (97, 8, 9), (101, 8, 1), (108, 8, 2), (144, 8, 11), (147, 8, 12), (150, 8, 13)]
  | _ => []
def mn_flw (o : Nat) (q : Nat × Nat × Nat) : Cond := .fieldLink (mn_own o) q.1 (mn_T q.2.1 q.2.2).1 (mn_T q.2.1 q.2.2).2.1 (mn_T q.2.1 q.2.2).2.2.1
theorem mn_flW_0 : (mn_flT 0).map (mn_flw 0) = [85, 86, 109, 105, 88, 87].filterMap (fun i => lw_tbl[i]?) ∧ ((mn_flT 0).all (fun q => mn_gw (mn_flw 0 q) && decide (q.2.1 < 9) && decide (q.2.2 < mn_N q.2.1))) = true := by decide +kernel
theorem mn_flW_1 : (mn_flT 1).map (mn_flw 1) = [104, 106, 107, 108].filterMap (fun i => lw_tbl[i]?) ∧ ((mn_flT 1).all (fun q => mn_gw (mn_flw 1 q) && decide (q.2.1 < 9) && decide (q.2.2 < mn_N q.2.1))) = true := by decide +kernel
theorem mn_flW_2 : (mn_flT 2).map (mn_flw 2) = [166, 167, 168, 169, 170, 110].filterMap (fun i => lw_tbl[i]?) ∧ ((mn_flT 2).all (fun q => mn_gw (mn_flw 2 q) && decide (q.2.1 < 9) && decide (q.2.2 < mn_N q.2.1))) = true := by decide +kernel
theorem mn_flW_3 : (mn_flT 3).map (mn_flw 3) = [120, 121, 122, 125, 127, 128, 131, 130].filterMap (fun i => lw_tbl[i]?) ∧ ((mn_flT 3).all (fun q => mn_gw (mn_flw 3 q) && decide (q.2.1 < 9) && decide (q.2.2 < mn_N q.2.1))) = true := by decide +kernel
theorem mn_flW_4 : (mn_flT 4).map (mn_flw 4) = [253, 255, 254, 257].filterMap (fun i => lw_tbl[i]?) ∧ ((mn_flT 4).all (fun q => mn_gw (mn_flw 4 q) && decide (q.2.1 < 9) && decide (q.2.2 < mn_N q.2.1))) = true := by decide +kernel
theorem mn_flW_5 : (mn_flT 5).map (mn_flw 5) = [193, 195, 190, 213, 218, 220, 216, 198, 201, 204, 207, 210].filterMap (fun i => lw_tbl[i]?) ∧ ((mn_flT 5).all (fun q => mn_gw (mn_flw 5 q) && decide (q.2.1 < 9) && decide (q.2.2 < mn_N q.2.1))) = true := by decide +kernel
theorem mn_flW_6 : (mn_flT 6).map (mn_flw 6) = [272, 274, 276, 277, 271, 278, 202, 280, 281, 283, 194, 208, 221, 211, 192, 200, 196, 217, 206, 215, 219, 124, 258, 259, 256].filterMap (fun i => lw_tbl[i]?) ∧ ((mn_flT 6).all (fun q => mn_gw (mn_flw 6 q) && decide (q.2.1 < 9) && decide (q.2.2 < mn_N q.2.1))) = true := by decide +kernel
theorem mn_flW_7 : (mn_flT 7).map (mn_flw 7) = [304, 305, 132, 123, 126, 129, 273, 203, 282, 275, 205, 214, 191, 209, 199, 279, 222, 212, 197, 284].filterMap (fun i => lw_tbl[i]?) ∧ ((mn_flT 7).all (fun q => mn_gw (mn_flw 7 q) && decide (q.2.1 < 9) && decide (q.2.2 < mn_N q.2.1))) = true := by decide +kernel
theorem mn_flW_8 : (mn_flT 8).map (mn_flw 8) = [801, 802, 803, 804, 805, 806, 808, 812, 813, 814, 815, 816, 817, 818, 819, 820, 821, 822, 823, 824, 825, 826, 827, 828, 829, 830, 831, 798, 807, 799, 800, 809, 810, 811].filterMap (fun i => lw_tbl[i]?) ∧ ((mn_flT 8).all (fun q => mn_gw (mn_flw 8 q) && decide (q.2.1 < 9) && decide (q.2.2 < mn_N q.2.1))) = true := by decide +kernel
def mn_slT : Nat → List (Nat × Nat × Bool)
  | 0 => [(57, 1, true), (69, 2, true)]
  | 7 => [(43, 1, false)]
  | _ => []
def mn_sln (k : Nat) : String := if k = 1 then "TAKES" else "PUTS"
def mn_slw (o : Nat) (q : Nat × Nat × Bool) : Cond := if q.2.2 = true then .fieldLinkNest (mn_own o) q.1 RX7 (mn_sln q.2.1) "[I" RX7 else .fieldLink (mn_own o) q.1 RX7 (mn_sln q.2.1) "[I"
theorem mn_slW_0 : (mn_slT 0).map (mn_slw 0) = [348, 354].filterMap (fun i => lw_tbl[i]?) ∧ ((mn_slT 0).all (fun q => mn_gw (mn_slw 0 q) && (decide (q.2.1 = 1) || decide (q.2.1 = 2)))) = true := by decide +kernel
theorem mn_slW_7 : (mn_slT 7).map (mn_slw 7) = [487].filterMap (fun i => lw_tbl[i]?) ∧ ((mn_slT 7).all (fun q => mn_gw (mn_slw 7 q) && (decide (q.2.1 = 1) || decide (q.2.1 = 2)))) = true := by decide +kernel
def mn_mlT : Nat → List (Nat × Nat × Nat)
  | 0 => [(3, 5, 0), (24, 1, 2), (28, 0, 9), (36, 0, 3), (43, 0, 10), (46, 3, 83), (53, 0, 5), (60, 6, 136), (66, 0, 4)]
  | 1 => [(3, 5, 0), (26, 0, 7)]
  | 2 => [(3, 5, 0), (29, 0, 9), (35, 0, 10), (38, 0, 15), (41, 0, 16), (45, 3, 83), (49, 0, 17), (53, 0, 18), (56, 1, 20), (60, 0, 12), (67, 0, 13), (71, 0, 19)]
  | 3 => [(3, 5, 0), (29, 4, 0), (34, 2, 6), (41, 0, 23), (52, 0, 25), (55, 3, 83), (59, 0, 7), (62, 0, 1)]
  | 4 => [(3, 5, 0), (27, 3, 83), (31, 0, 34), (35, 1, 135)]
  | 5 => [(3, 5, 0), (11, 4, 11), (56, 0, 43)]
  | 6 => [(3, 5, 0), (28, 4, 11), (37, 2, 40), (40, 4, 32), (45, 3, 83), (61, 0, 49), (64, 0, 51), (68, 0, 41), (75, 0, 27), (81, 0, 12), (84, 0, 33), (87, 0, 53), (91, 0, 13), (95, 0, 58), (99, 0, 42), (107, 0, 14), (110, 0, 36), (114, 0, 16), (118, 0, 15), (121, 0, 17), (125, 0, 35), (129, 0, 56), (133, 0, 57), (136, 0, 55), (143, 0, 19), (146, 0, 43), (150, 0, 44), (156, 0, 63), (159, 0, 59), (163, 0, 61), (181, 0, 18), (187, 1, 60), (193, 0, 38), (201, 0, 29), (204, 0, 21), (208, 1, 62), (214, 0, 64), (224, 0, 65), (230, 0, 39), (233, 0, 37)]
  | 7 => [(1, 5, 0), (9, 2, 22), (18, 2, 45), (25, 0, 46), (29, 0, 23), (39, 0, 24), (47, 1, 83), (56, 0, 28), (65, 0, 8), (71, 0, 25), (76, 0, 26), (93, 0, 30), (96, 0, 31), (101, 0, 50), (104, 0, 49), (107, 0, 47), (124, 0, 53), (128, 0, 54), (136, 0, 52), (167, 0, 48), (178, 0, 36), (194, 0, 66), (197, 0, 67)]
  | 8 => [(1, 5, 0), (104, 0, 87), (111, 1, 86), (115, 1, 93), (119, 1, 94), (122, 0, 96), (126, 0, 95), (130, 0, 92), (134, 0, 97), (137, 0, 98), (140, 0, 99), (153, 0, 103), (156, 0, 108), (160, 0, 106), (163, 0, 105), (167, 0, 115), (170, 0, 110), (174, 0, 114), (177, 0, 120), (180, 0, 109), (184, 0, 111), (187, 1, 113), (191, 0, 112), (195, 0, 119), (198, 0, 118), (202, 0, 104), (206, 0, 107), (209, 0, 121), (212, 0, 122), (218, 0, 123), (221, 0, 116), (224, 0, 125), (227, 0, 117), (230, 0, 126), (234, 0, 127), (238, 0, 129)]
  | 9 => [(7, 0, 69), (15, 0, 70), (21, 0, 71), (24, 0, 72), (28, 0, 73), (31, 0, 76), (34, 0, 77), (38, 0, 78), (43, 0, 80), (47, 0, 81), (50, 2, 68), (53, 2, 84), (54, 1, 137), (59, 0, 88), (60, 0, 85), (63, 1, 138), (66, 0, 90), (67, 1, 139), (69, 0, 89), (70, 1, 140), (73, 0, 91), (74, 1, 141), (77, 0, 101), (78, 0, 74), (81, 0, 100), (82, 0, 75), (85, 0, 102), (86, 1, 142), (88, 0, 124), (89, 1, 143), (92, 0, 128), (93, 1, 144), (95, 0, 130), (96, 0, 79), (99, 0, 131), (100, 1, 145), (102, 0, 132), (103, 1, 146), (105, 0, 133), (106, 0, 82), (109, 0, 134)]
  | _ => []
def mn_y (M : Nat) : MethodName := ((mn_all[M]?).map (fun x => x.2.1)).getD objectInit
def mn_mlw (o : Nat) (q : Nat × Nat × Nat) : Cond := if q.2.1 = 3 ∨ q.2.1 = 4 then .methodLinkNest (mn_own o) q.1 (mn_y q.2.2) RX7 else if q.2.1 = 5 then .methodLink (mn_own o) q.1 objectInit else .methodLink (mn_own o) q.1 (mn_y q.2.2)
theorem mn_mlW_0 : (mn_mlT 0).map (mn_mlw 0) = [84, 323, 330, 337, 326, 334, 341, 345, 350].filterMap (fun i => lw_tbl[i]?) ∧ ((mn_mlT 0).all (fun q => mn_gw (mn_mlw 0 q) && decide (q.2.2 < mn_all.length))) = true := by decide +kernel
theorem mn_mlW_1 : (mn_mlT 1).map (mn_mlw 1) = [103, 518].filterMap (fun i => lw_tbl[i]?) ∧ ((mn_mlT 1).all (fun q => mn_gw (mn_mlw 1 q) && decide (q.2.2 < mn_all.length))) = true := by decide +kernel
theorem mn_mlW_2 : (mn_mlT 2).map (mn_mlw 2) = [165, 605, 637, 709, 710, 711, 712, 713, 714, 703, 704, 705].filterMap (fun i => lw_tbl[i]?) ∧ ((mn_mlT 2).all (fun q => mn_gw (mn_mlw 2 q) && decide (q.2.2 < mn_all.length))) = true := by decide +kernel
theorem mn_mlW_3 : (mn_mlT 3).map (mn_mlw 3) = [76, 81, 100, 478, 535, 578, 509, 319].filterMap (fun i => lw_tbl[i]?) ∧ ((mn_mlT 3).all (fun q => mn_gw (mn_mlw 3 q) && decide (q.2.2 < mn_all.length))) = true := by decide +kernel
theorem mn_mlW_4 : (mn_mlT 4).map (mn_mlw 4) = [252, 642, 643, 384].filterMap (fun i => lw_tbl[i]?) ∧ ((mn_mlT 4).all (fun q => mn_gw (mn_mlw 4 q) && decide (q.2.2 < mn_all.length))) = true := by decide +kernel
theorem mn_mlW_5 : (mn_mlT 5).map (mn_mlw 5) = [187, 189, 725].filterMap (fun i => lw_tbl[i]?) ∧ ((mn_mlT 5).all (fun q => mn_gw (mn_mlw 5 q) && decide (q.2.2 < mn_all.length))) = true := by decide +kernel
theorem mn_mlW_6 : (mn_mlT 6).map (mn_mlw 6) = [155, 162, 184, 249, 594, 561, 562, 570, 574, 579, 566, 743, 601, 606, 629, 633, 638, 647, 651, 655, 659, 663, 683, 726, 730, 621, 721, 667, 610, 687, 614, 618, 691, 695, 699, 717, 671, 675, 679, 380].filterMap (fun i => lw_tbl[i]?) ∧ ((mn_mlT 6).all (fun q => mn_gw (mn_mlw 6 q) && decide (q.2.2 < mn_all.length))) = true := by decide +kernel
theorem mn_mlW_7 : (mn_mlT 7).map (mn_mlw 7) = [68, 73, 152, 398, 402, 474, 488, 505, 514, 526, 531, 552, 315, 557, 360, 590, 597, 625, 739, 777, 783, 372, 376].filterMap (fun i => lw_tbl[i]?) ∧ ((mn_mlT 7).all (fun q => mn_gw (mn_mlw 7 q) && decide (q.2.2 < mn_all.length))) = true := by decide +kernel
theorem mn_mlW_8 : (mn_mlT 8).map (mn_mlw 8) = [797, 910, 922, 953, 956, 959, 949, 941, 945, 937, 933, 967, 971, 1051, 1035, 987, 991, 995, 1011, 1003, 1039, 1032, 1043, 1055, 1059, 1019, 1047, 1015, 1023, 1028, 983, 999, 1007, 1072, 1068, 1080].filterMap (fun i => lw_tbl[i]?) ∧ ((mn_mlT 8).all (fun q => mn_gw (mn_mlw 8 q) && decide (q.2.2 < mn_all.length))) = true := by decide +kernel
theorem mn_mlW_9 : (mn_mlT 9).map (mn_mlw 9) = [394, 483, 522, 539, 548, 586, 734, 749, 773, 787, 65, 794, 390, 906, 902, 479, 918, 519, 914, 536, 925, 545, 963, 311, 929, 356, 975, 583, 979, 731, 1063, 745, 1076, 364, 1084, 770, 1088, 784, 1092, 368, 1096].filterMap (fun i => lw_tbl[i]?) ∧ ((mn_mlT 9).all (fun q => mn_gw (mn_mlw 9 q) && decide (q.2.2 < mn_all.length))) = true := by decide +kernel
def mn_clT : Nat → List (Nat × Nat)
  | 3 => [(9, 1), (27, 0)]
  | 5 => [(9, 2)]
  | 6 => [(9, 5), (20, 4), (26, 2)]
  | 7 => [(7, 3), (16, 6)]
  | 9 => [(8, 7), (51, 8)]
  | _ => []
def mn_clw (o : Nat) (q : Nat × Nat) : Cond := .classLink (mn_own o) q.1 (mn_own q.2)
theorem mn_clW_3 : (mn_clT 3).map (mn_clw 3) = [77, 79].filterMap (fun i => lw_tbl[i]?) ∧ ((mn_clT 3).all (fun q => mn_gw (mn_clw 3 q) && decide (q.2 < 9))) = true := by decide +kernel
theorem mn_clW_5 : (mn_clT 5).map (mn_clw 5) = [188].filterMap (fun i => lw_tbl[i]?) ∧ ((mn_clT 5).all (fun q => mn_gw (mn_clw 5 q) && decide (q.2 < 9))) = true := by decide +kernel
theorem mn_clW_6 : (mn_clT 6).map (mn_clw 6) = [156, 158, 160].filterMap (fun i => lw_tbl[i]?) ∧ ((mn_clT 6).all (fun q => mn_gw (mn_clw 6 q) && decide (q.2 < 9))) = true := by decide +kernel
theorem mn_clW_7 : (mn_clT 7).map (mn_clw 7) = [71, 150].filterMap (fun i => lw_tbl[i]?) ∧ ((mn_clT 7).all (fun q => mn_gw (mn_clw 7 q) && decide (q.2 < 9))) = true := by decide +kernel
theorem mn_clW_9 : (mn_clT 9).map (mn_clw 9) = [63, 792].filterMap (fun i => lw_tbl[i]?) ∧ ((mn_clT 9).all (fun q => mn_gw (mn_clw 9 q) && decide (q.2 < 9))) = true := by decide +kernel
def mn_kcT : Nat → List (Nat × Int32)
  | 7 => [(139, 1103515245)]
  | 8 => [(233, 1103515245)]
  | 10 => [(265, 1431655765), (266, 858993459), (267, 252645135)]
  | _ => []
def mn_kcw (o : Nat) (q : Nat × Int32) : Cond := .constant (mn_own o) q.1 q.2
theorem mn_kcW_7 : (mn_kcT 7).map (mn_kcw 7) = [744].filterMap (fun i => lw_tbl[i]?) ∧ ((mn_kcT 7).all (fun q => mn_gw (mn_kcw 7 q))) = true := by decide +kernel
theorem mn_kcW_8 : (mn_kcT 8).map (mn_kcw 8) = [1067].filterMap (fun i => lw_tbl[i]?) ∧ ((mn_kcT 8).all (fun q => mn_gw (mn_kcw 8 q))) = true := by decide +kernel
theorem mn_kcW_10 : (mn_kcT 10).map (mn_kcw 10) = [387, 388, 389].filterMap (fun i => lw_tbl[i]?) ∧ ((mn_kcT 10).all (fun q => mn_gw (mn_kcw 10 q))) = true := by decide +kernel
def mn_klT : Nat → List (Nat × Int64)
  | 6 => [(212, -1)]
  | 8 => [(216, -1)]
  | _ => []
def mn_klw (o : Nat) (q : Nat × Int64) : Cond := .constantLong (mn_own o) q.1 q.2
theorem mn_klW_6 : (mn_klT 6).map (mn_klw 6) = [720].filterMap (fun i => lw_tbl[i]?) ∧ ((mn_klT 6).all (fun q => mn_gw (mn_klw 6 q))) = true := by decide +kernel
theorem mn_klW_8 : (mn_klT 8).map (mn_klw 8) = [1027].filterMap (fun i => lw_tbl[i]?) ∧ ((mn_klT 8).all (fun q => mn_gw (mn_klw 8 q))) = true := by decide +kernel
theorem mn_uw_of {α : Type} {L : List α} {f : α → Cond} {ps : List Nat} {g : α → Bool} (h : L.map f = ps.filterMap (fun i => lw_tbl[i]?) ∧ (L.all (fun q => mn_gw (f q) && g q)) = true) : ∀ q ∈ L, f q ∈ mn_uw ∧ g q = true := by
  intro q hq
  have h1 := List.all_eq_true.mp h.2 q hq
  rw [Bool.and_eq_true] at h1
  have h2 : f q ∈ ps.filterMap (fun i => lw_tbl[i]?) := h.1 ▸ List.mem_map_of_mem hq
  obtain ⟨i, -, hi⟩ := List.mem_filterMap.mp h2
  exact ⟨List.mem_filter.mpr ⟨List.mem_of_getElem? hi, h1.1⟩, h1.2⟩
theorem mn_uw_of1 {α : Type} {L : List α} {f : α → Cond} {ps : List Nat} (h : L.map f = ps.filterMap (fun i => lw_tbl[i]?) ∧ (L.all (fun q => mn_gw (f q))) = true) : ∀ q ∈ L, f q ∈ mn_uw := fun q hq => (mn_uw_of (g := fun _ => true) ⟨h.1, by simpa using h.2⟩ q hq).1
theorem mn_lk {α : Type} {L : List (Nat × α)} {i : Nat} {x : α} (h : L.lookup i = some x) : (i, x) ∈ L := by
  induction L with
  | nil => cases h
  | cons q t ih =>
    obtain ⟨j, y⟩ := q
    rw [List.lookup_cons] at h
    by_cases e : i = j
    · subst e
      simp at h
      subst h
      exact List.mem_cons_self
    · have e' : (i == j) = false := by simpa using e
      rw [e'] at h
      exact List.mem_cons_of_mem _ (ih h)
theorem mn_fl_in : ∀ (o : Nat) (q : Nat × Nat × Nat), q ∈ mn_flT o → mn_flw o q ∈ mn_uw ∧ (decide (q.2.1 < 9) && decide (q.2.2 < mn_N q.2.1)) = true
  | 0, q, h => mn_uw_of mn_flW_0 q h
  | 1, q, h => mn_uw_of mn_flW_1 q h
  | 2, q, h => mn_uw_of mn_flW_2 q h
  | 3, q, h => mn_uw_of mn_flW_3 q h
  | 4, q, h => mn_uw_of mn_flW_4 q h
  | 5, q, h => mn_uw_of mn_flW_5 q h
  | 6, q, h => mn_uw_of mn_flW_6 q h
  | 7, q, h => mn_uw_of mn_flW_7 q h
  | 8, q, h => mn_uw_of mn_flW_8 q h
  | 9, q, h => nomatch h
  | 10, q, h => nomatch h
  | 11, q, h => nomatch h
  | _ + 12, q, h => nomatch h
theorem mn_sl_in : ∀ (o : Nat) (q : Nat × Nat × Bool), q ∈ mn_slT o → mn_slw o q ∈ mn_uw ∧ (decide (q.2.1 = 1) || decide (q.2.1 = 2)) = true
  | 0, q, h => mn_uw_of mn_slW_0 q h
  | 1, q, h => nomatch h
  | 2, q, h => nomatch h
  | 3, q, h => nomatch h
  | 4, q, h => nomatch h
  | 5, q, h => nomatch h
  | 6, q, h => nomatch h
  | 7, q, h => mn_uw_of mn_slW_7 q h
  | 8, q, h => nomatch h
  | 9, q, h => nomatch h
  | 10, q, h => nomatch h
  | 11, q, h => nomatch h
  | _ + 12, q, h => nomatch h
theorem mn_ml_in : ∀ (o : Nat) (q : Nat × Nat × Nat), q ∈ mn_mlT o → mn_mlw o q ∈ mn_uw ∧ decide (q.2.2 < mn_all.length) = true
  | 0, q, h => mn_uw_of mn_mlW_0 q h
  | 1, q, h => mn_uw_of mn_mlW_1 q h
  | 2, q, h => mn_uw_of mn_mlW_2 q h
  | 3, q, h => mn_uw_of mn_mlW_3 q h
  | 4, q, h => mn_uw_of mn_mlW_4 q h
  | 5, q, h => mn_uw_of mn_mlW_5 q h
  | 6, q, h => mn_uw_of mn_mlW_6 q h
  | 7, q, h => mn_uw_of mn_mlW_7 q h
  | 8, q, h => mn_uw_of mn_mlW_8 q h
  | 9, q, h => mn_uw_of mn_mlW_9 q h
  | 10, q, h => nomatch h
  | 11, q, h => nomatch h
  | _ + 12, q, h => nomatch h
theorem mn_cl_in : ∀ (o : Nat) (q : Nat × Nat), q ∈ mn_clT o → mn_clw o q ∈ mn_uw ∧ decide (q.2 < 9) = true
  | 0, q, h => nomatch h
  | 1, q, h => nomatch h
  | 2, q, h => nomatch h
  | 3, q, h => mn_uw_of mn_clW_3 q h
  | 4, q, h => nomatch h
  | 5, q, h => mn_uw_of mn_clW_5 q h
  | 6, q, h => mn_uw_of mn_clW_6 q h
  | 7, q, h => mn_uw_of mn_clW_7 q h
  | 8, q, h => nomatch h
  | 9, q, h => mn_uw_of mn_clW_9 q h
  | 10, q, h => nomatch h
  | 11, q, h => nomatch h
  | _ + 12, q, h => nomatch h
theorem mn_kc_in : ∀ (o : Nat) (q : Nat × Int32), q ∈ mn_kcT o → mn_kcw o q ∈ mn_uw
  | 0, q, h => nomatch h
  | 1, q, h => nomatch h
  | 2, q, h => nomatch h
  | 3, q, h => nomatch h
  | 4, q, h => nomatch h
  | 5, q, h => nomatch h
  | 6, q, h => nomatch h
  | 7, q, h => mn_uw_of1 mn_kcW_7 q h
  | 8, q, h => mn_uw_of1 mn_kcW_8 q h
  | 9, q, h => nomatch h
  | 10, q, h => mn_uw_of1 mn_kcW_10 q h
  | 11, q, h => nomatch h
  | _ + 12, q, h => nomatch h
theorem mn_kl_in : ∀ (o : Nat) (q : Nat × Int64), q ∈ mn_klT o → mn_klw o q ∈ mn_uw
  | 0, q, h => nomatch h
  | 1, q, h => nomatch h
  | 2, q, h => nomatch h
  | 3, q, h => nomatch h
  | 4, q, h => nomatch h
  | 5, q, h => nomatch h
  | 6, q, h => mn_uw_of1 mn_klW_6 q h
  | 7, q, h => nomatch h
  | 8, q, h => mn_uw_of1 mn_klW_8 q h
  | 9, q, h => nomatch h
  | 10, q, h => nomatch h
  | 11, q, h => nomatch h
  | _ + 12, q, h => nomatch h
def mn_fl (o idx : Nat) : Option (Nat × Nat) := (mn_flT o).lookup idx
def mn_sl (o idx : Nat) : Option (Nat × Bool) := (mn_slT o).lookup idx
def mn_ml (o idx : Nat) : Option (Nat × Nat) := (mn_mlT o).lookup idx
def mn_cl (o idx : Nat) : Option (Nat) := (mn_clT o).lookup idx
def mn_kc (o idx : Nat) : Option (Int32) := (mn_kcT o).lookup idx
def mn_kl (o idx : Nat) : Option (Int64) := (mn_klT o).lookup idx
