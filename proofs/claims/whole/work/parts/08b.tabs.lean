def mn_hh : Nat → List (Nat × Nat × Nat × Nat)
  | 137 => [(0, 8, 11, 13)]
  | 138 => [(0, 10, 13, 19), (0, 10, 17, 13)]
  | 139 => [(0, 8, 11, 13)]
  | 140 => [(0, 7, 10, 19), (0, 7, 14, 13)]
  | 141 => [(0, 4, 7, 19)]
  | 142 => [(0, 10, 13, 13), (0, 10, 17, 19)]
  | 143 => [(0, 9, 12, 13)]
  | 144 => [(0, 10, 13, 41), (0, 10, 17, 19)]
  | 145 => [(0, 9, 12, 41), (0, 9, 16, 19)]
  | 146 => [(0, 9, 12, 41)]
  | _ => []
def mn_txT : List (Nat × String) := [(34, "no block can begin"), (53, "no such operation"), (59, "no instruction can come"), (74, "no merge can begin"), (79, "no such cell, kind or merge"), (81, "a run has begun"), (99, "the program cannot run"), (111, "no such task runs"), (113, "no such number of steps"), (131, "nothing runs"), (145, "no such task"), (162, "no such what"), (170, "no such task, or it was joined"), (172, "no such cell"), (188, "no such print or result")]
def mn_stat (M : Nat) : Bool := [2, 20, 60, 62, 83, 86, 93, 94, 113, 135, 136, 137, 138, 139, 140, 141, 142, 143, 144, 145, 146, 147].contains M
def mn_nl (M : Nat) : Bool := !(M == 147) && !(M == 136)
theorem mn_txW : (mn_txT.map (fun q => Cond.stringRef RX7 q.1 q.2)) = [447, 498, 513, 530, 543, 544, 556, 595, 596, 738, 762, 769, 781, 782, 791].filterMap (fun i => lw_tbl[i]?) := by decide +kernel
theorem mnC_min : Cond.code Lib.Math.min.name Lib.Math.min.code 2 (some .int) ∈ mn_uw := List.mem_filter.mpr ⟨List.mem_of_getElem? (i := 347) rfl, rfl⟩
