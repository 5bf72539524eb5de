/-! rules that came later -/
theorem mn_r3_of {a : Nat} (h : 3 ≤ a) : mn_r3 (some a) = true := by simp [mn_r3, h]
theorem ev_lsw {M pc o : Nat} {ini : Bool} {ls : List (Option Value)} {st : List Value} {h : mn_S} {r : mn_Res} {off dflt : Int} {x : Int32} {ps : Array (Int × Int)} {len t : Nat} (hI : mn_ins M pc = some (o, ini, .lookupswitch dflt ps, len)) (hs : (ps.toList.zip (ps.toList.drop 1)).all (fun (a, next) => a.1 < next.1) = true) (ho : Op.lookupswitch.offset ps.toList dflt x.toInt = off) (ht : 0 ≤ (pc : Int) + off ∧ mn_to pc off = t) : Ev M pc ls (.int x :: st) h r ↔ Ev M t ls st h r := by
  rw [← ht.2]
  refine Ev_S hI ?_
  simp only [mn_step]
  rw [if_pos ⟨hs, by rw [ho]; exact ht.1⟩, ho]
