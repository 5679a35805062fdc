theorem cmdv_z {adE : Nat → Nat} {x : Int32} (h : x = 0) : cmdv adE x = .null := by unfold cmdv; rw [if_pos h]
