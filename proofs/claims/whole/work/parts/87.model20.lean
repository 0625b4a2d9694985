theorem rd_byte {g : Nat → Int32} {a : Int32} (h : isByteB a = true) : rd g a = g a.toNatClampNeg := by
  obtain ⟨j, hj, rfl⟩ := byte_ex h
  rw [rd, show nI j &&& 255 = nI (j % 2 ^ 8) from pk_andN (by omega) 8 (by decide), Nat.mod_eq_of_lt (by omega)]
