theorem no01 {m : Int32} (h : ¬ m < 0) (a : ¬ m = 0) (b : ¬ m = 1) : ¬ m ≤ 1 := by
  intro q
  rw [Int32.lt_iff_toInt_lt] at h
  rw [Int32.le_iff_toInt_le] at q
  have e0 : (0 : Int32).toInt = 0 := by decide
  have e1 : (1 : Int32).toInt = 1 := by decide
  have h0 : m.toInt ≠ 0 := fun e => a (Int32.toInt_inj.mp (e.trans e0.symm))
  have h1 : m.toInt ≠ 1 := fun e => b (Int32.toInt_inj.mp (e.trans e1.symm))
  omega
theorem byte_ex {a : Int32} (h : isByteB a = true) : ∃ j : Nat, j < 256 ∧ a = nI j := vp_in_of (isByte_in h) (by decide)
theorem inb_0 {a : Int32} (h : isByteB a = true) : vp_in (0 + a) 512 := by
  obtain ⟨j, hj, rfl⟩ := byte_ex h
  rw [show (0 : Int32) + nI j = nI (0 + j) from nI_add 0 j]
  exact vp_in_nI (by omega) (by decide)
theorem inb_1 {a : Int32} (h : isByteB a = true) : vp_in (256 + a) 512 := by
  obtain ⟨j, hj, rfl⟩ := byte_ex h
  rw [show (256 : Int32) + nI j = nI (256 + j) from nI_add 256 j]
  exact vp_in_nI (by omega) (by decide)
theorem mmb_0 {a : Int32} (g k : Nat → Int32) (h : isByteB a = true) : mm2 g k (0 + a).toNatClampNeg = g a.toNatClampNeg := by
  obtain ⟨j, hj, rfl⟩ := byte_ex h
  rw [show (0 : Int32) + nI j = nI (0 + j) from nI_add 0 j, nI_clamp (by omega), nI_clamp (by omega), mm2, if_pos (by omega), Nat.zero_add]
theorem mmb_1 {a : Int32} (g k : Nat → Int32) (h : isByteB a = true) : mm2 g k (256 + a).toNatClampNeg = k a.toNatClampNeg := by
  obtain ⟨j, hj, rfl⟩ := byte_ex h
  rw [show (256 : Int32) + nI j = nI (256 + j) from nI_add 256 j, nI_clamp (by omega), nI_clamp (by omega), mm2, if_neg (by omega), if_pos (by omega), Nat.add_sub_cancel_left]
