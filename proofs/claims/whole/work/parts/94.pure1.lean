/-! bytes -/
def byt (x : Int32) : Prop := ∃ j : Nat, j < 256 ∧ x = nI j
def bytM (g : Nat → Int32) : Prop := ∀ j : Nat, j < 256 → byt (g j)
theorem byt_and {x : Int32} (h : byt x) : x &&& 255 = x := by
  obtain ⟨j, hj, rfl⟩ := h
  rw [show nI j &&& 255 = nI (j % 2 ^ 8) from pk_andN (by omega) 8 (by decide), Nat.mod_eq_of_lt (by omega)]
theorem byt_m (x : Int32) : byt (x &&& 255) := pk_andE x 8 (by decide)
theorem byt_rd {g : Nat → Int32} (h : bytM g) (a : Int32) : byt (rd g a) := by
  obtain ⟨j, hj, e⟩ := ix_ex a
  rw [rd, e, nI_clamp (by omega)]; exact h j hj
theorem byt_wr {g : Nat → Int32} (h : bytM g) (a v : Int32) : bytM (wr g a v) := by
  intro j hj
  rw [wr]
  by_cases q : j = (a &&& 255).toNatClampNeg
  · rw [q, pk_us]; exact byt_m v
  · rw [pk_un q]; exact h j hj
theorem byt_in {x : Int32} (h : byt x) : vp_in x 256 := by
  obtain ⟨j, hj, rfl⟩ := h; exact vp_in_nI hj (by decide)
theorem byt_isB {x : Int32} (h : byt x) : isByteB x = true := by
  obtain ⟨j, hj, rfl⟩ := h; exact byte_nI hj
theorem byt_of {x : Int32} (h : isByteB x = true) : byt x := byte_ex h
theorem byt_c (n : Nat) (h : n < 256) : byt (nI n) := ⟨n, h, rfl⟩
theorem byt_hlv {a : Int32} (h : byt a) : hlvI a = (a / 2) &&& 255 ∧ hlvC a = decide (a - a / 2 * 2 = 1) ∧ byt (hlvI a) := by
  obtain ⟨j, hj, rfl⟩ := h
  have key : ∀ j : Nat, j < 256 → hlvI (nI j) = (nI j / 2) &&& 255 ∧ hlvC (nI j) = decide (nI j - nI j / 2 * 2 = 1) := by decide +kernel
  exact ⟨(key j hj).1, (key j hj).2, by rw [(key j hj).1]; exact byt_m _⟩
theorem byt_dbl {a : Int32} (h : byt a) : dblC a = decide (¬ a ≤ 127) := by
  obtain ⟨j, hj, rfl⟩ := h
  have key : ∀ j : Nat, j < 256 → dblC (nI j) = decide (¬ nI j ≤ 127) := by decide +kernel
  exact key j hj
theorem byt_and2 {a n : Int32} (hn : byt n) : (a &&& n) &&& 255 = a &&& n := by
  rw [Int32.and_assoc, byt_and hn]
