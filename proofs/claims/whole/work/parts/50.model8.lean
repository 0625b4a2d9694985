/-! the reference's arrays, told apart: registers of both machines, two memories in one, pairs -/
def rg6 (a x d r s t : Int32) : Nat → Int32 := fun j => match j with
  | 0 => a
  | 1 => x
  | 2 => d
  | 3 => r
  | 4 => s
  | 5 => t
  | _ => 0
def p2 (a b : Int32) : Nat → Int32 := fun j => match j with
  | 0 => a
  | 1 => b
  | _ => 0
def mm2 (g h : Nat → Int32) : Nat → Int32 := fun j => if j < 256 then g j else if j < 512 then h (j - 256) else 0
section U
variable {a x d r s t v : Int32}
theorem rg_0 : upd (rg6 a x d r s t) 0 v = rg6 v x d r s t := by
  funext j; match j with
  | 0 => rfl
  | 1 => rfl
  | 2 => rfl
  | 3 => rfl
  | 4 => rfl
  | 5 => rfl
  | n + 6 => rfl
theorem rg_1 : upd (rg6 a x d r s t) 1 v = rg6 a v d r s t := by
  funext j; match j with
  | 0 => rfl
  | 1 => rfl
  | 2 => rfl
  | 3 => rfl
  | 4 => rfl
  | 5 => rfl
  | n + 6 => rfl
theorem rg_3 : upd (rg6 a x d r s t) 3 v = rg6 a x d v s t := by
  funext j; match j with
  | 0 => rfl
  | 1 => rfl
  | 2 => rfl
  | 3 => rfl
  | 4 => rfl
  | 5 => rfl
  | n + 6 => rfl
theorem rg_4 : upd (rg6 a x d r s t) 4 v = rg6 a x d r v t := by
  funext j; match j with
  | 0 => rfl
  | 1 => rfl
  | 2 => rfl
  | 3 => rfl
  | 4 => rfl
  | 5 => rfl
  | n + 6 => rfl
theorem rg_5 : upd (rg6 a x d r s t) 5 v = rg6 a x d r s v := by
  funext j; match j with
  | 0 => rfl
  | 1 => rfl
  | 2 => rfl
  | 3 => rfl
  | 4 => rfl
  | 5 => rfl
  | n + 6 => rfl
theorem p2_0 : upd (p2 a x) 0 v = p2 v x := by
  funext j; match j with
  | 0 => rfl
  | 1 => rfl
  | n + 2 => rfl
theorem p2_1 : upd (p2 a x) 1 v = p2 a v := by
  funext j; match j with
  | 0 => rfl
  | 1 => rfl
  | n + 2 => rfl
end U
theorem ix_ex (a : Int32) : ∃ j : Nat, j < 256 ∧ a &&& 255 = nI j := pk_andE a 8 (by decide)
theorem in512_0 (a : Int32) : vp_in (0 + (a &&& 255)) 512 := by
  obtain ⟨j, hj, e⟩ := ix_ex a
  rw [e, show (0 : Int32) + nI j = nI (0 + j) from nI_add 0 j]
  exact vp_in_nI (by omega) (by decide)
theorem in512_1 (a : Int32) : vp_in (256 + (a &&& 255)) 512 := by
  obtain ⟨j, hj, e⟩ := ix_ex a
  rw [e, show (256 : Int32) + nI j = nI (256 + j) from nI_add 256 j]
  exact vp_in_nI (by omega) (by decide)
theorem mm_rd0 (g h : Nat → Int32) (a : Int32) : mm2 g h (0 + (a &&& 255)).toNatClampNeg = rd g a := by
  obtain ⟨j, hj, e⟩ := ix_ex a
  rw [rd, e, show (0 : Int32) + nI j = nI (0 + j) from nI_add 0 j, nI_clamp (by omega), nI_clamp (by omega), mm2, if_pos (by omega), Nat.zero_add]
theorem mm_rd1 (g h : Nat → Int32) (a : Int32) : mm2 g h (256 + (a &&& 255)).toNatClampNeg = rd h a := by
  obtain ⟨j, hj, e⟩ := ix_ex a
  rw [rd, e, show (256 : Int32) + nI j = nI (256 + j) from nI_add 256 j, nI_clamp (by omega), nI_clamp (by omega), mm2, if_neg (by omega), if_pos (by omega), Nat.add_sub_cancel_left]
theorem mm_wr0 (g h : Nat → Int32) (a v : Int32) : upd (mm2 g h) (0 + (a &&& 255)).toNatClampNeg (v &&& 255) = mm2 (wr g a v) h := by
  obtain ⟨j, hj, e⟩ := ix_ex a
  rw [wr, e, show (0 : Int32) + nI j = nI (0 + j) from nI_add 0 j, nI_clamp (by omega), nI_clamp (by omega), Nat.zero_add]
  funext i
  by_cases hi : i = j
  · subst hi; rw [pk_us, mm2, if_pos hj, pk_us]
  · rw [pk_un hi, mm2, mm2]
    by_cases h1 : i < 256
    · rw [if_pos h1, if_pos h1, pk_un hi]
    · rw [if_neg h1, if_neg h1]
theorem mm_wr1 (g h : Nat → Int32) (a v : Int32) : upd (mm2 g h) (256 + (a &&& 255)).toNatClampNeg (v &&& 255) = mm2 g (wr h a v) := by
  obtain ⟨j, hj, e⟩ := ix_ex a
  rw [wr, e, show (256 : Int32) + nI j = nI (256 + j) from nI_add 256 j, nI_clamp (by omega), nI_clamp (by omega)]
  funext i
  by_cases hi : i = 256 + j
  · subst hi; rw [pk_us, mm2, if_neg (by omega), if_pos (by omega), Nat.add_sub_cancel_left, pk_us]
  · rw [pk_un hi, mm2, mm2]
    by_cases h1 : i < 256
    · rw [if_pos h1, if_pos h1]
    · by_cases h2 : i < 512
      · rw [if_neg h1, if_pos h2, if_neg h1, if_pos h2, pk_un (by omega)]
      · rw [if_neg h1, if_neg h2, if_neg h1, if_neg h2]
