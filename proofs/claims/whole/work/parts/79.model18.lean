theorem rd_in {fi : Nat → Int32} (h : ∀ j : Nat, j < 256 → vp_in (fi j) 256) (x : Int32) : vp_in (rd fi x) 256 := by
  obtain ⟨j, hj, e⟩ := ix_ex x
  rw [rd, e, nI_clamp (by omega)]; exact h j hj
