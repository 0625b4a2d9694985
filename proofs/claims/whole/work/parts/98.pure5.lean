/-! likeness: the class's words and the reference's -/
theorem alk_eq {S : Bool} {fw : Nat → Int32} {pc p1 t0 t1 : Int32} (h : byt pc) : alkC S (begI fw pc) p1 t0 t1 = alkB S (fw pc.toNatClampNeg) p1 t0 t1 := by
  rw [begI, if_pos (byt_isB h), alkC, alkB]
  by_cases h1 : fw pc.toNatClampNeg = -1
  · rw [if_pos h1, decide_eq_true h1]; cases S <;> rfl
  · rw [if_neg h1, decide_eq_false h1]
    by_cases h2 : fw pc.toNatClampNeg = p1
    · rw [if_pos h2, decide_eq_true h2]
      by_cases h3 : t0 = 1 <;> by_cases h4 : t1 = 1 <;> simp [h3, h4]
    · rw [if_neg h2, decide_eq_false h2]; cases S <;> rfl
