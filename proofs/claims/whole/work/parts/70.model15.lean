/-- whether one of the first i addresses' codes begins at p -/
def bgN (fw : Nat → Int32) (p : Int32) : Nat → Bool
  | 0 => false
  | i + 1 => bgN fw p i || decide (fw i = p)
theorem bgN_1 {fw : Nat → Int32} {p : Int32} {i : Nat} (h : bgN fw p i = true) : bgN fw p (i + 1) = true := by rw [bgN, h]; rfl
theorem bgN_2 {fw : Nat → Int32} {p : Int32} {i : Nat} (h : fw i = p) : bgN fw p (i + 1) = true := by rw [bgN, decide_eq_true h, Bool.or_true]
theorem bgN_3 {fw : Nat → Int32} {p : Int32} {i : Nat} (h : bgN fw p i = false) (h2 : ¬ fw i = p) : bgN fw p (i + 1) = false := by rw [bgN, h, decide_eq_false h2]; rfl
/-- what the reference's second machine needs of a state that goes on, and keeps -/
def okS (fw fo fx fy : Nat → Int32) (G : MT → Prop) : Prop := ∀ u : MT, G u → stS u = 0 → vp_in (pcS u) 1024 ∧ (fx (pcS u).toNatClampNeg = 0 ∨ fx (pcS u).toNatClampNeg = 1 ∨ fx (pcS u).toNatClampNeg = 2) ∧ (vp_in u.2.1 256 ∧ vp_in u.2.2.1 256 ∧ vp_in u.2.2.2.2.2.2.2.2.1 256) ∧ G (mDoU fw fo fx fy u)
theorem nI_x2 {x d : Int32} {n : Nat} (h : x = d + nI n) : x + 1 = d + nI (n + 1) := nI_x1 h
