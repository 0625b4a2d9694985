/-! the reference's second machine -/
def selM (j b0 b1 b2 : Int32) : Int32 := rg6 0 0 0 b0 b1 b2 (3 + ((j &&& 3) - (j &&& 3) / 3 * 3)).toNatClampNeg
theorem sel_ex (j : Int32) : ∃ k : Nat, k < 3 ∧ 3 + ((j &&& 3) - (j &&& 3) / 3 * 3) = nI (3 + k) := by
  obtain ⟨i, hi, e⟩ := pk_andE j (m := 3) 2 (by decide)
  rw [e]
  refine ⟨i % 3, by omega, ?_⟩
  rw [show nI i - nI i / 3 * 3 = nI (i % 3) from pk_rem (d := 3) (by omega) (by decide) (by decide)]
  exact nI_add 3 _
theorem selM_in (j : Int32) : vp_in (3 + ((j &&& 3) - (j &&& 3) / 3 * 3)) 6 := by
  obtain ⟨k, hk, e⟩ := sel_ex j
  rw [e]; exact vp_in_nI (by omega) (by decide)
theorem selM_eq (a x d b0 b1 b2 j : Int32) : rg6 a x d b0 b1 b2 (3 + ((j &&& 3) - (j &&& 3) / 3 * 3)).toNatClampNeg = selM j b0 b1 b2 := by
  obtain ⟨k, hk, e⟩ := sel_ex j
  rw [selM, e, nI_clamp (by omega)]
  match k, hk with
  | 0, _ => rfl
  | 1, _ => rfl
  | 2, _ => rfl
abbrev MW : Type := (Nat → Int32) × Int32 × Int32 × Int32 × Bool × Bool
def q3 (x : Int32) (q : Int32 × Bool × Bool) (h : Nat → Int32) (b0 b1 b2 : Int32) : MW := (h, setA x q.1 b0, setX x q.1 b1, setR x q.1 b2, q.2.1, q.2.2)
def mWork (o x j : Int32) (h : Nat → Int32) (b0 b1 b2 : Int32) (z c : Bool) : MW :=
  if o = 2 then q3 x (j &&& 255, z, c) h b0 b1 b2
  else if o = 3 then q3 x (selM j b0 b1 b2 &&& 255, z, c) h b0 b1 b2
  else if o = 4 then q3 x (rd h j &&& 255, z, c) h b0 b1 b2
  else if o = 5 then (wr h j (regI x b0 b1 b2), b0, b1, b2, z, c)
  else if o = 6 then (h, rd h (j + b1) &&& 255, b1, b2, z, c)
  else if o = 7 then (wr h (j + b1) b0, b0, b1, b2, z, c)
  else if o = 8 then q3 x (mPln (regI x b0 b1 b2)) h b0 b1 b2
  else if o = 9 then q3 x (mAdd (regI x b0 b1 b2) (selM j b0 b1 b2) 0) h b0 b1 b2
  else if o = 10 then q3 x (mAdd (regI x b0 b1 b2) (selM j b0 b1 b2) (bI c)) h b0 b1 b2
  else if o = 11 then q3 x (mSub (regI x b0 b1 b2) (selM j b0 b1 b2) false) h b0 b1 b2
  else if o = 12 then q3 x (mPln (regI x b0 b1 b2 &&& selM j b0 b1 b2)) h b0 b1 b2
  else if o = 13 then q3 x (mPln (regI x b0 b1 b2 ^^^ selM j b0 b1 b2)) h b0 b1 b2
  else if o = 14 then q3 x (mSub (regI x b0 b1 b2) (selM j b0 b1 b2) true) h b0 b1 b2
  else if o = 15 then q3 x (mDbl (regI x b0 b1 b2)) h b0 b1 b2
  else q3 x (mHlv (regI x b0 b1 b2)) h b0 b1 b2
def mYs (o : Int32) (z c : Bool) : Bool := if o = 19 then true else if o < 22 then (if o = 20 then z else !z) else (if o = 22 then c else !c)
abbrev MO9 : Type := (Nat → Int32) × Int32 × Int32 × Int32 × Int32 × Int32 × Bool × Bool × Int32
def mOth (fw : Nat → Int32) (o x j : Int32) (h : Nat → Int32) (b0 b1 b2 s p : Int32) (z c kp : Bool) (t : Int32) : MO9 :=
  if o = 17 then (h, b0, b1, b2, s, p, c, c, t)
  else if o = 18 then (h, b0, b1, b2, s, p, kp, kp, t)
  else if o < 24 then (h, b0, b1, b2, s, if mYs o z c = true then j else p, c, kp, t)
  else if o = 24 then (wr h s (regI x b0 b1 b2), b0, b1, b2, (s - 1) &&& 255, p, c, kp, t)
  else if o = 25 then (h, setA x (rd h ((s + 1) &&& 255) &&& 255) b0, setX x (rd h ((s + 1) &&& 255) &&& 255) b1, setR x (rd h ((s + 1) &&& 255) &&& 255) b2, (s + 1) &&& 255, p, c, kp, t)
  else if fw (regI x b0 b1 b2).toNatClampNeg = -1 then (h, b0, b1, b2, s, p - 1, c, kp, 2)
  else (h, b0, b1, b2, s, fw (regI x b0 b1 b2).toNatClampNeg, c, kp, t)
/-- a step of the reference's second machine at the instruction o x j -/
def mDo (fw : Nat → Int32) (o x j : Int32) (h : Nat → Int32) (b0 b1 s p : Int32) (z c : Bool) (t b2 : Int32) (kp : Bool) : MT :=
  if o = 1 then (h, b0, b1, s, p, z, c, 1, b2, kp)
  else if o ≤ 16 then
    (if o ≤ 1 then (h, b0, b1, s, p + 1, z, c, t, b2, kp)
     else ((mWork o x j h b0 b1 b2 z c).1, (mWork o x j h b0 b1 b2 z c).2.1, (mWork o x j h b0 b1 b2 z c).2.2.1, s, p + 1, (mWork o x j h b0 b1 b2 z c).2.2.2.2.1, (mWork o x j h b0 b1 b2 z c).2.2.2.2.2, t, (mWork o x j h b0 b1 b2 z c).2.2.2.1, kp))
  else ((mOth fw o x j h b0 b1 b2 s (p + 1) z c kp t).1, (mOth fw o x j h b0 b1 b2 s (p + 1) z c kp t).2.1, (mOth fw o x j h b0 b1 b2 s (p + 1) z c kp t).2.2.1, (mOth fw o x j h b0 b1 b2 s (p + 1) z c kp t).2.2.2.2.1, (mOth fw o x j h b0 b1 b2 s (p + 1) z c kp t).2.2.2.2.2.1, z, (mOth fw o x j h b0 b1 b2 s (p + 1) z c kp t).2.2.2.2.2.2.1, (mOth fw o x j h b0 b1 b2 s (p + 1) z c kp t).2.2.2.2.2.2.2.2, (mOth fw o x j h b0 b1 b2 s (p + 1) z c kp t).2.2.2.1, (mOth fw o x j h b0 b1 b2 s (p + 1) z c kp t).2.2.2.2.2.2.2.1)
theorem no_17 {o : Int32} (h : 22 ≤ o) : ¬ o = 17 := fun q => absurd (q ▸ h) (by decide)
theorem no_18 {o : Int32} (h : 22 ≤ o) : ¬ o = 18 := fun q => absurd (q ▸ h) (by decide)
theorem no_24 {o : Int32} (h : ¬ 22 ≤ o) : ¬ 24 ≤ o := fun q => h (Int32.le_trans (show (22 : Int32) ≤ 24 by decide) q)
