/-! the second machine: class and reference do the same step, on code that is in order -/
def rgO (o : Int32) : Bool := if o = 3 then true else if o < 9 then false else if 14 < o then false else true
def okRw (n : Nat) (o x y : Int32) : Prop :=
  (∃ k : Nat, k < 27 ∧ o = nI k) ∧ (x = 0 ∨ x = 1 ∨ x = 2) ∧ (hasSB o = true → ∃ t : Nat, t < n ∧ y = nI t) ∧ (hasSB o = false → byt y) ∧ (rgO o = true → y = 0 ∨ y = 1 ∨ y = 2)
def okC (n : Nat) (fn fx fy fw : Nat → Int32) : Prop :=
  n ≤ 1024 ∧ (∀ k : Nat, k < n → okRw n (fn k) (fx k) (fy k) ∧ (k + 1 < n ∨ fn k = 1 ∨ fn k = 19 ∨ fn k = 26)) ∧ ∀ a : Nat, a < 256 → fw a = -1 ∨ ∃ t : Nat, t < n ∧ fw a = nI t
def gdS (n : Nat) (u : MT) : Prop := bytM u.1 ∧ byt u.2.1 ∧ byt u.2.2.1 ∧ byt u.2.2.2.2.2.2.2.2.1 ∧ ∃ t : Nat, t < n ∧ pcS u = nI t
theorem selM_reg {j b0 b1 b2 : Int32} (hj : j = 0 ∨ j = 1 ∨ j = 2) : selM j b0 b1 b2 = regI j b0 b1 b2 := by
  rcases hj with rfl | rfl | rfl <;> rfl
theorem setA_reg (i a x r : Int32) : setA i (regI i a x r) a = a := by
  rw [setA, regI]; by_cases h : i = 0
  · rw [if_pos h, if_pos h]
  · rw [if_neg h]
theorem setX_reg (i a x r : Int32) : setX i (regI i a x r) x = x := by
  rw [setX, regI]; by_cases h : i = 0
  · rw [if_pos h]
  · rw [if_neg h, if_neg h]; by_cases h1 : i = 1
    · rw [if_pos h1, if_pos h1]
    · rw [if_neg h1]
theorem setR_reg (i a x r : Int32) : setR i (regI i a x r) r = r := by
  rw [setR, regI]; by_cases h : i = 0
  · rw [if_pos h]
  · rw [if_neg h, if_neg h]; by_cases h1 : i = 1
    · rw [if_pos h1]
    · rw [if_neg h1, if_neg h1]
theorem byt_reg {i a x r : Int32} (ha : byt a) (hx : byt x) (hr : byt r) : byt (regI i a x r) := by
  rw [regI]; by_cases h : i = 0
  · rw [if_pos h]; exact ha
  · rw [if_neg h]; by_cases h1 : i = 1
    · rw [if_pos h1]; exact hx
    · rw [if_neg h1]; exact hr
theorem byt_sA {i v a : Int32} (hv : byt v) (ha : byt a) : byt (setA i v a) := by
  rw [setA]; by_cases h : i = 0
  · rw [if_pos h]; exact hv
  · rw [if_neg h]; exact ha
theorem byt_sX {i v a : Int32} (hv : byt v) (ha : byt a) : byt (setX i v a) := by
  rw [setX]; by_cases h : i = 0
  · rw [if_pos h]; exact ha
  · rw [if_neg h]; by_cases h1 : i = 1
    · rw [if_pos h1]; exact hv
    · rw [if_neg h1]; exact ha
theorem byt_sR {i v a : Int32} (hv : byt v) (ha : byt a) : byt (setR i v a) := by
  rw [setR]; by_cases h : i = 0
  · rw [if_pos h]; exact ha
  · rw [if_neg h]; by_cases h1 : i = 1
    · rw [if_pos h1]; exact ha
    · rw [if_neg h1]; exact hv
theorem q3_eq {i a x r : Int32} {q : Int32 × Bool × Bool} {g : Nat → Int32} : q3 i q g a x r = (g, setA i q.1 a, setX i q.1 x, setR i q.1 r, q.2.1, q.2.2) := rfl
section T
variable {fw : Nat → Int32} {i j : Int32} {g : Nat → Int32} {a x s p r : Int32} {z c : Bool} {t : Int32} {kp : Bool}
set_option maxRecDepth 100000 in
set_option maxHeartbeats 4000000 in
theorem sDo_eq {k : Nat} (hk : k < 27) (hj1 : hasSB (nI k) = false → byt j) (hj2 : rgO (nI k) = true → j = 0 ∨ j = 1 ∨ j = 2) (hg : bytM g) (ha : byt a) (hx : byt x) (hr : byt r) :
    sDo fw (nI k) i j g a x s p z c t r kp = mDo fw (nI k) i j g a x s p z c t r kp := by
  have hR : byt (regI i a x r) := byt_reg ha hx hr
  match k, hk with
  | 0, _ => rfl
  | 1, _ => rfl
  | 2, _ =>
    show (g, setA i j a, setX i j x, s, p + 1, z, c, t, setR i j r, kp) = (g, setA i (j &&& 255) a, setX i (j &&& 255) x, s, p + 1, z, c, t, setR i (j &&& 255) r, kp)
    rw [byt_and (hj1 (by decide))]
  | 3, _ =>
    show (g, setA i (regI j a x r) a, setX i (regI j a x r) x, s, p + 1, z, c, t, setR i (regI j a x r) r, kp) = (g, setA i (selM j a x r &&& 255) a, setX i (selM j a x r &&& 255) x, s, p + 1, z, c, t, setR i (selM j a x r &&& 255) r, kp)
    rw [selM_reg (hj2 (by decide)), byt_and (byt_reg ha hx hr)]
  | 4, _ =>
    show (g, setA i (rd g j) a, setX i (rd g j) x, s, p + 1, z, c, t, setR i (rd g j) r, kp) = (g, setA i (rd g j &&& 255) a, setX i (rd g j &&& 255) x, s, p + 1, z, c, t, setR i (rd g j &&& 255) r, kp)
    rw [byt_and (byt_rd hg j)]
  | 5, _ => rfl
  | 6, _ =>
    show (g, rd g (j + x), x, s, p + 1, z, c, t, r, kp) = (g, rd g (j + x) &&& 255, x, s, p + 1, z, c, t, r, kp)
    rw [byt_and (byt_rd hg _)]
  | 7, _ => rfl
  | 8, _ =>
    show (g, a, x, s, p + 1, decide (regI i a x r = 0), false, t, r, kp) = (g, setA i (regI i a x r &&& 255) a, setX i (regI i a x r &&& 255) x, s, p + 1, decide (regI i a x r &&& 255 = 0), false, t, setR i (regI i a x r &&& 255) r, kp)
    rw [byt_and hR, setA_reg, setX_reg, setR_reg]
  | 9, _ =>
    show sSet i (sumI (regI i a x r) (regI j a x r) false) (decide (sumI (regI i a x r) (regI j a x r) false = 0)) (sumC (regI i a x r) (regI j a x r) false) g a x s (p + 1) t r kp = sSet i (mAdd (regI i a x r) (selM j a x r) 0).1 (mAdd (regI i a x r) (selM j a x r) 0).2.1 (mAdd (regI i a x r) (selM j a x r) 0).2.2 g a x s (p + 1) t r kp
    rw [selM_reg (hj2 (by decide))]; rfl
  | 10, _ =>
    show sSet i (sumI (regI i a x r) (regI j a x r) c) (decide (sumI (regI i a x r) (regI j a x r) c = 0)) (sumC (regI i a x r) (regI j a x r) c) g a x s (p + 1) t r kp = sSet i (mAdd (regI i a x r) (selM j a x r) (bI c)).1 (mAdd (regI i a x r) (selM j a x r) (bI c)).2.1 (mAdd (regI i a x r) (selM j a x r) (bI c)).2.2 g a x s (p + 1) t r kp
    rw [selM_reg (hj2 (by decide))]; rfl
  | 11, _ =>
    show sSet i (difI (regI i a x r) (regI j a x r)) (decide (difI (regI i a x r) (regI j a x r) = 0)) (difC (regI i a x r) (regI j a x r)) g a x s (p + 1) t r kp = sSet i (mSub (regI i a x r) (selM j a x r) false).1 (mSub (regI i a x r) (selM j a x r) false).2.1 (mSub (regI i a x r) (selM j a x r) false).2.2 g a x s (p + 1) t r kp
    rw [selM_reg (hj2 (by decide))]; rfl
  | 12, _ =>
    show sSet i (regI i a x r &&& regI j a x r) (decide (regI i a x r &&& regI j a x r = 0)) false g a x s (p + 1) t r kp = sSet i ((regI i a x r &&& selM j a x r) &&& 255) (decide ((regI i a x r &&& selM j a x r) &&& 255 = 0)) false g a x s (p + 1) t r kp
    rw [selM_reg (hj2 (by decide)), byt_and2 (byt_reg ha hx hr)]
  | 13, _ =>
    show sSet i (regI i a x r ^^^ regI j a x r) (decide (regI i a x r ^^^ regI j a x r = 0)) false g a x s (p + 1) t r kp = sSet i ((regI i a x r ^^^ selM j a x r) &&& 255) (decide ((regI i a x r ^^^ selM j a x r) &&& 255 = 0)) false g a x s (p + 1) t r kp
    rw [selM_reg (hj2 (by decide)), byt_and (byt_xor hR (byt_reg ha hx hr))]
  | 14, _ =>
    show (g, a, x, s, p + 1, decide (difI (regI i a x r) (regI j a x r) = 0), difC (regI i a x r) (regI j a x r), t, r, kp) = (g, setA i (regI i a x r &&& 255) a, setX i (regI i a x r &&& 255) x, s, p + 1, decide (difI (regI i a x r) (selM j a x r) = 0), difC (regI i a x r) (selM j a x r), t, setR i (regI i a x r &&& 255) r, kp)
    rw [selM_reg (hj2 (by decide)), byt_and hR, setA_reg, setX_reg, setR_reg]
  | 15, _ =>
    show sSet i (dblI (regI i a x r)) (decide (dblI (regI i a x r) = 0)) (dblC (regI i a x r)) g a x s (p + 1) t r kp = sSet i (dblI (regI i a x r)) (decide (dblI (regI i a x r) = 0)) (decide (¬ regI i a x r ≤ 127)) g a x s (p + 1) t r kp
    rw [byt_dbl hR]
  | 16, _ =>
    show sSet i (hlvI (regI i a x r)) (decide (hlvI (regI i a x r) = 0)) (hlvC (regI i a x r)) g a x s (p + 1) t r kp = sSet i (mHlv (regI i a x r)).1 (mHlv (regI i a x r)).2.1 (mHlv (regI i a x r)).2.2 g a x s (p + 1) t r kp
    rw [(byt_hlv hR).1, (byt_hlv hR).2.1]; rfl
  | 17, _ => rfl
  | 18, _ => rfl
  | 19, _ => rfl
  | 20, _ => rfl
  | 21, _ => cases z <;> rfl
  | 22, _ => rfl
  | 23, _ => cases c <;> rfl
  | 24, _ => rfl
  | 25, _ =>
    show (g, setA i (rd g ((s + 1) &&& 255)) a, setX i (rd g ((s + 1) &&& 255)) x, (s + 1) &&& 255, p + 1, z, c, t, setR i (rd g ((s + 1) &&& 255)) r, kp) = (g, setA i (rd g ((s + 1) &&& 255) &&& 255) a, setX i (rd g ((s + 1) &&& 255) &&& 255) x, (s + 1) &&& 255, p + 1, z, c, t, setR i (rd g ((s + 1) &&& 255) &&& 255) r, kp)
    rw [byt_and (byt_rd hg _)]
  | 26, _ =>
    have e1 : begI fw (regI i a x r) = fw (regI i a x r).toNatClampNeg := by rw [begI, if_pos (byt_isB hR)]
    show (if begI fw (regI i a x r) = -1 then (g, a, x, s, p, z, c, 2, r, kp) else (g, a, x, s, begI fw (regI i a x r), z, c, t, r, kp)) = _
    rw [e1]
    by_cases h : fw (regI i a x r).toNatClampNeg = -1
    · have e2 : mOth fw (nI 26) i j g a x r s (p + 1) z c kp t = (g, a, x, r, s, p + 1 - 1, c, kp, 2) := by
        show (if fw (regI i a x r).toNatClampNeg = -1 then (g, a, x, r, s, p + 1 - 1, c, kp, 2) else (g, a, x, r, s, fw (regI i a x r).toNatClampNeg, c, kp, t)) = _
        rw [if_pos h]
      rw [if_pos h, show mDo fw (nI 26) i j g a x s p z c t r kp = ((mOth fw (nI 26) i j g a x r s (p + 1) z c kp t).1, (mOth fw (nI 26) i j g a x r s (p + 1) z c kp t).2.1, (mOth fw (nI 26) i j g a x r s (p + 1) z c kp t).2.2.1, (mOth fw (nI 26) i j g a x r s (p + 1) z c kp t).2.2.2.2.1, (mOth fw (nI 26) i j g a x r s (p + 1) z c kp t).2.2.2.2.2.1, z, (mOth fw (nI 26) i j g a x r s (p + 1) z c kp t).2.2.2.2.2.2.1, (mOth fw (nI 26) i j g a x r s (p + 1) z c kp t).2.2.2.2.2.2.2.2, (mOth fw (nI 26) i j g a x r s (p + 1) z c kp t).2.2.2.1, (mOth fw (nI 26) i j g a x r s (p + 1) z c kp t).2.2.2.2.2.2.2.1) from rfl, e2, Int32.add_sub_cancel]
    · have e2 : mOth fw (nI 26) i j g a x r s (p + 1) z c kp t = (g, a, x, r, s, fw (regI i a x r).toNatClampNeg, c, kp, t) := by
        show (if fw (regI i a x r).toNatClampNeg = -1 then (g, a, x, r, s, p + 1 - 1, c, kp, 2) else (g, a, x, r, s, fw (regI i a x r).toNatClampNeg, c, kp, t)) = _
        rw [if_neg h]
      rw [if_neg h, show mDo fw (nI 26) i j g a x s p z c t r kp = ((mOth fw (nI 26) i j g a x r s (p + 1) z c kp t).1, (mOth fw (nI 26) i j g a x r s (p + 1) z c kp t).2.1, (mOth fw (nI 26) i j g a x r s (p + 1) z c kp t).2.2.1, (mOth fw (nI 26) i j g a x r s (p + 1) z c kp t).2.2.2.2.1, (mOth fw (nI 26) i j g a x r s (p + 1) z c kp t).2.2.2.2.2.1, z, (mOth fw (nI 26) i j g a x r s (p + 1) z c kp t).2.2.2.2.2.2.1, (mOth fw (nI 26) i j g a x r s (p + 1) z c kp t).2.2.2.2.2.2.2.2, (mOth fw (nI 26) i j g a x r s (p + 1) z c kp t).2.2.2.1, (mOth fw (nI 26) i j g a x r s (p + 1) z c kp t).2.2.2.2.2.2.2.1) from rfl, e2]
  | k + 27, h => exact absurd h (by omega)
set_option maxRecDepth 100000 in
set_option maxHeartbeats 4000000 in
theorem sDo_byt {k n : Nat} (hk : k < 27) (hj1 : hasSB (nI k) = false → byt j) (hg : bytM g) (ha : byt a) (hx : byt x) (hr : byt r)
    (hp : ∃ t : Nat, t < n ∧ p = nI t) (hq : nI k = 1 ∨ nI k = 19 ∨ nI k = 26 ∨ ∃ t : Nat, t < n ∧ p + 1 = nI t) (hjt : hasSB (nI k) = true → ∃ t : Nat, t < n ∧ j = nI t)
    (hw : ∀ a : Nat, a < 256 → fw a = -1 ∨ ∃ t : Nat, t < n ∧ fw a = nI t) : gdS n (sDo fw (nI k) i j g a x s p z c t r kp) := by
  have hR : byt (regI i a x r) := byt_reg ha hx hr
  have hS : byt (regI j a x r) := byt_reg ha hx hr
  have hif : ∀ {b : Bool} {v w : Int32}, (∃ t : Nat, t < n ∧ v = nI t) → (∃ t : Nat, t < n ∧ w = nI t) → ∃ t : Nat, t < n ∧ (if b = true then v else w) = nI t := by
    intro b v w hv hw; cases b <;> assumption
  have q4 : ∀ {P : Prop}, ¬ nI k = 1 → ¬ nI k = 19 → ¬ nI k = 26 → ((∃ t : Nat, t < n ∧ p + 1 = nI t) → P) → P := by
    intro P a1 a2 a3 f
    rcases hq with h | h | h | h
    · exact absurd h a1
    · exact absurd h a2
    · exact absurd h a3
    · exact f h
  match k, hk with
  | 0, _ => exact q4 (by decide) (by decide) (by decide) (fun h => ⟨hg, ha, hx, hr, h⟩)
  | 1, _ => exact ⟨hg, ha, hx, hr, hp⟩
  | 2, _ => exact q4 (by decide) (by decide) (by decide) (fun h => ⟨hg, byt_sA (hj1 (by decide)) ha, byt_sX (hj1 (by decide)) hx, byt_sR (hj1 (by decide)) hr, h⟩)
  | 3, _ => exact q4 (by decide) (by decide) (by decide) (fun h => ⟨hg, byt_sA hS ha, byt_sX hS hx, byt_sR hS hr, h⟩)
  | 4, _ => exact q4 (by decide) (by decide) (by decide) (fun h => ⟨hg, byt_sA (byt_rd hg _) ha, byt_sX (byt_rd hg _) hx, byt_sR (byt_rd hg _) hr, h⟩)
  | 5, _ => exact q4 (by decide) (by decide) (by decide) (fun h => ⟨byt_wr hg _ _, ha, hx, hr, h⟩)
  | 6, _ => exact q4 (by decide) (by decide) (by decide) (fun h => ⟨hg, byt_rd hg _, hx, hr, h⟩)
  | 7, _ => exact q4 (by decide) (by decide) (by decide) (fun h => ⟨byt_wr hg _ _, ha, hx, hr, h⟩)
  | 8, _ => exact q4 (by decide) (by decide) (by decide) (fun h => ⟨hg, ha, hx, hr, h⟩)
  | 9, _ => exact q4 (by decide) (by decide) (by decide) (fun h => ⟨hg, byt_sA (byt_m _) ha, byt_sX (byt_m _) hx, byt_sR (byt_m _) hr, h⟩)
  | 10, _ => exact q4 (by decide) (by decide) (by decide) (fun h => ⟨hg, byt_sA (byt_m _) ha, byt_sX (byt_m _) hx, byt_sR (byt_m _) hr, h⟩)
  | 11, _ => exact q4 (by decide) (by decide) (by decide) (fun h => ⟨hg, byt_sA (byt_m _) ha, byt_sX (byt_m _) hx, byt_sR (byt_m _) hr, h⟩)
  | 12, _ => exact q4 (by decide) (by decide) (by decide) (fun h => ⟨hg, byt_sA (byt_an hS) ha, byt_sX (byt_an hS) hx, byt_sR (byt_an hS) hr, h⟩)
  | 13, _ => exact q4 (by decide) (by decide) (by decide) (fun h => ⟨hg, byt_sA (byt_xor hR hS) ha, byt_sX (byt_xor hR hS) hx, byt_sR (byt_xor hR hS) hr, h⟩)
  | 14, _ => exact q4 (by decide) (by decide) (by decide) (fun h => ⟨hg, ha, hx, hr, h⟩)
  | 15, _ => exact q4 (by decide) (by decide) (by decide) (fun h => ⟨hg, byt_sA (byt_m _) ha, byt_sX (byt_m _) hx, byt_sR (byt_m _) hr, h⟩)
  | 16, _ => exact q4 (by decide) (by decide) (by decide) (fun h => ⟨hg, byt_sA (byt_hlv hR).2.2 ha, byt_sX (byt_hlv hR).2.2 hx, byt_sR (byt_hlv hR).2.2 hr, h⟩)
  | 17, _ => exact q4 (by decide) (by decide) (by decide) (fun h => ⟨hg, ha, hx, hr, h⟩)
  | 18, _ => exact q4 (by decide) (by decide) (by decide) (fun h => ⟨hg, ha, hx, hr, h⟩)
  | 19, _ => exact ⟨hg, ha, hx, hr, hjt (by decide)⟩
  | 20, _ => exact q4 (by decide) (by decide) (by decide) (fun h => ⟨hg, ha, hx, hr, hif (b := z) (hjt (by decide)) h⟩)
  | 21, _ => exact q4 (by decide) (by decide) (by decide) (fun h => ⟨hg, ha, hx, hr, hif (b := z) h (hjt (by decide))⟩)
  | 22, _ => exact q4 (by decide) (by decide) (by decide) (fun h => ⟨hg, ha, hx, hr, hif (b := c) (hjt (by decide)) h⟩)
  | 23, _ => exact q4 (by decide) (by decide) (by decide) (fun h => ⟨hg, ha, hx, hr, hif (b := c) h (hjt (by decide))⟩)
  | 24, _ => exact q4 (by decide) (by decide) (by decide) (fun h => ⟨byt_wr hg _ _, ha, hx, hr, h⟩)
  | 25, _ => exact q4 (by decide) (by decide) (by decide) (fun h => ⟨hg, byt_sA (byt_rd hg _) ha, byt_sX (byt_rd hg _) hx, byt_sR (byt_rd hg _) hr, h⟩)
  | 26, _ =>
    show gdS n (if begI fw (regI i a x r) = -1 then (g, a, x, s, p, z, c, 2, r, kp) else (g, a, x, s, begI fw (regI i a x r), z, c, t, r, kp))
    by_cases h : begI fw (regI i a x r) = -1
    · rw [if_pos h]; exact ⟨hg, ha, hx, hr, hp⟩
    · rw [if_neg h]
      refine ⟨hg, ha, hx, hr, ?_⟩
      show ∃ t : Nat, t < n ∧ begI fw (regI i a x r) = nI t
      have e1 : begI fw (regI i a x r) = fw (regI i a x r).toNatClampNeg := by rw [begI, if_pos (byt_isB hR)]
      rw [e1] at h ⊢
      rcases hw (regI i a x r).toNatClampNeg (by rw [ad8_b hR]; exact ad8_lt _) with q | q
      · exact absurd q h
      · exact q
  | k + 27, h => exact absurd h (by omega)
end T
theorem part_at {n k : Nat} {fn fx fy : Nat → Int32} (h : k < n) (hn : n ≤ 1024) : partI (nI k) 0 (nI n) fn fx fy = fn k ∧ partI (nI k) 1 (nI n) fn fx fy = fx k ∧ partI (nI k) 2 (nI n) fn fx fy = fy k := by
  have e0 : ¬ nI k < 0 := nI_pos (by omega)
  have e1 : nI k < nI n := nI_lt h (by omega)
  refine ⟨?_, ?_, ?_⟩
  · rw [partI, if_neg e0, if_pos e1, if_pos rfl, nI_clamp (by omega)]
  · rw [partI, if_neg e0, if_pos e1, if_neg (by decide), if_pos rfl, nI_clamp (by omega)]
  · rw [partI, if_neg e0, if_pos e1, if_neg (by decide), if_neg (by decide), if_pos rfl, nI_clamp (by omega)]
theorem sStep_eq {n : Nat} {fn fx fy fw : Nat → Int32} (hC : okC n fn fx fy fw) {u : MT} (hG : gdS n u) :
    sStepU (nI n) fn fx fy fw u = mDoU fw fn fx fy u ∧ gdS n (mDoU fw fn fx fy u) := by
  obtain ⟨g, a, x, s, p, z, c, t, r, kp⟩ := u
  obtain ⟨hg, ha, hx, hr, k, hk, hp⟩ := hG
  have hp : p = nI k := hp
  subst hp
  obtain ⟨hn, hrow, hw⟩ := hC
  obtain ⟨⟨⟨o, ho, eo⟩, hxx, hy1, hy2, hy3⟩, hon⟩ := hrow k hk
  have e1 : sStepU (nI n) fn fx fy fw (g, a, x, s, nI k, z, c, t, r, kp) = sDo fw (fn k) (fx k) (fy k) g a x s (nI k) z c t r kp := by
    show sDo fw (partI (nI k) 0 (nI n) fn fx fy) (partI (nI k) 1 (nI n) fn fx fy) (partI (nI k) 2 (nI n) fn fx fy) g a x s (nI k) z c t r kp = _
    rw [(part_at hk hn).1, (part_at hk hn).2.1, (part_at hk hn).2.2]
  have e2 : mDoU fw fn fx fy (g, a, x, s, nI k, z, c, t, r, kp) = mDo fw (fn k) (fx k) (fy k) g a x s (nI k) z c t r kp := by
    show mDo fw (fn (nI k).toNatClampNeg) (fx (nI k).toNatClampNeg) (fy (nI k).toNatClampNeg) g a x s (nI k) z c t r kp = _
    rw [nI_clamp (by omega)]
  rw [eo] at hy1 hy2 hy3 hon
  have e3 : sDo fw (fn k) (fx k) (fy k) g a x s (nI k) z c t r kp = mDo fw (fn k) (fx k) (fy k) g a x s (nI k) z c t r kp := by
    rw [eo]; exact sDo_eq ho hy2 hy3 hg ha hx hr
  refine ⟨by rw [e1, e2, e3], ?_⟩
  rw [e2, ← e3, eo]
  refine sDo_byt ho hy2 hg ha hx hr ⟨k, hk, rfl⟩ ?_ hy1 hw
  rcases hon with h | h | h | h
  · exact Or.inr (Or.inr (Or.inr ⟨k + 1, h, nI_add k 1⟩))
  · exact Or.inl h
  · exact Or.inr (Or.inl h)
  · exact Or.inr (Or.inr (Or.inl h))
theorem okS_of {n : Nat} {fn fx fy fw : Nat → Int32} (hC : okC n fn fx fy fw) : okS fw fn fx fy (gdS n) := by
  intro u hG _
  obtain ⟨hg, ha, hx, hr, k, hk, hp⟩ := id hG
  have hn := hC.1
  refine ⟨by rw [hp]; exact vp_in_nI (by omega) (by decide), by rw [hp, nI_clamp (by omega)]; exact (hC.2.1 k hk).1.2.1, ⟨byt_in ha, byt_in hx, byt_in hr⟩, (sStep_eq hC hG).2⟩
/-- runs of the second machine: one answer, one state, in order again -/
theorem sIter_eq {n : Nat} {fn fx fy fw : Nat → Int32} (hC : okC n fn fx fy fw) (k : Nat) : ∀ u : MT, gdS n u → sIter (sStepU (nI n) fn fx fy fw) k u = sIter (mDoU fw fn fx fy) k u ∧ gdS n (sIter (mDoU fw fn fx fy) k u).2 := by
  induction k with
  | zero => intro u h; exact ⟨rfl, h⟩
  | succ k ih =>
    intro u h
    rw [sIter, sIter]
    by_cases hs : stS u = 0
    · obtain ⟨e1, e2⟩ := sStep_eq hC h
      rw [if_pos hs, if_pos hs, e1]
      obtain ⟨f1, f2⟩ := ih _ e2
      exact ⟨by rw [f1], f2⟩
    · rw [if_neg hs, if_neg hs]; exact ⟨rfl, h⟩
theorem sBound_eq {n : Nat} {fn fx fy fw : Nat → Int32} {B B' : Int32 → Bool} (hC : okC n fn fx fy fw) (hB : ∀ t : Nat, t < n → B (nI t) = B' (nI t)) (k : Nat) :
    ∀ u : MT, gdS n u → sBound (sStepU (nI n) fn fx fy fw) B k u = sBound (mDoU fw fn fx fy) B' k u ∧ gdS n (sBound (mDoU fw fn fx fy) B' k u).2 := by
  induction k with
  | zero => intro u h; exact ⟨rfl, h⟩
  | succ k ih =>
    intro u h
    rw [sBound, sBound]
    by_cases hs : stS u = 0
    · obtain ⟨e1, e2⟩ := sStep_eq hC h
      obtain ⟨t, ht, ep⟩ := e2.2.2.2.2
      rw [if_pos hs, if_pos hs, e1, ep, hB t ht]
      by_cases hb : B' (nI t) = true
      · rw [if_pos hb, if_pos hb]; exact ⟨rfl, e2⟩
      · rw [if_neg hb, if_neg hb]
        obtain ⟨f1, f2⟩ := ih _ e2
        exact ⟨by rw [f1], f2⟩
    · rw [if_neg hs, if_neg hs]; exact ⟨rfl, h⟩
/-- beginnings: the class's flags, the reference's search -/
def okB (n : Nat) (fw fb : Nat → Int32) : Prop := ∀ t : Nat, t < n → (¬ fb t = 0 ↔ ∃ a : Nat, a < 256 ∧ fw a = nI t)
theorem bgN_iff {fw : Nat → Int32} {p : Int32} (k : Nat) : bgN fw p k = true ↔ ∃ a : Nat, a < k ∧ fw a = p := by
  induction k with
  | zero => exact ⟨fun h => (by cases h), fun ⟨a, h, _⟩ => absurd h (Nat.not_lt_zero a)⟩
  | succ k ih =>
    rw [bgN, Bool.or_eq_true, ih, decide_eq_true_iff]
    constructor
    · rintro (⟨a, h1, h2⟩ | h)
      · exact ⟨a, by omega, h2⟩
      · exact ⟨k, by omega, h⟩
    · rintro ⟨a, h1, h2⟩
      by_cases e : a = k
      · subst e; exact Or.inr h2
      · exact Or.inl ⟨a, by omega, h2⟩
theorem atB_eq {n : Nat} {fw fb : Nat → Int32} (hn : n ≤ 1024) (h : okB n fw fb) {t : Nat} (ht : t < n) : atB (nI n) fb (nI t) = bgN fw (nI t) 256 := by
  rw [atB, if_neg (nI_pos (by omega)), if_neg (nI_ge ht (by omega)), nI_clamp (by omega)]
  by_cases q : fb t = 0
  · rw [if_pos q]
    cases e : bgN fw (nI t) 256 with
    | false => rfl
    | true => exact absurd q ((h t ht).mpr ((bgN_iff 256).mp e))
  · rw [if_neg q]; exact ((bgN_iff 256).mpr ((h t ht).mp q)).symm
