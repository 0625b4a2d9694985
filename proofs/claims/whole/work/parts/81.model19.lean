/-! the reference's translate -/
abbrev BM : Type := (Nat → Int32) × PG
def bldR (fr fi : Nat → Int32) (i : Nat) (s : BM) : BM :=
  if fr i = 0 then (upd s.1 i (-1), s.2) else (upd s.1 i (nI s.2.1), instM (fi i) (rd fi (nI i + 1)) ((nI i + 2) &&& 255) s.2)
def bldM (fr fi : Nat → Int32) : Nat → BM → BM
  | 0, s => s
  | i + 1, s => bldR fr fi i (bldM fr fi i s)
def tgtR (fo fw : Nat → Int32) : Nat → (Nat → Int32) → (Nat → Int32)
  | 0, fy => fy
  | k + 1, fy => if hasSB (fo k) = true then upd (tgtR fo fw k fy) k (fw (fy k).toNatClampNeg) else tgtR fo fw k fy
theorem tgtR_at {fo fw : Nat → Int32} (k : Nat) {fy : Nat → Int32} : ∀ j, k ≤ j → tgtR fo fw k fy j = fy j := by
  induction k with
  | zero => intro j _; rfl
  | succ k ih =>
    intro j hj
    rw [tgtR]
    by_cases h : hasSB (fo k) = true
    · rw [if_pos h, pk_un (by omega), ih j (by omega)]
    · rw [if_neg h, ih j (by omega)]
theorem upd_id (f : Nat → Int32) (k : Nat) : upd f k (f k) = f := by
  funext j
  by_cases h : j = k
  · subst h; exact pk_us
  · exact pk_un h
theorem hasSB_lt {o : Int32} (h : o < 19) : hasSB o = false := by rw [hasSB, if_pos h]
theorem hasSB_gt {o : Int32} (h1 : ¬ o < 19) (h : 23 < o) : hasSB o = false := by rw [hasSB, if_neg h1, if_pos h]
theorem hasSB_in {o : Int32} (h1 : ¬ o < 19) (h : ¬ 23 < o) : hasSB o = true := by rw [hasSB, if_neg h1, if_neg h]
theorem mmc_0 {i : Nat} (f g h : Nat → Int32) (hi : i < 256) : upd (mm2 (cpyI f g i) h) (0 + nI i).toNatClampNeg (f i) = mm2 (cpyI f g (i + 1)) h := by
  rw [show (0 : Int32) + nI i = nI (0 + i) from nI_add 0 i, nI_clamp (by omega), Nat.zero_add, ← cpyI_step (show i < 2 ^ 31 by omega), nI_clamp (by omega)]
  funext j
  by_cases hj : j = i
  · subst hj; rw [pk_us, mm2, if_pos hi, pk_us]
  · rw [pk_un hj, mm2, mm2]
    by_cases h1 : j < 256
    · rw [if_pos h1, if_pos h1, pk_un hj]
    · rw [if_neg h1, if_neg h1]
theorem mmc_1 {i : Nat} (f g h : Nat → Int32) (hi : i < 256) : upd (mm2 g (cpyI f h i)) (256 + nI i).toNatClampNeg (f i) = mm2 g (cpyI f h (i + 1)) := by
  rw [show (256 : Int32) + nI i = nI (256 + i) from nI_add 256 i, nI_clamp (by omega), ← cpyI_step (show i < 2 ^ 31 by omega), nI_clamp (by omega)]
  funext j
  by_cases hj : j = 256 + i
  · subst hj; rw [pk_us, mm2, if_neg (by omega), if_pos (by omega), Nat.add_sub_cancel_left, pk_us]
  · rw [pk_un hj, mm2, mm2]
    by_cases h1 : j < 256
    · rw [if_pos h1, if_pos h1]
    · by_cases h2 : j < 512
      · rw [if_neg h1, if_pos h2, if_neg h1, if_pos h2, pk_un (by omega)]
      · rw [if_neg h1, if_neg h2, if_neg h1, if_neg h2]
theorem ini_0 {i : Nat} (hi : i < 256) : vp_in (0 + nI i) 512 := by
  rw [show (0 : Int32) + nI i = nI (0 + i) from nI_add 0 i]; exact vp_in_nI (by omega) (by decide)
theorem rg_2 {a x d r s t v : Int32} : upd (rg6 a x d r s t) 2 v = rg6 a x v r s t := by
  funext j; match j with
  | 0 => rfl
  | 1 => rfl
  | 2 => rfl
  | 3 => rfl
  | 4 => rfl
  | 5 => rfl
  | n + 6 => rfl
