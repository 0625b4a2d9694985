/-! the first machine: class and reference do the same step, on bytes -/
theorem xo_nI (a b : Nat) : nI a ^^^ nI b = nI (a ^^^ b) := by
  apply Int32.toBitVec_inj.1
  show BitVec.ofNat 32 a ^^^ BitVec.ofNat 32 b = BitVec.ofNat 32 (a ^^^ b)
  apply BitVec.eq_of_getLsbD_eq
  intro i hi
  simp [hi]
theorem an_nI (a b : Nat) : nI a &&& nI b = nI (a &&& b) := by
  apply Int32.toBitVec_inj.1
  show BitVec.ofNat 32 a &&& BitVec.ofNat 32 b = BitVec.ofNat 32 (a &&& b)
  apply BitVec.eq_of_getLsbD_eq
  intro i hi
  simp [hi]
theorem byt_xor {a n : Int32} (ha : byt a) (hn : byt n) : byt (a ^^^ n) := by
  obtain ⟨i, hi, rfl⟩ := ha
  obtain ⟨j, hj, rfl⟩ := hn
  exact ⟨i ^^^ j, Nat.xor_lt_two_pow (n := 8) hi hj, xo_nI i j⟩
theorem byt_an {a n : Int32} (hn : byt n) : byt (a &&& n) := by
  rw [← byt_and2 (a := a) hn]; exact byt_m _
def fStepO (o n : Int32) (g : Nat → Int32) (a x s p q : Int32) (z c : Bool) (t : Int32) : MS :=
  if isUnkB o = true then (g, a, x, s, p, z, c, 2) else if o = 1 then (g, a, x, s, p, z, c, 1)
  else if 9 < o then (if 21 < o then fTran o n g a x s q z c t else fReck o n g a x s q z c t) else fMove o n g a x s q z c t
def mStepO (o n : Int32) (g : Nat → Int32) (a x s p q : Int32) (z c : Bool) (t : Int32) : MS :=
  if o = 1 then (g, a, x, s, p, z, c, 1)
  else if o ≤ 31 then
    (if o ≤ 21 then
      (if o ≤ 11 then
        (if o ≤ 1 then (g, a, x, s, q, z, c, t)
         else ((mMove o n g a x z).1, (mMove o n g a x z).2.1, (mMove o n g a x z).2.2.1, s, q, (mMove o n g a x z).2.2.2, c, t))
       else (g, (mReck o n g a c).1, x, s, q, (mReck o n g a c).2.1, (mReck o n g a c).2.2, t))
     else ((mTran o n g a x s q z c).1, (mTran o n g a x s q z c).2.1, x, (mTran o n g a x s q z c).2.2.1, (mTran o n g a x s q z c).2.2.2.1, (mTran o n g a x s q z c).2.2.2.2, c, t))
  else (g, a, x, s, p, z, c, 2)
theorem fStep_O (g : Nat → Int32) (a x s p : Int32) (z c : Bool) (t : Int32) : fStep g a x s p z c t = fStepO (rd g p) (rd g (p + 1)) g a x s p ((p + lenI (rd g p)) &&& 255) z c t := rfl
theorem mStep_O (g : Nat → Int32) (a x s p : Int32) (z c : Bool) (t : Int32) : mStep g a x s p z c t = mStepO (rd g p) (rd g (p + 1)) g a x s p ((p + lenI (rd g p)) &&& 255) z c t := rfl
theorem big_o {k : Nat} (h : ¬ k < 32) (hk : k < 256) : ¬ nI k ≤ 31 := nI_ge (a := 31) (b := k) (by omega) (by omega)
section S
variable {n : Int32} {g : Nat → Int32} {a x s p q : Int32} {z c : Bool} {t : Int32}
set_option maxRecDepth 100000 in
set_option maxHeartbeats 4000000 in
theorem stepO_eq {o : Int32} (ho : byt o) (hn : byt n) (hg : bytM g) (ha : byt a) (hx : byt x) : fStepO o n g a x s p q z c t = mStepO o n g a x s p q z c t := by
  obtain ⟨k, hk, rfl⟩ := ho
  by_cases h32 : k < 32
  · match k, h32 with
    | 0, _ => rfl
    | 1, _ => rfl
    | 2, _ =>
      show (g, n, x, s, q, decide (n = 0), c, t) = (g, n &&& 255, x, s, q, decide (n &&& 255 = 0), c, t)
      rw [byt_and hn]
    | 3, _ =>
      show (g, rd g n, x, s, q, decide (rd g n = 0), c, t) = (g, rd g n &&& 255, x, s, q, decide (rd g n &&& 255 = 0), c, t)
      rw [byt_and (byt_rd hg n)]
    | 4, _ =>
      show (g, rd g (n + x), x, s, q, decide (rd g (n + x) = 0), c, t) = (g, rd g (n + x) &&& 255, x, s, q, decide (rd g (n + x) &&& 255 = 0), c, t)
      rw [byt_and (byt_rd hg (n + x))]
    | 5, _ => rfl
    | 6, _ => rfl
    | 7, _ =>
      show (g, a, n, s, q, z, c, t) = (g, a, n &&& 255, s, q, z, c, t)
      rw [byt_and hn]
    | 8, _ =>
      show (g, a, a, s, q, z, c, t) = (g, a, a &&& 255, s, q, z, c, t)
      rw [byt_and ha]
    | 9, _ =>
      show (g, x, x, s, q, decide (x = 0), c, t) = (g, x &&& 255, x, s, q, decide (x &&& 255 = 0), c, t)
      rw [byt_and hx]
    | 10, _ => rfl
    | 11, _ => rfl
    | 12, _ => rfl
    | 13, _ => rfl
    | 14, _ => rfl
    | 15, _ => rfl
    | 16, _ => rfl
    | 17, _ =>
      show (g, a &&& n, x, s, q, decide (a &&& n = 0), false, t) = (g, (a &&& n) &&& 255, x, s, q, decide ((a &&& n) &&& 255 = 0), false, t)
      rw [byt_and2 hn]
    | 18, _ =>
      show (g, a ^^^ n, x, s, q, decide (a ^^^ n = 0), false, t) = (g, (a ^^^ n) &&& 255, x, s, q, decide ((a ^^^ n) &&& 255 = 0), false, t)
      rw [byt_and (byt_xor ha hn)]
    | 19, _ =>
      show (g, a, x, s, q, decide (difI a n = 0), difC a n, t) = (g, a &&& 255, x, s, q, decide (difI a n = 0), difC a n, t)
      rw [byt_and ha]
    | 20, _ =>
      show (g, dblI a, x, s, q, decide (dblI a = 0), dblC a, t) = (g, dblI a, x, s, q, decide (dblI a = 0), decide (¬ a ≤ 127), t)
      rw [byt_dbl ha]
    | 21, _ =>
      show (g, hlvI a, x, s, q, decide (hlvI a = 0), hlvC a, t) = (g, (a / 2) &&& 255, x, s, q, decide ((a / 2) &&& 255 = 0), decide (a - a / 2 * 2 = 1), t)
      rw [(byt_hlv ha).1, (byt_hlv ha).2.1]
    | 22, _ => rfl
    | 23, _ => rfl
    | 24, _ => cases z <;> rfl
    | 25, _ => rfl
    | 26, _ => cases c <;> rfl
    | 27, _ => rfl
    | 28, _ => rfl
    | 29, _ => rfl
    | 30, _ =>
      show (g, rd g ((s + 1) &&& 255), x, (s + 1) &&& 255, q, decide (rd g ((s + 1) &&& 255) = 0), c, t) = (g, rd g ((s + 1) &&& 255) &&& 255, x, (s + 1) &&& 255, q, decide (rd g ((s + 1) &&& 255) &&& 255 = 0), c, t)
      rw [byt_and (byt_rd hg ((s + 1) &&& 255))]
    | 31, _ => rfl
    | k + 32, h => exact absurd h (by omega)
  · rw [fStepO, if_pos (by rw [isUnkB, if_neg (big_o h32 hk)]), mStepO, if_neg (fun e => big_o h32 hk (by rw [e]; decide)), if_neg (big_o h32 hk)]
def bytU (u : MS) : Prop := bytM u.1 ∧ byt u.2.1 ∧ byt u.2.2.1 ∧ byt u.2.2.2.1 ∧ byt u.2.2.2.2.1
theorem byt_if {b : Bool} {v w : Int32} (hv : byt v) (hw : byt w) : byt (if b = true then v else w) := by cases b <;> assumption
set_option maxRecDepth 100000 in
set_option maxHeartbeats 4000000 in
theorem stepO_byt {o : Int32} (ho : byt o) (hn : byt n) (hg : bytM g) (ha : byt a) (hx : byt x) (hs : byt s) (hp : byt p) (hq : byt q) : bytU (fStepO o n g a x s p q z c t) := by
  obtain ⟨k, hk, rfl⟩ := ho
  by_cases h32 : k < 32
  · match k, h32 with
    | 0, _ => exact ⟨hg, ha, hx, hs, hq⟩
    | 1, _ => exact ⟨hg, ha, hx, hs, hp⟩
    | 2, _ => exact ⟨hg, hn, hx, hs, hq⟩
    | 3, _ => exact ⟨hg, byt_rd hg _, hx, hs, hq⟩
    | 4, _ => exact ⟨hg, byt_rd hg _, hx, hs, hq⟩
    | 5, _ => exact ⟨byt_wr hg _ _, ha, hx, hs, hq⟩
    | 6, _ => exact ⟨byt_wr hg _ _, ha, hx, hs, hq⟩
    | 7, _ => exact ⟨hg, ha, hn, hs, hq⟩
    | 8, _ => exact ⟨hg, ha, ha, hs, hq⟩
    | 9, _ => exact ⟨hg, hx, hx, hs, hq⟩
    | 10, _ => exact ⟨hg, ha, byt_m _, hs, hq⟩
    | 11, _ => exact ⟨hg, ha, byt_m _, hs, hq⟩
    | 12, _ => exact ⟨hg, byt_m _, hx, hs, hq⟩
    | 13, _ => exact ⟨hg, byt_m _, hx, hs, hq⟩
    | 14, _ => exact ⟨hg, byt_m _, hx, hs, hq⟩
    | 15, _ => exact ⟨hg, byt_m _, hx, hs, hq⟩
    | 16, _ => exact ⟨hg, byt_m _, hx, hs, hq⟩
    | 17, _ => exact ⟨hg, byt_an hn, hx, hs, hq⟩
    | 18, _ => exact ⟨hg, byt_xor ha hn, hx, hs, hq⟩
    | 19, _ => exact ⟨hg, ha, hx, hs, hq⟩
    | 20, _ => exact ⟨hg, byt_m _, hx, hs, hq⟩
    | 21, _ => exact ⟨hg, (byt_hlv ha).2.2, hx, hs, hq⟩
    | 22, _ => exact ⟨hg, ha, hx, hs, hn⟩
    | 23, _ => exact ⟨hg, ha, hx, hs, byt_if hn hq⟩
    | 24, _ => exact ⟨hg, ha, hx, hs, byt_if hq hn⟩
    | 25, _ => exact ⟨hg, ha, hx, hs, byt_if hn hq⟩
    | 26, _ => exact ⟨hg, ha, hx, hs, byt_if hq hn⟩
    | 27, _ => exact ⟨byt_wr hg _ _, ha, hx, byt_m _, hn⟩
    | 28, _ => exact ⟨hg, ha, hx, byt_m _, byt_rd hg _⟩
    | 29, _ => exact ⟨byt_wr hg _ _, ha, hx, byt_m _, hq⟩
    | 30, _ => exact ⟨hg, byt_rd hg _, hx, byt_m _, hq⟩
    | 31, _ => exact ⟨hg, ha, hx, hs, hx⟩
    | k + 32, h => exact absurd h (by omega)
  · rw [fStepO, if_pos (by rw [isUnkB, if_neg (big_o h32 hk)])]
    exact ⟨hg, ha, hx, hs, hp⟩
end S
theorem step_eq {u : MS} (h : bytU u) : fStepU u = mStepU u := by
  obtain ⟨g, a, x, s, p, z, c, t⟩ := u
  obtain ⟨hg, ha, hx, hs, hp⟩ := h
  show fStep g a x s p z c t = mStep g a x s p z c t
  rw [fStep_O, mStep_O]
  exact stepO_eq (byt_rd hg p) (byt_rd hg (p + 1)) hg ha hx
theorem step_byt {u : MS} (h : bytU u) : bytU (fStepU u) := by
  obtain ⟨g, a, x, s, p, z, c, t⟩ := u
  obtain ⟨hg, ha, hx, hs, hp⟩ := h
  show bytU (fStep g a x s p z c t)
  rw [fStep_O]
  exact stepO_byt (byt_rd hg p) (byt_rd hg (p + 1)) hg ha hx hs hp (byt_m _)
/-- runs of the first machine: one answer, one state, bytes again -/
theorem iter_eq (k : Nat) : ∀ u : MS, bytU u → fIter k u = gIter mStepU k u ∧ bytU (fIter k u).2 := by
  induction k with
  | zero => intro u h; exact ⟨rfl, h⟩
  | succ k ih =>
    intro u h
    rw [fIter, gIter]
    by_cases hs : stF u = 0
    · rw [if_pos hs, if_pos hs, ← step_eq h]
      obtain ⟨e1, e2⟩ := ih (fStepU u) (step_byt h)
      exact ⟨by rw [e1], e2⟩
    · rw [if_neg hs, if_neg hs]; exact ⟨rfl, h⟩
