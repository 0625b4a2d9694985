/-! the code whole: class and reference build the same one -/
theorem upd_upd (f : Nat → Int32) (k : Nat) (a b : Int32) : upd (upd f k a) k b = upd f k b := by
  funext j
  by_cases h : j = k
  · subst h; rw [pk_us, pk_us]
  · rw [pk_un h, pk_un h, pk_un h]
theorem bld_eq {fr fr' fs fw fb fn fx fy : Nat → Int32} (hm : ∀ j : Nat, j < 256 → (fr j = 0 ↔ fr' j = 0)) (hk : ∀ j : Nat, j < 256 → ¬ fr j = 0 → ∃ k : Nat, k < 32 ∧ fs j = nI k) :
    ∀ i : Nat, i ≤ 256 → (bldN fr fs i (fw, fb, (0, fn, fx, fy))).1 = (bldM fr' fs i (fw, (0, fn, fx, fy))).1 ∧ (bldN fr fs i (fw, fb, (0, fn, fx, fy))).2.2 = (bldM fr' fs i (fw, (0, fn, fx, fy))).2 ∧ (bldM fr' fs i (fw, (0, fn, fx, fy))).2.1 ≤ 4 * i := by
  intro i
  induction i with
  | zero => intro _; exact ⟨rfl, rfl, Nat.le_refl _⟩
  | succ i ih =>
    intro hi
    obtain ⟨e1, e2, e3⟩ := ih (by omega)
    rw [bldN, bldM, bldS, bldR]
    by_cases h : fr i = 0
    · rw [if_pos h, if_pos ((hm i (by omega)).mp h)]
      exact ⟨by rw [e1], e2, Nat.le_trans e3 (by omega)⟩
    · obtain ⟨k, hk1, hk2⟩ := hk i (by omega) h
      have hlt : (bldN fr fs i (fw, fb, (0, fn, fx, fy))).2.2.1 < 1024 := by rw [e2]; omega
      rw [if_neg h, if_pos hlt, if_neg (fun q => h ((hm i (by omega)).mpr q)), hk2]
      refine ⟨by show upd (upd _ i (-1)) i _ = upd _ i _; rw [upd_upd, e1, e2], by show rowP _ _ _ _ = instM _ _ _ _; rw [row_eq hk1, e2], ?_⟩
      have := inst_n hk1 (rd fs (nI i + 1)) ((nI i + 2) &&& 255) (bldM fr' fs i (fw, (0, fn, fx, fy))).2
      show (instM (nI k) (rd fs (nI i + 1)) ((nI i + 2) &&& 255) (bldM fr' fs i (fw, (0, fn, fx, fy))).2).1 ≤ 4 * (i + 1)
      omega
theorem bld_ok {fr fs fw fn fx fy : Nat → Int32} (hb : bytM fs) (hk : ∀ j : Nat, j < 256 → ¬ fr j = 0 → ∃ k : Nat, k < 32 ∧ fs j = nI k) :
    ∀ i : Nat, i ≤ 256 → okP (bldM fr fs i (fw, (0, fn, fx, fy))).2 := by
  intro i
  induction i with
  | zero => intro _ k hk9; exact absurd hk9 (Nat.not_lt_zero _)
  | succ i ih =>
    intro hi
    rw [bldM, bldR]
    by_cases h : fr i = 0
    · rw [if_pos h]; exact ih (by omega)
    · obtain ⟨k, hk1, hk2⟩ := hk i (by omega) h
      rw [if_neg h, hk2]
      exact inst_ok hk1 (byt_rd hb _) _ (ih (by omega))
theorem tgt_eq {fn fw : Nat → Int32} {fy : Nat → Int32} (n : Nat) (h : ∀ k : Nat, k < n → hasSB (fn k) = true → byt (fy k)) : tgtN fn fw n fy = tgtR fn fw n fy := by
  induction n with
  | zero => rfl
  | succ n ih =>
    have e := ih (fun k hk => h k (by omega))
    rw [tgtN, tgtR, e]
    by_cases hs : hasSB (fn n) = true
    · rw [if_pos hs, if_pos hs, tgtR_at n n (Nat.le_refl n), rd_byte (byt_isB (h n (by omega) hs))]
    · rw [if_neg hs, if_neg hs]
