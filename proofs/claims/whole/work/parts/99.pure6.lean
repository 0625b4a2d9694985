/-! refusals: the least address, found from below and from above -/
theorem refK_none {Q : Nat → Bool} {c : Int32} (k : Nat) : ∀ f : Int32, (∀ j : Nat, j < k → Q j = false) → refK Q c k f = f := by
  induction k with
  | zero => intro f _; rfl
  | succ k ih =>
    intro f h
    rw [refK, if_neg (by rw [h k (by omega)]; decide)]
    exact ih f (fun j hj => h j (by omega))
theorem refK_some {Q : Nat → Bool} {c : Int32} {j : Nat} (hj : Q j = true) (hl : ∀ i : Nat, i < j → Q i = false) (k : Nat) : ∀ f : Int32, j < k → refK Q c k f = c - nI j := by
  induction k with
  | zero => intro f h; exact absurd h (Nat.not_lt_zero _)
  | succ k ih =>
    intro f h
    rw [refK]
    by_cases e : j = k
    · subst e; rw [if_pos hj, refK_none j _ hl]
    · exact ih _ (by omega)
theorem least_none {P : Nat → Bool} (k : Nat) : ∀ i : Nat, (∀ j : Nat, i ≤ j → j < i + k → P j = false) → least P k i = -1 := by
  induction k with
  | zero => intro i _; rfl
  | succ k ih =>
    intro i h
    rw [least, if_neg (by rw [h i (Nat.le_refl _) (by omega)]; decide)]
    exact ih (i + 1) (fun j h1 h2 => h j (by omega) (by omega))
theorem least_some {P : Nat → Bool} {j : Nat} (hj : P j = true) (k : Nat) : ∀ i : Nat, i ≤ j → j < i + k → (∀ l : Nat, i ≤ l → l < j → P l = false) → least P k i = nI j := by
  induction k with
  | zero => intro i h1 h2 _; omega
  | succ k ih =>
    intro i h1 h2 hl
    rw [least]
    by_cases e : i = j
    · subst e; rw [if_pos hj]
    · rw [if_neg (by rw [hl i (Nat.le_refl _) (by omega)]; decide)]
      exact ih (i + 1) (by omega) (by omega) (fun l h3 h4 => hl l (by omega) h4)
theorem nI_nm1 {j : Nat} (h : j < 2 ^ 31) : ¬ nI j = -1 := fun e => nI_pos h (by rw [e]; decide)
theorem ref_step {P Q : Nat → Bool} (hPQ : ∀ i : Nat, i < 256 → P i = Q i) (c f : Int32) : refK Q c 256 f = (if least P 256 0 = -1 then f else c - least P 256 0) := by
  by_cases h : ∃ j : Nat, j < 256 ∧ Q j = true
  · obtain ⟨j, ⟨hj, hq⟩, hl⟩ := pk_least (fun j => j < 256 ∧ Q j = true) h
    have hl' : ∀ i : Nat, i < j → Q i = false := fun i hi => by
      cases e : Q i with
      | false => rfl
      | true => exact absurd ⟨by omega, e⟩ (hl i hi)
    rw [refK_some hq hl' 256 f hj, least_some (P := P) (j := j) (by rw [hPQ j hj]; exact hq) 256 0 (Nat.zero_le _) (by omega) (fun l _ h4 => by rw [hPQ l (by omega)]; exact hl' l h4), if_neg (nI_nm1 (by omega))]
  · have hn : ∀ j : Nat, j < 256 → Q j = false := fun j hj => by
      cases e : Q j with
      | false => rfl
      | true => exact absurd ⟨j, hj, e⟩ h
    rw [refK_none 256 f hn, least_none 256 0 (fun j _ h2 => by rw [hPQ j (by omega)]; exact hn j (by omega)), if_pos rfl]
theorem unk_eq {fr fs : Nat → Int32} (i : Nat) : unkP fr fs i = unkM fr fs i := rfl
theorem before_eq : ∀ i : Nat, i < 256 → (nI i - 1) &&& 255 = (nI i + 255) &&& 255 := by decide +kernel
theorem len_big : ∀ k : Nat, k < 256 → 32 ≤ nI k → ¬ lenI (nI k) = 2 := by decide +kernel
theorem ovl_eq {fr fs : Nat → Int32} (hb : bytM fs) {i : Nat} (hi : i < 256) : ovlP fr fs i = secB fr fs i := by
  have e1 : rd fr (nI i - 1) = rd fr (nI i + 255) := by rw [rd, rd, before_eq i hi]
  have e2 : rd fs (nI i - 1) = rd fs (nI i + 255) := by rw [rd, rd, before_eq i hi]
  rw [ovlP, secB, e1, e2]
  by_cases h : 32 ≤ rd fs (nI i + 255)
  · obtain ⟨k, hk, e⟩ := byt_rd hb (nI i + 255)
    rw [if_pos h, if_neg (show ¬ lenI (rd fs (nI i + 255)) = 2 by rw [e]; rw [e] at h; exact len_big k hk h)]
  · rw [if_neg h]
theorem las_low : ∀ i : Nat, i < 254 → ∀ o : Int32, lasW i o = false := by
  intro i hi o
  rw [lasW, if_neg (show ¬ nI i = 254 from fun e => absurd ((nI_eq (a := i) (b := 254) (by omega) (by decide)).mp e) (by omega)), if_neg (show ¬ nI i = 255 from fun e => absurd ((nI_eq (a := i) (b := 255) (by omega) (by decide)).mp e) (by omega))]
theorem las_lowB {fr fs : Nat → Int32} {i : Nat} (hi : i < 254) : lasB fr fs i = false := by
  rw [lasB, las_low i hi]; by_cases h : fr i = 0
  · rw [if_pos h]
  · rw [if_neg h]
theorem las_255 {fr fs : Nat → Int32} (h : lasB fr fs 254 = false) : least (lasB fr fs) 256 0 = (if lasB fr fs 255 = true then 255 else -1) := by
  by_cases q : lasB fr fs 255 = true
  · rw [if_pos q]
    exact least_some q 256 0 (Nat.zero_le _) (by decide) (fun l _ h4 => by
      by_cases e : l = 254
      · rw [e]; exact h
      · exact las_lowB (by omega))
  · rw [if_neg q]
    exact least_none 256 0 (fun j _ h2 => by
      by_cases e : j < 254
      · exact las_lowB e
      · by_cases e2 : j = 254
        · rw [e2]; exact h
        · rw [show j = 255 by omega]; exact Bool.not_eq_true _ ▸ q)
theorem las_eq {fr fs : Nat → Int32} : least (lasB fr fs) 256 0 = rofI fr fs := by
  have h5 : (if lasB fr fs 255 = true then (255 : Int32) else -1) = rof2 fr fs := by
    rw [lasB, rof2, show lasW 255 (fs 255) = (if fs 255 = 1 then false else if fs 255 = 28 then false else if fs 255 = 31 then false else true) from rfl]
    by_cases a1 : fr 255 = 0
    · rw [if_pos a1, if_pos a1]; rfl
    · rw [if_neg a1, if_neg a1]
      by_cases a2 : fs 255 = 1
      · rw [if_pos a2, if_pos a2]; rfl
      · rw [if_neg a2, if_neg a2]
        by_cases a3 : fs 255 = 28
        · rw [if_pos a3, if_pos a3]; rfl
        · rw [if_neg a3, if_neg a3]
          by_cases a4 : fs 255 = 31
          · rw [if_pos a4, if_pos a4]; rfl
          · rw [if_neg a4, if_neg a4]; rfl
  have e4 : lasB fr fs 254 = (if fr 254 = 0 then false else if lenI (fs 254) = 2 then (if fs 254 = 22 then false else if fs 254 = 27 then false else true) else false) := rfl
  rw [rofI]
  by_cases b1 : fr 254 = 0
  · rw [if_pos b1] at e4 ⊢; rw [las_255 e4, h5]
  · rw [if_neg b1] at e4 ⊢
    by_cases b2 : lenI (fs 254) = 2
    · rw [if_pos b2] at e4 ⊢
      by_cases b3 : fs 254 = 22
      · rw [if_pos b3] at e4 ⊢; rw [las_255 e4, h5]
      · rw [if_neg b3] at e4 ⊢
        by_cases b4 : fs 254 = 27
        · rw [if_pos b4] at e4 ⊢; rw [las_255 e4, h5]
        · rw [if_neg b4] at e4 ⊢
          exact least_some e4 256 0 (Nat.zero_le _) (by decide) (fun l _ h4 => las_lowB h4)
    · rw [if_neg b2] at e4 ⊢; rw [las_255 e4, h5]
/-- the same refusal, on the same marks -/
theorem ref_eq {fr fs : Nat → Int32} (hb : bytM fs) : refI fr fs = refM fr fs := by
  rw [refM, ref_step (P := unkP fr fs) (fun i _ => unk_eq i), ref_step (P := ovlP fr fs) (fun i hi => ovl_eq hb hi), ref_step (P := lasB fr fs) (fun _ _ => rfl), las_eq, refI]
