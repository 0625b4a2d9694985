/-! the reference's reach -/
theorem unk_32 {o : Int32} : (32 ≤ o) ↔ isUnkB o = true := by
  rw [isUnkB]
  have e0 : (32 : Int32).toInt = 32 := by decide
  have e1 : (31 : Int32).toInt = 31 := by decide
  by_cases h : o ≤ 31
  · rw [if_pos h]
    rw [Int32.le_iff_toInt_le] at h ⊢
    exact ⟨fun q => by omega, fun q => by cases q⟩
  · rw [if_neg h]
    rw [Int32.le_iff_toInt_le] at h ⊢
    exact ⟨fun _ => rfl, fun _ => by omega⟩
/-- what a mark of the reference's keeps: marks grow, and stay within every closed set; a flag that is off says that nothing was marked -/
def grR (s s' : RM) : Prop := (∀ j : Nat, ¬ s.1 j = 0 → ¬ s'.1 j = 0) ∧ (s.2 = true → s'.2 = true) ∧ (s'.2 = false → s'.1 = s.1) ∧ (s'.2 = true → s.2 = true ∨ cntM s.1 256 < cntM s'.1 256) ∧ cntM s.1 256 ≤ cntM s'.1 256
def inR (S : Nat → Prop) (s : RM) : Prop := ∀ j : Nat, j < 256 → ¬ s.1 j = 0 → S j
theorem grR_rf (s : RM) : grR s s := ⟨fun _ p => p, fun p => p, fun _ => rfl, fun p => Or.inl p, Nat.le_refl _⟩
theorem grR_tr {a b c : RM} (h : grR a b) (k : grR b c) : grR a c := by
  obtain ⟨h1, h2, h3, h4, h5⟩ := h
  obtain ⟨k1, k2, k3, k4, k5⟩ := k
  refine ⟨fun j p => k1 j (h1 j p), fun p => k2 (h2 p), fun p => ?_, fun p => ?_, Nat.le_trans h5 k5⟩
  · have : b.2 = false := by cases e : b.2 with
      | false => rfl
      | true => rw [k2 e] at p; cases p
    exact (k3 p).trans (h3 this)
  · rcases k4 p with q | q
    · rcases h4 q with r | r
      · exact Or.inl r
      · exact Or.inr (by omega)
    · exact Or.inr (by omega)
theorem grR_set {s : RM} {a : Nat} (ha : a < 256) (h : s.1 a = 0) : grR s (upd s.1 a 1, true) := by
  have e : cntM (upd s.1 a 1) 256 = cntM s.1 256 + 1 := by rw [cnt_upd h, if_pos ha]
  refine ⟨fun j p => ?_, fun _ => rfl, fun p => (by cases p), fun _ => Or.inr ?_, ?_⟩
  · show ¬ upd s.1 a 1 j = 0
    by_cases q : j = a
    · rw [q, pk_us]; decide
    · rw [pk_un q]; exact p
  · show cntM s.1 256 < cntM (upd s.1 a 1) 256; omega
  · show cntM s.1 256 ≤ cntM (upd s.1 a 1) 256; omega
theorem inR_set {S : Nat → Prop} {s : RM} {a : Nat} (h : inR S s) (ha : S a) (b : Bool) : inR S (upd s.1 a 1, b) := by
  intro j hj p
  have p : ¬ upd s.1 a 1 j = 0 := p
  by_cases q : j = a
  · rw [q]; exact ha
  · rw [pk_un q] at p; exact h j hj p
/-- one address's turn -/
theorem rStp_ok {fi : Nat → Int32} (hb : bytM fi) {i : Nat} (hi : i < 256) (s : RM) :
    grR s (rStp fi i s) ∧ (∀ S : Nat → Prop, clsd fi S → inR S s → inR S (rStp fi i s)) ∧
    (¬ s.1 i = 0 → ∀ b : Nat, (ldB fi i b ∨ ldT fi i b) → ¬ (rStp fi i s).1 b = 0) := by
  rw [rStp]
  by_cases kn : knB fi s.1 i = true
  · have hm : ¬ s.1 i = 0 ∧ isUnkB (fi i) = false := by
      rw [knB] at kn
      by_cases q : s.1 i = 0
      · rw [if_pos q] at kn; cases kn
      · rw [if_neg q] at kn
        by_cases q2 : 32 ≤ fi i
        · rw [if_pos q2] at kn; cases kn
        · exact ⟨q, by cases e : isUnkB (fi i) with
            | false => rfl
            | true => exact absurd (unk_32.mpr e) q2⟩
    rw [kn]
    have s1 : grR s (rS1 fi i true s) ∧ (∀ S : Nat → Prop, clsd fi S → inR S s → inR S (rS1 fi i true s)) ∧ (∀ b : Nat, ldB fi i b → ¬ (rS1 fi i true s).1 b = 0) := by
      rw [rS1, if_pos rfl]
      by_cases be : behB (fi i) = true
      · rw [if_pos be]
        by_cases q : rd s.1 (nI i + lenI (fi i)) = 0
        · rw [if_pos q]
          refine ⟨grR_set (ad8_lt _) q, fun S hC hS => inR_set hS (hC i _ hi (hS i hi hm.1) (Or.inl ⟨hm.2, be, rfl⟩)) _, fun b hl => ?_⟩
          rw [hl.2.2]
          show ¬ upd s.1 (ad8 (nI i + lenI (fi i))) 1 (ad8 (nI i + lenI (fi i))) = 0
          rw [pk_us]; decide
        · rw [if_neg q]
          exact ⟨grR_rf s, fun _ _ h => h, fun b hl => by rw [hl.2.2]; exact q⟩
      · rw [if_neg be]
        exact ⟨grR_rf s, fun _ _ h => h, fun b hl => absurd hl.2.1 be⟩
    have s2 : ∀ t : RM, ¬ t.1 i = 0 → grR t (rS2 fi i true t) ∧ (∀ S : Nat → Prop, clsd fi S → inR S t → inR S (rS2 fi i true t)) ∧ (∀ b : Nat, ldT fi i b → ¬ (rS2 fi i true t).1 b = 0) := by
      intro t ht
      rw [rS2, if_pos rfl]
      by_cases be : hasTB (fi i) = true
      · rw [if_pos be, ad8_b (byt_rd hb (nI i + 1))]
        by_cases q : t.1 (ad8 (rd fi (nI i + 1))) = 0
        · rw [if_pos q]
          refine ⟨grR_set (ad8_lt _) q, fun S hC hS => inR_set hS (hC i _ hi (hS i hi ht) (Or.inr ⟨hm.2, be, rfl⟩)) _, fun b hl => ?_⟩
          rw [hl.2.2]
          show ¬ upd t.1 (ad8 (rd fi (nI i + 1))) 1 (ad8 (rd fi (nI i + 1))) = 0
          rw [pk_us]; decide
        · rw [if_neg q]
          exact ⟨grR_rf t, fun _ _ h => h, fun b hl => by rw [hl.2.2]; exact q⟩
      · rw [if_neg be]
        exact ⟨grR_rf t, fun _ _ h => h, fun b hl => absurd hl.2.1 be⟩
    obtain ⟨a1, a2, a3⟩ := s1
    obtain ⟨b1, b2, b3⟩ := s2 (rS1 fi i true s) (a1.1 i hm.1)
    refine ⟨grR_tr a1 b1, fun S hC hS => b2 S hC (a2 S hC hS), fun _ b hl => ?_⟩
    rcases hl with hl | hl
    · exact b1.1 b (a3 b hl)
    · exact b3 b hl
  · have kf : knB fi s.1 i = false := by cases e : knB fi s.1 i with
      | false => rfl
      | true => exact absurd e kn
    rw [kf]
    have e1 : rS1 fi i false s = s := by rw [rS1, if_neg (by decide)]
    have e2 : rS2 fi i false s = s := by rw [rS2, if_neg (by decide)]
    rw [e1, e2]
    refine ⟨grR_rf s, fun _ _ h => h, fun hm b hl => ?_⟩
    have hu : isUnkB (fi i) = true := by
      rw [knB, if_neg hm] at kf
      by_cases q2 : 32 ≤ fi i
      · exact unk_32.mp q2
      · rw [if_neg q2] at kf; cases kf
    rcases hl with hl | hl
    · exact absurd (hl.1.symm.trans hu) (by decide)
    · exact absurd (hl.1.symm.trans hu) (by decide)
theorem rInn_ok {fi : Nat → Int32} (hb : bytM fi) (s : RM) : ∀ k : Nat, k ≤ 256 →
    grR s (rInn fi k s) ∧ (∀ S : Nat → Prop, clsd fi S → inR S s → inR S (rInn fi k s)) ∧
    ((rInn fi k s).2 = false → ∀ i b : Nat, i < k → ¬ s.1 i = 0 → (ldB fi i b ∨ ldT fi i b) → ¬ s.1 b = 0) := by
  intro k
  induction k with
  | zero => intro _; exact ⟨grR_rf s, fun _ _ h => h, fun _ i b hi => absurd hi (Nat.not_lt_zero i)⟩
  | succ k ih =>
    intro hk
    obtain ⟨a1, a2, a3⟩ := ih (by omega)
    obtain ⟨b1, b2, b3⟩ := rStp_ok hb (show k < 256 by omega) (rInn fi k s)
    rw [rInn]
    refine ⟨grR_tr a1 b1, fun S hC hS => b2 S hC (a2 S hC hS), fun hf i b hi hm hl => ?_⟩
    have hf2 : (rInn fi k s).2 = false := by cases e : (rInn fi k s).2 with
      | false => rfl
      | true => rw [b1.2.1 e] at hf; cases hf
    have e1 : (rInn fi k s).1 = s.1 := a1.2.2.1 hf2
    by_cases e : i = k
    · subst e
      have := b3 (by rw [e1]; exact hm) b hl
      rw [b1.2.2.1 hf, e1] at this; exact this
    · exact a3 hf2 i b (by omega) hm hl
theorem rOut_ok {fi : Nat → Int32} (hb : bytM fi) {en : Nat} : ∀ (k : Nat) (s : RM), ¬ s.1 en = 0 → (∀ S : Nat → Prop, S en → clsd fi S → inR S s) → (s.2 = true → 257 ≤ k + cntM s.1 256) →
    (s.2 = false → clsd fi (fun j => ¬ s.1 j = 0)) → lstS fi en (rOut fi k s).1 := by
  intro k
  induction k with
  | zero =>
    intro s hen hS hc hcl
    have hle := cnt_le s.1 256
    refine ⟨hen, hcl ?_, fun S h1 h2 => hS S h1 h2⟩
    cases e : s.2 with
    | false => rfl
    | true => have := hc e; omega
  | succ k ih =>
    intro s hen hS hc hcl
    rw [rOut]
    by_cases q : s.2 = true
    · rw [if_pos q]
      obtain ⟨a1, a2, a3⟩ := rInn_ok hb (s.1, false) 256 (Nat.le_refl _)
      refine ih _ (a1.1 en hen) (fun S h1 h2 => a2 S h2 (hS S h1 h2)) (fun p => ?_) (fun p a b ha hm hl => ?_)
      · rcases a1.2.2.2.1 p with r | r
        · cases r
        · have r : cntM s.1 256 < cntM (rInn fi 256 (s.1, false)).1 256 := r
          have := hc q; omega
      · rw [a1.2.2.1 p] at hm ⊢
        exact a3 p a b ha hm hl
    · rw [if_neg q]
      have qf : s.2 = false := by cases e : s.2 with
        | false => rfl
        | true => exact absurd e q
      exact ⟨hen, hcl qf, fun S h1 h2 => hS S h1 h2⟩
theorem cnt_1 {f : Nat → Int32} {a : Nat} (h : ¬ f a = 0) (k : Nat) (hk : a < k) : 1 ≤ cntM f k := by
  induction k with
  | zero => omega
  | succ k ih =>
    rw [cntM]
    by_cases e : a = k
    · subst e; rw [if_neg h]; omega
    · have := ih (by omega); omega
/-- the reference's marks -/
theorem rOut_lst {fi fr : Nat → Int32} (hb : bytM fi) {en : Int32} (hen : byt en) : lstS fi (ad8 en) (rOut fi 256 (filE en fr 256, true)).1 := by
  have e0 : nI (ad8 en) = en := by rw [nI_ad8, byt_and hen]
  have h1 : ¬ filE en fr 256 (ad8 en) = 0 := by rw [filE, if_pos (ad8_lt en), if_pos e0]; decide
  refine rOut_ok hb 256 _ h1 (fun S hS _ j hj hm => ?_) (fun _ => ?_) (fun p => by cases p)
  · have hm : ¬ filE en fr 256 j = 0 := hm
    rw [filE, if_pos hj] at hm
    by_cases q : nI j = en
    · rw [← q, ad8_nI hj] at hS; exact hS
    · rw [if_neg q] at hm; exact absurd rfl hm
  · have := cnt_1 h1 256 (ad8_lt en)
    show 257 ≤ 256 + cntM (filE en fr 256) 256; omega
/-- one set of marks -/
theorem reach_one {fs fr fp fr' : Nat → Int32} (hb : bytM fs) {en : Int32} (hen : byt en) : ∀ j : Nat, j < 256 → ((wlk fs 256 0 (mrk (filI 0 fr 256, fp, 0) en)).1 j = 0 ↔ (rOut fs 256 (filE en fr' 256, true)).1 j = 0) :=
  lst_one walk_lst (rOut_lst hb hen)
/-! refusals on marks that agree as zero or not -/
theorem unkM_c {fr fr' fs : Nat → Int32} (hm : ∀ j : Nat, j < 256 → (fr j = 0 ↔ fr' j = 0)) {i : Nat} (hi : i < 256) : unkM fr fs i = unkM fr' fs i := by
  rw [unkM, unkM]
  by_cases q : fr i = 0
  · rw [if_pos q, if_pos ((hm i hi).mp q)]
  · rw [if_neg q, if_neg (fun h => q ((hm i hi).mpr h))]
theorem lasB_c {fr fr' fs : Nat → Int32} (hm : ∀ j : Nat, j < 256 → (fr j = 0 ↔ fr' j = 0)) {i : Nat} (hi : i < 256) : lasB fr fs i = lasB fr' fs i := by
  rw [lasB, lasB]
  by_cases q : fr i = 0
  · rw [if_pos q, if_pos ((hm i hi).mp q)]
  · rw [if_neg q, if_neg (fun h => q ((hm i hi).mpr h))]
theorem secB_c {fr fr' fs : Nat → Int32} (hm : ∀ j : Nat, j < 256 → (fr j = 0 ↔ fr' j = 0)) {i : Nat} (hi : i < 256) : secB fr fs i = secB fr' fs i := by
  rw [secB, secB]
  by_cases q : fr i = 0
  · rw [if_pos q, if_pos ((hm i hi).mp q)]
  · rw [if_neg q, if_neg (fun h => q ((hm i hi).mpr h))]
    by_cases q2 : rd fr (nI i + 255) = 0
    · rw [if_pos q2, if_pos (show rd fr' (nI i + 255) = 0 from (hm _ (ad8_lt _)).mp q2)]
    · rw [if_neg q2, if_neg (show ¬ rd fr' (nI i + 255) = 0 from fun h => q2 ((hm _ (ad8_lt _)).mpr h))]
theorem refK_c {P Q : Nat → Bool} {c : Int32} (k : Nat) (h : ∀ i : Nat, i < k → P i = Q i) : ∀ f : Int32, refK P c k f = refK Q c k f := by
  induction k with
  | zero => intro f; rfl
  | succ k ih => intro f; rw [refK, refK, h k (by omega)]; exact ih (fun i hi => h i (by omega)) _
theorem refM_c {fr fr' fs : Nat → Int32} (hm : ∀ j : Nat, j < 256 → (fr j = 0 ↔ fr' j = 0)) : refM fr fs = refM fr' fs := by
  rw [refM, refM, refK_c 256 (fun i hi => unkM_c hm hi), refK_c 256 (fun i hi => secB_c hm hi), refK_c 256 (fun i hi => lasB_c hm hi)]
/-- the same refusal -/
theorem ref_one {fr fr' fs : Nat → Int32} (hb : bytM fs) (hm : ∀ j : Nat, j < 256 → (fr j = 0 ↔ fr' j = 0)) : refI fr fs = refM fr' fs := (ref_eq hb).trans (refM_c hm)
