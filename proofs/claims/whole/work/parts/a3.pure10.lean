/-! what is built is code in order -/
def okRp (T : Int32 → Prop) (o x y : Int32) : Prop :=
  (∃ k : Nat, k < 27 ∧ o = nI k) ∧ (x = 0 ∨ x = 1 ∨ x = 2) ∧ (hasSB o = true → T y) ∧ (hasSB o = false → byt y) ∧ (rgO o = true → y = 0 ∨ y = 1 ∨ y = 2)
def finO (o : Int32) : Prop := o = 1 ∨ o = 19 ∨ o = 26
def okQ (T : Int32 → Prop) (F : Prop) (p : PG) : Prop := ∀ k : Nat, k < p.1 → okRp T (p.2.1 k) (p.2.2.1 k) (p.2.2.2 k) ∧ (k + 1 < p.1 ∨ finO (p.2.1 k) ∨ F)
theorem add_Q {T : Int32 → Prop} {F0 F : Prop} {p : PG} {o x y : Int32} (h : okQ T F0 p) (hp : p.1 < 1024) (hr : okRp T o x y) (hf : finO o ∨ F) : okQ T F (addP p o x y) ∧ (addP p o x y).1 = p.1 + 1 := by
  rw [addP, if_pos hp]
  refine ⟨?_, rfl⟩
  intro k hk
  have hk : k < p.1 + 1 := hk
  show okRp T (upd p.2.1 p.1 o k) (upd p.2.2.1 p.1 x k) (upd p.2.2.2 p.1 y k) ∧ (k + 1 < p.1 + 1 ∨ finO (upd p.2.1 p.1 o k) ∨ F)
  by_cases e : k = p.1
  · subst e; rw [pk_us, pk_us, pk_us]; exact ⟨hr, Or.inr hf⟩
  · rw [pk_un e, pk_un e, pk_un e]; exact ⟨(h k (by omega)).1, Or.inl (by omega)⟩
section Q
variable {T : Int32 → Prop} {F0 F : Prop} {p : PG} {n b : Int32}
theorem rp_n {k : Nat} {x y : Int32} (hk : k < 27) (hx : x = 0 ∨ x = 1 ∨ x = 2) (hs : hasSB (nI k) = false) (hy : byt y) (hr : rgO (nI k) = true → y = 0 ∨ y = 1 ∨ y = 2) : okRp T (nI k) x y :=
  ⟨⟨k, hk, rfl⟩, hx, fun q => (by rw [hs] at q; cases q), fun _ => hy, hr⟩
theorem rp_t {k : Nat} {x y : Int32} (hk : k < 27) (hx : x = 0 ∨ x = 1 ∨ x = 2) (hs : hasSB (nI k) = true) (hy : T y) (hr : rgO (nI k) = false) : okRp T (nI k) x y :=
  ⟨⟨k, hk, rfl⟩, hx, fun _ => hy, fun q => (by rw [hs] at q; cases q), fun q => (by rw [hr] at q; cases q)⟩
theorem byt0 : byt 0 := ⟨0, by decide, rfl⟩
theorem byt1x : byt 1 := ⟨1, by decide, rfl⟩
theorem byt2 : byt 2 := ⟨2, by decide, rfl⟩
theorem no_rg {o : Int32} {P : Prop} (h : rgO o = false) : rgO o = true → P := fun q => by rw [h] at q; cases q
theorem aro_Q {o x y : Int32} (h : okQ T F0 p) (hp : p.1 + 4 ≤ 1024) (hr : okRp T o x y) (hf : F) : okQ T F (aroP p o x y) ∧ p.1 < (aroP p o x y).1 := by
  obtain ⟨q1, n1⟩ := add_Q (F := True) h (by omega) (rp_n (k := 17) (by decide) (Or.inl rfl) (by decide) byt0 (no_rg (by decide))) (Or.inr trivial)
  obtain ⟨q2, n2⟩ := add_Q (F := True) q1 (by rw [n1]; omega) hr (Or.inr trivial)
  obtain ⟨q3, n3⟩ := add_Q (F := True) q2 (by rw [n2, n1]; omega) (rp_n (k := 8) (by decide) (Or.inl rfl) (by decide) byt0 (no_rg (by decide))) (Or.inr trivial)
  obtain ⟨q4, n4⟩ := add_Q (F := F) q3 (by rw [n3, n2, n1]; omega) (rp_n (k := 18) (by decide) (Or.inl rfl) (by decide) byt0 (no_rg (by decide))) (Or.inr hf)
  exact ⟨q4, by show p.1 < (addP (addP (addP (addP p (nI 17) 0 0) o x y) (nI 8) 0 0) (nI 18) 0 0).1; rw [n4, n3, n2, n1]; omega⟩
theorem cnt_Q {k : Nat} (h : okQ T F0 p) (hp : p.1 + 4 ≤ 1024) (hk : k < 27) (hs : hasSB (nI k) = false) (hf : F) : okQ T F (cntP p (nI k)) ∧ p.1 < (cntP p (nI k)).1 := by
  obtain ⟨q1, n1⟩ := add_Q (F := True) h (by omega) (rp_n (k := 17) (by decide) (Or.inl rfl) (by decide) byt0 (no_rg (by decide))) (Or.inr trivial)
  obtain ⟨q2, n2⟩ := add_Q (F := True) q1 (by rw [n1]; omega) (rp_n (k := 2) (x := 2) (y := 1) (by decide) (Or.inr (Or.inr rfl)) (by decide) byt1x (no_rg (by decide))) (Or.inr trivial)
  obtain ⟨q3, n3⟩ := add_Q (F := True) q2 (by rw [n2, n1]; omega) (rp_n (k := k) (x := 1) (y := 2) hk (Or.inr (Or.inl rfl)) hs byt2 (fun _ => Or.inr (Or.inr rfl))) (Or.inr trivial)
  obtain ⟨q4, n4⟩ := add_Q (F := F) q3 (by rw [n3, n2, n1]; omega) (rp_n (k := 18) (by decide) (Or.inl rfl) (by decide) byt0 (no_rg (by decide))) (Or.inr hf)
  exact ⟨q4, by show p.1 < (addP (addP (addP (addP p (nI 17) 0 0) (nI 2) 2 1) (nI k) 1 2) (nI 18) 0 0).1; rw [n4, n3, n2, n1]; omega⟩
theorem r2_Q {f k : Nat} (h : okQ T F0 p) (hp : p.1 + 4 ≤ 1024) (hfk : f < 27) (hfs : hasSB (nI f) = false) (hfr : rgO (nI f) = false) (hn : byt n) (hk : k < 27) (hs : hasSB (nI k) = false) (hf : F) : okQ T F (r2P p (nI f) n (nI k)) ∧ p.1 < (r2P p (nI f) n (nI k)).1 := by
  obtain ⟨q1, n1⟩ := add_Q (F := True) h (by omega) (rp_n (k := f) (x := 2) (y := n) hfk (Or.inr (Or.inr rfl)) hfs hn (no_rg hfr)) (Or.inr trivial)
  obtain ⟨q2, n2⟩ := add_Q (F := F) q1 (by rw [n1]; omega) (rp_n (k := k) (x := 0) (y := 2) hk (Or.inl rfl) hs byt2 (fun _ => Or.inr (Or.inr rfl))) (Or.inr hf)
  exact ⟨q2, by show p.1 < (addP (addP p (nI f) 2 n) (nI k) 0 2).1; rw [n2, n1]; omega⟩
theorem one_Q {o x y : Int32} (h : okQ T F0 p) (hp : p.1 + 4 ≤ 1024) (hr : okRp T o x y) (hf : finO o ∨ F) : okQ T F (addP p o x y) ∧ p.1 < (addP p o x y).1 := by
  obtain ⟨q1, n1⟩ := add_Q (F := F) h (by omega) hr hf
  exact ⟨q1, by rw [n1]; omega⟩
set_option maxRecDepth 100000 in
set_option maxHeartbeats 4000000 in
theorem inst_Q {k : Nat} (hk : k < 32) (hn : byt n) (hb : byt b) (hT : hasTB (nI k) = true → T n) (h : okQ T F0 p) (hp : p.1 + 4 ≤ 1024)
    (hF : k ≠ 1 → k ≠ 22 → k ≠ 27 → k ≠ 28 → k ≠ 31 → F) : okQ T F (instM (nI k) n b p) ∧ p.1 < (instM (nI k) n b p).1 := by
  match k, hk with
  | 0, _ => exact one_Q h hp (rp_n (k := 0) (by decide) (Or.inl rfl) (by decide) byt0 (no_rg (by decide))) (Or.inr (hF (by decide) (by decide) (by decide) (by decide) (by decide)))
  | 1, _ => exact one_Q h hp (rp_n (k := 1) (by decide) (Or.inl rfl) (by decide) byt0 (no_rg (by decide))) (Or.inl (Or.inl rfl))
  | 2, _ => exact aro_Q h hp (rp_n (k := 2) (by decide) (Or.inl rfl) (by decide) hn (no_rg (by decide))) (hF (by decide) (by decide) (by decide) (by decide) (by decide))
  | 3, _ => exact aro_Q h hp (rp_n (k := 4) (by decide) (Or.inl rfl) (by decide) hn (no_rg (by decide))) (hF (by decide) (by decide) (by decide) (by decide) (by decide))
  | 4, _ => exact aro_Q h hp (rp_n (k := 6) (by decide) (Or.inl rfl) (by decide) hn (no_rg (by decide))) (hF (by decide) (by decide) (by decide) (by decide) (by decide))
  | 5, _ => exact one_Q h hp (rp_n (k := 5) (by decide) (Or.inl rfl) (by decide) hn (no_rg (by decide))) (Or.inr (hF (by decide) (by decide) (by decide) (by decide) (by decide)))
  | 6, _ => exact one_Q h hp (rp_n (k := 7) (by decide) (Or.inl rfl) (by decide) hn (no_rg (by decide))) (Or.inr (hF (by decide) (by decide) (by decide) (by decide) (by decide)))
  | 7, _ => exact one_Q h hp (rp_n (k := 2) (by decide) (Or.inr (Or.inl rfl)) (by decide) hn (no_rg (by decide))) (Or.inr (hF (by decide) (by decide) (by decide) (by decide) (by decide)))
  | 8, _ => exact one_Q h hp (rp_n (k := 3) (by decide) (Or.inr (Or.inl rfl)) (by decide) byt0 (fun _ => Or.inl rfl)) (Or.inr (hF (by decide) (by decide) (by decide) (by decide) (by decide)))
  | 9, _ => exact aro_Q h hp (rp_n (k := 3) (by decide) (Or.inl rfl) (by decide) byt1x (fun _ => Or.inr (Or.inl rfl))) (hF (by decide) (by decide) (by decide) (by decide) (by decide))
  | 10, _ => exact cnt_Q (k := 9) h hp (by decide) (by decide) (hF (by decide) (by decide) (by decide) (by decide) (by decide))
  | 11, _ => exact cnt_Q (k := 11) h hp (by decide) (by decide) (hF (by decide) (by decide) (by decide) (by decide) (by decide))
  | 12, _ => exact r2_Q (f := 2) (k := 9) h hp (by decide) (by decide) (by decide) hn (by decide) (by decide) (hF (by decide) (by decide) (by decide) (by decide) (by decide))
  | 13, _ => exact r2_Q (f := 4) (k := 9) h hp (by decide) (by decide) (by decide) hn (by decide) (by decide) (hF (by decide) (by decide) (by decide) (by decide) (by decide))
  | 14, _ => exact r2_Q (f := 4) (k := 10) h hp (by decide) (by decide) (by decide) hn (by decide) (by decide) (hF (by decide) (by decide) (by decide) (by decide) (by decide))
  | 15, _ => exact r2_Q (f := 2) (k := 11) h hp (by decide) (by decide) (by decide) hn (by decide) (by decide) (hF (by decide) (by decide) (by decide) (by decide) (by decide))
  | 16, _ => exact r2_Q (f := 4) (k := 11) h hp (by decide) (by decide) (by decide) hn (by decide) (by decide) (hF (by decide) (by decide) (by decide) (by decide) (by decide))
  | 17, _ => exact r2_Q (f := 2) (k := 12) h hp (by decide) (by decide) (by decide) hn (by decide) (by decide) (hF (by decide) (by decide) (by decide) (by decide) (by decide))
  | 18, _ => exact r2_Q (f := 2) (k := 13) h hp (by decide) (by decide) (by decide) hn (by decide) (by decide) (hF (by decide) (by decide) (by decide) (by decide) (by decide))
  | 19, _ => exact r2_Q (f := 2) (k := 14) h hp (by decide) (by decide) (by decide) hn (by decide) (by decide) (hF (by decide) (by decide) (by decide) (by decide) (by decide))
  | 20, _ => exact one_Q h hp (rp_n (k := 15) (by decide) (Or.inl rfl) (by decide) byt0 (no_rg (by decide))) (Or.inr (hF (by decide) (by decide) (by decide) (by decide) (by decide)))
  | 21, _ => exact one_Q h hp (rp_n (k := 16) (by decide) (Or.inl rfl) (by decide) byt0 (no_rg (by decide))) (Or.inr (hF (by decide) (by decide) (by decide) (by decide) (by decide)))
  | 22, _ => exact one_Q h hp (rp_t (k := 19) (by decide) (Or.inl rfl) (by decide) (hT (by decide)) (by decide)) (Or.inl (Or.inr (Or.inl rfl)))
  | 23, _ => exact one_Q h hp (rp_t (k := 20) (by decide) (Or.inl rfl) (by decide) (hT (by decide)) (by decide)) (Or.inr (hF (by decide) (by decide) (by decide) (by decide) (by decide)))
  | 24, _ => exact one_Q h hp (rp_t (k := 21) (by decide) (Or.inl rfl) (by decide) (hT (by decide)) (by decide)) (Or.inr (hF (by decide) (by decide) (by decide) (by decide) (by decide)))
  | 25, _ => exact one_Q h hp (rp_t (k := 22) (by decide) (Or.inl rfl) (by decide) (hT (by decide)) (by decide)) (Or.inr (hF (by decide) (by decide) (by decide) (by decide) (by decide)))
  | 26, _ => exact one_Q h hp (rp_t (k := 23) (by decide) (Or.inl rfl) (by decide) (hT (by decide)) (by decide)) (Or.inr (hF (by decide) (by decide) (by decide) (by decide) (by decide)))
  | 27, _ =>
    obtain ⟨q1, n1⟩ := add_Q (F := True) h (by omega) (rp_n (k := 2) (x := 2) (y := b) (by decide) (Or.inr (Or.inr rfl)) (by decide) hb (no_rg (by decide))) (Or.inr trivial)
    obtain ⟨q2, n2⟩ := add_Q (F := True) q1 (by rw [n1]; omega) (rp_n (k := 24) (x := 2) (y := 0) (by decide) (Or.inr (Or.inr rfl)) (by decide) byt0 (no_rg (by decide))) (Or.inr trivial)
    obtain ⟨q3, n3⟩ := add_Q (F := F) q2 (by rw [n2, n1]; omega) (rp_t (k := 19) (x := 0) (y := n) (by decide) (Or.inl rfl) (by decide) (hT (by decide)) (by decide)) (Or.inl (Or.inr (Or.inl rfl)))
    exact ⟨q3, by show p.1 < (addP (addP (addP p (nI 2) 2 b) (nI 24) 2 0) (nI 19) 0 n).1; rw [n3, n2, n1]; omega⟩
  | 28, _ =>
    obtain ⟨q1, n1⟩ := add_Q (F := True) h (by omega) (rp_n (k := 25) (x := 2) (y := 0) (by decide) (Or.inr (Or.inr rfl)) (by decide) byt0 (no_rg (by decide))) (Or.inr trivial)
    obtain ⟨q2, n2⟩ := add_Q (F := F) q1 (by rw [n1]; omega) (rp_n (k := 26) (x := 2) (y := 0) (by decide) (Or.inr (Or.inr rfl)) (by decide) byt0 (no_rg (by decide))) (Or.inl (Or.inr (Or.inr rfl)))
    exact ⟨q2, by show p.1 < (addP (addP p (nI 25) 2 0) (nI 26) 2 0).1; rw [n2, n1]; omega⟩
  | 29, _ => exact one_Q h hp (rp_n (k := 24) (by decide) (Or.inl rfl) (by decide) byt0 (no_rg (by decide))) (Or.inr (hF (by decide) (by decide) (by decide) (by decide) (by decide)))
  | 30, _ => exact aro_Q h hp (rp_n (k := 25) (by decide) (Or.inl rfl) (by decide) byt0 (no_rg (by decide))) (hF (by decide) (by decide) (by decide) (by decide) (by decide))
  | 31, _ => exact one_Q h hp (rp_n (k := 26) (by decide) (Or.inr (Or.inl rfl)) (by decide) byt0 (no_rg (by decide))) (Or.inl (Or.inr (Or.inr rfl)))
  | k + 32, h => exact absurd h (by omega)
end Q
/-! what a translation that is not refused says of the marks -/
theorem least_or (P : Nat → Bool) : (least P 256 0 = -1 ∧ ∀ j : Nat, j < 256 → P j = false) ∨ ∃ j : Nat, j < 256 ∧ least P 256 0 = nI j := by
  by_cases h : ∃ j : Nat, j < 256 ∧ P j = true
  · obtain ⟨j, ⟨hj, hq⟩, hl⟩ := pk_least (fun j => j < 256 ∧ P j = true) h
    refine Or.inr ⟨j, hj, least_some hq 256 0 (Nat.zero_le _) (by omega) (fun l _ h4 => ?_)⟩
    cases e : P l with
    | false => rfl
    | true => exact absurd ⟨by omega, e⟩ (hl l h4)
  · have hn : ∀ j : Nat, j < 256 → P j = false := fun j hj => by
      cases e : P j with
      | false => rfl
      | true => exact absurd ⟨j, hj, e⟩ h
    exact Or.inl ⟨least_none 256 0 (fun j _ h2 => hn j (by omega)), hn⟩
theorem sub_nz : ∀ j : Nat, j < 256 → ¬ (-1000 : Int32) - nI j = 0 ∧ ¬ (-2000 : Int32) - nI j = 0 := by decide +kernel
theorem ref_0 {fr fs : Nat → Int32} (h : refI fr fs = 0) : (∀ j : Nat, j < 256 → unkP fr fs j = false) ∧ rofI fr fs = -1 := by
  rw [refI] at h
  rcases least_or (unkP fr fs) with ⟨e, h1⟩ | ⟨j, hj, e⟩
  · rw [if_pos e] at h
    rcases least_or (ovlP fr fs) with ⟨e2, h2⟩ | ⟨j, hj, e2⟩
    · rw [if_pos e2] at h
      by_cases q : rofI fr fs = -1
      · exact ⟨h1, q⟩
      · rw [if_neg q] at h
        exfalso
        have hv : rofI fr fs = -1 ∨ rofI fr fs = 254 ∨ rofI fr fs = 255 := by
          have h5 : rof2 fr fs = -1 ∨ rof2 fr fs = 254 ∨ rof2 fr fs = 255 := by
            rw [rof2]
            by_cases a1 : fr 255 = 0
            · rw [if_pos a1]; exact Or.inl rfl
            · rw [if_neg a1]
              by_cases a2 : fs 255 = 1
              · rw [if_pos a2]; exact Or.inl rfl
              · rw [if_neg a2]
                by_cases a3 : fs 255 = 28
                · rw [if_pos a3]; exact Or.inl rfl
                · rw [if_neg a3]
                  by_cases a4 : fs 255 = 31
                  · rw [if_pos a4]; exact Or.inl rfl
                  · rw [if_neg a4]; exact Or.inr (Or.inr rfl)
          rw [rofI]
          by_cases byt1x : fr 254 = 0
          · rw [if_pos byt1x]; exact h5
          · rw [if_neg byt1x]
            by_cases byt2 : lenI (fs 254) = 2
            · rw [if_pos byt2]
              by_cases b3 : fs 254 = 22
              · rw [if_pos b3]; exact h5
              · rw [if_neg b3]
                by_cases b4 : fs 254 = 27
                · rw [if_pos b4]; exact h5
                · rw [if_neg b4]; exact Or.inr (Or.inl rfl)
            · rw [if_neg byt2]; exact h5
        rcases hv with v | v | v
        · exact q v
        · rw [v] at h; exact absurd h (by decide)
        · rw [v] at h; exact absurd h (by decide)
    · rw [e2, if_neg (nI_nm1 (by omega))] at h
      exact absurd h (sub_nz j hj).2
  · rw [e, if_neg (nI_nm1 (by omega))] at h
    exact absurd h (sub_nz j hj).1
theorem rof_0 {fr fs : Nat → Int32} (h : rofI fr fs = -1) : (¬ fr 254 = 0 → lenI (fs 254) = 2 → fs 254 = 22 ∨ fs 254 = 27) ∧ (¬ fr 255 = 0 → fs 255 = 1 ∨ fs 255 = 28 ∨ fs 255 = 31) := by
  have h5 : rof2 fr fs = -1 → ¬ fr 255 = 0 → fs 255 = 1 ∨ fs 255 = 28 ∨ fs 255 = 31 := by
    intro q a1
    rw [rof2, if_neg a1] at q
    by_cases a2 : fs 255 = 1
    · exact Or.inl a2
    · rw [if_neg a2] at q
      by_cases a3 : fs 255 = 28
      · exact Or.inr (Or.inl a3)
      · rw [if_neg a3] at q
        by_cases a4 : fs 255 = 31
        · exact Or.inr (Or.inr a4)
        · rw [if_neg a4] at q; exact absurd q (by decide)
  rw [rofI] at h
  by_cases byt1x : fr 254 = 0
  · rw [if_pos byt1x] at h; exact ⟨fun q => absurd byt1x q, h5 h⟩
  · rw [if_neg byt1x] at h
    by_cases byt2 : lenI (fs 254) = 2
    · rw [if_pos byt2] at h
      by_cases b3 : fs 254 = 22
      · rw [if_pos b3] at h; exact ⟨fun _ _ => Or.inl b3, h5 h⟩
      · rw [if_neg b3] at h
        by_cases b4 : fs 254 = 27
        · rw [if_pos b4] at h; exact ⟨fun _ _ => Or.inr b4, h5 h⟩
        · rw [if_neg b4] at h; exact absurd h (by decide)
    · rw [if_neg byt2] at h; exact ⟨fun _ q => absurd q byt2, h5 h⟩
theorem unk_k {o : Int32} (hb : byt o) (h : isUnkB o = false) : ∃ k : Nat, k < 32 ∧ o = nI k := by
  obtain ⟨j, hj, rfl⟩ := hb
  by_cases q : j < 32
  · exact ⟨j, q, rfl⟩
  · rw [isUnkB, if_neg (big_o q hj)] at h; cases h
theorem len_12 : ∀ k : Nat, k < 32 → lenI (nI k) = nI 1 ∨ lenI (nI k) = nI 2 := by decide
theorem beh_k : ∀ k : Nat, k < 32 → k ≠ 1 → k ≠ 22 → k ≠ 28 → k ≠ 31 → behB (nI k) = true := by decide
theorem unk_no {fr fs : Nat → Int32} (h : ∀ j : Nat, j < 256 → unkP fr fs j = false) {j : Nat} (hj : j < 256) (hm : ¬ fr j = 0) : isUnkB (fs j) = false := by
  have := h j hj
  rw [unkP, if_neg hm] at this; exact this
/-- an instruction that goes on is followed by a marked one -/
theorem goes_on {fr fs : Nat → Int32} (hb : bytM fs) (hc : clsd fs (fun j => ¬ fr j = 0)) (h0 : refI fr fs = 0) {a k : Nat} (ha : a < 256) (hm : ¬ fr a = 0) (hk : k < 32) (ek : fs a = nI k)
    (n1 : k ≠ 1) (n2 : k ≠ 22) (n3 : k ≠ 27) (n4 : k ≠ 28) (n5 : k ≠ 31) : ∃ b : Nat, a + 1 ≤ b ∧ b < 256 ∧ ¬ fr b = 0 := by
  obtain ⟨hu, hr⟩ := ref_0 h0
  obtain ⟨r4, r5⟩ := rof_0 hr
  have ne : ∀ {i : Nat}, i < 256 → k ≠ i → ¬ fs a = nI i := fun {i} hi hne e => hne ((nI_eq (by omega) (by omega)).mp (ek.symm.trans e))
  have hlen : ∃ m : Nat, (m = 1 ∨ m = 2) ∧ lenI (fs a) = nI m ∧ a + m < 256 := by
    have a5 : a ≠ 255 := by
      intro e; subst e
      rcases r5 hm with q | q | q
      · exact ne (i := 1) (by decide) n1 q
      · exact ne (i := 28) (by decide) n4 q
      · exact ne (i := 31) (by decide) n5 q
    rcases len_12 k hk with q | q
    · exact ⟨1, Or.inl rfl, by rw [ek]; exact q, by omega⟩
    · refine ⟨2, Or.inr rfl, by rw [ek]; exact q, ?_⟩
      have a4 : a ≠ 254 := by
        intro e; subst e
        rcases r4 hm (by rw [ek]; exact q) with q2 | q2
        · exact ne (i := 22) (by decide) n2 q2
        · exact ne (i := 27) (by decide) n3 q2
      omega
  obtain ⟨m, hm1, hm2, hm3⟩ := hlen
  refine ⟨a + m, by omega, hm3, hc a (a + m) ha hm (Or.inl ⟨unk_no hu ha hm, by rw [ek]; exact beh_k k hk n1 n2 n4 n5, ?_⟩)⟩
  rw [hm2, nI_add, ad8_nI hm3]
/-! the building's invariant -/
def invB (fr : Nat → Int32) (T : Int32 → Prop) (i : Nat) (s : BS) : Prop :=
  s.2.2.1 ≤ 4 * i ∧ okQ T (∃ b : Nat, i ≤ b ∧ b < 256 ∧ ¬ fr b = 0) s.2.2 ∧
  (∀ a : Nat, a < i → (fr a = 0 → s.1 a = -1) ∧ (¬ fr a = 0 → ∃ t : Nat, t < s.2.2.1 ∧ s.1 a = nI t ∧ ¬ s.2.1 t = 0)) ∧
  (∀ t : Nat, t < 1024 → ¬ s.2.1 t = 0 → ∃ a : Nat, a < i ∧ s.1 a = nI t)
theorem bld_inv {fr fs fw fb fn fx fy : Nat → Int32} (hb : bytM fs) (hc : clsd fs (fun j => ¬ fr j = 0)) (h0 : refI fr fs = 0) (hfb : ∀ t : Nat, t < 1024 → fb t = 0) :
    ∀ i : Nat, i ≤ 256 → invB fr (fun y => ∃ t : Nat, t < 256 ∧ y = nI t ∧ ¬ fr t = 0) i (bldN fr fs i (fw, fb, (0, fn, fx, fy))) := by
  obtain ⟨hu, hr⟩ := ref_0 h0
  intro i
  induction i with
  | zero => intro _; exact ⟨Nat.le_refl _, fun k hk => absurd hk (Nat.not_lt_zero k), fun a ha => absurd ha (Nat.not_lt_zero a), fun t ht hm => absurd (hfb t ht) hm⟩
  | succ i ih =>
    intro hi
    obtain ⟨e1, e2, e3, e4⟩ := ih (by omega)
    rw [bldN, bldS]
    by_cases h : fr i = 0
    · rw [if_pos h]
      refine ⟨Nat.le_trans e1 (by omega), ?_, ?_, ?_⟩
      · intro k hk
        obtain ⟨q1, q2⟩ := e2 k hk
        refine ⟨q1, ?_⟩
        rcases q2 with q | q | ⟨b, hb1, hb2, hb3⟩
        · exact Or.inl q
        · exact Or.inr (Or.inl q)
        · refine Or.inr (Or.inr ⟨b, ?_, hb2, hb3⟩)
          by_cases e : b = i
          · subst e; exact absurd h hb3
          · omega
      · intro a ha
        show (fr a = 0 → upd _ i (-1) a = -1) ∧ _
        by_cases e : a = i
        · subst e; exact ⟨fun _ => pk_us, fun q => absurd h q⟩
        · refine ⟨fun q => ?_, fun q => ?_⟩
          · rw [pk_un e]; exact (e3 a (by omega)).1 q
          · obtain ⟨t, t1, t2, t3⟩ := (e3 a (by omega)).2 q
            exact ⟨t, t1, by show upd _ i (-1) a = nI t; rw [pk_un e]; exact t2, t3⟩
      · intro t ht hm
        obtain ⟨a, a1, a2⟩ := e4 t ht hm
        exact ⟨a, by omega, by show upd _ i (-1) a = nI t; rw [pk_un (by omega)]; exact a2⟩
    · obtain ⟨k, hk, ek⟩ := unk_k (hb i (by omega)) (unk_no hu (show i < 256 by omega) h)
      have hlt : (bldN fr fs i (fw, fb, (0, fn, fx, fy))).2.2.1 + 4 ≤ 1024 := by omega
      rw [if_neg h, if_pos (by omega), ek, row_eq hk, upd_upd]
      have hT : hasTB (nI k) = true → ∃ t : Nat, t < 256 ∧ rd fs (nI i + 1) = nI t ∧ ¬ fr t = 0 := fun q => by
        refine ⟨ad8 (rd fs (nI i + 1)), ad8_lt _, by rw [nI_ad8, byt_and (byt_rd hb _)], hc i _ (by omega) h (Or.inr ⟨unk_no hu (by omega) h, by rw [ek]; exact q, rfl⟩)⟩
      obtain ⟨q1, q2⟩ := inst_Q (F := ∃ b : Nat, i + 1 ≤ b ∧ b < 256 ∧ ¬ fr b = 0) hk (byt_rd hb (nI i + 1)) (byt_m (nI i + 2)) hT e2 hlt (fun n1 n2 n3 n4 n5 => goes_on hb hc h0 (by omega) h hk ek n1 n2 n3 n4 n5)
      have q3 := inst_n hk (rd fs (nI i + 1)) ((nI i + 2) &&& 255) (bldN fr fs i (fw, fb, (0, fn, fx, fy))).2.2
      generalize bldN fr fs i (fw, fb, (0, fn, fx, fy)) = s at *
      refine ⟨?_, q1, ?_, ?_⟩
      · show (instM (nI k) (rd fs (nI i + 1)) ((nI i + 2) &&& 255) s.2.2).1 ≤ 4 * (i + 1); omega
      · intro a ha
        show (fr a = 0 → upd s.1 i (nI s.2.2.1) a = -1) ∧ (¬ fr a = 0 → ∃ t : Nat, t < (instM (nI k) (rd fs (nI i + 1)) ((nI i + 2) &&& 255) s.2.2).1 ∧ upd s.1 i (nI s.2.2.1) a = nI t ∧ ¬ upd s.2.1 s.2.2.1 1 t = 0)
        by_cases e : a = i
        · subst e
          exact ⟨fun q => absurd q h, fun _ => ⟨s.2.2.1, q2, pk_us, by rw [pk_us]; decide⟩⟩
        · rw [pk_un e]
          refine ⟨(e3 a (by omega)).1, fun q => ?_⟩
          obtain ⟨t, t1, t2, t3⟩ := (e3 a (by omega)).2 q
          exact ⟨t, by omega, t2, by rw [pk_un (by omega)]; exact t3⟩
      · intro t ht hm
        have hm : ¬ upd s.2.1 s.2.2.1 1 t = 0 := hm
        show ∃ a : Nat, a < i + 1 ∧ upd s.1 i (nI s.2.2.1) a = nI t
        by_cases e : t = s.2.2.1
        · exact ⟨i, by omega, by rw [pk_us, e]⟩
        · rw [pk_un e] at hm
          obtain ⟨a, a1, a2⟩ := e4 t ht hm
          exact ⟨a, by omega, by rw [pk_un (by omega)]; exact a2⟩
theorem tgtN_at {fn wh : Nat → Int32} (n : Nat) {fy : Nat → Int32} (k : Nat) : tgtN fn wh n fy k = if k < n ∧ hasSB (fn k) = true then rd wh (fy k) else fy k := by
  induction n with
  | zero => rw [tgtN, if_neg (fun h => absurd h.1 (Nat.not_lt_zero k))]
  | succ n ih =>
    rw [tgtN]
    by_cases hs : hasSB (fn n) = true
    · rw [if_pos hs]
      by_cases e : k = n
      · subst e; rw [pk_us, ih, if_neg (fun h => absurd h.1 (Nat.lt_irrefl k)), if_pos ⟨Nat.lt_succ_self k, hs⟩]
      · rw [pk_un e, ih]
        by_cases q : k < n ∧ hasSB (fn k) = true
        · rw [if_pos q, if_pos ⟨by omega, q.2⟩]
        · rw [if_neg q, if_neg (fun h => q ⟨by omega, h.2⟩)]
    · rw [if_neg hs, ih]
      by_cases q : k < n ∧ hasSB (fn k) = true
      · rw [if_pos q, if_pos ⟨by omega, q.2⟩]
      · rw [if_neg q, if_neg (fun h => q ⟨by
          have h1 := h.1
          by_cases e : k = n
          · subst e; exact absurd h.2 hs
          · omega, h.2⟩)]
/-- a translation that is not refused makes code in order -/
theorem bld_fine {fr fs fw fb fn fx fy : Nat → Int32} (hb : bytM fs) (hc : clsd fs (fun j => ¬ fr j = 0)) (h0 : refI fr fs = 0) {fw1 fb1 fn1 fx1 fy0 : Nat → Int32} {n1 : Nat}
    (e : (fw1, fb1, (n1, fn1, fx1, fy0)) = bldN fr fs 256 (fw, filI 0 fb 1024, (0, fn, fx, fy))) : okC n1 fn1 fx1 (tgtN fn1 fw1 n1 fy0) fw1 ∧ okB n1 fw1 fb1 ∧ (∀ a : Nat, a < 256 → ¬ fr a = 0 → ∃ t : Nat, t < n1 ∧ fw1 a = nI t) := by
  have hz : ∀ t : Nat, t < 1024 → filI 0 fb 1024 t = 0 := fun t ht => by rw [filI, cpyI, if_pos ht]
  have hi := bld_inv (fw := fw) (fn := fn) (fx := fx) (fy := fy) hb hc h0 hz 256 (Nat.le_refl _)
  rw [← e] at hi
  obtain ⟨e1, e2, e3, e4⟩ := hi
  have e1 : n1 ≤ 4 * 256 := e1
  have e3 : ∀ a : Nat, a < 256 → (fr a = 0 → fw1 a = -1) ∧ (¬ fr a = 0 → ∃ t : Nat, t < n1 ∧ fw1 a = nI t ∧ ¬ fb1 t = 0) := e3
  have hw : ∀ a : Nat, a < 256 → fw1 a = -1 ∨ ∃ t : Nat, t < n1 ∧ fw1 a = nI t := fun a ha => by
    by_cases q : fr a = 0
    · exact Or.inl ((e3 a ha).1 q)
    · obtain ⟨t, t1, t2, _⟩ := (e3 a ha).2 q; exact Or.inr ⟨t, t1, t2⟩
  refine ⟨⟨e1, fun k hk => ?_, hw⟩, fun t ht => ⟨fun q => e4 t (by omega) q, fun ⟨a, a1, a2⟩ => ?_⟩, fun a ha q => ?_⟩
  · obtain ⟨⟨p1, p2, p3, p4, p5⟩, q⟩ := e2 k hk
    have p3 : hasSB (fn1 k) = true → ∃ t : Nat, t < 256 ∧ fy0 k = nI t ∧ ¬ fr t = 0 := p3
    have p4 : hasSB (fn1 k) = false → byt (fy0 k) := p4
    have p5 : rgO (fn1 k) = true → fy0 k = 0 ∨ fy0 k = 1 ∨ fy0 k = 2 := p5
    have q : k + 1 < n1 ∨ (fn1 k = 1 ∨ fn1 k = 19 ∨ fn1 k = 26) ∨ ∃ b : Nat, 256 ≤ b ∧ b < 256 ∧ ¬ fr b = 0 := q
    have hr : rgO (fn1 k) = true → hasSB (fn1 k) = false := by
      obtain ⟨i, hi, ei⟩ := p1
      have ei : fn1 k = nI i := ei
      rw [ei]
      have key : ∀ i : Nat, i < 27 → rgO (nI i) = true → hasSB (nI i) = false := by decide
      exact key i hi
    rw [tgtN_at]
    refine ⟨⟨p1, p2, fun h => ?_, fun h => ?_, fun h => ?_⟩, ?_⟩
    · rw [if_pos ⟨hk, h⟩]
      obtain ⟨t, t1, t2, t3⟩ := p3 h
      rw [t2, rd_at, ad8_nI t1]
      obtain ⟨v, v1, v2, _⟩ := (e3 t t1).2 t3
      exact ⟨v, v1, v2⟩
    · rw [if_neg (fun q => by rw [h] at q; exact absurd q.2 (by decide))]; exact p4 h
    · rw [if_neg (fun q => by rw [hr h] at q; exact absurd q.2 (by decide))]; exact p5 h
    · rcases q with q | q | ⟨b, byt1x, byt2, _⟩
      · exact Or.inl q
      · exact Or.inr q
      · omega
  · by_cases q : fr a = 0
    · have := (e3 a a1).1 q
      rw [a2] at this; exact absurd this (nI_nm1 (by omega))
    · obtain ⟨v, v1, v2, v3⟩ := (e3 a a1).2 q
      have : v = t := (nI_eq (by omega) (by omega)).mp (v2.symm.trans a2)
      rw [← this]; exact v3
  · obtain ⟨t, t1, t2, _⟩ := (e3 a ha).2 q; exact ⟨t, t1, t2⟩
