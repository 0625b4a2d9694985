/-! what the law's loop keeps, and how each call keeps it -/
def JJ (fs fn fx fy fw fb : Nat → Int32) (nn : Nat) (tr : Bool) (u : MS) (v : MT) : Prop :=
  bytM fs ∧ bytU u ∧ nn ≤ 1024 ∧ tr = decide (¬ nn = 0) ∧ (¬ nn = 0 → okC nn fn fx fy fw ∧ okB nn fw fb ∧ gdS nn v)
theorem J_start {fn fx fy fw fb : Nat → Int32} {v : MT} : JJ (fun _ => 0) fn fx fy fw fb 0 false (fun _ => 0, 0, 0, 255, 0, false, false, 0) v :=
  ⟨fun _ _ => byt0, ⟨fun _ _ => byt0, byt0, byt0, ⟨255, by decide, rfl⟩, byt0⟩, by omega, rfl, fun h => absurd rfl h⟩
theorem J_image {fs fn fx fy fw fb : Nat → Int32} {nn : Nat} {tr : Bool} {u : MS} {v : MT} (h : JJ fs fn fx fy fw fb nn tr u v) {ad w : Int32} (hw : isByteB w = true) : JJ (upd fs ad.toNatClampNeg w) fn fx fy fw fb nn tr u v := by
  refine ⟨fun j hj => ?_, h.2⟩
  by_cases e : j = ad.toNatClampNeg
  · rw [e, pk_us]; exact byt_of hw
  · rw [pk_un e]; exact h.1 j hj
theorem J_tr {fs fn fx fy fw fb : Nat → Int32} {nn : Nat} {tr : Bool} {u : MS} {v : MT} (h : JJ fs fn fx fy fw fb nn tr u v) : (nn = 0 ∧ tr = false) ∨ (¬ nn = 0 ∧ tr = true) := by
  have e := h.2.2.2.1
  by_cases q : nn = 0
  · exact Or.inl ⟨q, by rw [e, q]; rfl⟩
  · exact Or.inr ⟨q, by rw [e]; exact decide_eq_true q⟩
theorem J_n0 {nn : Nat} (h : ¬ nn = 0) (hn : nn ≤ 1024) : ¬ nI nn = 0 := fun e => h ((nI_eq (a := nn) (b := 0) (by omega) (by decide)).mp e)
theorem J_lim0 {w : Int32} {tr : Bool} (h1 : ¬ w < 1) (h2 : w ≤ 300) (ht : tr = true) : limM w tr = 0 := by rw [limM, if_neg h1, if_pos h2, if_pos ht]
theorem J_lim1 {w : Int32} {tr : Bool} (h : w < 1 ∨ ¬ w ≤ 300) : limM w tr = 1 := by
  rw [limM]
  by_cases q : w < 1
  · rw [if_pos q]
  · rw [if_neg q]
    rcases h with h | h
    · exact absurd h q
    · rw [if_neg h]
theorem J_lim2 {w : Int32} (h1 : ¬ w < 1) (h2 : w ≤ 300) : limM w false = 2 := by rw [limM, if_neg h1, if_pos h2, if_neg (by decide)]
theorem J_first {fs fn fx fy fw fb : Nat → Int32} {nn : Nat} {tr : Bool} {u : MS} {v : MT} (h : JJ fs fn fx fy fw fb nn tr u v) (M : Nat) : fIter M u = gIter mStepU M u ∧ JJ fs fn fx fy fw fb nn tr (fIter M u).2 v := by
  obtain ⟨e1, e2⟩ := iter_eq M u h.2.1
  exact ⟨e1, h.1, e2, h.2.2⟩
theorem J_second {fs fn fx fy fw fb : Nat → Int32} {nn : Nat} {tr : Bool} {u : MS} {v : MT} (h : JJ fs fn fx fy fw fb nn tr u v) (hn : ¬ nn = 0) (M : Nat) :
    sIter (sStepU (nI nn) fn fx fy fw) M v = sIter (mDoU fw fn fx fy) M v ∧ JJ fs fn fx fy fw fb nn tr u (sIter (mDoU fw fn fx fy) M v).2 := by
  obtain ⟨hC, hB, hG⟩ := h.2.2.2.2 hn
  obtain ⟨e1, e2⟩ := sIter_eq hC M v hG
  exact ⟨e1, h.1, h.2.1, h.2.2.1, h.2.2.2.1, fun _ => ⟨hC, hB, e2⟩⟩
theorem J_bound {fs fn fx fy fw fb : Nat → Int32} {nn : Nat} {tr : Bool} {u : MS} {v : MT} (h : JJ fs fn fx fy fw fb nn tr u v) (hn : ¬ nn = 0) (M : Nat) :
    sBound (sStepU (nI nn) fn fx fy fw) (atB (nI nn) fb) M v = sBound (mDoU fw fn fx fy) (fun p => bgN fw p 256) M v ∧ JJ fs fn fx fy fw fb nn tr u (sBound (mDoU fw fn fx fy) (fun p => bgN fw p 256) M v).2 := by
  obtain ⟨hC, hB, hG⟩ := h.2.2.2.2 hn
  obtain ⟨e1, e2⟩ := sBound_eq (B := atB (nI nn) fb) (B' := fun p => bgN fw p 256) hC (fun t ht => atB_eq hC.1 hB ht) M v hG
  exact ⟨e1, h.1, h.2.1, h.2.2.1, h.2.2.2.1, fun _ => ⟨hC, hB, e2⟩⟩
theorem J_alike {fs fn fx fy fw fb : Nat → Int32} {nn : Nat} {tr : Bool} {g : Nat → Int32} {a x sp pc : Int32} {zf cf : Bool} {st : Int32} {v : MT} (h : JJ fs fn fx fy fw fb nn tr (g, a, x, sp, pc, zf, cf, st) v) (S : Bool) (p1 t0 t1 : Int32) :
    alkC S (begI fw pc) p1 t0 t1 = alkB S (fw pc.toNatClampNeg) p1 t0 t1 := alk_eq h.2.1.2.2.2.2
/-! translate -/
theorem sub_neg1 : ∀ j : Nat, j < 256 → (-1000 : Int32) - nI j < 0 ∧ (-2000 : Int32) - nI j < 0 ∧ (-3000 : Int32) - nI j < 0 := by decide +kernel
theorem rof_or (fr fs : Nat → Int32) : rofI fr fs = -1 ∨ rofI fr fs = nI 254 ∨ rofI fr fs = nI 255 := by
  have h5 : rof2 fr fs = -1 ∨ rof2 fr fs = nI 254 ∨ rof2 fr fs = nI 255 := by
    rw [rof2]
    by_cases a1 : fr 255 = 0
    · rw [if_pos a1]; exact Or.inl rfl
    · rw [if_neg a1]
      by_cases a2 : fs 255 = 1
      · rw [if_pos a2]; exact Or.inl rfl
      · rw [if_neg a2]
        by_cases a3 : fs 255 = 28
        · rw [if_pos a3]; exact Or.inl rfl
        · rw [if_neg a3]
          by_cases a4 : fs 255 = 31
          · rw [if_pos a4]; exact Or.inl rfl
          · rw [if_neg a4]; exact Or.inr (Or.inr rfl)
  rw [rofI]
  by_cases c1 : fr 254 = 0
  · rw [if_pos c1]; exact h5
  · rw [if_neg c1]
    by_cases c2 : lenI (fs 254) = 2
    · rw [if_pos c2]
      by_cases c3 : fs 254 = 22
      · rw [if_pos c3]; exact h5
      · rw [if_neg c3]
        by_cases c4 : fs 254 = 27
        · rw [if_pos c4]; exact h5
        · rw [if_neg c4]; exact Or.inr (Or.inl rfl)
    · rw [if_neg c2]; exact h5
theorem ref_neg (fr fs : Nat → Int32) : refI fr fs = 0 ∨ refI fr fs < 0 := by
  rw [refI]
  rcases least_or (unkP fr fs) with ⟨e, _⟩ | ⟨j, hj, e⟩
  · rw [if_pos e]
    rcases least_or (ovlP fr fs) with ⟨e2, _⟩ | ⟨j, hj, e2⟩
    · rw [if_pos e2]
      rcases rof_or fr fs with q | q | q
      · rw [if_pos q]; exact Or.inl rfl
      · rw [q, if_neg (nI_nm1 (by decide))]; exact Or.inr (sub_neg1 254 (by decide)).2.2
      · rw [q, if_neg (nI_nm1 (by decide))]; exact Or.inr (sub_neg1 255 (by decide)).2.2
    · rw [e2, if_neg (nI_nm1 (by omega))]; exact Or.inr (sub_neg1 j hj).2.1
  · rw [e, if_neg (nI_nm1 (by omega))]; exact Or.inr (sub_neg1 j hj).1
/-- the two marks, the two refusals -/
theorem T_ref {fs fr fp frM : Nat → Int32} {en : Int32} (hb : bytM fs) (hen : isByteB en = true) : refI (wlk fs 256 0 (mrk (filI 0 fr 256, fp, 0) en)).1 fs = refM (rOut fs 256 (filE en frM 256, true)).1 fs :=
  ref_one hb (reach_one hb (byt_of hen))
theorem T_neg {fs fr fp frM : Nat → Int32} {en : Int32} (hb : bytM fs) (hen : isByteB en = true) (h : ¬ refI (wlk fs 256 0 (mrk (filI 0 fr 256, fp, 0) en)).1 fs = 0) : refM (rOut fs 256 (filE en frM 256, true)).1 fs < 0 := by
  rw [← T_ref (fr := fr) (fp := fp) hb hen]
  rcases ref_neg (wlk fs 256 0 (mrk (filI 0 fr 256, fp, 0) en)).1 fs with q | q
  · exact absurd q h
  · exact q
theorem T_pos {fs fr fp frM : Nat → Int32} {en : Int32} (hb : bytM fs) (hen : isByteB en = true) (h : refI (wlk fs 256 0 (mrk (filI 0 fr 256, fp, 0) en)).1 fs = 0) : ¬ refM (rOut fs 256 (filE en frM 256, true)).1 fs < 0 := by
  rw [← T_ref (fr := fr) (fp := fp) hb hen, h]; decide
/-- the two codes; all that the loop keeps -/
theorem T_code {fs fr fp frM fw fb fn fx fy g h : Nat → Int32} {en : Int32} {WX : RS} {RX : Nat → Int32} {BX : BM} (hb : bytM fs) (hen : isByteB en = true) (hWX : WX = wlk fs 256 0 (mrk (filI 0 fr 256, fp, 0) en)) (hRX : RX = (rOut fs 256 (filE en frM 256, true)).1)
    (hBX : BX = bldM RX fs 256 (fw, (0, fn, fx, fy))) (h0 : refI WX.1 fs = 0) : (∀ k : Nat, k < BX.2.1 → hasSB (BX.2.2.1 k) = true → vp_in (BX.2.2.2.2 k) 256) ∧
    ∀ (fw1 fb1 : Nat → Int32) (n1 : Nat) (fn1 fx1 fy0 : Nat → Int32), (fw1, fb1, (n1, fn1, fx1, fy0)) = bldN WX.1 fs 256 (fw, filI 0 fb 1024, (0, fn, fx, fy)) →
      BX = (fw1, (n1, fn1, fx1, fy0)) ∧ tgtN fn1 fw1 n1 fy0 = tgtR fn1 fw1 n1 fy0 ∧ begI fw1 en = fw1 en.toNatClampNeg ∧
      JJ fs fn1 fx1 (tgtN fn1 fw1 n1 fy0) fw1 fb1 n1 true (cpyI fs g 256, 0, 0, 255, en, false, false, 0) (cpyI fs h 256, 0, 0, 255, begI fw1 en, false, false, 0, 0, false) := by
  have hm : ∀ j : Nat, j < 256 → (WX.1 j = 0 ↔ RX j = 0) := by rw [hWX, hRX]; exact reach_one hb (byt_of hen)
  have hl : lstS fs (ad8 en) WX.1 := by rw [hWX]; exact walk_lst
  have hu := (ref_0 h0).1
  have hk : ∀ j : Nat, j < 256 → ¬ WX.1 j = 0 → ∃ k : Nat, k < 32 ∧ fs j = nI k := fun j hj hq => unk_k (hb j hj) (unk_no hu hj hq)
  have hk' : ∀ j : Nat, j < 256 → ¬ RX j = 0 → ∃ k : Nat, k < 32 ∧ fs j = nI k := fun j hj hq => hk j hj (fun q => hq ((hm j hj).mp q))
  have hoP : okP BX.2 := by rw [hBX]; exact bld_ok hb hk' 256 (Nat.le_refl _)
  refine ⟨fun k hk1 hs => byt_in ((hoP k hk1).2 hs), ?_⟩
  intro fw1 fb1 n1 fn1 fx1 fy0 e
  obtain ⟨q1, q2, -⟩ := bld_eq (fr := WX.1) (fr' := RX) (fs := fs) (fw := fw) (fb := filI 0 fb 1024) (fn := fn) (fx := fx) (fy := fy) hm hk 256 (Nat.le_refl _)
  have eB : BX = (fw1, (n1, fn1, fx1, fy0)) := by
    rw [hBX]
    refine Prod.ext ?_ ?_
    · rw [← q1, ← e]
    · rw [← q2, ← e]
  obtain ⟨f1, f2, f3⟩ := bld_fine hb hl.2.1 h0 e
  have et : tgtN fn1 fw1 n1 fy0 = tgtR fn1 fw1 n1 fy0 := by
    refine tgt_eq n1 (fun k hk1 hs => ?_)
    rw [eB] at hoP
    exact (hoP k hk1).2 hs
  have eg : begI fw1 en = fw1 en.toNatClampNeg := by rw [begI, if_pos hen]
  obtain ⟨t, t1, t2⟩ := f3 (ad8 en) (ad8_lt en) hl.1
  have ep : begI fw1 en = nI t := by rw [eg, ad8_b (byt_of hen)]; exact t2
  have hcp : ∀ q : Nat → Int32, bytM (cpyI fs q 256) := fun q j hj => by rw [cpyI, if_pos hj]; exact hb j hj
  exact ⟨eB, et, eg, hb, ⟨hcp g, byt0, byt0, ⟨255, by decide, rfl⟩, byt_of hen⟩, f1.1, (decide_eq_true (show ¬ n1 = 0 by omega)).symm, fun _ => ⟨f1, f2, hcp h, byt0, byt0, byt0, t, t1, ep⟩⟩
