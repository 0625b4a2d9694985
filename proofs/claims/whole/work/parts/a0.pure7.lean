/-! reach: class and reference mark the same addresses: the least set that is closed under 'leads to' -/
def ad8 (x : Int32) : Nat := (x &&& 255).toNatClampNeg
theorem ad8_lt (x : Int32) : ad8 x < 256 := by
  obtain ⟨j, hj, e⟩ := ix_ex x
  rw [ad8, e, nI_clamp (by omega)]; exact hj
theorem ad8_nI {j : Nat} (h : j < 256) : ad8 (nI j) = j := by
  rw [ad8, byt_and ⟨j, h, rfl⟩, nI_clamp (by omega)]
theorem nI_ad8 (x : Int32) : nI (ad8 x) = x &&& 255 := by
  obtain ⟨j, hj, e⟩ := ix_ex x
  rw [ad8, e, nI_clamp (by omega)]
theorem ad8_b {x : Int32} (h : byt x) : x.toNatClampNeg = ad8 x := by rw [ad8, byt_and h]
def ldB (src : Nat → Int32) (a b : Nat) : Prop := isUnkB (src a) = false ∧ behB (src a) = true ∧ b = ad8 (nI a + lenI (src a))
def ldT (src : Nat → Int32) (a b : Nat) : Prop := isUnkB (src a) = false ∧ hasTB (src a) = true ∧ b = ad8 (rd src (nI a + 1))
def clsd (src : Nat → Int32) (S : Nat → Prop) : Prop := ∀ a b : Nat, a < 256 → S a → (ldB src a b ∨ ldT src a b) → S b
def lstS (src : Nat → Int32) (en : Nat) (f : Nat → Int32) : Prop :=
  ¬ f en = 0 ∧ clsd src (fun j => ¬ f j = 0) ∧ ∀ S : Nat → Prop, S en → clsd src S → ∀ j : Nat, j < 256 → ¬ f j = 0 → S j
theorem lst_one {src : Nat → Int32} {en : Nat} {f f' : Nat → Int32} (h : lstS src en f) (h' : lstS src en f') : ∀ j : Nat, j < 256 → (f j = 0 ↔ f' j = 0) := by
  intro j hj
  have h1 := h.2.2 _ h'.1 h'.2.1 j hj
  have h2 := h'.2.2 _ h.1 h.2.1 j hj
  by_cases a : f j = 0 <;> by_cases b : f' j = 0
  · exact ⟨fun _ => b, fun _ => a⟩
  · exact absurd a (h2 b)
  · exact absurd b (h1 a)
  · exact ⟨fun q => absurd q a, fun q => absurd q b⟩
/-- how many of the first k are marked -/
def cntM (f : Nat → Int32) : Nat → Nat
  | 0 => 0
  | k + 1 => cntM f k + if f k = 0 then 0 else 1
theorem cnt_le (f : Nat → Int32) (k : Nat) : cntM f k ≤ k := by
  induction k with
  | zero => exact Nat.le_refl _
  | succ k ih =>
    rw [cntM]
    by_cases h : f k = 0
    · rw [if_pos h]; omega
    · rw [if_neg h]; omega
theorem cnt_lt {f : Nat → Int32} {a : Nat} (h : f a = 0) (k : Nat) (hk : a < k) : cntM f k < k := by
  induction k with
  | zero => omega
  | succ k ih =>
    rw [cntM]
    by_cases e : a = k
    · subst e; rw [if_pos h]; have := cnt_le f a; omega
    · have := ih (by omega)
      by_cases q : f k = 0
      · rw [if_pos q]; omega
      · rw [if_neg q]; omega
theorem cnt_upd {f : Nat → Int32} {a : Nat} (h : f a = 0) (k : Nat) : cntM (upd f a 1) k = cntM f k + if a < k then 1 else 0 := by
  induction k with
  | zero => rw [if_neg (Nat.not_lt_zero a)]; rfl
  | succ k ih =>
    rw [cntM, cntM, ih]
    by_cases e : k = a
    · subst e
      rw [pk_us, if_neg (show ¬ (1 : Int32) = 0 by decide), if_pos h, if_neg (Nat.lt_irrefl k), if_pos (Nat.lt_succ_self k)]
    · rw [pk_un e]
      by_cases q : a < k
      · rw [if_pos q, if_pos (show a < k + 1 by omega)]; omega
      · rw [if_neg q, if_neg (show ¬ a < k + 1 by omega)]; omega
theorem cnt_0 {f : Nat → Int32} (k : Nat) (h : ∀ j : Nat, j < k → f j = 0) : cntM f k = 0 := by
  induction k with
  | zero => rfl
  | succ k ih => rw [cntM, ih (fun j hj => h j (by omega)), if_pos (h k (by omega))]
/-! the class's walk -/
def invW (src : Nat → Int32) (en d : Nat) (s : RS) : Prop :=
  s.2.2 = cntM s.1 256 ∧ (∀ i : Nat, i < s.2.2 → byt (s.2.1 i)) ∧ (∀ j : Nat, j < 256 → ¬ s.1 j = 0 → ∃ i : Nat, i < s.2.2 ∧ s.2.1 i = nI j) ∧
  (∀ i b : Nat, i < d → i < s.2.2 → (ldB src (ad8 (s.2.1 i)) b ∨ ldT src (ad8 (s.2.1 i)) b) → ¬ s.1 b = 0) ∧
  (∀ S : Nat → Prop, S en → clsd src S → ∀ j : Nat, j < 256 → ¬ s.1 j = 0 → S j) ∧ (∀ i : Nat, i < s.2.2 → ¬ s.1 (ad8 (s.2.1 i)) = 0)
/-- what a mark keeps -/
def grW (s s' : RS) : Prop := (∀ j : Nat, ¬ s.1 j = 0 → ¬ s'.1 j = 0) ∧ s.2.2 ≤ s'.2.2 ∧ ∀ i : Nat, i < s.2.2 → s'.2.1 i = s.2.1 i
theorem mrk_ok {src : Nat → Int32} {en d : Nat} {s : RS} {x : Int32} (h : invW src en d s) (hd : d ≤ s.2.2) (hx : ∀ S : Nat → Prop, S en → clsd src S → S (ad8 x)) :
    invW src en d (mrk s x) ∧ grW s (mrk s x) ∧ ¬ (mrk s x).1 (ad8 x) = 0 := by
  obtain ⟨h1, h2, h3, h4, h5, h6⟩ := h
  rw [mrk]
  by_cases q : s.1 (x &&& 255).toNatClampNeg = 0
  · have q' : s.1 (ad8 x) = 0 := q
    have hn : s.2.2 < 256 := by rw [h1]; exact cnt_lt q' 256 (ad8_lt x)
    rw [if_pos q, if_pos hn]
    refine ⟨⟨?_, ?_, ?_, ?_, ?_, ?_⟩, ⟨?_, ?_, ?_⟩, ?_⟩
    · show s.2.2 + 1 = cntM (upd s.1 (ad8 x) 1) 256
      rw [cnt_upd q', if_pos (ad8_lt x), h1]
    · intro i hi
      have hi : i < s.2.2 + 1 := hi
      show byt (upd s.2.1 s.2.2 (x &&& 255) i)
      by_cases e : i = s.2.2
      · rw [e, pk_us]; exact byt_m x
      · rw [pk_un e]; exact h2 i (by omega)
    · intro j hj hm
      have hm : ¬ upd s.1 (ad8 x) 1 j = 0 := hm
      show ∃ i : Nat, i < s.2.2 + 1 ∧ upd s.2.1 s.2.2 (x &&& 255) i = nI j
      by_cases e : j = ad8 x
      · exact ⟨s.2.2, by omega, by rw [pk_us, e, nI_ad8]⟩
      · rw [pk_un e] at hm
        obtain ⟨i, hi, e2⟩ := h3 j hj hm
        exact ⟨i, by omega, by rw [pk_un (by omega)]; exact e2⟩
    · intro i b hi hi2 hl
      have hl : ldB src (ad8 (upd s.2.1 s.2.2 (x &&& 255) i)) b ∨ ldT src (ad8 (upd s.2.1 s.2.2 (x &&& 255) i)) b := hl
      rw [pk_un (show i ≠ s.2.2 by omega)] at hl
      show ¬ upd s.1 (ad8 x) 1 b = 0
      by_cases e : b = ad8 x
      · rw [e, pk_us]; decide
      · rw [pk_un e]; exact h4 i b hi (by omega) hl
    · intro S hS hC j hj hm
      have hm : ¬ upd s.1 (ad8 x) 1 j = 0 := hm
      by_cases e : j = ad8 x
      · rw [e]; exact hx S hS hC
      · rw [pk_un e] at hm; exact h5 S hS hC j hj hm
    · intro i hi
      have hi : i < s.2.2 + 1 := hi
      show ¬ upd s.1 (ad8 x) 1 (ad8 (upd s.2.1 s.2.2 (x &&& 255) i)) = 0
      by_cases e : i = s.2.2
      · rw [e, pk_us, show ad8 (x &&& 255) = ad8 x by rw [ad8, byt_and (byt_m x), ad8], pk_us]; decide
      · rw [pk_un e]
        by_cases e2 : ad8 (s.2.1 i) = ad8 x
        · rw [e2, pk_us]; decide
        · rw [pk_un e2]; exact h6 i (by omega)
    · intro j hm
      show ¬ upd s.1 (ad8 x) 1 j = 0
      by_cases e : j = ad8 x
      · rw [e, pk_us]; decide
      · rw [pk_un e]; exact hm
    · exact Nat.le_succ _
    · intro i hi; exact pk_un (by omega)
    · show ¬ upd s.1 (ad8 x) 1 (ad8 x) = 0
      rw [pk_us]; decide
  · rw [if_neg q]
    exact ⟨⟨h1, h2, h3, h4, h5, h6⟩, ⟨fun _ p => p, Nat.le_refl _, fun _ _ => rfl⟩, q⟩
theorem gr_tr {a b c : RS} (h : grW a b) (k : grW b c) : grW a c := ⟨fun j p => k.1 j (h.1 j p), Nat.le_trans h.2.1 k.2.1, fun i p => (k.2.2 i (Nat.lt_of_lt_of_le p h.2.1)).trans (h.2.2 i p)⟩
theorem gr_rf (a : RS) : grW a a := ⟨fun _ p => p, Nat.le_refl _, fun _ _ => rfl⟩
theorem rd_at {src : Nat → Int32} (x : Int32) : rd src x = src (ad8 x) := rfl
theorem flw_ok {src : Nat → Int32} {en d : Nat} {s : RS} {x : Int32} (h : invW src en d s) (hd : d ≤ s.2.2) (hbx : byt x) (hx : ∀ S : Nat → Prop, S en → clsd src S → S (ad8 x)) :
    invW src en d (flw src s x) ∧ grW s (flw src s x) ∧ ∀ b : Nat, (ldB src (ad8 x) b ∨ ldT src (ad8 x) b) → ¬ (flw src s x).1 b = 0 := by
  have ex : nI (ad8 x) = x := by rw [nI_ad8, byt_and hbx]
  rw [flw]
  by_cases u : isUnkB (rd src x) = true
  · rw [if_pos u]
    refine ⟨h, gr_rf s, fun b hl => ?_⟩
    rcases hl with hl | hl
    · exact absurd (hl.1.symm.trans u) (by decide)
    · exact absurd (hl.1.symm.trans u) (by decide)
  · rw [if_neg u]
    have uf : isUnkB (src (ad8 x)) = false := by cases e : isUnkB (src (ad8 x)) with
      | false => rfl
      | true => exact absurd e u
    by_cases be : behB (rd src x) = true
    · have hx1 : ∀ S : Nat → Prop, S en → clsd src S → S (ad8 (x + lenI (rd src x))) := fun S hS hC => hC (ad8 x) _ (ad8_lt x) (hx S hS hC) (Or.inl ⟨uf, be, by rw [ex]; rfl⟩)
      obtain ⟨i1, g1, m1⟩ := mrk_ok h hd hx1
      rw [if_pos be]
      by_cases ht : hasTB (rd src x) = true
      · have hx2 : ∀ S : Nat → Prop, S en → clsd src S → S (ad8 (rd src (x + 1))) := fun S hS hC => hC (ad8 x) _ (ad8_lt x) (hx S hS hC) (Or.inr ⟨uf, ht, by rw [ex]⟩)
        obtain ⟨i2, g2, m2⟩ := mrk_ok i1 (Nat.le_trans hd g1.2.1) hx2
        rw [if_pos ht]
        refine ⟨i2, gr_tr g1 g2, fun b hl => ?_⟩
        rcases hl with hl | hl
        · rw [hl.2.2, ex]; exact g2.1 _ m1
        · rw [hl.2.2, ex]; exact m2
      · rw [if_neg ht]
        refine ⟨i1, g1, fun b hl => ?_⟩
        rcases hl with hl | hl
        · rw [hl.2.2, ex]; exact m1
        · exact absurd hl.2.1 ht
    · rw [if_neg be]
      by_cases ht : hasTB (rd src x) = true
      · have hx2 : ∀ S : Nat → Prop, S en → clsd src S → S (ad8 (rd src (x + 1))) := fun S hS hC => hC (ad8 x) _ (ad8_lt x) (hx S hS hC) (Or.inr ⟨uf, ht, by rw [ex]⟩)
        obtain ⟨i2, g2, m2⟩ := mrk_ok h hd hx2
        rw [if_pos ht]
        refine ⟨i2, g2, fun b hl => ?_⟩
        rcases hl with hl | hl
        · exact absurd hl.2.1 be
        · rw [hl.2.2, ex]; exact m2
      · rw [if_neg ht]
        refine ⟨h, gr_rf s, fun b hl => ?_⟩
        rcases hl with hl | hl
        · exact absurd hl.2.1 be
        · exact absurd hl.2.1 ht
theorem wlk_ok {src : Nat → Int32} {en : Nat} : ∀ (k d : Nat) (s : RS), k + d = 256 → d ≤ s.2.2 → ¬ s.1 en = 0 → invW src en d s → lstS src en (wlk src k d s).1 := by
  intro k
  induction k with
  | zero =>
    intro d s hk hd hen h
    obtain ⟨h1, h2, h3, h4, h5, h6⟩ := h
    have hle := cnt_le s.1 256
    refine ⟨hen, ?_, h5⟩
    intro a b ha hm hl
    obtain ⟨i, hi, e⟩ := h3 a ha hm
    exact h4 i b (by omega) hi (by rw [e, ad8_nI ha]; exact hl)
  | succ k ih =>
    intro d s hk hd hen h
    rw [wlk]
    by_cases q : d < s.2.2
    · rw [if_pos q]
      have hS : ∀ S : Nat → Prop, S en → clsd src S → S (ad8 (s.2.1 d)) := fun S hS hC => h.2.2.2.2.1 S hS hC _ (ad8_lt _) (h.2.2.2.2.2 d q)
      obtain ⟨i1, g1, m1⟩ := flw_ok h hd (h.2.1 d q) hS
      refine ih (d + 1) _ (by omega) (Nat.le_trans q g1.2.1) (g1.1 en hen) ⟨i1.1, i1.2.1, i1.2.2.1, ?_, i1.2.2.2.2.1, i1.2.2.2.2.2⟩
      intro i b hi hi2 hl
      by_cases e : i = d
      · subst e; rw [g1.2.2 i q] at hl; exact m1 b hl
      · exact i1.2.2.2.1 i b (by omega) hi2 hl
    · rw [if_neg q]
      obtain ⟨h1, h2, h3, h4, h5, h6⟩ := h
      refine ⟨hen, ?_, h5⟩
      intro a b ha hm hl
      obtain ⟨i, hi, e⟩ := h3 a ha hm
      exact h4 i b (by omega) hi (by rw [e, ad8_nI ha]; exact hl)
/-- the class's marks -/
theorem walk_lst {src fr fp : Nat → Int32} {en : Int32} : lstS src (ad8 en) (wlk src 256 0 (mrk (filI 0 fr 256, fp, 0) en)).1 := by
  have hz : ∀ j : Nat, j < 256 → filI 0 fr 256 j = 0 := fun j hj => by rw [filI, cpyI, if_pos hj]
  have h0 : invW src (ad8 en) 0 (filI 0 fr 256, fp, 0) :=
    ⟨(cnt_0 256 hz).symm, fun i hi => absurd hi (Nat.not_lt_zero i), fun j hj hm => absurd (hz j hj) hm, fun i b hi _ _ => absurd hi (Nat.not_lt_zero i), fun S _ _ j hj hm => absurd (hz j hj) hm, fun i hi => absurd hi (Nat.not_lt_zero i)⟩
  obtain ⟨i1, g1, m1⟩ := mrk_ok h0 (Nat.le_refl 0) (x := en) (fun S hS _ => hS)
  exact wlk_ok 256 0 _ rfl (Nat.zero_le _) m1 i1
