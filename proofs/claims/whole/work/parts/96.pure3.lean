/-! the code: class and reference lay the same rows -/
theorem row_eq {k : Nat} (hk : k < 32) (n b : Int32) (p : PG) : rowP (nI k) n b p = instM (nI k) n b p := by
  match k, hk with
  | 0, _ => rfl
  | 1, _ => rfl
  | 2, _ => rfl
  | 3, _ => rfl
  | 4, _ => rfl
  | 5, _ => rfl
  | 6, _ => rfl
  | 7, _ => rfl
  | 8, _ => rfl
  | 9, _ => rfl
  | 10, _ => rfl
  | 11, _ => rfl
  | 12, _ => rfl
  | 13, _ => rfl
  | 14, _ => rfl
  | 15, _ => rfl
  | 16, _ => rfl
  | 17, _ => rfl
  | 18, _ => rfl
  | 19, _ => rfl
  | 20, _ => rfl
  | 21, _ => rfl
  | 22, _ => rfl
  | 23, _ => rfl
  | 24, _ => rfl
  | 25, _ => rfl
  | 26, _ => rfl
  | 27, _ => rfl
  | 28, _ => rfl
  | 29, _ => rfl
  | 30, _ => rfl
  | 31, _ => rfl
  | k + 32, h => exact absurd h (by omega)
theorem addP_n (p : PG) (o x y : Int32) : p.1 ≤ (addP p o x y).1 ∧ (addP p o x y).1 ≤ p.1 + 1 := by
  rw [addP]
  by_cases h : p.1 < 1024
  · rw [if_pos h]; exact ⟨Nat.le_succ _, Nat.le_refl _⟩
  · rw [if_neg h]; exact ⟨Nat.le_refl _, Nat.le_succ _⟩
theorem aroP_n (p : PG) (o x y : Int32) : (aroP p o x y).1 ≤ p.1 + 4 := by
  rw [aroP]
  have h1 := addP_n p 17 0 0
  have h2 := addP_n (addP p 17 0 0) o x y
  have h3 := addP_n (addP (addP p 17 0 0) o x y) 8 0 0
  have h4 := addP_n (addP (addP (addP p 17 0 0) o x y) 8 0 0) 18 0 0
  omega
theorem cntP_n (p : PG) (o : Int32) : (cntP p o).1 ≤ p.1 + 4 := by
  rw [cntP]
  have h1 := addP_n p 17 0 0
  have h2 := addP_n (addP p 17 0 0) 2 2 1
  have h3 := addP_n (addP (addP p 17 0 0) 2 2 1) o 1 2
  have h4 := addP_n (addP (addP (addP p 17 0 0) 2 2 1) o 1 2) 18 0 0
  omega
theorem r2P_n (p : PG) (f n o : Int32) : (r2P p f n o).1 ≤ p.1 + 4 := by
  rw [r2P]
  have h1 := addP_n p f 2 n
  have h2 := addP_n (addP p f 2 n) o 0 2
  omega
theorem add1_n (p : PG) (o x y : Int32) : (addP p o x y).1 ≤ p.1 + 4 := by have := addP_n p o x y; omega
theorem add2_n (p : PG) (o x y o' x' y' : Int32) : (addP (addP p o x y) o' x' y').1 ≤ p.1 + 4 := by
  have h1 := addP_n p o x y
  have h2 := addP_n (addP p o x y) o' x' y'
  omega
theorem add3_n (p : PG) (o x y o' x' y' o2 x2 y2 : Int32) : (addP (addP (addP p o x y) o' x' y') o2 x2 y2).1 ≤ p.1 + 4 := by
  have h1 := addP_n p o x y
  have h2 := addP_n (addP p o x y) o' x' y'
  have h3 := addP_n (addP (addP p o x y) o' x' y') o2 x2 y2
  omega
theorem inst_n {k : Nat} (hk : k < 32) (n b : Int32) (p : PG) : (instM (nI k) n b p).1 ≤ p.1 + 4 := by
  match k, hk with
  | 0, _ => exact add1_n p _ _ _
  | 1, _ => exact add1_n p _ _ _
  | 2, _ => exact aroP_n p _ _ _
  | 3, _ => exact aroP_n p _ _ _
  | 4, _ => exact aroP_n p _ _ _
  | 5, _ => exact add1_n p _ _ _
  | 6, _ => exact add1_n p _ _ _
  | 7, _ => exact add1_n p _ _ _
  | 8, _ => exact add1_n p _ _ _
  | 9, _ => exact aroP_n p _ _ _
  | 10, _ => exact cntP_n p _
  | 11, _ => exact cntP_n p _
  | 12, _ => exact r2P_n p _ _ _
  | 13, _ => exact r2P_n p _ _ _
  | 14, _ => exact r2P_n p _ _ _
  | 15, _ => exact r2P_n p _ _ _
  | 16, _ => exact r2P_n p _ _ _
  | 17, _ => exact r2P_n p _ _ _
  | 18, _ => exact r2P_n p _ _ _
  | 19, _ => exact r2P_n p _ _ _
  | 20, _ => exact add1_n p _ _ _
  | 21, _ => exact add1_n p _ _ _
  | 22, _ => exact add1_n p _ _ _
  | 23, _ => exact add1_n p _ _ _
  | 24, _ => exact add1_n p _ _ _
  | 25, _ => exact add1_n p _ _ _
  | 26, _ => exact add1_n p _ _ _
  | 27, _ => exact add3_n p _ _ _ _ _ _ _ _ _
  | 28, _ => exact add2_n p _ _ _ _ _ _
  | 29, _ => exact add1_n p _ _ _
  | 30, _ => exact aroP_n p _ _ _
  | 31, _ => exact add1_n p _ _ _
  | k + 32, h => exact absurd h (by omega)
/-- rows that are in order: x names a register, a transfer's y is a byte -/
def okP (p : PG) : Prop := ∀ k : Nat, k < p.1 → (p.2.2.1 k = 0 ∨ p.2.2.1 k = 1 ∨ p.2.2.1 k = 2) ∧ (hasSB (p.2.1 k) = true → byt (p.2.2.2 k))
theorem addP_ok {p : PG} {o x y : Int32} (h : okP p) (hx : x = 0 ∨ x = 1 ∨ x = 2) (hy : hasSB o = true → byt y) : okP (addP p o x y) := by
  rw [addP]
  by_cases hc : p.1 < 1024
  · rw [if_pos hc]
    intro k hk
    have hk : k < p.1 + 1 := hk
    show (upd p.2.2.1 p.1 x k = 0 ∨ upd p.2.2.1 p.1 x k = 1 ∨ upd p.2.2.1 p.1 x k = 2) ∧ (hasSB (upd p.2.1 p.1 o k) = true → byt (upd p.2.2.2 p.1 y k))
    by_cases e : k = p.1
    · subst e; rw [pk_us, pk_us, pk_us]; exact ⟨hx, hy⟩
    · rw [pk_un e, pk_un e, pk_un e]; exact h k (by omega)
  · rw [if_neg hc]; exact h
theorem no_SB {o : Int32} {P : Prop} (h : hasSB o = false) : hasSB o = true → P := fun q => by rw [h] at q; cases q
theorem aroP_ok {p : PG} {o x y : Int32} (h : okP p) (hx : x = 0 ∨ x = 1 ∨ x = 2) (hy : hasSB o = true → byt y) : okP (aroP p o x y) :=
  addP_ok (addP_ok (addP_ok (addP_ok h (Or.inl rfl) (no_SB (by decide))) hx hy) (Or.inl rfl) (no_SB (by decide))) (Or.inl rfl) (no_SB (by decide))
theorem cntP_ok {p : PG} {o : Int32} (h : okP p) (hy : hasSB o = true → byt 2) : okP (cntP p o) :=
  addP_ok (addP_ok (addP_ok (addP_ok h (Or.inl rfl) (no_SB (by decide))) (Or.inr (Or.inr rfl)) (no_SB (by decide))) (Or.inr (Or.inl rfl)) hy) (Or.inl rfl) (no_SB (by decide))
theorem r2P_ok {p : PG} {f n o : Int32} (h : okP p) (hf : hasSB f = true → byt n) (ho : hasSB o = true → byt 2) : okP (r2P p f n o) :=
  addP_ok (addP_ok h (Or.inr (Or.inr rfl)) hf) (Or.inl rfl) ho
theorem inst_ok {k : Nat} (hk : k < 32) {n : Int32} (hn : byt n) (b : Int32) {p : PG} (h : okP p) : okP (instM (nI k) n b p) := by
  match k, hk with
  | 0, _ => exact addP_ok h (Or.inl rfl) (no_SB (by decide))
  | 1, _ => exact addP_ok h (Or.inl rfl) (no_SB (by decide))
  | 2, _ => exact aroP_ok h (Or.inl rfl) (no_SB (by decide))
  | 3, _ => exact aroP_ok h (Or.inl rfl) (no_SB (by decide))
  | 4, _ => exact aroP_ok h (Or.inl rfl) (no_SB (by decide))
  | 5, _ => exact addP_ok h (Or.inl rfl) (no_SB (by decide))
  | 6, _ => exact addP_ok h (Or.inl rfl) (no_SB (by decide))
  | 7, _ => exact addP_ok h (Or.inr (Or.inl rfl)) (no_SB (by decide))
  | 8, _ => exact addP_ok h (Or.inr (Or.inl rfl)) (no_SB (by decide))
  | 9, _ => exact aroP_ok h (Or.inl rfl) (no_SB (by decide))
  | 10, _ => exact cntP_ok h (no_SB (by decide))
  | 11, _ => exact cntP_ok h (no_SB (by decide))
  | 12, _ => exact r2P_ok h (no_SB (by decide)) (no_SB (by decide))
  | 13, _ => exact r2P_ok h (no_SB (by decide)) (no_SB (by decide))
  | 14, _ => exact r2P_ok h (no_SB (by decide)) (no_SB (by decide))
  | 15, _ => exact r2P_ok h (no_SB (by decide)) (no_SB (by decide))
  | 16, _ => exact r2P_ok h (no_SB (by decide)) (no_SB (by decide))
  | 17, _ => exact r2P_ok h (no_SB (by decide)) (no_SB (by decide))
  | 18, _ => exact r2P_ok h (no_SB (by decide)) (no_SB (by decide))
  | 19, _ => exact r2P_ok h (no_SB (by decide)) (no_SB (by decide))
  | 20, _ => exact addP_ok h (Or.inl rfl) (no_SB (by decide))
  | 21, _ => exact addP_ok h (Or.inl rfl) (no_SB (by decide))
  | 22, _ => exact addP_ok h (Or.inl rfl) (fun _ => hn)
  | 23, _ => exact addP_ok h (Or.inl rfl) (fun _ => hn)
  | 24, _ => exact addP_ok h (Or.inl rfl) (fun _ => hn)
  | 25, _ => exact addP_ok h (Or.inl rfl) (fun _ => hn)
  | 26, _ => exact addP_ok h (Or.inl rfl) (fun _ => hn)
  | 27, _ => exact addP_ok (addP_ok (addP_ok h (Or.inr (Or.inr rfl)) (no_SB (by decide))) (Or.inr (Or.inr rfl)) (no_SB (by decide))) (Or.inl rfl) (fun _ => hn)
  | 28, _ => exact addP_ok (addP_ok h (Or.inr (Or.inr rfl)) (no_SB (by decide))) (Or.inr (Or.inr rfl)) (no_SB (by decide))
  | 29, _ => exact addP_ok h (Or.inl rfl) (no_SB (by decide))
  | 30, _ => exact aroP_ok h (Or.inl rfl) (no_SB (by decide))
  | 31, _ => exact addP_ok h (Or.inr (Or.inl rfl)) (no_SB (by decide))
  | k + 32, h => exact absurd h (by omega)
