set_option maxHeartbeats 4000000 in
set_option maxRecDepth 100000 in
theorem p_add (l : Launch) (D : va_G) (cI cZ : ClassId) (pr : Nat) (nu : Nat) (xs : Nat) (ys : Nat) (be : Nat) (wh : Nat) (n : Nat) (fn : Nat → Int32) (fx : Nat → Int32) (fy : Nat → Int32) (q : Int32) (x : Int32) (y : Int32) (sz : Nat) (hn : n ≤ 1024) : MetV l y_PR_add w_PR_add { frames := 0, cells := 0, slots := 0, locals := 0 } D cI cZ [.ref pr, .int q, .int x, .int y] [(pr, .inr (2, [.ref nu, .ref xs, .ref ys, .ref be, .ref wh, .int (nI n)])), (nu, .inl (cI, 1024, .inl fn)), (xs, .inl (cI, 1024, .inl fx)), (ys, .inl (cI, 1024, .inl fy))] sz (fun (u : Nat × (Nat → Int32) × (Nat → Int32) × (Nat → Int32)) => match u with | (n1, fn1, fx1, fy1) => (n1, fn1, fx1, fy1) = addP (n, fn, fx, fy) q x y ∧ n1 ≤ 1024) (fun (u : Nat × (Nat → Int32) × (Nat → Int32) × (Nat → Int32)) => match u with | (n1, fn1, fx1, fy1) => [(pr, .inr (2, [.ref nu, .ref xs, .ref ys, .ref be, .ref wh, .int (nI n1)])), (nu, .inl (cI, 1024, .inl fn1)), (xs, .inl (cI, 1024, .inl fx1)), (ys, .inl (cI, 1024, .inl fy1))]) 0 0 := by
  refine ofV (cc := c_PR_add) (maxL := 4) (ret := none) (by decide) rfl (Nat.le_of_ble_eq_true rfl) ?_
  intro p e s m args below meth c A H hH0 hx hb hr hlocks hts hown hnm hml ls hl hP hK hD hA hS hN
  have hown : s.vm.findClass R_PR = some m.cls := hown
  have hl : lv_has ls 4 [(0, .ref pr), (1, .int q), (2, .int x), (3, .int y)] := hl
  refine lv_aload_n hx hb d_PR_add_0 rfl (lv_at hl 0 rfl) ?_
  refine va_get (D := D) (ci := 2) (v := .int (nI n)) (C := R_PR) (T := T_PR) (N := 6) hx hb hts iw_PR hown hK hP 0 rfl rfl 5 (by decide) (hts _ k_180) (fun _ h9 => h9) rfl d_PR_add_1 ?_
  refine lv_sipush (v := 1024) hx hb d_PR_add_4 (by decide) ?_
  refine lv_icmp_ge (tgt := 50) hx hb d_PR_add_7 rfl (fun h7 => ?_) (fun h7 => ?_)
  · have hP9 : va_P D vwCl [(pr, .inr (2, [.ref nu, .ref xs, .ref ys, .ref be, .ref wh, .int (nI n)])), (nu, .inl (cI, 1024, .inl fn)), (xs, .inl (cI, 1024, .inl fx)), (ys, .inl (cI, 1024, .inl fy))] H := hP.sub [0, 1, 2, 3] rfl
    have hD9 : va_D A [(pr, .inr (2, [.ref nu, .ref xs, .ref ys, .ref be, .ref wh, .int (nI n)])), (nu, .inl (cI, 1024, .inl fn)), (xs, .inl (cI, 1024, .inl fx)), (ys, .inl (cI, 1024, .inl fy))] := hD.sub [0, 1, 2, 3] (by decide) rfl
    exact W.vret hx hb hr (fun t ht hW => ⟨⟨(n, fn, fx, fy), rfl, ⟨by rw [addP, if_neg (nlt1024 h7)], hn⟩, by rw [ht]; exact hP9, va_K.moved hW.alike hK, hD9⟩, hS.F ht⟩) hS.2.2 d_PR_add_50
  · refine lv_aload_n hx hb d_PR_add_10 rfl (lv_at hl 0 rfl) ?_
    refine va_get (D := D) (ci := 2) (v := .ref nu) (C := R_PR) (T := T_PR) (N := 6) hx hb hts iw_PR hown hK hP 0 rfl rfl 0 (by decide) (hts _ k_175) (fun _ h9 => h9) rfl d_PR_add_11 ?_
    refine lv_aload_n hx hb d_PR_add_14 rfl (lv_at hl 0 rfl) ?_
    refine va_get (D := D) (ci := 2) (v := .int (nI n)) (C := R_PR) (T := T_PR) (N := 6) hx hb hts iw_PR hown hK hP 0 rfl rfl 5 (by decide) (hts _ k_180) (fun _ h9 => h9) rfl d_PR_add_15 ?_
    refine lv_iload_n hx hb d_PR_add_18 rfl (lv_at hl 1 rfl) ?_
    refine va_iast hx hb hK hP hD hS 1 0 rfl rfl (vp_in_nI (lt1024 hn h7) (by decide)) d_PR_add_19 (fun H locs hP hD hS => ?_)
    have hP : va_P D vwCl [(pr, .inr (2, [.ref nu, .ref xs, .ref ys, .ref be, .ref wh, .int (nI n)])), (nu, .inl (cI, 1024, .inl (upd fn (nI n).toNatClampNeg q))), (xs, .inl (cI, 1024, .inl fx)), (ys, .inl (cI, 1024, .inl fy))] H := hP
    have hD : va_D A [(pr, .inr (2, [.ref nu, .ref xs, .ref ys, .ref be, .ref wh, .int (nI n)])), (nu, .inl (cI, 1024, .inl (upd fn (nI n).toNatClampNeg q))), (xs, .inl (cI, 1024, .inl fx)), (ys, .inl (cI, 1024, .inl fy))] := hD
    refine lv_aload_n hx hb d_PR_add_20 rfl (lv_at hl 0 rfl) ?_
    refine va_get (D := D) (ci := 2) (v := .ref xs) (C := R_PR) (T := T_PR) (N := 6) hx hb hts iw_PR hown hK hP 0 rfl rfl 1 (by decide) (hts _ k_176) (fun _ h9 => h9) rfl d_PR_add_21 ?_
    refine lv_aload_n hx hb d_PR_add_24 rfl (lv_at hl 0 rfl) ?_
    refine va_get (D := D) (ci := 2) (v := .int (nI n)) (C := R_PR) (T := T_PR) (N := 6) hx hb hts iw_PR hown hK hP 0 rfl rfl 5 (by decide) (hts _ k_180) (fun _ h9 => h9) rfl d_PR_add_25 ?_
    refine lv_iload_n hx hb d_PR_add_28 rfl (lv_at hl 2 rfl) ?_
    refine va_iast hx hb hK hP hD hS 2 0 rfl rfl (vp_in_nI (lt1024 hn h7) (by decide)) d_PR_add_29 (fun H locs hP hD hS => ?_)
    have hP : va_P D vwCl [(pr, .inr (2, [.ref nu, .ref xs, .ref ys, .ref be, .ref wh, .int (nI n)])), (nu, .inl (cI, 1024, .inl (upd fn (nI n).toNatClampNeg q))), (xs, .inl (cI, 1024, .inl (upd fx (nI n).toNatClampNeg x))), (ys, .inl (cI, 1024, .inl fy))] H := hP
    have hD : va_D A [(pr, .inr (2, [.ref nu, .ref xs, .ref ys, .ref be, .ref wh, .int (nI n)])), (nu, .inl (cI, 1024, .inl (upd fn (nI n).toNatClampNeg q))), (xs, .inl (cI, 1024, .inl (upd fx (nI n).toNatClampNeg x))), (ys, .inl (cI, 1024, .inl fy))] := hD
    refine lv_aload_n hx hb d_PR_add_30 rfl (lv_at hl 0 rfl) ?_
    refine va_get (D := D) (ci := 2) (v := .ref ys) (C := R_PR) (T := T_PR) (N := 6) hx hb hts iw_PR hown hK hP 0 rfl rfl 2 (by decide) (hts _ k_177) (fun _ h9 => h9) rfl d_PR_add_31 ?_
    refine lv_aload_n hx hb d_PR_add_34 rfl (lv_at hl 0 rfl) ?_
    refine va_get (D := D) (ci := 2) (v := .int (nI n)) (C := R_PR) (T := T_PR) (N := 6) hx hb hts iw_PR hown hK hP 0 rfl rfl 5 (by decide) (hts _ k_180) (fun _ h9 => h9) rfl d_PR_add_35 ?_
    refine lv_iload_n hx hb d_PR_add_38 rfl (lv_at hl 3 rfl) ?_
    refine va_iast hx hb hK hP hD hS 3 0 rfl rfl (vp_in_nI (lt1024 hn h7) (by decide)) d_PR_add_39 (fun H locs hP hD hS => ?_)
    have hP : va_P D vwCl [(pr, .inr (2, [.ref nu, .ref xs, .ref ys, .ref be, .ref wh, .int (nI n)])), (nu, .inl (cI, 1024, .inl (upd fn (nI n).toNatClampNeg q))), (xs, .inl (cI, 1024, .inl (upd fx (nI n).toNatClampNeg x))), (ys, .inl (cI, 1024, .inl (upd fy (nI n).toNatClampNeg y)))] H := hP
    have hD : va_D A [(pr, .inr (2, [.ref nu, .ref xs, .ref ys, .ref be, .ref wh, .int (nI n)])), (nu, .inl (cI, 1024, .inl (upd fn (nI n).toNatClampNeg q))), (xs, .inl (cI, 1024, .inl (upd fx (nI n).toNatClampNeg x))), (ys, .inl (cI, 1024, .inl (upd fy (nI n).toNatClampNeg y)))] := hD
    refine lv_aload_n hx hb d_PR_add_40 rfl (lv_at hl 0 rfl) ?_
    refine lv_dup hx hb d_PR_add_41 rfl ?_
    refine va_get (D := D) (ci := 2) (v := .int (nI n)) (C := R_PR) (T := T_PR) (N := 6) hx hb hts iw_PR hown hK hP 0 rfl rfl 5 (by decide) (hts _ k_180) (fun _ h9 => h9) rfl d_PR_add_42 ?_
    refine lv_iconst (v := 1) hx hb d_PR_add_45 (by decide) ?_
    refine lv_iadd hx hb d_PR_add_46 ?_
    refine lv_topi (fun y9 e9 => ?_)
    have e9 : y9 = nI (n + 1) := e9.trans (nI_1 n)
    subst e9
    refine va_put (D := D) (ci := 2) (v := .int (nI (n + 1))) (ty := .int) (C := R_PR) (T := T_PR) (N := 6) hx hb hts iw_PR ty_PR ty_PR_ok nm_PR hown hK hP hD hS 0 rfl rfl 5 (by decide) (hts _ k_180) (fun _ h9 => h9) rfl (by decide +kernel) rfl rfl (Nat.le_of_ble_eq_true rfl) d_PR_add_47 (fun H locs hP hD hS => ?_)
    have hP : va_P D vwCl [(pr, .inr (2, [.ref nu, .ref xs, .ref ys, .ref be, .ref wh, .int (nI (n + 1))])), (nu, .inl (cI, 1024, .inl (upd fn (nI n).toNatClampNeg q))), (xs, .inl (cI, 1024, .inl (upd fx (nI n).toNatClampNeg x))), (ys, .inl (cI, 1024, .inl (upd fy (nI n).toNatClampNeg y)))] H := hP
    have hD : va_D A [(pr, .inr (2, [.ref nu, .ref xs, .ref ys, .ref be, .ref wh, .int (nI (n + 1))])), (nu, .inl (cI, 1024, .inl (upd fn (nI n).toNatClampNeg q))), (xs, .inl (cI, 1024, .inl (upd fx (nI n).toNatClampNeg x))), (ys, .inl (cI, 1024, .inl (upd fy (nI n).toNatClampNeg y)))] := hD
    have hP9 : va_P D vwCl [(pr, .inr (2, [.ref nu, .ref xs, .ref ys, .ref be, .ref wh, .int (nI (n + 1))])), (nu, .inl (cI, 1024, .inl (upd fn (nI n).toNatClampNeg q))), (xs, .inl (cI, 1024, .inl (upd fx (nI n).toNatClampNeg x))), (ys, .inl (cI, 1024, .inl (upd fy (nI n).toNatClampNeg y)))] H := hP.sub [0, 1, 2, 3] rfl
    have hD9 : va_D A [(pr, .inr (2, [.ref nu, .ref xs, .ref ys, .ref be, .ref wh, .int (nI (n + 1))])), (nu, .inl (cI, 1024, .inl (upd fn (nI n).toNatClampNeg q))), (xs, .inl (cI, 1024, .inl (upd fx (nI n).toNatClampNeg x))), (ys, .inl (cI, 1024, .inl (upd fy (nI n).toNatClampNeg y)))] := hD.sub [0, 1, 2, 3] (by decide) rfl
    exact W.vret hx hb hr (fun t ht hW => ⟨⟨((n + 1), upd fn (nI n).toNatClampNeg q, upd fx (nI n).toNatClampNeg x, upd fy (nI n).toNatClampNeg y), rfl, ⟨by rw [addP, if_pos (lt1024 hn h7), nI_clamp (by omega)], lt1024 hn h7⟩, by rw [ht]; exact hP9, va_K.moved hW.alike hK, hD9⟩, hS.F ht⟩) hS.2.2 d_PR_add_50
set_option maxHeartbeats 4000000 in
set_option maxRecDepth 100000 in
theorem p_tst (l : Launch) (D : va_G) (cI cZ : ClassId) (pr : Nat) (nu : Nat) (xs : Nat) (ys : Nat) (be : Nat) (wh : Nat) (n : Nat) (fn : Nat → Int32) (fx : Nat → Int32) (fy : Nat → Int32) (q : Int32) (y : Int32) (sz : Nat) (hn : n ≤ 1024) : MetV l y_PR_addTestedA w_PR_addTestedA { frames := 1, cells := 0, slots := 0, locals := 23 } D cI cZ [.ref pr, .int q, .int y] [(pr, .inr (2, [.ref nu, .ref xs, .ref ys, .ref be, .ref wh, .int (nI n)])), (nu, .inl (cI, 1024, .inl fn)), (xs, .inl (cI, 1024, .inl fx)), (ys, .inl (cI, 1024, .inl fy))] sz (fun (u : Nat × (Nat → Int32) × (Nat → Int32) × (Nat → Int32)) => match u with | (n1, fn1, fx1, fy1) => (n1, fn1, fx1, fy1) = tstP (n, fn, fx, fy) q y ∧ n1 ≤ 1024) (fun (u : Nat × (Nat → Int32) × (Nat → Int32) × (Nat → Int32)) => match u with | (n1, fn1, fx1, fy1) => [(pr, .inr (2, [.ref nu, .ref xs, .ref ys, .ref be, .ref wh, .int (nI n1)])), (nu, .inl (cI, 1024, .inl fn1)), (xs, .inl (cI, 1024, .inl fx1)), (ys, .inl (cI, 1024, .inl fy1))]) 0 0 := by
  refine ofV (cc := c_PR_addTestedA) (maxL := 3) (ret := none) (by decide) rfl (Nat.le_of_ble_eq_true rfl) ?_
  intro p e s m args below meth c A H hH0 hx hb hr hlocks hts hown hnm hml ls hl hP hK hD hA hS hN
  have hown : s.vm.findClass R_PR = some m.cls := hown
  have hl : lv_has ls 3 [(0, .ref pr), (1, .int q), (2, .int y)] := hl
  refine lv_aload_n hx hb d_PR_addTestedA_0 rfl (lv_at hl 0 rfl) ?_
  refine lv_bipush (v := 17) hx hb d_PR_addTestedA_1 (by decide) ?_
  refine lv_iconst (v := 0) hx hb d_PR_addTestedA_3 (by decide) ?_
  refine lv_iconst (v := 0) hx hb d_PR_addTestedA_4 (by decide) ?_
  have hPc := hP.sub (ws' := [(pr, .inr (2, [.ref nu, .ref xs, .ref ys, .ref be, .ref wh, .int (nI n)])), (nu, .inl (cI, 1024, .inl fn)), (xs, .inl (cI, 1024, .inl fx)), (ys, .inl (cI, 1024, .inl fy))]) [0, 1, 2, 3] rfl
  have hDc := hD.sub (ws' := [(pr, .inr (2, [.ref nu, .ref xs, .ref ys, .ref be, .ref wh, .int (nI n)])), (nu, .inl (cI, 1024, .inl fn)), (xs, .inl (cI, 1024, .inl fx)), (ys, .inl (cI, 1024, .inl fy))]) [0, 1, 2, 3] (by decide) rfl
  have hFc := va_free (wc := [(pr, .inr (2, [.ref nu, .ref xs, .ref ys, .ref be, .ref wh, .int (nI n)])), (nu, .inl (cI, 1024, .inl fn)), (xs, .inl (cI, 1024, .inl fx)), (ys, .inl (cI, 1024, .inl fy))]) hD hS hA [0, 1, 2, 3] rfl
  refine va_callv (va_runV (As := [.int 17, .int 0, .int 0]) (rest := []) ⟨hx, hb, hml, hown, hts⟩ (p_add l D cI cZ pr nu xs ys be wh n fn fx fy 17 0 0 H.size hn) ⟨cB 3 hts k_442 k_61 k_439 hd_PR_add ⟨Nat.le_of_ble_eq_true rfl, Nat.le_of_ble_eq_true rfl⟩ rfl rfl, hts _ k_441, hts _ k_9⟩ (PcW.preV (va_recv hK hP (q0 := 0) (ci := 2) rfl rfl) hPc hK hDc hN) rfl rfl hl.1 rfl (lv_room (Nat.le_of_ble_eq_true rfl)) d_PR_addTestedA_5 ⟨Nat.le_of_ble_eq_true rfl, Nat.le_of_ble_eq_true rfl⟩) hS (fun q _ h => hFc q h) hFc (fun u t H1 locs ht hvm e5 hB hz1 hk1 hS => ?_)
  obtain ⟨n15, fn15, fx15, fy15⟩ := u
  obtain ⟨hP1, hK1, hD1⟩ := hB
  rw [ht] at hP1
  obtain ⟨hP, hD⟩ := va_join (wr := []) (w1 := [(pr, .inr (2, [.ref nu, .ref xs, .ref ys, .ref be, .ref wh, .int (nI n15)])), (nu, .inl (cI, 1024, .inl fn15)), (xs, .inl (cI, 1024, .inl fx15)), (ys, .inl (cI, 1024, .inl fy15))]) hP hD [0, 1, 2, 3] [] rfl rfl (by decide) (by decide) hk1 hFc hP1 hD1
  generalize H1 = H at hP hS ⊢
  try dsimp only at e5
  have hP : va_P D vwCl [(pr, .inr (2, [.ref nu, .ref xs, .ref ys, .ref be, .ref wh, .int (nI n15)])), (nu, .inl (cI, 1024, .inl fn15)), (xs, .inl (cI, 1024, .inl fx15)), (ys, .inl (cI, 1024, .inl fy15))] H := hP
  have hD : va_D A [(pr, .inr (2, [.ref nu, .ref xs, .ref ys, .ref be, .ref wh, .int (nI n15)])), (nu, .inl (cI, 1024, .inl fn15)), (xs, .inl (cI, 1024, .inl fx15)), (ys, .inl (cI, 1024, .inl fy15))] := hD
  refine lv_aload_n hx hb d_PR_addTestedA_8 rfl (lv_at hl 0 rfl) ?_
  refine lv_iload_n hx hb d_PR_addTestedA_9 rfl (lv_at hl 1 rfl) ?_
  refine lv_iconst (v := 0) hx hb d_PR_addTestedA_10 (by decide) ?_
  refine lv_iload_n hx hb d_PR_addTestedA_11 rfl (lv_at hl 2 rfl) ?_
  have hPc := hP.sub (ws' := [(pr, .inr (2, [.ref nu, .ref xs, .ref ys, .ref be, .ref wh, .int (nI n15)])), (nu, .inl (cI, 1024, .inl fn15)), (xs, .inl (cI, 1024, .inl fx15)), (ys, .inl (cI, 1024, .inl fy15))]) [0, 1, 2, 3] rfl
  have hDc := hD.sub (ws' := [(pr, .inr (2, [.ref nu, .ref xs, .ref ys, .ref be, .ref wh, .int (nI n15)])), (nu, .inl (cI, 1024, .inl fn15)), (xs, .inl (cI, 1024, .inl fx15)), (ys, .inl (cI, 1024, .inl fy15))]) [0, 1, 2, 3] (by decide) rfl
  have hFc := va_free (wc := [(pr, .inr (2, [.ref nu, .ref xs, .ref ys, .ref be, .ref wh, .int (nI n15)])), (nu, .inl (cI, 1024, .inl fn15)), (xs, .inl (cI, 1024, .inl fx15)), (ys, .inl (cI, 1024, .inl fy15))]) hD hS hA [0, 1, 2, 3] rfl
  refine va_callv (va_runV (As := [.int q, .int 0, .int y]) (rest := []) ⟨hx, hb, hml, hown, hts⟩ (p_add l D cI cZ pr nu xs ys be wh n15 fn15 fx15 fy15 q 0 y H.size e5.2) ⟨cB 3 hts k_442 k_61 k_439 hd_PR_add ⟨Nat.le_of_ble_eq_true rfl, Nat.le_of_ble_eq_true rfl⟩ rfl rfl, hts _ k_441, hts _ k_9⟩ (PcW.preV (va_recv hK hP (q0 := 0) (ci := 2) rfl rfl) hPc hK hDc hN) rfl rfl hl.1 rfl (lv_room (Nat.le_of_ble_eq_true rfl)) d_PR_addTestedA_12 ⟨Nat.le_of_ble_eq_true rfl, Nat.le_of_ble_eq_true rfl⟩) hS (fun q _ h => hFc q h) hFc (fun u t H1 locs ht hvm e12 hB hz1 hk1 hS => ?_)
  obtain ⟨n112, fn112, fx112, fy112⟩ := u
  obtain ⟨hP1, hK1, hD1⟩ := hB
  rw [ht] at hP1
  obtain ⟨hP, hD⟩ := va_join (wr := []) (w1 := [(pr, .inr (2, [.ref nu, .ref xs, .ref ys, .ref be, .ref wh, .int (nI n112)])), (nu, .inl (cI, 1024, .inl fn112)), (xs, .inl (cI, 1024, .inl fx112)), (ys, .inl (cI, 1024, .inl fy112))]) hP hD [0, 1, 2, 3] [] rfl rfl (by decide) (by decide) hk1 hFc hP1 hD1
  generalize H1 = H at hP hS ⊢
  try dsimp only at e12
  have hP : va_P D vwCl [(pr, .inr (2, [.ref nu, .ref xs, .ref ys, .ref be, .ref wh, .int (nI n112)])), (nu, .inl (cI, 1024, .inl fn112)), (xs, .inl (cI, 1024, .inl fx112)), (ys, .inl (cI, 1024, .inl fy112))] H := hP
  have hD : va_D A [(pr, .inr (2, [.ref nu, .ref xs, .ref ys, .ref be, .ref wh, .int (nI n112)])), (nu, .inl (cI, 1024, .inl fn112)), (xs, .inl (cI, 1024, .inl fx112)), (ys, .inl (cI, 1024, .inl fy112))] := hD
  refine lv_aload_n hx hb d_PR_addTestedA_15 rfl (lv_at hl 0 rfl) ?_
  refine lv_bipush (v := 8) hx hb d_PR_addTestedA_16 (by decide) ?_
  refine lv_iconst (v := 0) hx hb d_PR_addTestedA_18 (by decide) ?_
  refine lv_iconst (v := 0) hx hb d_PR_addTestedA_19 (by decide) ?_
  have hPc := hP.sub (ws' := [(pr, .inr (2, [.ref nu, .ref xs, .ref ys, .ref be, .ref wh, .int (nI n112)])), (nu, .inl (cI, 1024, .inl fn112)), (xs, .inl (cI, 1024, .inl fx112)), (ys, .inl (cI, 1024, .inl fy112))]) [0, 1, 2, 3] rfl
  have hDc := hD.sub (ws' := [(pr, .inr (2, [.ref nu, .ref xs, .ref ys, .ref be, .ref wh, .int (nI n112)])), (nu, .inl (cI, 1024, .inl fn112)), (xs, .inl (cI, 1024, .inl fx112)), (ys, .inl (cI, 1024, .inl fy112))]) [0, 1, 2, 3] (by decide) rfl
  have hFc := va_free (wc := [(pr, .inr (2, [.ref nu, .ref xs, .ref ys, .ref be, .ref wh, .int (nI n112)])), (nu, .inl (cI, 1024, .inl fn112)), (xs, .inl (cI, 1024, .inl fx112)), (ys, .inl (cI, 1024, .inl fy112))]) hD hS hA [0, 1, 2, 3] rfl
  refine va_callv (va_runV (As := [.int 8, .int 0, .int 0]) (rest := []) ⟨hx, hb, hml, hown, hts⟩ (p_add l D cI cZ pr nu xs ys be wh n112 fn112 fx112 fy112 8 0 0 H.size e12.2) ⟨cB 3 hts k_442 k_61 k_439 hd_PR_add ⟨Nat.le_of_ble_eq_true rfl, Nat.le_of_ble_eq_true rfl⟩ rfl rfl, hts _ k_441, hts _ k_9⟩ (PcW.preV (va_recv hK hP (q0 := 0) (ci := 2) rfl rfl) hPc hK hDc hN) rfl rfl hl.1 rfl (lv_room (Nat.le_of_ble_eq_true rfl)) d_PR_addTestedA_20 ⟨Nat.le_of_ble_eq_true rfl, Nat.le_of_ble_eq_true rfl⟩) hS (fun q _ h => hFc q h) hFc (fun u t H1 locs ht hvm e20 hB hz1 hk1 hS => ?_)
  obtain ⟨n120, fn120, fx120, fy120⟩ := u
  obtain ⟨hP1, hK1, hD1⟩ := hB
  rw [ht] at hP1
  obtain ⟨hP, hD⟩ := va_join (wr := []) (w1 := [(pr, .inr (2, [.ref nu, .ref xs, .ref ys, .ref be, .ref wh, .int (nI n120)])), (nu, .inl (cI, 1024, .inl fn120)), (xs, .inl (cI, 1024, .inl fx120)), (ys, .inl (cI, 1024, .inl fy120))]) hP hD [0, 1, 2, 3] [] rfl rfl (by decide) (by decide) hk1 hFc hP1 hD1
  generalize H1 = H at hP hS ⊢
  try dsimp only at e20
  have hP : va_P D vwCl [(pr, .inr (2, [.ref nu, .ref xs, .ref ys, .ref be, .ref wh, .int (nI n120)])), (nu, .inl (cI, 1024, .inl fn120)), (xs, .inl (cI, 1024, .inl fx120)), (ys, .inl (cI, 1024, .inl fy120))] H := hP
  have hD : va_D A [(pr, .inr (2, [.ref nu, .ref xs, .ref ys, .ref be, .ref wh, .int (nI n120)])), (nu, .inl (cI, 1024, .inl fn120)), (xs, .inl (cI, 1024, .inl fx120)), (ys, .inl (cI, 1024, .inl fy120))] := hD
  refine lv_aload_n hx hb d_PR_addTestedA_23 rfl (lv_at hl 0 rfl) ?_
  refine lv_bipush (v := 18) hx hb d_PR_addTestedA_24 (by decide) ?_
  refine lv_iconst (v := 0) hx hb d_PR_addTestedA_26 (by decide) ?_
  refine lv_iconst (v := 0) hx hb d_PR_addTestedA_27 (by decide) ?_
  have hPc := hP.sub (ws' := [(pr, .inr (2, [.ref nu, .ref xs, .ref ys, .ref be, .ref wh, .int (nI n120)])), (nu, .inl (cI, 1024, .inl fn120)), (xs, .inl (cI, 1024, .inl fx120)), (ys, .inl (cI, 1024, .inl fy120))]) [0, 1, 2, 3] rfl
  have hDc := hD.sub (ws' := [(pr, .inr (2, [.ref nu, .ref xs, .ref ys, .ref be, .ref wh, .int (nI n120)])), (nu, .inl (cI, 1024, .inl fn120)), (xs, .inl (cI, 1024, .inl fx120)), (ys, .inl (cI, 1024, .inl fy120))]) [0, 1, 2, 3] (by decide) rfl
  have hFc := va_free (wc := [(pr, .inr (2, [.ref nu, .ref xs, .ref ys, .ref be, .ref wh, .int (nI n120)])), (nu, .inl (cI, 1024, .inl fn120)), (xs, .inl (cI, 1024, .inl fx120)), (ys, .inl (cI, 1024, .inl fy120))]) hD hS hA [0, 1, 2, 3] rfl
  refine va_callv (va_runV (As := [.int 18, .int 0, .int 0]) (rest := []) ⟨hx, hb, hml, hown, hts⟩ (p_add l D cI cZ pr nu xs ys be wh n120 fn120 fx120 fy120 18 0 0 H.size e20.2) ⟨cB 3 hts k_442 k_61 k_439 hd_PR_add ⟨Nat.le_of_ble_eq_true rfl, Nat.le_of_ble_eq_true rfl⟩ rfl rfl, hts _ k_441, hts _ k_9⟩ (PcW.preV (va_recv hK hP (q0 := 0) (ci := 2) rfl rfl) hPc hK hDc hN) rfl rfl hl.1 rfl (lv_room (Nat.le_of_ble_eq_true rfl)) d_PR_addTestedA_28 ⟨Nat.le_of_ble_eq_true rfl, Nat.le_of_ble_eq_true rfl⟩) hS (fun q _ h => hFc q h) hFc (fun u t H1 locs ht hvm e28 hB hz1 hk1 hS => ?_)
  obtain ⟨n128, fn128, fx128, fy128⟩ := u
  obtain ⟨hP1, hK1, hD1⟩ := hB
  rw [ht] at hP1
  obtain ⟨hP, hD⟩ := va_join (wr := []) (w1 := [(pr, .inr (2, [.ref nu, .ref xs, .ref ys, .ref be, .ref wh, .int (nI n128)])), (nu, .inl (cI, 1024, .inl fn128)), (xs, .inl (cI, 1024, .inl fx128)), (ys, .inl (cI, 1024, .inl fy128))]) hP hD [0, 1, 2, 3] [] rfl rfl (by decide) (by decide) hk1 hFc hP1 hD1
  generalize H1 = H at hP hS ⊢
  try dsimp only at e28
  have hP : va_P D vwCl [(pr, .inr (2, [.ref nu, .ref xs, .ref ys, .ref be, .ref wh, .int (nI n128)])), (nu, .inl (cI, 1024, .inl fn128)), (xs, .inl (cI, 1024, .inl fx128)), (ys, .inl (cI, 1024, .inl fy128))] H := hP
  have hD : va_D A [(pr, .inr (2, [.ref nu, .ref xs, .ref ys, .ref be, .ref wh, .int (nI n128)])), (nu, .inl (cI, 1024, .inl fn128)), (xs, .inl (cI, 1024, .inl fx128)), (ys, .inl (cI, 1024, .inl fy128))] := hD
  have hP9 : va_P D vwCl [(pr, .inr (2, [.ref nu, .ref xs, .ref ys, .ref be, .ref wh, .int (nI n128)])), (nu, .inl (cI, 1024, .inl fn128)), (xs, .inl (cI, 1024, .inl fx128)), (ys, .inl (cI, 1024, .inl fy128))] H := hP.sub [0, 1, 2, 3] rfl
  have hD9 : va_D A [(pr, .inr (2, [.ref nu, .ref xs, .ref ys, .ref be, .ref wh, .int (nI n128)])), (nu, .inl (cI, 1024, .inl fn128)), (xs, .inl (cI, 1024, .inl fx128)), (ys, .inl (cI, 1024, .inl fy128))] := hD.sub [0, 1, 2, 3] (by decide) rfl
  exact W.vret hx hb hr (fun t ht hW => ⟨⟨(n128, fn128, fx128, fy128), rfl, ⟨by rw [e28.1, e20.1, e12.1, e5.1]; try rfl, e28.2⟩, by rw [ht]; exact hP9, va_K.moved hW.alike hK, hD9⟩, hS.F ht⟩) hS.2.2 d_PR_addTestedA_31
set_option maxHeartbeats 4000000 in
set_option maxRecDepth 100000 in
theorem p_cnt (l : Launch) (D : va_G) (cI cZ : ClassId) (pr : Nat) (nu : Nat) (xs : Nat) (ys : Nat) (be : Nat) (wh : Nat) (n : Nat) (fn : Nat → Int32) (fx : Nat → Int32) (fy : Nat → Int32) (q : Int32) (sz : Nat) (hn : n ≤ 1024) : MetV l y_PR_addCountedX w_PR_addCountedX { frames := 1, cells := 0, slots := 0, locals := 23 } D cI cZ [.ref pr, .int q] [(pr, .inr (2, [.ref nu, .ref xs, .ref ys, .ref be, .ref wh, .int (nI n)])), (nu, .inl (cI, 1024, .inl fn)), (xs, .inl (cI, 1024, .inl fx)), (ys, .inl (cI, 1024, .inl fy))] sz (fun (u : Nat × (Nat → Int32) × (Nat → Int32) × (Nat → Int32)) => match u with | (n1, fn1, fx1, fy1) => (n1, fn1, fx1, fy1) = cntP (n, fn, fx, fy) q ∧ n1 ≤ 1024) (fun (u : Nat × (Nat → Int32) × (Nat → Int32) × (Nat → Int32)) => match u with | (n1, fn1, fx1, fy1) => [(pr, .inr (2, [.ref nu, .ref xs, .ref ys, .ref be, .ref wh, .int (nI n1)])), (nu, .inl (cI, 1024, .inl fn1)), (xs, .inl (cI, 1024, .inl fx1)), (ys, .inl (cI, 1024, .inl fy1))]) 0 0 := by
  refine ofV (cc := c_PR_addCountedX) (maxL := 2) (ret := none) (by decide) rfl (Nat.le_of_ble_eq_true rfl) ?_
  intro p e s m args below meth c A H hH0 hx hb hr hlocks hts hown hnm hml ls hl hP hK hD hA hS hN
  have hown : s.vm.findClass R_PR = some m.cls := hown
  have hl : lv_has ls 2 [(0, .ref pr), (1, .int q)] := hl
  refine lv_aload_n hx hb d_PR_addCountedX_0 rfl (lv_at hl 0 rfl) ?_
  refine lv_bipush (v := 17) hx hb d_PR_addCountedX_1 (by decide) ?_
  refine lv_iconst (v := 0) hx hb d_PR_addCountedX_3 (by decide) ?_
  refine lv_iconst (v := 0) hx hb d_PR_addCountedX_4 (by decide) ?_
  have hPc := hP.sub (ws' := [(pr, .inr (2, [.ref nu, .ref xs, .ref ys, .ref be, .ref wh, .int (nI n)])), (nu, .inl (cI, 1024, .inl fn)), (xs, .inl (cI, 1024, .inl fx)), (ys, .inl (cI, 1024, .inl fy))]) [0, 1, 2, 3] rfl
  have hDc := hD.sub (ws' := [(pr, .inr (2, [.ref nu, .ref xs, .ref ys, .ref be, .ref wh, .int (nI n)])), (nu, .inl (cI, 1024, .inl fn)), (xs, .inl (cI, 1024, .inl fx)), (ys, .inl (cI, 1024, .inl fy))]) [0, 1, 2, 3] (by decide) rfl
  have hFc := va_free (wc := [(pr, .inr (2, [.ref nu, .ref xs, .ref ys, .ref be, .ref wh, .int (nI n)])), (nu, .inl (cI, 1024, .inl fn)), (xs, .inl (cI, 1024, .inl fx)), (ys, .inl (cI, 1024, .inl fy))]) hD hS hA [0, 1, 2, 3] rfl
  refine va_callv (va_runV (As := [.int 17, .int 0, .int 0]) (rest := []) ⟨hx, hb, hml, hown, hts⟩ (p_add l D cI cZ pr nu xs ys be wh n fn fx fy 17 0 0 H.size hn) ⟨cB 3 hts k_442 k_61 k_439 hd_PR_add ⟨Nat.le_of_ble_eq_true rfl, Nat.le_of_ble_eq_true rfl⟩ rfl rfl, hts _ k_441, hts _ k_9⟩ (PcW.preV (va_recv hK hP (q0 := 0) (ci := 2) rfl rfl) hPc hK hDc hN) rfl rfl hl.1 rfl (lv_room (Nat.le_of_ble_eq_true rfl)) d_PR_addCountedX_5 ⟨Nat.le_of_ble_eq_true rfl, Nat.le_of_ble_eq_true rfl⟩) hS (fun q _ h => hFc q h) hFc (fun u t H1 locs ht hvm e5 hB hz1 hk1 hS => ?_)
  obtain ⟨n15, fn15, fx15, fy15⟩ := u
  obtain ⟨hP1, hK1, hD1⟩ := hB
  rw [ht] at hP1
  obtain ⟨hP, hD⟩ := va_join (wr := []) (w1 := [(pr, .inr (2, [.ref nu, .ref xs, .ref ys, .ref be, .ref wh, .int (nI n15)])), (nu, .inl (cI, 1024, .inl fn15)), (xs, .inl (cI, 1024, .inl fx15)), (ys, .inl (cI, 1024, .inl fy15))]) hP hD [0, 1, 2, 3] [] rfl rfl (by decide) (by decide) hk1 hFc hP1 hD1
  generalize H1 = H at hP hS ⊢
  try dsimp only at e5
  have hP : va_P D vwCl [(pr, .inr (2, [.ref nu, .ref xs, .ref ys, .ref be, .ref wh, .int (nI n15)])), (nu, .inl (cI, 1024, .inl fn15)), (xs, .inl (cI, 1024, .inl fx15)), (ys, .inl (cI, 1024, .inl fy15))] H := hP
  have hD : va_D A [(pr, .inr (2, [.ref nu, .ref xs, .ref ys, .ref be, .ref wh, .int (nI n15)])), (nu, .inl (cI, 1024, .inl fn15)), (xs, .inl (cI, 1024, .inl fx15)), (ys, .inl (cI, 1024, .inl fy15))] := hD
  refine lv_aload_n hx hb d_PR_addCountedX_8 rfl (lv_at hl 0 rfl) ?_
  refine lv_iconst (v := 2) hx hb d_PR_addCountedX_9 (by decide) ?_
  refine lv_iconst (v := 2) hx hb d_PR_addCountedX_10 (by decide) ?_
  refine lv_iconst (v := 1) hx hb d_PR_addCountedX_11 (by decide) ?_
  have hPc := hP.sub (ws' := [(pr, .inr (2, [.ref nu, .ref xs, .ref ys, .ref be, .ref wh, .int (nI n15)])), (nu, .inl (cI, 1024, .inl fn15)), (xs, .inl (cI, 1024, .inl fx15)), (ys, .inl (cI, 1024, .inl fy15))]) [0, 1, 2, 3] rfl
  have hDc := hD.sub (ws' := [(pr, .inr (2, [.ref nu, .ref xs, .ref ys, .ref be, .ref wh, .int (nI n15)])), (nu, .inl (cI, 1024, .inl fn15)), (xs, .inl (cI, 1024, .inl fx15)), (ys, .inl (cI, 1024, .inl fy15))]) [0, 1, 2, 3] (by decide) rfl
  have hFc := va_free (wc := [(pr, .inr (2, [.ref nu, .ref xs, .ref ys, .ref be, .ref wh, .int (nI n15)])), (nu, .inl (cI, 1024, .inl fn15)), (xs, .inl (cI, 1024, .inl fx15)), (ys, .inl (cI, 1024, .inl fy15))]) hD hS hA [0, 1, 2, 3] rfl
  refine va_callv (va_runV (As := [.int 2, .int 2, .int 1]) (rest := []) ⟨hx, hb, hml, hown, hts⟩ (p_add l D cI cZ pr nu xs ys be wh n15 fn15 fx15 fy15 2 2 1 H.size e5.2) ⟨cB 3 hts k_442 k_61 k_439 hd_PR_add ⟨Nat.le_of_ble_eq_true rfl, Nat.le_of_ble_eq_true rfl⟩ rfl rfl, hts _ k_441, hts _ k_9⟩ (PcW.preV (va_recv hK hP (q0 := 0) (ci := 2) rfl rfl) hPc hK hDc hN) rfl rfl hl.1 rfl (lv_room (Nat.le_of_ble_eq_true rfl)) d_PR_addCountedX_12 ⟨Nat.le_of_ble_eq_true rfl, Nat.le_of_ble_eq_true rfl⟩) hS (fun q _ h => hFc q h) hFc (fun u t H1 locs ht hvm e12 hB hz1 hk1 hS => ?_)
  obtain ⟨n112, fn112, fx112, fy112⟩ := u
  obtain ⟨hP1, hK1, hD1⟩ := hB
  rw [ht] at hP1
  obtain ⟨hP, hD⟩ := va_join (wr := []) (w1 := [(pr, .inr (2, [.ref nu, .ref xs, .ref ys, .ref be, .ref wh, .int (nI n112)])), (nu, .inl (cI, 1024, .inl fn112)), (xs, .inl (cI, 1024, .inl fx112)), (ys, .inl (cI, 1024, .inl fy112))]) hP hD [0, 1, 2, 3] [] rfl rfl (by decide) (by decide) hk1 hFc hP1 hD1
  generalize H1 = H at hP hS ⊢
  try dsimp only at e12
  have hP : va_P D vwCl [(pr, .inr (2, [.ref nu, .ref xs, .ref ys, .ref be, .ref wh, .int (nI n112)])), (nu, .inl (cI, 1024, .inl fn112)), (xs, .inl (cI, 1024, .inl fx112)), (ys, .inl (cI, 1024, .inl fy112))] H := hP
  have hD : va_D A [(pr, .inr (2, [.ref nu, .ref xs, .ref ys, .ref be, .ref wh, .int (nI n112)])), (nu, .inl (cI, 1024, .inl fn112)), (xs, .inl (cI, 1024, .inl fx112)), (ys, .inl (cI, 1024, .inl fy112))] := hD
  refine lv_aload_n hx hb d_PR_addCountedX_15 rfl (lv_at hl 0 rfl) ?_
  refine lv_iload_n hx hb d_PR_addCountedX_16 rfl (lv_at hl 1 rfl) ?_
  refine lv_iconst (v := 1) hx hb d_PR_addCountedX_17 (by decide) ?_
  refine lv_iconst (v := 2) hx hb d_PR_addCountedX_18 (by decide) ?_
  have hPc := hP.sub (ws' := [(pr, .inr (2, [.ref nu, .ref xs, .ref ys, .ref be, .ref wh, .int (nI n112)])), (nu, .inl (cI, 1024, .inl fn112)), (xs, .inl (cI, 1024, .inl fx112)), (ys, .inl (cI, 1024, .inl fy112))]) [0, 1, 2, 3] rfl
  have hDc := hD.sub (ws' := [(pr, .inr (2, [.ref nu, .ref xs, .ref ys, .ref be, .ref wh, .int (nI n112)])), (nu, .inl (cI, 1024, .inl fn112)), (xs, .inl (cI, 1024, .inl fx112)), (ys, .inl (cI, 1024, .inl fy112))]) [0, 1, 2, 3] (by decide) rfl
  have hFc := va_free (wc := [(pr, .inr (2, [.ref nu, .ref xs, .ref ys, .ref be, .ref wh, .int (nI n112)])), (nu, .inl (cI, 1024, .inl fn112)), (xs, .inl (cI, 1024, .inl fx112)), (ys, .inl (cI, 1024, .inl fy112))]) hD hS hA [0, 1, 2, 3] rfl
  refine va_callv (va_runV (As := [.int q, .int 1, .int 2]) (rest := []) ⟨hx, hb, hml, hown, hts⟩ (p_add l D cI cZ pr nu xs ys be wh n112 fn112 fx112 fy112 q 1 2 H.size e12.2) ⟨cB 3 hts k_442 k_61 k_439 hd_PR_add ⟨Nat.le_of_ble_eq_true rfl, Nat.le_of_ble_eq_true rfl⟩ rfl rfl, hts _ k_441, hts _ k_9⟩ (PcW.preV (va_recv hK hP (q0 := 0) (ci := 2) rfl rfl) hPc hK hDc hN) rfl rfl hl.1 rfl (lv_room (Nat.le_of_ble_eq_true rfl)) d_PR_addCountedX_19 ⟨Nat.le_of_ble_eq_true rfl, Nat.le_of_ble_eq_true rfl⟩) hS (fun q _ h => hFc q h) hFc (fun u t H1 locs ht hvm e19 hB hz1 hk1 hS => ?_)
  obtain ⟨n119, fn119, fx119, fy119⟩ := u
  obtain ⟨hP1, hK1, hD1⟩ := hB
  rw [ht] at hP1
  obtain ⟨hP, hD⟩ := va_join (wr := []) (w1 := [(pr, .inr (2, [.ref nu, .ref xs, .ref ys, .ref be, .ref wh, .int (nI n119)])), (nu, .inl (cI, 1024, .inl fn119)), (xs, .inl (cI, 1024, .inl fx119)), (ys, .inl (cI, 1024, .inl fy119))]) hP hD [0, 1, 2, 3] [] rfl rfl (by decide) (by decide) hk1 hFc hP1 hD1
  generalize H1 = H at hP hS ⊢
  try dsimp only at e19
  have hP : va_P D vwCl [(pr, .inr (2, [.ref nu, .ref xs, .ref ys, .ref be, .ref wh, .int (nI n119)])), (nu, .inl (cI, 1024, .inl fn119)), (xs, .inl (cI, 1024, .inl fx119)), (ys, .inl (cI, 1024, .inl fy119))] H := hP
  have hD : va_D A [(pr, .inr (2, [.ref nu, .ref xs, .ref ys, .ref be, .ref wh, .int (nI n119)])), (nu, .inl (cI, 1024, .inl fn119)), (xs, .inl (cI, 1024, .inl fx119)), (ys, .inl (cI, 1024, .inl fy119))] := hD
  refine lv_aload_n hx hb d_PR_addCountedX_22 rfl (lv_at hl 0 rfl) ?_
  refine lv_bipush (v := 18) hx hb d_PR_addCountedX_23 (by decide) ?_
  refine lv_iconst (v := 0) hx hb d_PR_addCountedX_25 (by decide) ?_
  refine lv_iconst (v := 0) hx hb d_PR_addCountedX_26 (by decide) ?_
  have hPc := hP.sub (ws' := [(pr, .inr (2, [.ref nu, .ref xs, .ref ys, .ref be, .ref wh, .int (nI n119)])), (nu, .inl (cI, 1024, .inl fn119)), (xs, .inl (cI, 1024, .inl fx119)), (ys, .inl (cI, 1024, .inl fy119))]) [0, 1, 2, 3] rfl
  have hDc := hD.sub (ws' := [(pr, .inr (2, [.ref nu, .ref xs, .ref ys, .ref be, .ref wh, .int (nI n119)])), (nu, .inl (cI, 1024, .inl fn119)), (xs, .inl (cI, 1024, .inl fx119)), (ys, .inl (cI, 1024, .inl fy119))]) [0, 1, 2, 3] (by decide) rfl
  have hFc := va_free (wc := [(pr, .inr (2, [.ref nu, .ref xs, .ref ys, .ref be, .ref wh, .int (nI n119)])), (nu, .inl (cI, 1024, .inl fn119)), (xs, .inl (cI, 1024, .inl fx119)), (ys, .inl (cI, 1024, .inl fy119))]) hD hS hA [0, 1, 2, 3] rfl
  refine va_callv (va_runV (As := [.int 18, .int 0, .int 0]) (rest := []) ⟨hx, hb, hml, hown, hts⟩ (p_add l D cI cZ pr nu xs ys be wh n119 fn119 fx119 fy119 18 0 0 H.size e19.2) ⟨cB 3 hts k_442 k_61 k_439 hd_PR_add ⟨Nat.le_of_ble_eq_true rfl, Nat.le_of_ble_eq_true rfl⟩ rfl rfl, hts _ k_441, hts _ k_9⟩ (PcW.preV (va_recv hK hP (q0 := 0) (ci := 2) rfl rfl) hPc hK hDc hN) rfl rfl hl.1 rfl (lv_room (Nat.le_of_ble_eq_true rfl)) d_PR_addCountedX_27 ⟨Nat.le_of_ble_eq_true rfl, Nat.le_of_ble_eq_true rfl⟩) hS (fun q _ h => hFc q h) hFc (fun u t H1 locs ht hvm e27 hB hz1 hk1 hS => ?_)
  obtain ⟨n127, fn127, fx127, fy127⟩ := u
  obtain ⟨hP1, hK1, hD1⟩ := hB
  rw [ht] at hP1
  obtain ⟨hP, hD⟩ := va_join (wr := []) (w1 := [(pr, .inr (2, [.ref nu, .ref xs, .ref ys, .ref be, .ref wh, .int (nI n127)])), (nu, .inl (cI, 1024, .inl fn127)), (xs, .inl (cI, 1024, .inl fx127)), (ys, .inl (cI, 1024, .inl fy127))]) hP hD [0, 1, 2, 3] [] rfl rfl (by decide) (by decide) hk1 hFc hP1 hD1
  generalize H1 = H at hP hS ⊢
  try dsimp only at e27
  have hP : va_P D vwCl [(pr, .inr (2, [.ref nu, .ref xs, .ref ys, .ref be, .ref wh, .int (nI n127)])), (nu, .inl (cI, 1024, .inl fn127)), (xs, .inl (cI, 1024, .inl fx127)), (ys, .inl (cI, 1024, .inl fy127))] H := hP
  have hD : va_D A [(pr, .inr (2, [.ref nu, .ref xs, .ref ys, .ref be, .ref wh, .int (nI n127)])), (nu, .inl (cI, 1024, .inl fn127)), (xs, .inl (cI, 1024, .inl fx127)), (ys, .inl (cI, 1024, .inl fy127))] := hD
  have hP9 : va_P D vwCl [(pr, .inr (2, [.ref nu, .ref xs, .ref ys, .ref be, .ref wh, .int (nI n127)])), (nu, .inl (cI, 1024, .inl fn127)), (xs, .inl (cI, 1024, .inl fx127)), (ys, .inl (cI, 1024, .inl fy127))] H := hP.sub [0, 1, 2, 3] rfl
  have hD9 : va_D A [(pr, .inr (2, [.ref nu, .ref xs, .ref ys, .ref be, .ref wh, .int (nI n127)])), (nu, .inl (cI, 1024, .inl fn127)), (xs, .inl (cI, 1024, .inl fx127)), (ys, .inl (cI, 1024, .inl fy127))] := hD.sub [0, 1, 2, 3] (by decide) rfl
  exact W.vret hx hb hr (fun t ht hW => ⟨⟨(n127, fn127, fx127, fy127), rfl, ⟨by rw [e27.1, e19.1, e12.1, e5.1]; try rfl, e27.2⟩, by rw [ht]; exact hP9, va_K.moved hW.alike hK, hD9⟩, hS.F ht⟩) hS.2.2 d_PR_addCountedX_30
set_option maxHeartbeats 4000000 in
set_option maxRecDepth 100000 in
theorem p_r2 (l : Launch) (D : va_G) (cI cZ : ClassId) (pr : Nat) (nu : Nat) (xs : Nat) (ys : Nat) (be : Nat) (wh : Nat) (n : Nat) (fn : Nat → Int32) (fx : Nat → Int32) (fy : Nat → Int32) (f : Int32) (k : Int32) (q : Int32) (sz : Nat) (hn : n ≤ 1024) : MetV l y_PR_addWithR2 w_PR_addWithR2 { frames := 1, cells := 0, slots := 0, locals := 23 } D cI cZ [.ref pr, .int f, .int k, .int q] [(pr, .inr (2, [.ref nu, .ref xs, .ref ys, .ref be, .ref wh, .int (nI n)])), (nu, .inl (cI, 1024, .inl fn)), (xs, .inl (cI, 1024, .inl fx)), (ys, .inl (cI, 1024, .inl fy))] sz (fun (u : Nat × (Nat → Int32) × (Nat → Int32) × (Nat → Int32)) => match u with | (n1, fn1, fx1, fy1) => (n1, fn1, fx1, fy1) = r2P (n, fn, fx, fy) f k q ∧ n1 ≤ 1024) (fun (u : Nat × (Nat → Int32) × (Nat → Int32) × (Nat → Int32)) => match u with | (n1, fn1, fx1, fy1) => [(pr, .inr (2, [.ref nu, .ref xs, .ref ys, .ref be, .ref wh, .int (nI n1)])), (nu, .inl (cI, 1024, .inl fn1)), (xs, .inl (cI, 1024, .inl fx1)), (ys, .inl (cI, 1024, .inl fy1))]) 0 0 := by
  refine ofV (cc := c_PR_addWithR2) (maxL := 4) (ret := none) (by decide) rfl (Nat.le_of_ble_eq_true rfl) ?_
  intro p e s m args below meth c A H hH0 hx hb hr hlocks hts hown hnm hml ls hl hP hK hD hA hS hN
  have hown : s.vm.findClass R_PR = some m.cls := hown
  have hl : lv_has ls 4 [(0, .ref pr), (1, .int f), (2, .int k), (3, .int q)] := hl
  refine lv_aload_n hx hb d_PR_addWithR2_0 rfl (lv_at hl 0 rfl) ?_
  refine lv_iload_n hx hb d_PR_addWithR2_1 rfl (lv_at hl 1 rfl) ?_
  refine lv_iconst (v := 2) hx hb d_PR_addWithR2_2 (by decide) ?_
  refine lv_iload_n hx hb d_PR_addWithR2_3 rfl (lv_at hl 2 rfl) ?_
  have hPc := hP.sub (ws' := [(pr, .inr (2, [.ref nu, .ref xs, .ref ys, .ref be, .ref wh, .int (nI n)])), (nu, .inl (cI, 1024, .inl fn)), (xs, .inl (cI, 1024, .inl fx)), (ys, .inl (cI, 1024, .inl fy))]) [0, 1, 2, 3] rfl
  have hDc := hD.sub (ws' := [(pr, .inr (2, [.ref nu, .ref xs, .ref ys, .ref be, .ref wh, .int (nI n)])), (nu, .inl (cI, 1024, .inl fn)), (xs, .inl (cI, 1024, .inl fx)), (ys, .inl (cI, 1024, .inl fy))]) [0, 1, 2, 3] (by decide) rfl
  have hFc := va_free (wc := [(pr, .inr (2, [.ref nu, .ref xs, .ref ys, .ref be, .ref wh, .int (nI n)])), (nu, .inl (cI, 1024, .inl fn)), (xs, .inl (cI, 1024, .inl fx)), (ys, .inl (cI, 1024, .inl fy))]) hD hS hA [0, 1, 2, 3] rfl
  refine va_callv (va_runV (As := [.int f, .int 2, .int k]) (rest := []) ⟨hx, hb, hml, hown, hts⟩ (p_add l D cI cZ pr nu xs ys be wh n fn fx fy f 2 k H.size hn) ⟨cB 3 hts k_442 k_61 k_439 hd_PR_add ⟨Nat.le_of_ble_eq_true rfl, Nat.le_of_ble_eq_true rfl⟩ rfl rfl, hts _ k_441, hts _ k_9⟩ (PcW.preV (va_recv hK hP (q0 := 0) (ci := 2) rfl rfl) hPc hK hDc hN) rfl rfl hl.1 rfl (lv_room (Nat.le_of_ble_eq_true rfl)) d_PR_addWithR2_4 ⟨Nat.le_of_ble_eq_true rfl, Nat.le_of_ble_eq_true rfl⟩) hS (fun q _ h => hFc q h) hFc (fun u t H1 locs ht hvm e4 hB hz1 hk1 hS => ?_)
  obtain ⟨n14, fn14, fx14, fy14⟩ := u
  obtain ⟨hP1, hK1, hD1⟩ := hB
  rw [ht] at hP1
  obtain ⟨hP, hD⟩ := va_join (wr := []) (w1 := [(pr, .inr (2, [.ref nu, .ref xs, .ref ys, .ref be, .ref wh, .int (nI n14)])), (nu, .inl (cI, 1024, .inl fn14)), (xs, .inl (cI, 1024, .inl fx14)), (ys, .inl (cI, 1024, .inl fy14))]) hP hD [0, 1, 2, 3] [] rfl rfl (by decide) (by decide) hk1 hFc hP1 hD1
  generalize H1 = H at hP hS ⊢
  try dsimp only at e4
  have hP : va_P D vwCl [(pr, .inr (2, [.ref nu, .ref xs, .ref ys, .ref be, .ref wh, .int (nI n14)])), (nu, .inl (cI, 1024, .inl fn14)), (xs, .inl (cI, 1024, .inl fx14)), (ys, .inl (cI, 1024, .inl fy14))] H := hP
  have hD : va_D A [(pr, .inr (2, [.ref nu, .ref xs, .ref ys, .ref be, .ref wh, .int (nI n14)])), (nu, .inl (cI, 1024, .inl fn14)), (xs, .inl (cI, 1024, .inl fx14)), (ys, .inl (cI, 1024, .inl fy14))] := hD
  refine lv_aload_n hx hb d_PR_addWithR2_7 rfl (lv_at hl 0 rfl) ?_
  refine lv_iload_n hx hb d_PR_addWithR2_8 rfl (lv_at hl 3 rfl) ?_
  refine lv_iconst (v := 0) hx hb d_PR_addWithR2_9 (by decide) ?_
  refine lv_iconst (v := 2) hx hb d_PR_addWithR2_10 (by decide) ?_
  have hPc := hP.sub (ws' := [(pr, .inr (2, [.ref nu, .ref xs, .ref ys, .ref be, .ref wh, .int (nI n14)])), (nu, .inl (cI, 1024, .inl fn14)), (xs, .inl (cI, 1024, .inl fx14)), (ys, .inl (cI, 1024, .inl fy14))]) [0, 1, 2, 3] rfl
  have hDc := hD.sub (ws' := [(pr, .inr (2, [.ref nu, .ref xs, .ref ys, .ref be, .ref wh, .int (nI n14)])), (nu, .inl (cI, 1024, .inl fn14)), (xs, .inl (cI, 1024, .inl fx14)), (ys, .inl (cI, 1024, .inl fy14))]) [0, 1, 2, 3] (by decide) rfl
  have hFc := va_free (wc := [(pr, .inr (2, [.ref nu, .ref xs, .ref ys, .ref be, .ref wh, .int (nI n14)])), (nu, .inl (cI, 1024, .inl fn14)), (xs, .inl (cI, 1024, .inl fx14)), (ys, .inl (cI, 1024, .inl fy14))]) hD hS hA [0, 1, 2, 3] rfl
  refine va_callv (va_runV (As := [.int q, .int 0, .int 2]) (rest := []) ⟨hx, hb, hml, hown, hts⟩ (p_add l D cI cZ pr nu xs ys be wh n14 fn14 fx14 fy14 q 0 2 H.size e4.2) ⟨cB 3 hts k_442 k_61 k_439 hd_PR_add ⟨Nat.le_of_ble_eq_true rfl, Nat.le_of_ble_eq_true rfl⟩ rfl rfl, hts _ k_441, hts _ k_9⟩ (PcW.preV (va_recv hK hP (q0 := 0) (ci := 2) rfl rfl) hPc hK hDc hN) rfl rfl hl.1 rfl (lv_room (Nat.le_of_ble_eq_true rfl)) d_PR_addWithR2_11 ⟨Nat.le_of_ble_eq_true rfl, Nat.le_of_ble_eq_true rfl⟩) hS (fun q _ h => hFc q h) hFc (fun u t H1 locs ht hvm e11 hB hz1 hk1 hS => ?_)
  obtain ⟨n111, fn111, fx111, fy111⟩ := u
  obtain ⟨hP1, hK1, hD1⟩ := hB
  rw [ht] at hP1
  obtain ⟨hP, hD⟩ := va_join (wr := []) (w1 := [(pr, .inr (2, [.ref nu, .ref xs, .ref ys, .ref be, .ref wh, .int (nI n111)])), (nu, .inl (cI, 1024, .inl fn111)), (xs, .inl (cI, 1024, .inl fx111)), (ys, .inl (cI, 1024, .inl fy111))]) hP hD [0, 1, 2, 3] [] rfl rfl (by decide) (by decide) hk1 hFc hP1 hD1
  generalize H1 = H at hP hS ⊢
  try dsimp only at e11
  have hP : va_P D vwCl [(pr, .inr (2, [.ref nu, .ref xs, .ref ys, .ref be, .ref wh, .int (nI n111)])), (nu, .inl (cI, 1024, .inl fn111)), (xs, .inl (cI, 1024, .inl fx111)), (ys, .inl (cI, 1024, .inl fy111))] H := hP
  have hD : va_D A [(pr, .inr (2, [.ref nu, .ref xs, .ref ys, .ref be, .ref wh, .int (nI n111)])), (nu, .inl (cI, 1024, .inl fn111)), (xs, .inl (cI, 1024, .inl fx111)), (ys, .inl (cI, 1024, .inl fy111))] := hD
  have hP9 : va_P D vwCl [(pr, .inr (2, [.ref nu, .ref xs, .ref ys, .ref be, .ref wh, .int (nI n111)])), (nu, .inl (cI, 1024, .inl fn111)), (xs, .inl (cI, 1024, .inl fx111)), (ys, .inl (cI, 1024, .inl fy111))] H := hP.sub [0, 1, 2, 3] rfl
  have hD9 : va_D A [(pr, .inr (2, [.ref nu, .ref xs, .ref ys, .ref be, .ref wh, .int (nI n111)])), (nu, .inl (cI, 1024, .inl fn111)), (xs, .inl (cI, 1024, .inl fx111)), (ys, .inl (cI, 1024, .inl fy111))] := hD.sub [0, 1, 2, 3] (by decide) rfl
  exact W.vret hx hb hr (fun t ht hW => ⟨⟨(n111, fn111, fx111, fy111), rfl, ⟨by rw [e11.1, e4.1]; try rfl, e11.2⟩, by rw [ht]; exact hP9, va_K.moved hW.alike hK, hD9⟩, hS.F ht⟩) hS.2.2 d_PR_addWithR2_14
