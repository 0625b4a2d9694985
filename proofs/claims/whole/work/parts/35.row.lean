set_option maxHeartbeats 4000000 in
set_option maxRecDepth 100000 in
theorem p_mov (l : Launch) (D : va_G) (cI cZ : ClassId) (pr : Nat) (nu : Nat) (xs : Nat) (ys : Nat) (be : Nat) (wh : Nat) (n : Nat) (fn : Nat → Int32) (fx : Nat → Int32) (fy : Nat → Int32) (op : Int32) (k : Int32) (sz : Nat) (hn : n ≤ 1024) : MetV l y_PR_addMove w_PR_addMove { frames := 2, cells := 0, slots := 0, locals := 45 } D cI cZ [.ref pr, .int op, .int k] [(pr, .inr (2, [.ref nu, .ref xs, .ref ys, .ref be, .ref wh, .int (nI n)])), (nu, .inl (cI, 1024, .inl fn)), (xs, .inl (cI, 1024, .inl fx)), (ys, .inl (cI, 1024, .inl fy))] sz (fun (u : Nat × (Nat → Int32) × (Nat → Int32) × (Nat → Int32)) => match u with | (n1, fn1, fx1, fy1) => (n1, fn1, fx1, fy1) = movP op k (n, fn, fx, fy) ∧ n1 ≤ 1024) (fun (u : Nat × (Nat → Int32) × (Nat → Int32) × (Nat → Int32)) => match u with | (n1, fn1, fx1, fy1) => [(pr, .inr (2, [.ref nu, .ref xs, .ref ys, .ref be, .ref wh, .int (nI n1)])), (nu, .inl (cI, 1024, .inl fn1)), (xs, .inl (cI, 1024, .inl fx1)), (ys, .inl (cI, 1024, .inl fy1))]) 0 0 := by
  refine ofV (cc := c_PR_addMove) (maxL := 3) (ret := none) (by decide) rfl (Nat.le_of_ble_eq_true rfl) ?_
  intro p e s m args below meth c A H hH0 hx hb hr hlocks hts hown hnm hml ls hl hP hK hD hA hS hN
  have hown : s.vm.findClass R_PR = some m.cls := hown
  have hl : lv_has ls 3 [(0, .ref pr), (1, .int op), (2, .int k)] := hl
  refine lv_iload_n hx hb d_PR_addMove_0 rfl (lv_at hl 1 rfl) ?_
  rcases sw_cases op 1 9 with h1 | ⟨j1, hj1, h1⟩
  · refine lv_tableOut (tgt := 140) hx hb d_PR_addMove_1 h1 rfl ?_
    have n1_1 : ¬ op = 1 := fun h9 => by rw [h9] at h1; revert h1; decide
    have n1_2 : ¬ op = 2 := fun h9 => by rw [h9] at h1; revert h1; decide
    have n1_3 : ¬ op = 3 := fun h9 => by rw [h9] at h1; revert h1; decide
    have n1_4 : ¬ op = 4 := fun h9 => by rw [h9] at h1; revert h1; decide
    have n1_5 : ¬ op = 5 := fun h9 => by rw [h9] at h1; revert h1; decide
    have n1_6 : ¬ op = 6 := fun h9 => by rw [h9] at h1; revert h1; decide
    have n1_7 : ¬ op = 7 := fun h9 => by rw [h9] at h1; revert h1; decide
    have n1_8 : ¬ op = 8 := fun h9 => by rw [h9] at h1; revert h1; decide
    have n1_9 : ¬ op = 9 := fun h9 => by rw [h9] at h1; revert h1; decide
    refine lv_aload_n hx hb d_PR_addMove_140 rfl (lv_at hl 0 rfl) ?_
    refine lv_iconst (v := 0) hx hb d_PR_addMove_141 (by decide) ?_
    refine lv_iconst (v := 0) hx hb d_PR_addMove_142 (by decide) ?_
    refine lv_iconst (v := 0) hx hb d_PR_addMove_143 (by decide) ?_
    have hPc := hP.sub (ws' := [(pr, .inr (2, [.ref nu, .ref xs, .ref ys, .ref be, .ref wh, .int (nI n)])), (nu, .inl (cI, 1024, .inl fn)), (xs, .inl (cI, 1024, .inl fx)), (ys, .inl (cI, 1024, .inl fy))]) [0, 1, 2, 3] rfl
    have hDc := hD.sub (ws' := [(pr, .inr (2, [.ref nu, .ref xs, .ref ys, .ref be, .ref wh, .int (nI n)])), (nu, .inl (cI, 1024, .inl fn)), (xs, .inl (cI, 1024, .inl fx)), (ys, .inl (cI, 1024, .inl fy))]) [0, 1, 2, 3] (by decide) rfl
    have hFc := va_free (wc := [(pr, .inr (2, [.ref nu, .ref xs, .ref ys, .ref be, .ref wh, .int (nI n)])), (nu, .inl (cI, 1024, .inl fn)), (xs, .inl (cI, 1024, .inl fx)), (ys, .inl (cI, 1024, .inl fy))]) hD hS hA [0, 1, 2, 3] rfl
    refine va_callv (va_runV (As := [.int 0, .int 0, .int 0]) (rest := []) ⟨hx, hb, hml, hown, hts⟩ (p_add l D cI cZ pr nu xs ys be wh n fn fx fy 0 0 0 H.size hn) ⟨cB 3 hts k_442 k_61 k_439 hd_PR_add ⟨Nat.le_of_ble_eq_true rfl, Nat.le_of_ble_eq_true rfl⟩ rfl rfl, hts _ k_441, hts _ k_9⟩ (PcW.preV (va_recv hK hP (q0 := 0) (ci := 2) rfl rfl) hPc hK hDc hN) rfl rfl hl.1 rfl (lv_room (Nat.le_of_ble_eq_true rfl)) d_PR_addMove_144 ⟨Nat.le_of_ble_eq_true rfl, Nat.le_of_ble_eq_true rfl⟩) hS (fun q _ h => hFc q h) hFc (fun u t H1 locs ht hvm e144 hB hz1 hk1 hS => ?_)
    obtain ⟨n1144, fn1144, fx1144, fy1144⟩ := u
    obtain ⟨hP1, hK1, hD1⟩ := hB
    rw [ht] at hP1
    obtain ⟨hP, hD⟩ := va_join (wr := []) (w1 := [(pr, .inr (2, [.ref nu, .ref xs, .ref ys, .ref be, .ref wh, .int (nI n1144)])), (nu, .inl (cI, 1024, .inl fn1144)), (xs, .inl (cI, 1024, .inl fx1144)), (ys, .inl (cI, 1024, .inl fy1144))]) hP hD [0, 1, 2, 3] [] rfl rfl (by decide) (by decide) hk1 hFc hP1 hD1
    generalize H1 = H at hP hS ⊢
    try dsimp only at e144
    have hP : va_P D vwCl [(pr, .inr (2, [.ref nu, .ref xs, .ref ys, .ref be, .ref wh, .int (nI n1144)])), (nu, .inl (cI, 1024, .inl fn1144)), (xs, .inl (cI, 1024, .inl fx1144)), (ys, .inl (cI, 1024, .inl fy1144))] H := hP
    have hD : va_D A [(pr, .inr (2, [.ref nu, .ref xs, .ref ys, .ref be, .ref wh, .int (nI n1144)])), (nu, .inl (cI, 1024, .inl fn1144)), (xs, .inl (cI, 1024, .inl fx1144)), (ys, .inl (cI, 1024, .inl fy1144))] := hD
    have hP9 : va_P D vwCl [(pr, .inr (2, [.ref nu, .ref xs, .ref ys, .ref be, .ref wh, .int (nI n1144)])), (nu, .inl (cI, 1024, .inl fn1144)), (xs, .inl (cI, 1024, .inl fx1144)), (ys, .inl (cI, 1024, .inl fy1144))] H := hP.sub [0, 1, 2, 3] rfl
    have hD9 : va_D A [(pr, .inr (2, [.ref nu, .ref xs, .ref ys, .ref be, .ref wh, .int (nI n1144)])), (nu, .inl (cI, 1024, .inl fn1144)), (xs, .inl (cI, 1024, .inl fx1144)), (ys, .inl (cI, 1024, .inl fy1144))] := hD.sub [0, 1, 2, 3] (by decide) rfl
    exact W.vret hx hb hr (fun t ht hW => ⟨⟨(n1144, fn1144, fx1144, fy1144), rfl, ⟨by rw [e144.1]; rw [movP, if_neg n1_1, if_neg n1_2, if_neg n1_3, if_neg n1_4, if_neg n1_5, if_neg n1_6, if_neg n1_7, if_neg n1_8, if_neg n1_9], e144.2⟩, by rw [ht]; exact hP9, va_K.moved hW.alike hK, hD9⟩, hS.F ht⟩) hS.2.2 d_PR_addMove_147
  · match j1, hj1, h1 with
    | 0, _, h1 =>
      have h1 : op = 1 := h1
      refine lv_tableIn (off := 51) (tgt := 52) hx hb d_PR_addMove_1 (by rw [h1]; decide) (by rw [h1]; decide) (by rw [h1]; rfl) rfl ?_
      refine lv_aload_n hx hb d_PR_addMove_52 rfl (lv_at hl 0 rfl) ?_
      refine lv_iconst (v := 1) hx hb d_PR_addMove_53 (by decide) ?_
      refine lv_iconst (v := 0) hx hb d_PR_addMove_54 (by decide) ?_
      refine lv_iconst (v := 0) hx hb d_PR_addMove_55 (by decide) ?_
      have hPc := hP.sub (ws' := [(pr, .inr (2, [.ref nu, .ref xs, .ref ys, .ref be, .ref wh, .int (nI n)])), (nu, .inl (cI, 1024, .inl fn)), (xs, .inl (cI, 1024, .inl fx)), (ys, .inl (cI, 1024, .inl fy))]) [0, 1, 2, 3] rfl
      have hDc := hD.sub (ws' := [(pr, .inr (2, [.ref nu, .ref xs, .ref ys, .ref be, .ref wh, .int (nI n)])), (nu, .inl (cI, 1024, .inl fn)), (xs, .inl (cI, 1024, .inl fx)), (ys, .inl (cI, 1024, .inl fy))]) [0, 1, 2, 3] (by decide) rfl
      have hFc := va_free (wc := [(pr, .inr (2, [.ref nu, .ref xs, .ref ys, .ref be, .ref wh, .int (nI n)])), (nu, .inl (cI, 1024, .inl fn)), (xs, .inl (cI, 1024, .inl fx)), (ys, .inl (cI, 1024, .inl fy))]) hD hS hA [0, 1, 2, 3] rfl
      refine va_callv (va_runV (As := [.int 1, .int 0, .int 0]) (rest := []) ⟨hx, hb, hml, hown, hts⟩ (p_add l D cI cZ pr nu xs ys be wh n fn fx fy 1 0 0 H.size hn) ⟨cB 3 hts k_442 k_61 k_439 hd_PR_add ⟨Nat.le_of_ble_eq_true rfl, Nat.le_of_ble_eq_true rfl⟩ rfl rfl, hts _ k_441, hts _ k_9⟩ (PcW.preV (va_recv hK hP (q0 := 0) (ci := 2) rfl rfl) hPc hK hDc hN) rfl rfl hl.1 rfl (lv_room (Nat.le_of_ble_eq_true rfl)) d_PR_addMove_56 ⟨Nat.le_of_ble_eq_true rfl, Nat.le_of_ble_eq_true rfl⟩) hS (fun q _ h => hFc q h) hFc (fun u t H1 locs ht hvm e56 hB hz1 hk1 hS => ?_)
      obtain ⟨n156, fn156, fx156, fy156⟩ := u
      obtain ⟨hP1, hK1, hD1⟩ := hB
      rw [ht] at hP1
      obtain ⟨hP, hD⟩ := va_join (wr := []) (w1 := [(pr, .inr (2, [.ref nu, .ref xs, .ref ys, .ref be, .ref wh, .int (nI n156)])), (nu, .inl (cI, 1024, .inl fn156)), (xs, .inl (cI, 1024, .inl fx156)), (ys, .inl (cI, 1024, .inl fy156))]) hP hD [0, 1, 2, 3] [] rfl rfl (by decide) (by decide) hk1 hFc hP1 hD1
      generalize H1 = H at hP hS ⊢
      try dsimp only at e56
      have hP : va_P D vwCl [(pr, .inr (2, [.ref nu, .ref xs, .ref ys, .ref be, .ref wh, .int (nI n156)])), (nu, .inl (cI, 1024, .inl fn156)), (xs, .inl (cI, 1024, .inl fx156)), (ys, .inl (cI, 1024, .inl fy156))] H := hP
      have hD : va_D A [(pr, .inr (2, [.ref nu, .ref xs, .ref ys, .ref be, .ref wh, .int (nI n156)])), (nu, .inl (cI, 1024, .inl fn156)), (xs, .inl (cI, 1024, .inl fx156)), (ys, .inl (cI, 1024, .inl fy156))] := hD
      refine lv_goto (tgt := 147) hx hb d_PR_addMove_59 rfl ?_
      have hP9 : va_P D vwCl [(pr, .inr (2, [.ref nu, .ref xs, .ref ys, .ref be, .ref wh, .int (nI n156)])), (nu, .inl (cI, 1024, .inl fn156)), (xs, .inl (cI, 1024, .inl fx156)), (ys, .inl (cI, 1024, .inl fy156))] H := hP.sub [0, 1, 2, 3] rfl
      have hD9 : va_D A [(pr, .inr (2, [.ref nu, .ref xs, .ref ys, .ref be, .ref wh, .int (nI n156)])), (nu, .inl (cI, 1024, .inl fn156)), (xs, .inl (cI, 1024, .inl fx156)), (ys, .inl (cI, 1024, .inl fy156))] := hD.sub [0, 1, 2, 3] (by decide) rfl
      exact W.vret hx hb hr (fun t ht hW => ⟨⟨(n156, fn156, fx156, fy156), rfl, ⟨by rw [e56.1, h1]; try rfl, e56.2⟩, by rw [ht]; exact hP9, va_K.moved hW.alike hK, hD9⟩, hS.F ht⟩) hS.2.2 d_PR_addMove_147
    | 1, _, h1 =>
      have h1 : op = 2 := h1
      refine lv_tableIn (off := 61) (tgt := 62) hx hb d_PR_addMove_1 (by rw [h1]; decide) (by rw [h1]; decide) (by rw [h1]; rfl) rfl ?_
      refine lv_aload_n hx hb d_PR_addMove_62 rfl (lv_at hl 0 rfl) ?_
      refine lv_iconst (v := 2) hx hb d_PR_addMove_63 (by decide) ?_
      refine lv_iload_n hx hb d_PR_addMove_64 rfl (lv_at hl 2 rfl) ?_
      have hPc := hP.sub (ws' := [(pr, .inr (2, [.ref nu, .ref xs, .ref ys, .ref be, .ref wh, .int (nI n)])), (nu, .inl (cI, 1024, .inl fn)), (xs, .inl (cI, 1024, .inl fx)), (ys, .inl (cI, 1024, .inl fy))]) [0, 1, 2, 3] rfl
      have hDc := hD.sub (ws' := [(pr, .inr (2, [.ref nu, .ref xs, .ref ys, .ref be, .ref wh, .int (nI n)])), (nu, .inl (cI, 1024, .inl fn)), (xs, .inl (cI, 1024, .inl fx)), (ys, .inl (cI, 1024, .inl fy))]) [0, 1, 2, 3] (by decide) rfl
      have hFc := va_free (wc := [(pr, .inr (2, [.ref nu, .ref xs, .ref ys, .ref be, .ref wh, .int (nI n)])), (nu, .inl (cI, 1024, .inl fn)), (xs, .inl (cI, 1024, .inl fx)), (ys, .inl (cI, 1024, .inl fy))]) hD hS hA [0, 1, 2, 3] rfl
      refine va_callv (va_runV (As := [.int 2, .int k]) (rest := []) ⟨hx, hb, hml, hown, hts⟩ (p_tst l D cI cZ pr nu xs ys be wh n fn fx fy 2 k H.size hn) ⟨cB 2 hts k_446 k_61 k_443 hd_PR_addTestedA ⟨Nat.le_of_ble_eq_true rfl, Nat.le_of_ble_eq_true rfl⟩ rfl rfl, hts _ k_445, hts _ k_10⟩ (PcW.preV (va_recv hK hP (q0 := 0) (ci := 2) rfl rfl) hPc hK hDc hN) rfl rfl hl.1 rfl (lv_room (Nat.le_of_ble_eq_true rfl)) d_PR_addMove_65 ⟨Nat.le_of_ble_eq_true rfl, Nat.le_of_ble_eq_true rfl⟩) hS (fun q _ h => hFc q h) hFc (fun u t H1 locs ht hvm e65 hB hz1 hk1 hS => ?_)
      obtain ⟨n165, fn165, fx165, fy165⟩ := u
      obtain ⟨hP1, hK1, hD1⟩ := hB
      rw [ht] at hP1
      obtain ⟨hP, hD⟩ := va_join (wr := []) (w1 := [(pr, .inr (2, [.ref nu, .ref xs, .ref ys, .ref be, .ref wh, .int (nI n165)])), (nu, .inl (cI, 1024, .inl fn165)), (xs, .inl (cI, 1024, .inl fx165)), (ys, .inl (cI, 1024, .inl fy165))]) hP hD [0, 1, 2, 3] [] rfl rfl (by decide) (by decide) hk1 hFc hP1 hD1
      generalize H1 = H at hP hS ⊢
      try dsimp only at e65
      have hP : va_P D vwCl [(pr, .inr (2, [.ref nu, .ref xs, .ref ys, .ref be, .ref wh, .int (nI n165)])), (nu, .inl (cI, 1024, .inl fn165)), (xs, .inl (cI, 1024, .inl fx165)), (ys, .inl (cI, 1024, .inl fy165))] H := hP
      have hD : va_D A [(pr, .inr (2, [.ref nu, .ref xs, .ref ys, .ref be, .ref wh, .int (nI n165)])), (nu, .inl (cI, 1024, .inl fn165)), (xs, .inl (cI, 1024, .inl fx165)), (ys, .inl (cI, 1024, .inl fy165))] := hD
      refine lv_goto (tgt := 147) hx hb d_PR_addMove_68 rfl ?_
      have hP9 : va_P D vwCl [(pr, .inr (2, [.ref nu, .ref xs, .ref ys, .ref be, .ref wh, .int (nI n165)])), (nu, .inl (cI, 1024, .inl fn165)), (xs, .inl (cI, 1024, .inl fx165)), (ys, .inl (cI, 1024, .inl fy165))] H := hP.sub [0, 1, 2, 3] rfl
      have hD9 : va_D A [(pr, .inr (2, [.ref nu, .ref xs, .ref ys, .ref be, .ref wh, .int (nI n165)])), (nu, .inl (cI, 1024, .inl fn165)), (xs, .inl (cI, 1024, .inl fx165)), (ys, .inl (cI, 1024, .inl fy165))] := hD.sub [0, 1, 2, 3] (by decide) rfl
      exact W.vret hx hb hr (fun t ht hW => ⟨⟨(n165, fn165, fx165, fy165), rfl, ⟨by rw [e65.1, h1]; try rfl, e65.2⟩, by rw [ht]; exact hP9, va_K.moved hW.alike hK, hD9⟩, hS.F ht⟩) hS.2.2 d_PR_addMove_147
    | 2, _, h1 =>
      have h1 : op = 3 := h1
      refine lv_tableIn (off := 70) (tgt := 71) hx hb d_PR_addMove_1 (by rw [h1]; decide) (by rw [h1]; decide) (by rw [h1]; rfl) rfl ?_
      refine lv_aload_n hx hb d_PR_addMove_71 rfl (lv_at hl 0 rfl) ?_
      refine lv_iconst (v := 4) hx hb d_PR_addMove_72 (by decide) ?_
      refine lv_iload_n hx hb d_PR_addMove_73 rfl (lv_at hl 2 rfl) ?_
      have hPc := hP.sub (ws' := [(pr, .inr (2, [.ref nu, .ref xs, .ref ys, .ref be, .ref wh, .int (nI n)])), (nu, .inl (cI, 1024, .inl fn)), (xs, .inl (cI, 1024, .inl fx)), (ys, .inl (cI, 1024, .inl fy))]) [0, 1, 2, 3] rfl
      have hDc := hD.sub (ws' := [(pr, .inr (2, [.ref nu, .ref xs, .ref ys, .ref be, .ref wh, .int (nI n)])), (nu, .inl (cI, 1024, .inl fn)), (xs, .inl (cI, 1024, .inl fx)), (ys, .inl (cI, 1024, .inl fy))]) [0, 1, 2, 3] (by decide) rfl
      have hFc := va_free (wc := [(pr, .inr (2, [.ref nu, .ref xs, .ref ys, .ref be, .ref wh, .int (nI n)])), (nu, .inl (cI, 1024, .inl fn)), (xs, .inl (cI, 1024, .inl fx)), (ys, .inl (cI, 1024, .inl fy))]) hD hS hA [0, 1, 2, 3] rfl
      refine va_callv (va_runV (As := [.int 4, .int k]) (rest := []) ⟨hx, hb, hml, hown, hts⟩ (p_tst l D cI cZ pr nu xs ys be wh n fn fx fy 4 k H.size hn) ⟨cB 2 hts k_446 k_61 k_443 hd_PR_addTestedA ⟨Nat.le_of_ble_eq_true rfl, Nat.le_of_ble_eq_true rfl⟩ rfl rfl, hts _ k_445, hts _ k_10⟩ (PcW.preV (va_recv hK hP (q0 := 0) (ci := 2) rfl rfl) hPc hK hDc hN) rfl rfl hl.1 rfl (lv_room (Nat.le_of_ble_eq_true rfl)) d_PR_addMove_74 ⟨Nat.le_of_ble_eq_true rfl, Nat.le_of_ble_eq_true rfl⟩) hS (fun q _ h => hFc q h) hFc (fun u t H1 locs ht hvm e74 hB hz1 hk1 hS => ?_)
      obtain ⟨n174, fn174, fx174, fy174⟩ := u
      obtain ⟨hP1, hK1, hD1⟩ := hB
      rw [ht] at hP1
      obtain ⟨hP, hD⟩ := va_join (wr := []) (w1 := [(pr, .inr (2, [.ref nu, .ref xs, .ref ys, .ref be, .ref wh, .int (nI n174)])), (nu, .inl (cI, 1024, .inl fn174)), (xs, .inl (cI, 1024, .inl fx174)), (ys, .inl (cI, 1024, .inl fy174))]) hP hD [0, 1, 2, 3] [] rfl rfl (by decide) (by decide) hk1 hFc hP1 hD1
      generalize H1 = H at hP hS ⊢
      try dsimp only at e74
      have hP : va_P D vwCl [(pr, .inr (2, [.ref nu, .ref xs, .ref ys, .ref be, .ref wh, .int (nI n174)])), (nu, .inl (cI, 1024, .inl fn174)), (xs, .inl (cI, 1024, .inl fx174)), (ys, .inl (cI, 1024, .inl fy174))] H := hP
      have hD : va_D A [(pr, .inr (2, [.ref nu, .ref xs, .ref ys, .ref be, .ref wh, .int (nI n174)])), (nu, .inl (cI, 1024, .inl fn174)), (xs, .inl (cI, 1024, .inl fx174)), (ys, .inl (cI, 1024, .inl fy174))] := hD
      refine lv_goto (tgt := 147) hx hb d_PR_addMove_77 rfl ?_
      have hP9 : va_P D vwCl [(pr, .inr (2, [.ref nu, .ref xs, .ref ys, .ref be, .ref wh, .int (nI n174)])), (nu, .inl (cI, 1024, .inl fn174)), (xs, .inl (cI, 1024, .inl fx174)), (ys, .inl (cI, 1024, .inl fy174))] H := hP.sub [0, 1, 2, 3] rfl
      have hD9 : va_D A [(pr, .inr (2, [.ref nu, .ref xs, .ref ys, .ref be, .ref wh, .int (nI n174)])), (nu, .inl (cI, 1024, .inl fn174)), (xs, .inl (cI, 1024, .inl fx174)), (ys, .inl (cI, 1024, .inl fy174))] := hD.sub [0, 1, 2, 3] (by decide) rfl
      exact W.vret hx hb hr (fun t ht hW => ⟨⟨(n174, fn174, fx174, fy174), rfl, ⟨by rw [e74.1, h1]; try rfl, e74.2⟩, by rw [ht]; exact hP9, va_K.moved hW.alike hK, hD9⟩, hS.F ht⟩) hS.2.2 d_PR_addMove_147
    | 3, _, h1 =>
      have h1 : op = 4 := h1
      refine lv_tableIn (off := 79) (tgt := 80) hx hb d_PR_addMove_1 (by rw [h1]; decide) (by rw [h1]; decide) (by rw [h1]; rfl) rfl ?_
      refine lv_aload_n hx hb d_PR_addMove_80 rfl (lv_at hl 0 rfl) ?_
      refine lv_bipush (v := 6) hx hb d_PR_addMove_81 (by decide) ?_
      refine lv_iload_n hx hb d_PR_addMove_83 rfl (lv_at hl 2 rfl) ?_
      have hPc := hP.sub (ws' := [(pr, .inr (2, [.ref nu, .ref xs, .ref ys, .ref be, .ref wh, .int (nI n)])), (nu, .inl (cI, 1024, .inl fn)), (xs, .inl (cI, 1024, .inl fx)), (ys, .inl (cI, 1024, .inl fy))]) [0, 1, 2, 3] rfl
      have hDc := hD.sub (ws' := [(pr, .inr (2, [.ref nu, .ref xs, .ref ys, .ref be, .ref wh, .int (nI n)])), (nu, .inl (cI, 1024, .inl fn)), (xs, .inl (cI, 1024, .inl fx)), (ys, .inl (cI, 1024, .inl fy))]) [0, 1, 2, 3] (by decide) rfl
      have hFc := va_free (wc := [(pr, .inr (2, [.ref nu, .ref xs, .ref ys, .ref be, .ref wh, .int (nI n)])), (nu, .inl (cI, 1024, .inl fn)), (xs, .inl (cI, 1024, .inl fx)), (ys, .inl (cI, 1024, .inl fy))]) hD hS hA [0, 1, 2, 3] rfl
      refine va_callv (va_runV (As := [.int 6, .int k]) (rest := []) ⟨hx, hb, hml, hown, hts⟩ (p_tst l D cI cZ pr nu xs ys be wh n fn fx fy 6 k H.size hn) ⟨cB 2 hts k_446 k_61 k_443 hd_PR_addTestedA ⟨Nat.le_of_ble_eq_true rfl, Nat.le_of_ble_eq_true rfl⟩ rfl rfl, hts _ k_445, hts _ k_10⟩ (PcW.preV (va_recv hK hP (q0 := 0) (ci := 2) rfl rfl) hPc hK hDc hN) rfl rfl hl.1 rfl (lv_room (Nat.le_of_ble_eq_true rfl)) d_PR_addMove_84 ⟨Nat.le_of_ble_eq_true rfl, Nat.le_of_ble_eq_true rfl⟩) hS (fun q _ h => hFc q h) hFc (fun u t H1 locs ht hvm e84 hB hz1 hk1 hS => ?_)
      obtain ⟨n184, fn184, fx184, fy184⟩ := u
      obtain ⟨hP1, hK1, hD1⟩ := hB
      rw [ht] at hP1
      obtain ⟨hP, hD⟩ := va_join (wr := []) (w1 := [(pr, .inr (2, [.ref nu, .ref xs, .ref ys, .ref be, .ref wh, .int (nI n184)])), (nu, .inl (cI, 1024, .inl fn184)), (xs, .inl (cI, 1024, .inl fx184)), (ys, .inl (cI, 1024, .inl fy184))]) hP hD [0, 1, 2, 3] [] rfl rfl (by decide) (by decide) hk1 hFc hP1 hD1
      generalize H1 = H at hP hS ⊢
      try dsimp only at e84
      have hP : va_P D vwCl [(pr, .inr (2, [.ref nu, .ref xs, .ref ys, .ref be, .ref wh, .int (nI n184)])), (nu, .inl (cI, 1024, .inl fn184)), (xs, .inl (cI, 1024, .inl fx184)), (ys, .inl (cI, 1024, .inl fy184))] H := hP
      have hD : va_D A [(pr, .inr (2, [.ref nu, .ref xs, .ref ys, .ref be, .ref wh, .int (nI n184)])), (nu, .inl (cI, 1024, .inl fn184)), (xs, .inl (cI, 1024, .inl fx184)), (ys, .inl (cI, 1024, .inl fy184))] := hD
      refine lv_goto (tgt := 147) hx hb d_PR_addMove_87 rfl ?_
      have hP9 : va_P D vwCl [(pr, .inr (2, [.ref nu, .ref xs, .ref ys, .ref be, .ref wh, .int (nI n184)])), (nu, .inl (cI, 1024, .inl fn184)), (xs, .inl (cI, 1024, .inl fx184)), (ys, .inl (cI, 1024, .inl fy184))] H := hP.sub [0, 1, 2, 3] rfl
      have hD9 : va_D A [(pr, .inr (2, [.ref nu, .ref xs, .ref ys, .ref be, .ref wh, .int (nI n184)])), (nu, .inl (cI, 1024, .inl fn184)), (xs, .inl (cI, 1024, .inl fx184)), (ys, .inl (cI, 1024, .inl fy184))] := hD.sub [0, 1, 2, 3] (by decide) rfl
      exact W.vret hx hb hr (fun t ht hW => ⟨⟨(n184, fn184, fx184, fy184), rfl, ⟨by rw [e84.1, h1]; try rfl, e84.2⟩, by rw [ht]; exact hP9, va_K.moved hW.alike hK, hD9⟩, hS.F ht⟩) hS.2.2 d_PR_addMove_147
    | 4, _, h1 =>
      have h1 : op = 5 := h1
      refine lv_tableIn (off := 89) (tgt := 90) hx hb d_PR_addMove_1 (by rw [h1]; decide) (by rw [h1]; decide) (by rw [h1]; rfl) rfl ?_
      refine lv_aload_n hx hb d_PR_addMove_90 rfl (lv_at hl 0 rfl) ?_
      refine lv_iconst (v := 5) hx hb d_PR_addMove_91 (by decide) ?_
      refine lv_iconst (v := 0) hx hb d_PR_addMove_92 (by decide) ?_
      refine lv_iload_n hx hb d_PR_addMove_93 rfl (lv_at hl 2 rfl) ?_
      have hPc := hP.sub (ws' := [(pr, .inr (2, [.ref nu, .ref xs, .ref ys, .ref be, .ref wh, .int (nI n)])), (nu, .inl (cI, 1024, .inl fn)), (xs, .inl (cI, 1024, .inl fx)), (ys, .inl (cI, 1024, .inl fy))]) [0, 1, 2, 3] rfl
      have hDc := hD.sub (ws' := [(pr, .inr (2, [.ref nu, .ref xs, .ref ys, .ref be, .ref wh, .int (nI n)])), (nu, .inl (cI, 1024, .inl fn)), (xs, .inl (cI, 1024, .inl fx)), (ys, .inl (cI, 1024, .inl fy))]) [0, 1, 2, 3] (by decide) rfl
      have hFc := va_free (wc := [(pr, .inr (2, [.ref nu, .ref xs, .ref ys, .ref be, .ref wh, .int (nI n)])), (nu, .inl (cI, 1024, .inl fn)), (xs, .inl (cI, 1024, .inl fx)), (ys, .inl (cI, 1024, .inl fy))]) hD hS hA [0, 1, 2, 3] rfl
      refine va_callv (va_runV (As := [.int 5, .int 0, .int k]) (rest := []) ⟨hx, hb, hml, hown, hts⟩ (p_add l D cI cZ pr nu xs ys be wh n fn fx fy 5 0 k H.size hn) ⟨cB 3 hts k_442 k_61 k_439 hd_PR_add ⟨Nat.le_of_ble_eq_true rfl, Nat.le_of_ble_eq_true rfl⟩ rfl rfl, hts _ k_441, hts _ k_9⟩ (PcW.preV (va_recv hK hP (q0 := 0) (ci := 2) rfl rfl) hPc hK hDc hN) rfl rfl hl.1 rfl (lv_room (Nat.le_of_ble_eq_true rfl)) d_PR_addMove_94 ⟨Nat.le_of_ble_eq_true rfl, Nat.le_of_ble_eq_true rfl⟩) hS (fun q _ h => hFc q h) hFc (fun u t H1 locs ht hvm e94 hB hz1 hk1 hS => ?_)
      obtain ⟨n194, fn194, fx194, fy194⟩ := u
      obtain ⟨hP1, hK1, hD1⟩ := hB
      rw [ht] at hP1
      obtain ⟨hP, hD⟩ := va_join (wr := []) (w1 := [(pr, .inr (2, [.ref nu, .ref xs, .ref ys, .ref be, .ref wh, .int (nI n194)])), (nu, .inl (cI, 1024, .inl fn194)), (xs, .inl (cI, 1024, .inl fx194)), (ys, .inl (cI, 1024, .inl fy194))]) hP hD [0, 1, 2, 3] [] rfl rfl (by decide) (by decide) hk1 hFc hP1 hD1
      generalize H1 = H at hP hS ⊢
      try dsimp only at e94
      have hP : va_P D vwCl [(pr, .inr (2, [.ref nu, .ref xs, .ref ys, .ref be, .ref wh, .int (nI n194)])), (nu, .inl (cI, 1024, .inl fn194)), (xs, .inl (cI, 1024, .inl fx194)), (ys, .inl (cI, 1024, .inl fy194))] H := hP
      have hD : va_D A [(pr, .inr (2, [.ref nu, .ref xs, .ref ys, .ref be, .ref wh, .int (nI n194)])), (nu, .inl (cI, 1024, .inl fn194)), (xs, .inl (cI, 1024, .inl fx194)), (ys, .inl (cI, 1024, .inl fy194))] := hD
      refine lv_goto (tgt := 147) hx hb d_PR_addMove_97 rfl ?_
      have hP9 : va_P D vwCl [(pr, .inr (2, [.ref nu, .ref xs, .ref ys, .ref be, .ref wh, .int (nI n194)])), (nu, .inl (cI, 1024, .inl fn194)), (xs, .inl (cI, 1024, .inl fx194)), (ys, .inl (cI, 1024, .inl fy194))] H := hP.sub [0, 1, 2, 3] rfl
      have hD9 : va_D A [(pr, .inr (2, [.ref nu, .ref xs, .ref ys, .ref be, .ref wh, .int (nI n194)])), (nu, .inl (cI, 1024, .inl fn194)), (xs, .inl (cI, 1024, .inl fx194)), (ys, .inl (cI, 1024, .inl fy194))] := hD.sub [0, 1, 2, 3] (by decide) rfl
      exact W.vret hx hb hr (fun t ht hW => ⟨⟨(n194, fn194, fx194, fy194), rfl, ⟨by rw [e94.1, h1]; try rfl, e94.2⟩, by rw [ht]; exact hP9, va_K.moved hW.alike hK, hD9⟩, hS.F ht⟩) hS.2.2 d_PR_addMove_147
    | 5, _, h1 =>
      have h1 : op = 6 := h1
      refine lv_tableIn (off := 99) (tgt := 100) hx hb d_PR_addMove_1 (by rw [h1]; decide) (by rw [h1]; decide) (by rw [h1]; rfl) rfl ?_
      refine lv_aload_n hx hb d_PR_addMove_100 rfl (lv_at hl 0 rfl) ?_
      refine lv_bipush (v := 7) hx hb d_PR_addMove_101 (by decide) ?_
      refine lv_iconst (v := 0) hx hb d_PR_addMove_103 (by decide) ?_
      refine lv_iload_n hx hb d_PR_addMove_104 rfl (lv_at hl 2 rfl) ?_
      have hPc := hP.sub (ws' := [(pr, .inr (2, [.ref nu, .ref xs, .ref ys, .ref be, .ref wh, .int (nI n)])), (nu, .inl (cI, 1024, .inl fn)), (xs, .inl (cI, 1024, .inl fx)), (ys, .inl (cI, 1024, .inl fy))]) [0, 1, 2, 3] rfl
      have hDc := hD.sub (ws' := [(pr, .inr (2, [.ref nu, .ref xs, .ref ys, .ref be, .ref wh, .int (nI n)])), (nu, .inl (cI, 1024, .inl fn)), (xs, .inl (cI, 1024, .inl fx)), (ys, .inl (cI, 1024, .inl fy))]) [0, 1, 2, 3] (by decide) rfl
      have hFc := va_free (wc := [(pr, .inr (2, [.ref nu, .ref xs, .ref ys, .ref be, .ref wh, .int (nI n)])), (nu, .inl (cI, 1024, .inl fn)), (xs, .inl (cI, 1024, .inl fx)), (ys, .inl (cI, 1024, .inl fy))]) hD hS hA [0, 1, 2, 3] rfl
      refine va_callv (va_runV (As := [.int 7, .int 0, .int k]) (rest := []) ⟨hx, hb, hml, hown, hts⟩ (p_add l D cI cZ pr nu xs ys be wh n fn fx fy 7 0 k H.size hn) ⟨cB 3 hts k_442 k_61 k_439 hd_PR_add ⟨Nat.le_of_ble_eq_true rfl, Nat.le_of_ble_eq_true rfl⟩ rfl rfl, hts _ k_441, hts _ k_9⟩ (PcW.preV (va_recv hK hP (q0 := 0) (ci := 2) rfl rfl) hPc hK hDc hN) rfl rfl hl.1 rfl (lv_room (Nat.le_of_ble_eq_true rfl)) d_PR_addMove_105 ⟨Nat.le_of_ble_eq_true rfl, Nat.le_of_ble_eq_true rfl⟩) hS (fun q _ h => hFc q h) hFc (fun u t H1 locs ht hvm e105 hB hz1 hk1 hS => ?_)
      obtain ⟨n1105, fn1105, fx1105, fy1105⟩ := u
      obtain ⟨hP1, hK1, hD1⟩ := hB
      rw [ht] at hP1
      obtain ⟨hP, hD⟩ := va_join (wr := []) (w1 := [(pr, .inr (2, [.ref nu, .ref xs, .ref ys, .ref be, .ref wh, .int (nI n1105)])), (nu, .inl (cI, 1024, .inl fn1105)), (xs, .inl (cI, 1024, .inl fx1105)), (ys, .inl (cI, 1024, .inl fy1105))]) hP hD [0, 1, 2, 3] [] rfl rfl (by decide) (by decide) hk1 hFc hP1 hD1
      generalize H1 = H at hP hS ⊢
      try dsimp only at e105
      have hP : va_P D vwCl [(pr, .inr (2, [.ref nu, .ref xs, .ref ys, .ref be, .ref wh, .int (nI n1105)])), (nu, .inl (cI, 1024, .inl fn1105)), (xs, .inl (cI, 1024, .inl fx1105)), (ys, .inl (cI, 1024, .inl fy1105))] H := hP
      have hD : va_D A [(pr, .inr (2, [.ref nu, .ref xs, .ref ys, .ref be, .ref wh, .int (nI n1105)])), (nu, .inl (cI, 1024, .inl fn1105)), (xs, .inl (cI, 1024, .inl fx1105)), (ys, .inl (cI, 1024, .inl fy1105))] := hD
      refine lv_goto (tgt := 147) hx hb d_PR_addMove_108 rfl ?_
      have hP9 : va_P D vwCl [(pr, .inr (2, [.ref nu, .ref xs, .ref ys, .ref be, .ref wh, .int (nI n1105)])), (nu, .inl (cI, 1024, .inl fn1105)), (xs, .inl (cI, 1024, .inl fx1105)), (ys, .inl (cI, 1024, .inl fy1105))] H := hP.sub [0, 1, 2, 3] rfl
      have hD9 : va_D A [(pr, .inr (2, [.ref nu, .ref xs, .ref ys, .ref be, .ref wh, .int (nI n1105)])), (nu, .inl (cI, 1024, .inl fn1105)), (xs, .inl (cI, 1024, .inl fx1105)), (ys, .inl (cI, 1024, .inl fy1105))] := hD.sub [0, 1, 2, 3] (by decide) rfl
      exact W.vret hx hb hr (fun t ht hW => ⟨⟨(n1105, fn1105, fx1105, fy1105), rfl, ⟨by rw [e105.1, h1]; try rfl, e105.2⟩, by rw [ht]; exact hP9, va_K.moved hW.alike hK, hD9⟩, hS.F ht⟩) hS.2.2 d_PR_addMove_147
    | 6, _, h1 =>
      have h1 : op = 7 := h1
      refine lv_tableIn (off := 110) (tgt := 111) hx hb d_PR_addMove_1 (by rw [h1]; decide) (by rw [h1]; decide) (by rw [h1]; rfl) rfl ?_
      refine lv_aload_n hx hb d_PR_addMove_111 rfl (lv_at hl 0 rfl) ?_
      refine lv_iconst (v := 2) hx hb d_PR_addMove_112 (by decide) ?_
      refine lv_iconst (v := 1) hx hb d_PR_addMove_113 (by decide) ?_
      refine lv_iload_n hx hb d_PR_addMove_114 rfl (lv_at hl 2 rfl) ?_
      have hPc := hP.sub (ws' := [(pr, .inr (2, [.ref nu, .ref xs, .ref ys, .ref be, .ref wh, .int (nI n)])), (nu, .inl (cI, 1024, .inl fn)), (xs, .inl (cI, 1024, .inl fx)), (ys, .inl (cI, 1024, .inl fy))]) [0, 1, 2, 3] rfl
      have hDc := hD.sub (ws' := [(pr, .inr (2, [.ref nu, .ref xs, .ref ys, .ref be, .ref wh, .int (nI n)])), (nu, .inl (cI, 1024, .inl fn)), (xs, .inl (cI, 1024, .inl fx)), (ys, .inl (cI, 1024, .inl fy))]) [0, 1, 2, 3] (by decide) rfl
      have hFc := va_free (wc := [(pr, .inr (2, [.ref nu, .ref xs, .ref ys, .ref be, .ref wh, .int (nI n)])), (nu, .inl (cI, 1024, .inl fn)), (xs, .inl (cI, 1024, .inl fx)), (ys, .inl (cI, 1024, .inl fy))]) hD hS hA [0, 1, 2, 3] rfl
      refine va_callv (va_runV (As := [.int 2, .int 1, .int k]) (rest := []) ⟨hx, hb, hml, hown, hts⟩ (p_add l D cI cZ pr nu xs ys be wh n fn fx fy 2 1 k H.size hn) ⟨cB 3 hts k_442 k_61 k_439 hd_PR_add ⟨Nat.le_of_ble_eq_true rfl, Nat.le_of_ble_eq_true rfl⟩ rfl rfl, hts _ k_441, hts _ k_9⟩ (PcW.preV (va_recv hK hP (q0 := 0) (ci := 2) rfl rfl) hPc hK hDc hN) rfl rfl hl.1 rfl (lv_room (Nat.le_of_ble_eq_true rfl)) d_PR_addMove_115 ⟨Nat.le_of_ble_eq_true rfl, Nat.le_of_ble_eq_true rfl⟩) hS (fun q _ h => hFc q h) hFc (fun u t H1 locs ht hvm e115 hB hz1 hk1 hS => ?_)
      obtain ⟨n1115, fn1115, fx1115, fy1115⟩ := u
      obtain ⟨hP1, hK1, hD1⟩ := hB
      rw [ht] at hP1
      obtain ⟨hP, hD⟩ := va_join (wr := []) (w1 := [(pr, .inr (2, [.ref nu, .ref xs, .ref ys, .ref be, .ref wh, .int (nI n1115)])), (nu, .inl (cI, 1024, .inl fn1115)), (xs, .inl (cI, 1024, .inl fx1115)), (ys, .inl (cI, 1024, .inl fy1115))]) hP hD [0, 1, 2, 3] [] rfl rfl (by decide) (by decide) hk1 hFc hP1 hD1
      generalize H1 = H at hP hS ⊢
      try dsimp only at e115
      have hP : va_P D vwCl [(pr, .inr (2, [.ref nu, .ref xs, .ref ys, .ref be, .ref wh, .int (nI n1115)])), (nu, .inl (cI, 1024, .inl fn1115)), (xs, .inl (cI, 1024, .inl fx1115)), (ys, .inl (cI, 1024, .inl fy1115))] H := hP
      have hD : va_D A [(pr, .inr (2, [.ref nu, .ref xs, .ref ys, .ref be, .ref wh, .int (nI n1115)])), (nu, .inl (cI, 1024, .inl fn1115)), (xs, .inl (cI, 1024, .inl fx1115)), (ys, .inl (cI, 1024, .inl fy1115))] := hD
      refine lv_goto (tgt := 147) hx hb d_PR_addMove_118 rfl ?_
      have hP9 : va_P D vwCl [(pr, .inr (2, [.ref nu, .ref xs, .ref ys, .ref be, .ref wh, .int (nI n1115)])), (nu, .inl (cI, 1024, .inl fn1115)), (xs, .inl (cI, 1024, .inl fx1115)), (ys, .inl (cI, 1024, .inl fy1115))] H := hP.sub [0, 1, 2, 3] rfl
      have hD9 : va_D A [(pr, .inr (2, [.ref nu, .ref xs, .ref ys, .ref be, .ref wh, .int (nI n1115)])), (nu, .inl (cI, 1024, .inl fn1115)), (xs, .inl (cI, 1024, .inl fx1115)), (ys, .inl (cI, 1024, .inl fy1115))] := hD.sub [0, 1, 2, 3] (by decide) rfl
      exact W.vret hx hb hr (fun t ht hW => ⟨⟨(n1115, fn1115, fx1115, fy1115), rfl, ⟨by rw [e115.1, h1]; try rfl, e115.2⟩, by rw [ht]; exact hP9, va_K.moved hW.alike hK, hD9⟩, hS.F ht⟩) hS.2.2 d_PR_addMove_147
    | 7, _, h1 =>
      have h1 : op = 8 := h1
      refine lv_tableIn (off := 120) (tgt := 121) hx hb d_PR_addMove_1 (by rw [h1]; decide) (by rw [h1]; decide) (by rw [h1]; rfl) rfl ?_
      refine lv_aload_n hx hb d_PR_addMove_121 rfl (lv_at hl 0 rfl) ?_
      refine lv_iconst (v := 3) hx hb d_PR_addMove_122 (by decide) ?_
      refine lv_iconst (v := 1) hx hb d_PR_addMove_123 (by decide) ?_
      refine lv_iconst (v := 0) hx hb d_PR_addMove_124 (by decide) ?_
      have hPc := hP.sub (ws' := [(pr, .inr (2, [.ref nu, .ref xs, .ref ys, .ref be, .ref wh, .int (nI n)])), (nu, .inl (cI, 1024, .inl fn)), (xs, .inl (cI, 1024, .inl fx)), (ys, .inl (cI, 1024, .inl fy))]) [0, 1, 2, 3] rfl
      have hDc := hD.sub (ws' := [(pr, .inr (2, [.ref nu, .ref xs, .ref ys, .ref be, .ref wh, .int (nI n)])), (nu, .inl (cI, 1024, .inl fn)), (xs, .inl (cI, 1024, .inl fx)), (ys, .inl (cI, 1024, .inl fy))]) [0, 1, 2, 3] (by decide) rfl
      have hFc := va_free (wc := [(pr, .inr (2, [.ref nu, .ref xs, .ref ys, .ref be, .ref wh, .int (nI n)])), (nu, .inl (cI, 1024, .inl fn)), (xs, .inl (cI, 1024, .inl fx)), (ys, .inl (cI, 1024, .inl fy))]) hD hS hA [0, 1, 2, 3] rfl
      refine va_callv (va_runV (As := [.int 3, .int 1, .int 0]) (rest := []) ⟨hx, hb, hml, hown, hts⟩ (p_add l D cI cZ pr nu xs ys be wh n fn fx fy 3 1 0 H.size hn) ⟨cB 3 hts k_442 k_61 k_439 hd_PR_add ⟨Nat.le_of_ble_eq_true rfl, Nat.le_of_ble_eq_true rfl⟩ rfl rfl, hts _ k_441, hts _ k_9⟩ (PcW.preV (va_recv hK hP (q0 := 0) (ci := 2) rfl rfl) hPc hK hDc hN) rfl rfl hl.1 rfl (lv_room (Nat.le_of_ble_eq_true rfl)) d_PR_addMove_125 ⟨Nat.le_of_ble_eq_true rfl, Nat.le_of_ble_eq_true rfl⟩) hS (fun q _ h => hFc q h) hFc (fun u t H1 locs ht hvm e125 hB hz1 hk1 hS => ?_)
      obtain ⟨n1125, fn1125, fx1125, fy1125⟩ := u
      obtain ⟨hP1, hK1, hD1⟩ := hB
      rw [ht] at hP1
      obtain ⟨hP, hD⟩ := va_join (wr := []) (w1 := [(pr, .inr (2, [.ref nu, .ref xs, .ref ys, .ref be, .ref wh, .int (nI n1125)])), (nu, .inl (cI, 1024, .inl fn1125)), (xs, .inl (cI, 1024, .inl fx1125)), (ys, .inl (cI, 1024, .inl fy1125))]) hP hD [0, 1, 2, 3] [] rfl rfl (by decide) (by decide) hk1 hFc hP1 hD1
      generalize H1 = H at hP hS ⊢
      try dsimp only at e125
      have hP : va_P D vwCl [(pr, .inr (2, [.ref nu, .ref xs, .ref ys, .ref be, .ref wh, .int (nI n1125)])), (nu, .inl (cI, 1024, .inl fn1125)), (xs, .inl (cI, 1024, .inl fx1125)), (ys, .inl (cI, 1024, .inl fy1125))] H := hP
      have hD : va_D A [(pr, .inr (2, [.ref nu, .ref xs, .ref ys, .ref be, .ref wh, .int (nI n1125)])), (nu, .inl (cI, 1024, .inl fn1125)), (xs, .inl (cI, 1024, .inl fx1125)), (ys, .inl (cI, 1024, .inl fy1125))] := hD
      refine lv_goto (tgt := 147) hx hb d_PR_addMove_128 rfl ?_
      have hP9 : va_P D vwCl [(pr, .inr (2, [.ref nu, .ref xs, .ref ys, .ref be, .ref wh, .int (nI n1125)])), (nu, .inl (cI, 1024, .inl fn1125)), (xs, .inl (cI, 1024, .inl fx1125)), (ys, .inl (cI, 1024, .inl fy1125))] H := hP.sub [0, 1, 2, 3] rfl
      have hD9 : va_D A [(pr, .inr (2, [.ref nu, .ref xs, .ref ys, .ref be, .ref wh, .int (nI n1125)])), (nu, .inl (cI, 1024, .inl fn1125)), (xs, .inl (cI, 1024, .inl fx1125)), (ys, .inl (cI, 1024, .inl fy1125))] := hD.sub [0, 1, 2, 3] (by decide) rfl
      exact W.vret hx hb hr (fun t ht hW => ⟨⟨(n1125, fn1125, fx1125, fy1125), rfl, ⟨by rw [e125.1, h1]; try rfl, e125.2⟩, by rw [ht]; exact hP9, va_K.moved hW.alike hK, hD9⟩, hS.F ht⟩) hS.2.2 d_PR_addMove_147
    | 8, _, h1 =>
      have h1 : op = 9 := h1
      refine lv_tableIn (off := 130) (tgt := 131) hx hb d_PR_addMove_1 (by rw [h1]; decide) (by rw [h1]; decide) (by rw [h1]; rfl) rfl ?_
      refine lv_aload_n hx hb d_PR_addMove_131 rfl (lv_at hl 0 rfl) ?_
      refine lv_iconst (v := 3) hx hb d_PR_addMove_132 (by decide) ?_
      refine lv_iconst (v := 1) hx hb d_PR_addMove_133 (by decide) ?_
      have hPc := hP.sub (ws' := [(pr, .inr (2, [.ref nu, .ref xs, .ref ys, .ref be, .ref wh, .int (nI n)])), (nu, .inl (cI, 1024, .inl fn)), (xs, .inl (cI, 1024, .inl fx)), (ys, .inl (cI, 1024, .inl fy))]) [0, 1, 2, 3] rfl
      have hDc := hD.sub (ws' := [(pr, .inr (2, [.ref nu, .ref xs, .ref ys, .ref be, .ref wh, .int (nI n)])), (nu, .inl (cI, 1024, .inl fn)), (xs, .inl (cI, 1024, .inl fx)), (ys, .inl (cI, 1024, .inl fy))]) [0, 1, 2, 3] (by decide) rfl
      have hFc := va_free (wc := [(pr, .inr (2, [.ref nu, .ref xs, .ref ys, .ref be, .ref wh, .int (nI n)])), (nu, .inl (cI, 1024, .inl fn)), (xs, .inl (cI, 1024, .inl fx)), (ys, .inl (cI, 1024, .inl fy))]) hD hS hA [0, 1, 2, 3] rfl
      refine va_callv (va_runV (As := [.int 3, .int 1]) (rest := []) ⟨hx, hb, hml, hown, hts⟩ (p_tst l D cI cZ pr nu xs ys be wh n fn fx fy 3 1 H.size hn) ⟨cB 2 hts k_446 k_61 k_443 hd_PR_addTestedA ⟨Nat.le_of_ble_eq_true rfl, Nat.le_of_ble_eq_true rfl⟩ rfl rfl, hts _ k_445, hts _ k_10⟩ (PcW.preV (va_recv hK hP (q0 := 0) (ci := 2) rfl rfl) hPc hK hDc hN) rfl rfl hl.1 rfl (lv_room (Nat.le_of_ble_eq_true rfl)) d_PR_addMove_134 ⟨Nat.le_of_ble_eq_true rfl, Nat.le_of_ble_eq_true rfl⟩) hS (fun q _ h => hFc q h) hFc (fun u t H1 locs ht hvm e134 hB hz1 hk1 hS => ?_)
      obtain ⟨n1134, fn1134, fx1134, fy1134⟩ := u
      obtain ⟨hP1, hK1, hD1⟩ := hB
      rw [ht] at hP1
      obtain ⟨hP, hD⟩ := va_join (wr := []) (w1 := [(pr, .inr (2, [.ref nu, .ref xs, .ref ys, .ref be, .ref wh, .int (nI n1134)])), (nu, .inl (cI, 1024, .inl fn1134)), (xs, .inl (cI, 1024, .inl fx1134)), (ys, .inl (cI, 1024, .inl fy1134))]) hP hD [0, 1, 2, 3] [] rfl rfl (by decide) (by decide) hk1 hFc hP1 hD1
      generalize H1 = H at hP hS ⊢
      try dsimp only at e134
      have hP : va_P D vwCl [(pr, .inr (2, [.ref nu, .ref xs, .ref ys, .ref be, .ref wh, .int (nI n1134)])), (nu, .inl (cI, 1024, .inl fn1134)), (xs, .inl (cI, 1024, .inl fx1134)), (ys, .inl (cI, 1024, .inl fy1134))] H := hP
      have hD : va_D A [(pr, .inr (2, [.ref nu, .ref xs, .ref ys, .ref be, .ref wh, .int (nI n1134)])), (nu, .inl (cI, 1024, .inl fn1134)), (xs, .inl (cI, 1024, .inl fx1134)), (ys, .inl (cI, 1024, .inl fy1134))] := hD
      refine lv_goto (tgt := 147) hx hb d_PR_addMove_137 rfl ?_
      have hP9 : va_P D vwCl [(pr, .inr (2, [.ref nu, .ref xs, .ref ys, .ref be, .ref wh, .int (nI n1134)])), (nu, .inl (cI, 1024, .inl fn1134)), (xs, .inl (cI, 1024, .inl fx1134)), (ys, .inl (cI, 1024, .inl fy1134))] H := hP.sub [0, 1, 2, 3] rfl
      have hD9 : va_D A [(pr, .inr (2, [.ref nu, .ref xs, .ref ys, .ref be, .ref wh, .int (nI n1134)])), (nu, .inl (cI, 1024, .inl fn1134)), (xs, .inl (cI, 1024, .inl fx1134)), (ys, .inl (cI, 1024, .inl fy1134))] := hD.sub [0, 1, 2, 3] (by decide) rfl
      exact W.vret hx hb hr (fun t ht hW => ⟨⟨(n1134, fn1134, fx1134, fy1134), rfl, ⟨by rw [e134.1, h1]; try rfl, e134.2⟩, by rw [ht]; exact hP9, va_K.moved hW.alike hK, hD9⟩, hS.F ht⟩) hS.2.2 d_PR_addMove_147
    | n + 9, h9, _ => exact absurd h9 (by omega)
set_option maxHeartbeats 4000000 in
set_option maxRecDepth 100000 in
theorem p_sum (l : Launch) (D : va_G) (cI cZ : ClassId) (pr : Nat) (nu : Nat) (xs : Nat) (ys : Nat) (be : Nat) (wh : Nat) (n : Nat) (fn : Nat → Int32) (fx : Nat → Int32) (fy : Nat → Int32) (op : Int32) (k : Int32) (sz : Nat) (hn : n ≤ 1024) : MetV l y_PR_addSum w_PR_addSum { frames := 2, cells := 0, slots := 0, locals := 46 } D cI cZ [.ref pr, .int op, .int k] [(pr, .inr (2, [.ref nu, .ref xs, .ref ys, .ref be, .ref wh, .int (nI n)])), (nu, .inl (cI, 1024, .inl fn)), (xs, .inl (cI, 1024, .inl fx)), (ys, .inl (cI, 1024, .inl fy))] sz (fun (u : Nat × (Nat → Int32) × (Nat → Int32) × (Nat → Int32)) => match u with | (n1, fn1, fx1, fy1) => (n1, fn1, fx1, fy1) = sumP op k (n, fn, fx, fy) ∧ n1 ≤ 1024) (fun (u : Nat × (Nat → Int32) × (Nat → Int32) × (Nat → Int32)) => match u with | (n1, fn1, fx1, fy1) => [(pr, .inr (2, [.ref nu, .ref xs, .ref ys, .ref be, .ref wh, .int (nI n1)])), (nu, .inl (cI, 1024, .inl fn1)), (xs, .inl (cI, 1024, .inl fx1)), (ys, .inl (cI, 1024, .inl fy1))]) 0 0 := by
  refine ofV (cc := c_PR_addSum) (maxL := 3) (ret := none) (by decide) rfl (Nat.le_of_ble_eq_true rfl) ?_
  intro p e s m args below meth c A H hH0 hx hb hr hlocks hts hown hnm hml ls hl hP hK hD hA hS hN
  have hown : s.vm.findClass R_PR = some m.cls := hown
  have hl : lv_has ls 3 [(0, .ref pr), (1, .int op), (2, .int k)] := hl
  refine lv_iload_n hx hb d_PR_addSum_0 rfl (lv_at hl 1 rfl) ?_
  rcases sw_cases op 10 11 with h1 | ⟨j1, hj1, h1⟩
  · refine lv_tableOut (tgt := 177) hx hb d_PR_addSum_1 h1 rfl ?_
    have n1_10 : ¬ op = 10 := fun h9 => by rw [h9] at h1; revert h1; decide
    have n1_11 : ¬ op = 11 := fun h9 => by rw [h9] at h1; revert h1; decide
    have n1_12 : ¬ op = 12 := fun h9 => by rw [h9] at h1; revert h1; decide
    have n1_13 : ¬ op = 13 := fun h9 => by rw [h9] at h1; revert h1; decide
    have n1_14 : ¬ op = 14 := fun h9 => by rw [h9] at h1; revert h1; decide
    have n1_15 : ¬ op = 15 := fun h9 => by rw [h9] at h1; revert h1; decide
    have n1_16 : ¬ op = 16 := fun h9 => by rw [h9] at h1; revert h1; decide
    have n1_17 : ¬ op = 17 := fun h9 => by rw [h9] at h1; revert h1; decide
    have n1_18 : ¬ op = 18 := fun h9 => by rw [h9] at h1; revert h1; decide
    have n1_19 : ¬ op = 19 := fun h9 => by rw [h9] at h1; revert h1; decide
    have n1_20 : ¬ op = 20 := fun h9 => by rw [h9] at h1; revert h1; decide
    refine lv_aload_n hx hb d_PR_addSum_177 rfl (lv_at hl 0 rfl) ?_
    refine lv_bipush (v := 16) hx hb d_PR_addSum_178 (by decide) ?_
    refine lv_iconst (v := 0) hx hb d_PR_addSum_180 (by decide) ?_
    refine lv_iconst (v := 0) hx hb d_PR_addSum_181 (by decide) ?_
    have hPc := hP.sub (ws' := [(pr, .inr (2, [.ref nu, .ref xs, .ref ys, .ref be, .ref wh, .int (nI n)])), (nu, .inl (cI, 1024, .inl fn)), (xs, .inl (cI, 1024, .inl fx)), (ys, .inl (cI, 1024, .inl fy))]) [0, 1, 2, 3] rfl
    have hDc := hD.sub (ws' := [(pr, .inr (2, [.ref nu, .ref xs, .ref ys, .ref be, .ref wh, .int (nI n)])), (nu, .inl (cI, 1024, .inl fn)), (xs, .inl (cI, 1024, .inl fx)), (ys, .inl (cI, 1024, .inl fy))]) [0, 1, 2, 3] (by decide) rfl
    have hFc := va_free (wc := [(pr, .inr (2, [.ref nu, .ref xs, .ref ys, .ref be, .ref wh, .int (nI n)])), (nu, .inl (cI, 1024, .inl fn)), (xs, .inl (cI, 1024, .inl fx)), (ys, .inl (cI, 1024, .inl fy))]) hD hS hA [0, 1, 2, 3] rfl
    refine va_callv (va_runV (As := [.int 16, .int 0, .int 0]) (rest := []) ⟨hx, hb, hml, hown, hts⟩ (p_add l D cI cZ pr nu xs ys be wh n fn fx fy 16 0 0 H.size hn) ⟨cB 3 hts k_442 k_61 k_439 hd_PR_add ⟨Nat.le_of_ble_eq_true rfl, Nat.le_of_ble_eq_true rfl⟩ rfl rfl, hts _ k_441, hts _ k_9⟩ (PcW.preV (va_recv hK hP (q0 := 0) (ci := 2) rfl rfl) hPc hK hDc hN) rfl rfl hl.1 rfl (lv_room (Nat.le_of_ble_eq_true rfl)) d_PR_addSum_182 ⟨Nat.le_of_ble_eq_true rfl, Nat.le_of_ble_eq_true rfl⟩) hS (fun q _ h => hFc q h) hFc (fun u t H1 locs ht hvm e182 hB hz1 hk1 hS => ?_)
    obtain ⟨n1182, fn1182, fx1182, fy1182⟩ := u
    obtain ⟨hP1, hK1, hD1⟩ := hB
    rw [ht] at hP1
    obtain ⟨hP, hD⟩ := va_join (wr := []) (w1 := [(pr, .inr (2, [.ref nu, .ref xs, .ref ys, .ref be, .ref wh, .int (nI n1182)])), (nu, .inl (cI, 1024, .inl fn1182)), (xs, .inl (cI, 1024, .inl fx1182)), (ys, .inl (cI, 1024, .inl fy1182))]) hP hD [0, 1, 2, 3] [] rfl rfl (by decide) (by decide) hk1 hFc hP1 hD1
    generalize H1 = H at hP hS ⊢
    try dsimp only at e182
    have hP : va_P D vwCl [(pr, .inr (2, [.ref nu, .ref xs, .ref ys, .ref be, .ref wh, .int (nI n1182)])), (nu, .inl (cI, 1024, .inl fn1182)), (xs, .inl (cI, 1024, .inl fx1182)), (ys, .inl (cI, 1024, .inl fy1182))] H := hP
    have hD : va_D A [(pr, .inr (2, [.ref nu, .ref xs, .ref ys, .ref be, .ref wh, .int (nI n1182)])), (nu, .inl (cI, 1024, .inl fn1182)), (xs, .inl (cI, 1024, .inl fx1182)), (ys, .inl (cI, 1024, .inl fy1182))] := hD
    have hP9 : va_P D vwCl [(pr, .inr (2, [.ref nu, .ref xs, .ref ys, .ref be, .ref wh, .int (nI n1182)])), (nu, .inl (cI, 1024, .inl fn1182)), (xs, .inl (cI, 1024, .inl fx1182)), (ys, .inl (cI, 1024, .inl fy1182))] H := hP.sub [0, 1, 2, 3] rfl
    have hD9 : va_D A [(pr, .inr (2, [.ref nu, .ref xs, .ref ys, .ref be, .ref wh, .int (nI n1182)])), (nu, .inl (cI, 1024, .inl fn1182)), (xs, .inl (cI, 1024, .inl fx1182)), (ys, .inl (cI, 1024, .inl fy1182))] := hD.sub [0, 1, 2, 3] (by decide) rfl
    exact W.vret hx hb hr (fun t ht hW => ⟨⟨(n1182, fn1182, fx1182, fy1182), rfl, ⟨by rw [e182.1]; rw [sumP, if_neg n1_10, if_neg n1_11, if_neg n1_12, if_neg n1_13, if_neg n1_14, if_neg n1_15, if_neg n1_16, if_neg n1_17, if_neg n1_18, if_neg n1_19, if_neg n1_20], e182.2⟩, by rw [ht]; exact hP9, va_K.moved hW.alike hK, hD9⟩, hS.F ht⟩) hS.2.2 d_PR_addSum_185
  · match j1, hj1, h1 with
    | 0, _, h1 =>
      have h1 : op = 10 := h1
      refine lv_tableIn (off := 59) (tgt := 60) hx hb d_PR_addSum_1 (by rw [h1]; decide) (by rw [h1]; decide) (by rw [h1]; rfl) rfl ?_
      refine lv_aload_n hx hb d_PR_addSum_60 rfl (lv_at hl 0 rfl) ?_
      refine lv_bipush (v := 9) hx hb d_PR_addSum_61 (by decide) ?_
      have hPc := hP.sub (ws' := [(pr, .inr (2, [.ref nu, .ref xs, .ref ys, .ref be, .ref wh, .int (nI n)])), (nu, .inl (cI, 1024, .inl fn)), (xs, .inl (cI, 1024, .inl fx)), (ys, .inl (cI, 1024, .inl fy))]) [0, 1, 2, 3] rfl
      have hDc := hD.sub (ws' := [(pr, .inr (2, [.ref nu, .ref xs, .ref ys, .ref be, .ref wh, .int (nI n)])), (nu, .inl (cI, 1024, .inl fn)), (xs, .inl (cI, 1024, .inl fx)), (ys, .inl (cI, 1024, .inl fy))]) [0, 1, 2, 3] (by decide) rfl
      have hFc := va_free (wc := [(pr, .inr (2, [.ref nu, .ref xs, .ref ys, .ref be, .ref wh, .int (nI n)])), (nu, .inl (cI, 1024, .inl fn)), (xs, .inl (cI, 1024, .inl fx)), (ys, .inl (cI, 1024, .inl fy))]) hD hS hA [0, 1, 2, 3] rfl
      refine va_callv (va_runV (As := [.int 9]) (rest := []) ⟨hx, hb, hml, hown, hts⟩ (p_cnt l D cI cZ pr nu xs ys be wh n fn fx fy 9 H.size hn) ⟨cB 1 hts k_454 k_61 k_451 hd_PR_addCountedX ⟨Nat.le_of_ble_eq_true rfl, Nat.le_of_ble_eq_true rfl⟩ rfl rfl, hts _ k_453, hts _ k_12⟩ (PcW.preV (va_recv hK hP (q0 := 0) (ci := 2) rfl rfl) hPc hK hDc hN) rfl rfl hl.1 rfl (lv_room (Nat.le_of_ble_eq_true rfl)) d_PR_addSum_63 ⟨Nat.le_of_ble_eq_true rfl, Nat.le_of_ble_eq_true rfl⟩) hS (fun q _ h => hFc q h) hFc (fun u t H1 locs ht hvm e63 hB hz1 hk1 hS => ?_)
      obtain ⟨n163, fn163, fx163, fy163⟩ := u
      obtain ⟨hP1, hK1, hD1⟩ := hB
      rw [ht] at hP1
      obtain ⟨hP, hD⟩ := va_join (wr := []) (w1 := [(pr, .inr (2, [.ref nu, .ref xs, .ref ys, .ref be, .ref wh, .int (nI n163)])), (nu, .inl (cI, 1024, .inl fn163)), (xs, .inl (cI, 1024, .inl fx163)), (ys, .inl (cI, 1024, .inl fy163))]) hP hD [0, 1, 2, 3] [] rfl rfl (by decide) (by decide) hk1 hFc hP1 hD1
      generalize H1 = H at hP hS ⊢
      try dsimp only at e63
      have hP : va_P D vwCl [(pr, .inr (2, [.ref nu, .ref xs, .ref ys, .ref be, .ref wh, .int (nI n163)])), (nu, .inl (cI, 1024, .inl fn163)), (xs, .inl (cI, 1024, .inl fx163)), (ys, .inl (cI, 1024, .inl fy163))] H := hP
      have hD : va_D A [(pr, .inr (2, [.ref nu, .ref xs, .ref ys, .ref be, .ref wh, .int (nI n163)])), (nu, .inl (cI, 1024, .inl fn163)), (xs, .inl (cI, 1024, .inl fx163)), (ys, .inl (cI, 1024, .inl fy163))] := hD
      refine lv_goto (tgt := 185) hx hb d_PR_addSum_66 rfl ?_
      have hP9 : va_P D vwCl [(pr, .inr (2, [.ref nu, .ref xs, .ref ys, .ref be, .ref wh, .int (nI n163)])), (nu, .inl (cI, 1024, .inl fn163)), (xs, .inl (cI, 1024, .inl fx163)), (ys, .inl (cI, 1024, .inl fy163))] H := hP.sub [0, 1, 2, 3] rfl
      have hD9 : va_D A [(pr, .inr (2, [.ref nu, .ref xs, .ref ys, .ref be, .ref wh, .int (nI n163)])), (nu, .inl (cI, 1024, .inl fn163)), (xs, .inl (cI, 1024, .inl fx163)), (ys, .inl (cI, 1024, .inl fy163))] := hD.sub [0, 1, 2, 3] (by decide) rfl
      exact W.vret hx hb hr (fun t ht hW => ⟨⟨(n163, fn163, fx163, fy163), rfl, ⟨by rw [e63.1, h1]; try rfl, e63.2⟩, by rw [ht]; exact hP9, va_K.moved hW.alike hK, hD9⟩, hS.F ht⟩) hS.2.2 d_PR_addSum_185
    | 1, _, h1 =>
      have h1 : op = 11 := h1
      refine lv_tableIn (off := 68) (tgt := 69) hx hb d_PR_addSum_1 (by rw [h1]; decide) (by rw [h1]; decide) (by rw [h1]; rfl) rfl ?_
      refine lv_aload_n hx hb d_PR_addSum_69 rfl (lv_at hl 0 rfl) ?_
      refine lv_bipush (v := 11) hx hb d_PR_addSum_70 (by decide) ?_
      have hPc := hP.sub (ws' := [(pr, .inr (2, [.ref nu, .ref xs, .ref ys, .ref be, .ref wh, .int (nI n)])), (nu, .inl (cI, 1024, .inl fn)), (xs, .inl (cI, 1024, .inl fx)), (ys, .inl (cI, 1024, .inl fy))]) [0, 1, 2, 3] rfl
      have hDc := hD.sub (ws' := [(pr, .inr (2, [.ref nu, .ref xs, .ref ys, .ref be, .ref wh, .int (nI n)])), (nu, .inl (cI, 1024, .inl fn)), (xs, .inl (cI, 1024, .inl fx)), (ys, .inl (cI, 1024, .inl fy))]) [0, 1, 2, 3] (by decide) rfl
      have hFc := va_free (wc := [(pr, .inr (2, [.ref nu, .ref xs, .ref ys, .ref be, .ref wh, .int (nI n)])), (nu, .inl (cI, 1024, .inl fn)), (xs, .inl (cI, 1024, .inl fx)), (ys, .inl (cI, 1024, .inl fy))]) hD hS hA [0, 1, 2, 3] rfl
      refine va_callv (va_runV (As := [.int 11]) (rest := []) ⟨hx, hb, hml, hown, hts⟩ (p_cnt l D cI cZ pr nu xs ys be wh n fn fx fy 11 H.size hn) ⟨cB 1 hts k_454 k_61 k_451 hd_PR_addCountedX ⟨Nat.le_of_ble_eq_true rfl, Nat.le_of_ble_eq_true rfl⟩ rfl rfl, hts _ k_453, hts _ k_12⟩ (PcW.preV (va_recv hK hP (q0 := 0) (ci := 2) rfl rfl) hPc hK hDc hN) rfl rfl hl.1 rfl (lv_room (Nat.le_of_ble_eq_true rfl)) d_PR_addSum_72 ⟨Nat.le_of_ble_eq_true rfl, Nat.le_of_ble_eq_true rfl⟩) hS (fun q _ h => hFc q h) hFc (fun u t H1 locs ht hvm e72 hB hz1 hk1 hS => ?_)
      obtain ⟨n172, fn172, fx172, fy172⟩ := u
      obtain ⟨hP1, hK1, hD1⟩ := hB
      rw [ht] at hP1
      obtain ⟨hP, hD⟩ := va_join (wr := []) (w1 := [(pr, .inr (2, [.ref nu, .ref xs, .ref ys, .ref be, .ref wh, .int (nI n172)])), (nu, .inl (cI, 1024, .inl fn172)), (xs, .inl (cI, 1024, .inl fx172)), (ys, .inl (cI, 1024, .inl fy172))]) hP hD [0, 1, 2, 3] [] rfl rfl (by decide) (by decide) hk1 hFc hP1 hD1
      generalize H1 = H at hP hS ⊢
      try dsimp only at e72
      have hP : va_P D vwCl [(pr, .inr (2, [.ref nu, .ref xs, .ref ys, .ref be, .ref wh, .int (nI n172)])), (nu, .inl (cI, 1024, .inl fn172)), (xs, .inl (cI, 1024, .inl fx172)), (ys, .inl (cI, 1024, .inl fy172))] H := hP
      have hD : va_D A [(pr, .inr (2, [.ref nu, .ref xs, .ref ys, .ref be, .ref wh, .int (nI n172)])), (nu, .inl (cI, 1024, .inl fn172)), (xs, .inl (cI, 1024, .inl fx172)), (ys, .inl (cI, 1024, .inl fy172))] := hD
      refine lv_goto (tgt := 185) hx hb d_PR_addSum_75 rfl ?_
      have hP9 : va_P D vwCl [(pr, .inr (2, [.ref nu, .ref xs, .ref ys, .ref be, .ref wh, .int (nI n172)])), (nu, .inl (cI, 1024, .inl fn172)), (xs, .inl (cI, 1024, .inl fx172)), (ys, .inl (cI, 1024, .inl fy172))] H := hP.sub [0, 1, 2, 3] rfl
      have hD9 : va_D A [(pr, .inr (2, [.ref nu, .ref xs, .ref ys, .ref be, .ref wh, .int (nI n172)])), (nu, .inl (cI, 1024, .inl fn172)), (xs, .inl (cI, 1024, .inl fx172)), (ys, .inl (cI, 1024, .inl fy172))] := hD.sub [0, 1, 2, 3] (by decide) rfl
      exact W.vret hx hb hr (fun t ht hW => ⟨⟨(n172, fn172, fx172, fy172), rfl, ⟨by rw [e72.1, h1]; try rfl, e72.2⟩, by rw [ht]; exact hP9, va_K.moved hW.alike hK, hD9⟩, hS.F ht⟩) hS.2.2 d_PR_addSum_185
    | 2, _, h1 =>
      have h1 : op = 12 := h1
      refine lv_tableIn (off := 77) (tgt := 78) hx hb d_PR_addSum_1 (by rw [h1]; decide) (by rw [h1]; decide) (by rw [h1]; rfl) rfl ?_
      refine lv_aload_n hx hb d_PR_addSum_78 rfl (lv_at hl 0 rfl) ?_
      refine lv_iconst (v := 2) hx hb d_PR_addSum_79 (by decide) ?_
      refine lv_iload_n hx hb d_PR_addSum_80 rfl (lv_at hl 2 rfl) ?_
      refine lv_bipush (v := 9) hx hb d_PR_addSum_81 (by decide) ?_
      have hPc := hP.sub (ws' := [(pr, .inr (2, [.ref nu, .ref xs, .ref ys, .ref be, .ref wh, .int (nI n)])), (nu, .inl (cI, 1024, .inl fn)), (xs, .inl (cI, 1024, .inl fx)), (ys, .inl (cI, 1024, .inl fy))]) [0, 1, 2, 3] rfl
      have hDc := hD.sub (ws' := [(pr, .inr (2, [.ref nu, .ref xs, .ref ys, .ref be, .ref wh, .int (nI n)])), (nu, .inl (cI, 1024, .inl fn)), (xs, .inl (cI, 1024, .inl fx)), (ys, .inl (cI, 1024, .inl fy))]) [0, 1, 2, 3] (by decide) rfl
      have hFc := va_free (wc := [(pr, .inr (2, [.ref nu, .ref xs, .ref ys, .ref be, .ref wh, .int (nI n)])), (nu, .inl (cI, 1024, .inl fn)), (xs, .inl (cI, 1024, .inl fx)), (ys, .inl (cI, 1024, .inl fy))]) hD hS hA [0, 1, 2, 3] rfl
      refine va_callv (va_runV (As := [.int 2, .int k, .int 9]) (rest := []) ⟨hx, hb, hml, hown, hts⟩ (p_r2 l D cI cZ pr nu xs ys be wh n fn fx fy 2 k 9 H.size hn) ⟨cB 3 hts k_458 k_61 k_455 hd_PR_addWithR2 ⟨Nat.le_of_ble_eq_true rfl, Nat.le_of_ble_eq_true rfl⟩ rfl rfl, hts _ k_457, hts _ k_13⟩ (PcW.preV (va_recv hK hP (q0 := 0) (ci := 2) rfl rfl) hPc hK hDc hN) rfl rfl hl.1 rfl (lv_room (Nat.le_of_ble_eq_true rfl)) d_PR_addSum_83 ⟨Nat.le_of_ble_eq_true rfl, Nat.le_of_ble_eq_true rfl⟩) hS (fun q _ h => hFc q h) hFc (fun u t H1 locs ht hvm e83 hB hz1 hk1 hS => ?_)
      obtain ⟨n183, fn183, fx183, fy183⟩ := u
      obtain ⟨hP1, hK1, hD1⟩ := hB
      rw [ht] at hP1
      obtain ⟨hP, hD⟩ := va_join (wr := []) (w1 := [(pr, .inr (2, [.ref nu, .ref xs, .ref ys, .ref be, .ref wh, .int (nI n183)])), (nu, .inl (cI, 1024, .inl fn183)), (xs, .inl (cI, 1024, .inl fx183)), (ys, .inl (cI, 1024, .inl fy183))]) hP hD [0, 1, 2, 3] [] rfl rfl (by decide) (by decide) hk1 hFc hP1 hD1
      generalize H1 = H at hP hS ⊢
      try dsimp only at e83
      have hP : va_P D vwCl [(pr, .inr (2, [.ref nu, .ref xs, .ref ys, .ref be, .ref wh, .int (nI n183)])), (nu, .inl (cI, 1024, .inl fn183)), (xs, .inl (cI, 1024, .inl fx183)), (ys, .inl (cI, 1024, .inl fy183))] H := hP
      have hD : va_D A [(pr, .inr (2, [.ref nu, .ref xs, .ref ys, .ref be, .ref wh, .int (nI n183)])), (nu, .inl (cI, 1024, .inl fn183)), (xs, .inl (cI, 1024, .inl fx183)), (ys, .inl (cI, 1024, .inl fy183))] := hD
      refine lv_goto (tgt := 185) hx hb d_PR_addSum_86 rfl ?_
      have hP9 : va_P D vwCl [(pr, .inr (2, [.ref nu, .ref xs, .ref ys, .ref be, .ref wh, .int (nI n183)])), (nu, .inl (cI, 1024, .inl fn183)), (xs, .inl (cI, 1024, .inl fx183)), (ys, .inl (cI, 1024, .inl fy183))] H := hP.sub [0, 1, 2, 3] rfl
      have hD9 : va_D A [(pr, .inr (2, [.ref nu, .ref xs, .ref ys, .ref be, .ref wh, .int (nI n183)])), (nu, .inl (cI, 1024, .inl fn183)), (xs, .inl (cI, 1024, .inl fx183)), (ys, .inl (cI, 1024, .inl fy183))] := hD.sub [0, 1, 2, 3] (by decide) rfl
      exact W.vret hx hb hr (fun t ht hW => ⟨⟨(n183, fn183, fx183, fy183), rfl, ⟨by rw [e83.1, h1]; try rfl, e83.2⟩, by rw [ht]; exact hP9, va_K.moved hW.alike hK, hD9⟩, hS.F ht⟩) hS.2.2 d_PR_addSum_185
    | 3, _, h1 =>
      have h1 : op = 13 := h1
      refine lv_tableIn (off := 88) (tgt := 89) hx hb d_PR_addSum_1 (by rw [h1]; decide) (by rw [h1]; decide) (by rw [h1]; rfl) rfl ?_
      refine lv_aload_n hx hb d_PR_addSum_89 rfl (lv_at hl 0 rfl) ?_
      refine lv_iconst (v := 4) hx hb d_PR_addSum_90 (by decide) ?_
      refine lv_iload_n hx hb d_PR_addSum_91 rfl (lv_at hl 2 rfl) ?_
      refine lv_bipush (v := 9) hx hb d_PR_addSum_92 (by decide) ?_
      have hPc := hP.sub (ws' := [(pr, .inr (2, [.ref nu, .ref xs, .ref ys, .ref be, .ref wh, .int (nI n)])), (nu, .inl (cI, 1024, .inl fn)), (xs, .inl (cI, 1024, .inl fx)), (ys, .inl (cI, 1024, .inl fy))]) [0, 1, 2, 3] rfl
      have hDc := hD.sub (ws' := [(pr, .inr (2, [.ref nu, .ref xs, .ref ys, .ref be, .ref wh, .int (nI n)])), (nu, .inl (cI, 1024, .inl fn)), (xs, .inl (cI, 1024, .inl fx)), (ys, .inl (cI, 1024, .inl fy))]) [0, 1, 2, 3] (by decide) rfl
      have hFc := va_free (wc := [(pr, .inr (2, [.ref nu, .ref xs, .ref ys, .ref be, .ref wh, .int (nI n)])), (nu, .inl (cI, 1024, .inl fn)), (xs, .inl (cI, 1024, .inl fx)), (ys, .inl (cI, 1024, .inl fy))]) hD hS hA [0, 1, 2, 3] rfl
      refine va_callv (va_runV (As := [.int 4, .int k, .int 9]) (rest := []) ⟨hx, hb, hml, hown, hts⟩ (p_r2 l D cI cZ pr nu xs ys be wh n fn fx fy 4 k 9 H.size hn) ⟨cB 3 hts k_458 k_61 k_455 hd_PR_addWithR2 ⟨Nat.le_of_ble_eq_true rfl, Nat.le_of_ble_eq_true rfl⟩ rfl rfl, hts _ k_457, hts _ k_13⟩ (PcW.preV (va_recv hK hP (q0 := 0) (ci := 2) rfl rfl) hPc hK hDc hN) rfl rfl hl.1 rfl (lv_room (Nat.le_of_ble_eq_true rfl)) d_PR_addSum_94 ⟨Nat.le_of_ble_eq_true rfl, Nat.le_of_ble_eq_true rfl⟩) hS (fun q _ h => hFc q h) hFc (fun u t H1 locs ht hvm e94 hB hz1 hk1 hS => ?_)
      obtain ⟨n194, fn194, fx194, fy194⟩ := u
      obtain ⟨hP1, hK1, hD1⟩ := hB
      rw [ht] at hP1
      obtain ⟨hP, hD⟩ := va_join (wr := []) (w1 := [(pr, .inr (2, [.ref nu, .ref xs, .ref ys, .ref be, .ref wh, .int (nI n194)])), (nu, .inl (cI, 1024, .inl fn194)), (xs, .inl (cI, 1024, .inl fx194)), (ys, .inl (cI, 1024, .inl fy194))]) hP hD [0, 1, 2, 3] [] rfl rfl (by decide) (by decide) hk1 hFc hP1 hD1
      generalize H1 = H at hP hS ⊢
      try dsimp only at e94
      have hP : va_P D vwCl [(pr, .inr (2, [.ref nu, .ref xs, .ref ys, .ref be, .ref wh, .int (nI n194)])), (nu, .inl (cI, 1024, .inl fn194)), (xs, .inl (cI, 1024, .inl fx194)), (ys, .inl (cI, 1024, .inl fy194))] H := hP
      have hD : va_D A [(pr, .inr (2, [.ref nu, .ref xs, .ref ys, .ref be, .ref wh, .int (nI n194)])), (nu, .inl (cI, 1024, .inl fn194)), (xs, .inl (cI, 1024, .inl fx194)), (ys, .inl (cI, 1024, .inl fy194))] := hD
      refine lv_goto (tgt := 185) hx hb d_PR_addSum_97 rfl ?_
      have hP9 : va_P D vwCl [(pr, .inr (2, [.ref nu, .ref xs, .ref ys, .ref be, .ref wh, .int (nI n194)])), (nu, .inl (cI, 1024, .inl fn194)), (xs, .inl (cI, 1024, .inl fx194)), (ys, .inl (cI, 1024, .inl fy194))] H := hP.sub [0, 1, 2, 3] rfl
      have hD9 : va_D A [(pr, .inr (2, [.ref nu, .ref xs, .ref ys, .ref be, .ref wh, .int (nI n194)])), (nu, .inl (cI, 1024, .inl fn194)), (xs, .inl (cI, 1024, .inl fx194)), (ys, .inl (cI, 1024, .inl fy194))] := hD.sub [0, 1, 2, 3] (by decide) rfl
      exact W.vret hx hb hr (fun t ht hW => ⟨⟨(n194, fn194, fx194, fy194), rfl, ⟨by rw [e94.1, h1]; try rfl, e94.2⟩, by rw [ht]; exact hP9, va_K.moved hW.alike hK, hD9⟩, hS.F ht⟩) hS.2.2 d_PR_addSum_185
    | 4, _, h1 =>
      have h1 : op = 14 := h1
      refine lv_tableIn (off := 99) (tgt := 100) hx hb d_PR_addSum_1 (by rw [h1]; decide) (by rw [h1]; decide) (by rw [h1]; rfl) rfl ?_
      refine lv_aload_n hx hb d_PR_addSum_100 rfl (lv_at hl 0 rfl) ?_
      refine lv_iconst (v := 4) hx hb d_PR_addSum_101 (by decide) ?_
      refine lv_iload_n hx hb d_PR_addSum_102 rfl (lv_at hl 2 rfl) ?_
      refine lv_bipush (v := 10) hx hb d_PR_addSum_103 (by decide) ?_
      have hPc := hP.sub (ws' := [(pr, .inr (2, [.ref nu, .ref xs, .ref ys, .ref be, .ref wh, .int (nI n)])), (nu, .inl (cI, 1024, .inl fn)), (xs, .inl (cI, 1024, .inl fx)), (ys, .inl (cI, 1024, .inl fy))]) [0, 1, 2, 3] rfl
      have hDc := hD.sub (ws' := [(pr, .inr (2, [.ref nu, .ref xs, .ref ys, .ref be, .ref wh, .int (nI n)])), (nu, .inl (cI, 1024, .inl fn)), (xs, .inl (cI, 1024, .inl fx)), (ys, .inl (cI, 1024, .inl fy))]) [0, 1, 2, 3] (by decide) rfl
      have hFc := va_free (wc := [(pr, .inr (2, [.ref nu, .ref xs, .ref ys, .ref be, .ref wh, .int (nI n)])), (nu, .inl (cI, 1024, .inl fn)), (xs, .inl (cI, 1024, .inl fx)), (ys, .inl (cI, 1024, .inl fy))]) hD hS hA [0, 1, 2, 3] rfl
      refine va_callv (va_runV (As := [.int 4, .int k, .int 10]) (rest := []) ⟨hx, hb, hml, hown, hts⟩ (p_r2 l D cI cZ pr nu xs ys be wh n fn fx fy 4 k 10 H.size hn) ⟨cB 3 hts k_458 k_61 k_455 hd_PR_addWithR2 ⟨Nat.le_of_ble_eq_true rfl, Nat.le_of_ble_eq_true rfl⟩ rfl rfl, hts _ k_457, hts _ k_13⟩ (PcW.preV (va_recv hK hP (q0 := 0) (ci := 2) rfl rfl) hPc hK hDc hN) rfl rfl hl.1 rfl (lv_room (Nat.le_of_ble_eq_true rfl)) d_PR_addSum_105 ⟨Nat.le_of_ble_eq_true rfl, Nat.le_of_ble_eq_true rfl⟩) hS (fun q _ h => hFc q h) hFc (fun u t H1 locs ht hvm e105 hB hz1 hk1 hS => ?_)
      obtain ⟨n1105, fn1105, fx1105, fy1105⟩ := u
      obtain ⟨hP1, hK1, hD1⟩ := hB
      rw [ht] at hP1
      obtain ⟨hP, hD⟩ := va_join (wr := []) (w1 := [(pr, .inr (2, [.ref nu, .ref xs, .ref ys, .ref be, .ref wh, .int (nI n1105)])), (nu, .inl (cI, 1024, .inl fn1105)), (xs, .inl (cI, 1024, .inl fx1105)), (ys, .inl (cI, 1024, .inl fy1105))]) hP hD [0, 1, 2, 3] [] rfl rfl (by decide) (by decide) hk1 hFc hP1 hD1
      generalize H1 = H at hP hS ⊢
      try dsimp only at e105
      have hP : va_P D vwCl [(pr, .inr (2, [.ref nu, .ref xs, .ref ys, .ref be, .ref wh, .int (nI n1105)])), (nu, .inl (cI, 1024, .inl fn1105)), (xs, .inl (cI, 1024, .inl fx1105)), (ys, .inl (cI, 1024, .inl fy1105))] H := hP
      have hD : va_D A [(pr, .inr (2, [.ref nu, .ref xs, .ref ys, .ref be, .ref wh, .int (nI n1105)])), (nu, .inl (cI, 1024, .inl fn1105)), (xs, .inl (cI, 1024, .inl fx1105)), (ys, .inl (cI, 1024, .inl fy1105))] := hD
      refine lv_goto (tgt := 185) hx hb d_PR_addSum_108 rfl ?_
      have hP9 : va_P D vwCl [(pr, .inr (2, [.ref nu, .ref xs, .ref ys, .ref be, .ref wh, .int (nI n1105)])), (nu, .inl (cI, 1024, .inl fn1105)), (xs, .inl (cI, 1024, .inl fx1105)), (ys, .inl (cI, 1024, .inl fy1105))] H := hP.sub [0, 1, 2, 3] rfl
      have hD9 : va_D A [(pr, .inr (2, [.ref nu, .ref xs, .ref ys, .ref be, .ref wh, .int (nI n1105)])), (nu, .inl (cI, 1024, .inl fn1105)), (xs, .inl (cI, 1024, .inl fx1105)), (ys, .inl (cI, 1024, .inl fy1105))] := hD.sub [0, 1, 2, 3] (by decide) rfl
      exact W.vret hx hb hr (fun t ht hW => ⟨⟨(n1105, fn1105, fx1105, fy1105), rfl, ⟨by rw [e105.1, h1]; try rfl, e105.2⟩, by rw [ht]; exact hP9, va_K.moved hW.alike hK, hD9⟩, hS.F ht⟩) hS.2.2 d_PR_addSum_185
    | 5, _, h1 =>
      have h1 : op = 15 := h1
      refine lv_tableIn (off := 110) (tgt := 111) hx hb d_PR_addSum_1 (by rw [h1]; decide) (by rw [h1]; decide) (by rw [h1]; rfl) rfl ?_
      refine lv_aload_n hx hb d_PR_addSum_111 rfl (lv_at hl 0 rfl) ?_
      refine lv_iconst (v := 2) hx hb d_PR_addSum_112 (by decide) ?_
      refine lv_iload_n hx hb d_PR_addSum_113 rfl (lv_at hl 2 rfl) ?_
      refine lv_bipush (v := 11) hx hb d_PR_addSum_114 (by decide) ?_
      have hPc := hP.sub (ws' := [(pr, .inr (2, [.ref nu, .ref xs, .ref ys, .ref be, .ref wh, .int (nI n)])), (nu, .inl (cI, 1024, .inl fn)), (xs, .inl (cI, 1024, .inl fx)), (ys, .inl (cI, 1024, .inl fy))]) [0, 1, 2, 3] rfl
      have hDc := hD.sub (ws' := [(pr, .inr (2, [.ref nu, .ref xs, .ref ys, .ref be, .ref wh, .int (nI n)])), (nu, .inl (cI, 1024, .inl fn)), (xs, .inl (cI, 1024, .inl fx)), (ys, .inl (cI, 1024, .inl fy))]) [0, 1, 2, 3] (by decide) rfl
      have hFc := va_free (wc := [(pr, .inr (2, [.ref nu, .ref xs, .ref ys, .ref be, .ref wh, .int (nI n)])), (nu, .inl (cI, 1024, .inl fn)), (xs, .inl (cI, 1024, .inl fx)), (ys, .inl (cI, 1024, .inl fy))]) hD hS hA [0, 1, 2, 3] rfl
      refine va_callv (va_runV (As := [.int 2, .int k, .int 11]) (rest := []) ⟨hx, hb, hml, hown, hts⟩ (p_r2 l D cI cZ pr nu xs ys be wh n fn fx fy 2 k 11 H.size hn) ⟨cB 3 hts k_458 k_61 k_455 hd_PR_addWithR2 ⟨Nat.le_of_ble_eq_true rfl, Nat.le_of_ble_eq_true rfl⟩ rfl rfl, hts _ k_457, hts _ k_13⟩ (PcW.preV (va_recv hK hP (q0 := 0) (ci := 2) rfl rfl) hPc hK hDc hN) rfl rfl hl.1 rfl (lv_room (Nat.le_of_ble_eq_true rfl)) d_PR_addSum_116 ⟨Nat.le_of_ble_eq_true rfl, Nat.le_of_ble_eq_true rfl⟩) hS (fun q _ h => hFc q h) hFc (fun u t H1 locs ht hvm e116 hB hz1 hk1 hS => ?_)
      obtain ⟨n1116, fn1116, fx1116, fy1116⟩ := u
      obtain ⟨hP1, hK1, hD1⟩ := hB
      rw [ht] at hP1
      obtain ⟨hP, hD⟩ := va_join (wr := []) (w1 := [(pr, .inr (2, [.ref nu, .ref xs, .ref ys, .ref be, .ref wh, .int (nI n1116)])), (nu, .inl (cI, 1024, .inl fn1116)), (xs, .inl (cI, 1024, .inl fx1116)), (ys, .inl (cI, 1024, .inl fy1116))]) hP hD [0, 1, 2, 3] [] rfl rfl (by decide) (by decide) hk1 hFc hP1 hD1
      generalize H1 = H at hP hS ⊢
      try dsimp only at e116
      have hP : va_P D vwCl [(pr, .inr (2, [.ref nu, .ref xs, .ref ys, .ref be, .ref wh, .int (nI n1116)])), (nu, .inl (cI, 1024, .inl fn1116)), (xs, .inl (cI, 1024, .inl fx1116)), (ys, .inl (cI, 1024, .inl fy1116))] H := hP
      have hD : va_D A [(pr, .inr (2, [.ref nu, .ref xs, .ref ys, .ref be, .ref wh, .int (nI n1116)])), (nu, .inl (cI, 1024, .inl fn1116)), (xs, .inl (cI, 1024, .inl fx1116)), (ys, .inl (cI, 1024, .inl fy1116))] := hD
      refine lv_goto (tgt := 185) hx hb d_PR_addSum_119 rfl ?_
      have hP9 : va_P D vwCl [(pr, .inr (2, [.ref nu, .ref xs, .ref ys, .ref be, .ref wh, .int (nI n1116)])), (nu, .inl (cI, 1024, .inl fn1116)), (xs, .inl (cI, 1024, .inl fx1116)), (ys, .inl (cI, 1024, .inl fy1116))] H := hP.sub [0, 1, 2, 3] rfl
      have hD9 : va_D A [(pr, .inr (2, [.ref nu, .ref xs, .ref ys, .ref be, .ref wh, .int (nI n1116)])), (nu, .inl (cI, 1024, .inl fn1116)), (xs, .inl (cI, 1024, .inl fx1116)), (ys, .inl (cI, 1024, .inl fy1116))] := hD.sub [0, 1, 2, 3] (by decide) rfl
      exact W.vret hx hb hr (fun t ht hW => ⟨⟨(n1116, fn1116, fx1116, fy1116), rfl, ⟨by rw [e116.1, h1]; try rfl, e116.2⟩, by rw [ht]; exact hP9, va_K.moved hW.alike hK, hD9⟩, hS.F ht⟩) hS.2.2 d_PR_addSum_185
    | 6, _, h1 =>
      have h1 : op = 16 := h1
      refine lv_tableIn (off := 121) (tgt := 122) hx hb d_PR_addSum_1 (by rw [h1]; decide) (by rw [h1]; decide) (by rw [h1]; rfl) rfl ?_
      refine lv_aload_n hx hb d_PR_addSum_122 rfl (lv_at hl 0 rfl) ?_
      refine lv_iconst (v := 4) hx hb d_PR_addSum_123 (by decide) ?_
      refine lv_iload_n hx hb d_PR_addSum_124 rfl (lv_at hl 2 rfl) ?_
      refine lv_bipush (v := 11) hx hb d_PR_addSum_125 (by decide) ?_
      have hPc := hP.sub (ws' := [(pr, .inr (2, [.ref nu, .ref xs, .ref ys, .ref be, .ref wh, .int (nI n)])), (nu, .inl (cI, 1024, .inl fn)), (xs, .inl (cI, 1024, .inl fx)), (ys, .inl (cI, 1024, .inl fy))]) [0, 1, 2, 3] rfl
      have hDc := hD.sub (ws' := [(pr, .inr (2, [.ref nu, .ref xs, .ref ys, .ref be, .ref wh, .int (nI n)])), (nu, .inl (cI, 1024, .inl fn)), (xs, .inl (cI, 1024, .inl fx)), (ys, .inl (cI, 1024, .inl fy))]) [0, 1, 2, 3] (by decide) rfl
      have hFc := va_free (wc := [(pr, .inr (2, [.ref nu, .ref xs, .ref ys, .ref be, .ref wh, .int (nI n)])), (nu, .inl (cI, 1024, .inl fn)), (xs, .inl (cI, 1024, .inl fx)), (ys, .inl (cI, 1024, .inl fy))]) hD hS hA [0, 1, 2, 3] rfl
      refine va_callv (va_runV (As := [.int 4, .int k, .int 11]) (rest := []) ⟨hx, hb, hml, hown, hts⟩ (p_r2 l D cI cZ pr nu xs ys be wh n fn fx fy 4 k 11 H.size hn) ⟨cB 3 hts k_458 k_61 k_455 hd_PR_addWithR2 ⟨Nat.le_of_ble_eq_true rfl, Nat.le_of_ble_eq_true rfl⟩ rfl rfl, hts _ k_457, hts _ k_13⟩ (PcW.preV (va_recv hK hP (q0 := 0) (ci := 2) rfl rfl) hPc hK hDc hN) rfl rfl hl.1 rfl (lv_room (Nat.le_of_ble_eq_true rfl)) d_PR_addSum_127 ⟨Nat.le_of_ble_eq_true rfl, Nat.le_of_ble_eq_true rfl⟩) hS (fun q _ h => hFc q h) hFc (fun u t H1 locs ht hvm e127 hB hz1 hk1 hS => ?_)
      obtain ⟨n1127, fn1127, fx1127, fy1127⟩ := u
      obtain ⟨hP1, hK1, hD1⟩ := hB
      rw [ht] at hP1
      obtain ⟨hP, hD⟩ := va_join (wr := []) (w1 := [(pr, .inr (2, [.ref nu, .ref xs, .ref ys, .ref be, .ref wh, .int (nI n1127)])), (nu, .inl (cI, 1024, .inl fn1127)), (xs, .inl (cI, 1024, .inl fx1127)), (ys, .inl (cI, 1024, .inl fy1127))]) hP hD [0, 1, 2, 3] [] rfl rfl (by decide) (by decide) hk1 hFc hP1 hD1
      generalize H1 = H at hP hS ⊢
      try dsimp only at e127
      have hP : va_P D vwCl [(pr, .inr (2, [.ref nu, .ref xs, .ref ys, .ref be, .ref wh, .int (nI n1127)])), (nu, .inl (cI, 1024, .inl fn1127)), (xs, .inl (cI, 1024, .inl fx1127)), (ys, .inl (cI, 1024, .inl fy1127))] H := hP
      have hD : va_D A [(pr, .inr (2, [.ref nu, .ref xs, .ref ys, .ref be, .ref wh, .int (nI n1127)])), (nu, .inl (cI, 1024, .inl fn1127)), (xs, .inl (cI, 1024, .inl fx1127)), (ys, .inl (cI, 1024, .inl fy1127))] := hD
      refine lv_goto (tgt := 185) hx hb d_PR_addSum_130 rfl ?_
      have hP9 : va_P D vwCl [(pr, .inr (2, [.ref nu, .ref xs, .ref ys, .ref be, .ref wh, .int (nI n1127)])), (nu, .inl (cI, 1024, .inl fn1127)), (xs, .inl (cI, 1024, .inl fx1127)), (ys, .inl (cI, 1024, .inl fy1127))] H := hP.sub [0, 1, 2, 3] rfl
      have hD9 : va_D A [(pr, .inr (2, [.ref nu, .ref xs, .ref ys, .ref be, .ref wh, .int (nI n1127)])), (nu, .inl (cI, 1024, .inl fn1127)), (xs, .inl (cI, 1024, .inl fx1127)), (ys, .inl (cI, 1024, .inl fy1127))] := hD.sub [0, 1, 2, 3] (by decide) rfl
      exact W.vret hx hb hr (fun t ht hW => ⟨⟨(n1127, fn1127, fx1127, fy1127), rfl, ⟨by rw [e127.1, h1]; try rfl, e127.2⟩, by rw [ht]; exact hP9, va_K.moved hW.alike hK, hD9⟩, hS.F ht⟩) hS.2.2 d_PR_addSum_185
    | 7, _, h1 =>
      have h1 : op = 17 := h1
      refine lv_tableIn (off := 132) (tgt := 133) hx hb d_PR_addSum_1 (by rw [h1]; decide) (by rw [h1]; decide) (by rw [h1]; rfl) rfl ?_
      refine lv_aload_n hx hb d_PR_addSum_133 rfl (lv_at hl 0 rfl) ?_
      refine lv_iconst (v := 2) hx hb d_PR_addSum_134 (by decide) ?_
      refine lv_iload_n hx hb d_PR_addSum_135 rfl (lv_at hl 2 rfl) ?_
      refine lv_bipush (v := 12) hx hb d_PR_addSum_136 (by decide) ?_
      have hPc := hP.sub (ws' := [(pr, .inr (2, [.ref nu, .ref xs, .ref ys, .ref be, .ref wh, .int (nI n)])), (nu, .inl (cI, 1024, .inl fn)), (xs, .inl (cI, 1024, .inl fx)), (ys, .inl (cI, 1024, .inl fy))]) [0, 1, 2, 3] rfl
      have hDc := hD.sub (ws' := [(pr, .inr (2, [.ref nu, .ref xs, .ref ys, .ref be, .ref wh, .int (nI n)])), (nu, .inl (cI, 1024, .inl fn)), (xs, .inl (cI, 1024, .inl fx)), (ys, .inl (cI, 1024, .inl fy))]) [0, 1, 2, 3] (by decide) rfl
      have hFc := va_free (wc := [(pr, .inr (2, [.ref nu, .ref xs, .ref ys, .ref be, .ref wh, .int (nI n)])), (nu, .inl (cI, 1024, .inl fn)), (xs, .inl (cI, 1024, .inl fx)), (ys, .inl (cI, 1024, .inl fy))]) hD hS hA [0, 1, 2, 3] rfl
      refine va_callv (va_runV (As := [.int 2, .int k, .int 12]) (rest := []) ⟨hx, hb, hml, hown, hts⟩ (p_r2 l D cI cZ pr nu xs ys be wh n fn fx fy 2 k 12 H.size hn) ⟨cB 3 hts k_458 k_61 k_455 hd_PR_addWithR2 ⟨Nat.le_of_ble_eq_true rfl, Nat.le_of_ble_eq_true rfl⟩ rfl rfl, hts _ k_457, hts _ k_13⟩ (PcW.preV (va_recv hK hP (q0 := 0) (ci := 2) rfl rfl) hPc hK hDc hN) rfl rfl hl.1 rfl (lv_room (Nat.le_of_ble_eq_true rfl)) d_PR_addSum_138 ⟨Nat.le_of_ble_eq_true rfl, Nat.le_of_ble_eq_true rfl⟩) hS (fun q _ h => hFc q h) hFc (fun u t H1 locs ht hvm e138 hB hz1 hk1 hS => ?_)
      obtain ⟨n1138, fn1138, fx1138, fy1138⟩ := u
      obtain ⟨hP1, hK1, hD1⟩ := hB
      rw [ht] at hP1
      obtain ⟨hP, hD⟩ := va_join (wr := []) (w1 := [(pr, .inr (2, [.ref nu, .ref xs, .ref ys, .ref be, .ref wh, .int (nI n1138)])), (nu, .inl (cI, 1024, .inl fn1138)), (xs, .inl (cI, 1024, .inl fx1138)), (ys, .inl (cI, 1024, .inl fy1138))]) hP hD [0, 1, 2, 3] [] rfl rfl (by decide) (by decide) hk1 hFc hP1 hD1
      generalize H1 = H at hP hS ⊢
      try dsimp only at e138
      have hP : va_P D vwCl [(pr, .inr (2, [.ref nu, .ref xs, .ref ys, .ref be, .ref wh, .int (nI n1138)])), (nu, .inl (cI, 1024, .inl fn1138)), (xs, .inl (cI, 1024, .inl fx1138)), (ys, .inl (cI, 1024, .inl fy1138))] H := hP
      have hD : va_D A [(pr, .inr (2, [.ref nu, .ref xs, .ref ys, .ref be, .ref wh, .int (nI n1138)])), (nu, .inl (cI, 1024, .inl fn1138)), (xs, .inl (cI, 1024, .inl fx1138)), (ys, .inl (cI, 1024, .inl fy1138))] := hD
      refine lv_goto (tgt := 185) hx hb d_PR_addSum_141 rfl ?_
      have hP9 : va_P D vwCl [(pr, .inr (2, [.ref nu, .ref xs, .ref ys, .ref be, .ref wh, .int (nI n1138)])), (nu, .inl (cI, 1024, .inl fn1138)), (xs, .inl (cI, 1024, .inl fx1138)), (ys, .inl (cI, 1024, .inl fy1138))] H := hP.sub [0, 1, 2, 3] rfl
      have hD9 : va_D A [(pr, .inr (2, [.ref nu, .ref xs, .ref ys, .ref be, .ref wh, .int (nI n1138)])), (nu, .inl (cI, 1024, .inl fn1138)), (xs, .inl (cI, 1024, .inl fx1138)), (ys, .inl (cI, 1024, .inl fy1138))] := hD.sub [0, 1, 2, 3] (by decide) rfl
      exact W.vret hx hb hr (fun t ht hW => ⟨⟨(n1138, fn1138, fx1138, fy1138), rfl, ⟨by rw [e138.1, h1]; try rfl, e138.2⟩, by rw [ht]; exact hP9, va_K.moved hW.alike hK, hD9⟩, hS.F ht⟩) hS.2.2 d_PR_addSum_185
    | 8, _, h1 =>
      have h1 : op = 18 := h1
      refine lv_tableIn (off := 143) (tgt := 144) hx hb d_PR_addSum_1 (by rw [h1]; decide) (by rw [h1]; decide) (by rw [h1]; rfl) rfl ?_
      refine lv_aload_n hx hb d_PR_addSum_144 rfl (lv_at hl 0 rfl) ?_
      refine lv_iconst (v := 2) hx hb d_PR_addSum_145 (by decide) ?_
      refine lv_iload_n hx hb d_PR_addSum_146 rfl (lv_at hl 2 rfl) ?_
      refine lv_bipush (v := 13) hx hb d_PR_addSum_147 (by decide) ?_
      have hPc := hP.sub (ws' := [(pr, .inr (2, [.ref nu, .ref xs, .ref ys, .ref be, .ref wh, .int (nI n)])), (nu, .inl (cI, 1024, .inl fn)), (xs, .inl (cI, 1024, .inl fx)), (ys, .inl (cI, 1024, .inl fy))]) [0, 1, 2, 3] rfl
      have hDc := hD.sub (ws' := [(pr, .inr (2, [.ref nu, .ref xs, .ref ys, .ref be, .ref wh, .int (nI n)])), (nu, .inl (cI, 1024, .inl fn)), (xs, .inl (cI, 1024, .inl fx)), (ys, .inl (cI, 1024, .inl fy))]) [0, 1, 2, 3] (by decide) rfl
      have hFc := va_free (wc := [(pr, .inr (2, [.ref nu, .ref xs, .ref ys, .ref be, .ref wh, .int (nI n)])), (nu, .inl (cI, 1024, .inl fn)), (xs, .inl (cI, 1024, .inl fx)), (ys, .inl (cI, 1024, .inl fy))]) hD hS hA [0, 1, 2, 3] rfl
      refine va_callv (va_runV (As := [.int 2, .int k, .int 13]) (rest := []) ⟨hx, hb, hml, hown, hts⟩ (p_r2 l D cI cZ pr nu xs ys be wh n fn fx fy 2 k 13 H.size hn) ⟨cB 3 hts k_458 k_61 k_455 hd_PR_addWithR2 ⟨Nat.le_of_ble_eq_true rfl, Nat.le_of_ble_eq_true rfl⟩ rfl rfl, hts _ k_457, hts _ k_13⟩ (PcW.preV (va_recv hK hP (q0 := 0) (ci := 2) rfl rfl) hPc hK hDc hN) rfl rfl hl.1 rfl (lv_room (Nat.le_of_ble_eq_true rfl)) d_PR_addSum_149 ⟨Nat.le_of_ble_eq_true rfl, Nat.le_of_ble_eq_true rfl⟩) hS (fun q _ h => hFc q h) hFc (fun u t H1 locs ht hvm e149 hB hz1 hk1 hS => ?_)
      obtain ⟨n1149, fn1149, fx1149, fy1149⟩ := u
      obtain ⟨hP1, hK1, hD1⟩ := hB
      rw [ht] at hP1
      obtain ⟨hP, hD⟩ := va_join (wr := []) (w1 := [(pr, .inr (2, [.ref nu, .ref xs, .ref ys, .ref be, .ref wh, .int (nI n1149)])), (nu, .inl (cI, 1024, .inl fn1149)), (xs, .inl (cI, 1024, .inl fx1149)), (ys, .inl (cI, 1024, .inl fy1149))]) hP hD [0, 1, 2, 3] [] rfl rfl (by decide) (by decide) hk1 hFc hP1 hD1
      generalize H1 = H at hP hS ⊢
      try dsimp only at e149
      have hP : va_P D vwCl [(pr, .inr (2, [.ref nu, .ref xs, .ref ys, .ref be, .ref wh, .int (nI n1149)])), (nu, .inl (cI, 1024, .inl fn1149)), (xs, .inl (cI, 1024, .inl fx1149)), (ys, .inl (cI, 1024, .inl fy1149))] H := hP
      have hD : va_D A [(pr, .inr (2, [.ref nu, .ref xs, .ref ys, .ref be, .ref wh, .int (nI n1149)])), (nu, .inl (cI, 1024, .inl fn1149)), (xs, .inl (cI, 1024, .inl fx1149)), (ys, .inl (cI, 1024, .inl fy1149))] := hD
      refine lv_goto (tgt := 185) hx hb d_PR_addSum_152 rfl ?_
      have hP9 : va_P D vwCl [(pr, .inr (2, [.ref nu, .ref xs, .ref ys, .ref be, .ref wh, .int (nI n1149)])), (nu, .inl (cI, 1024, .inl fn1149)), (xs, .inl (cI, 1024, .inl fx1149)), (ys, .inl (cI, 1024, .inl fy1149))] H := hP.sub [0, 1, 2, 3] rfl
      have hD9 : va_D A [(pr, .inr (2, [.ref nu, .ref xs, .ref ys, .ref be, .ref wh, .int (nI n1149)])), (nu, .inl (cI, 1024, .inl fn1149)), (xs, .inl (cI, 1024, .inl fx1149)), (ys, .inl (cI, 1024, .inl fy1149))] := hD.sub [0, 1, 2, 3] (by decide) rfl
      exact W.vret hx hb hr (fun t ht hW => ⟨⟨(n1149, fn1149, fx1149, fy1149), rfl, ⟨by rw [e149.1, h1]; try rfl, e149.2⟩, by rw [ht]; exact hP9, va_K.moved hW.alike hK, hD9⟩, hS.F ht⟩) hS.2.2 d_PR_addSum_185
    | 9, _, h1 =>
      have h1 : op = 19 := h1
      refine lv_tableIn (off := 154) (tgt := 155) hx hb d_PR_addSum_1 (by rw [h1]; decide) (by rw [h1]; decide) (by rw [h1]; rfl) rfl ?_
      refine lv_aload_n hx hb d_PR_addSum_155 rfl (lv_at hl 0 rfl) ?_
      refine lv_iconst (v := 2) hx hb d_PR_addSum_156 (by decide) ?_
      refine lv_iload_n hx hb d_PR_addSum_157 rfl (lv_at hl 2 rfl) ?_
      refine lv_bipush (v := 14) hx hb d_PR_addSum_158 (by decide) ?_
      have hPc := hP.sub (ws' := [(pr, .inr (2, [.ref nu, .ref xs, .ref ys, .ref be, .ref wh, .int (nI n)])), (nu, .inl (cI, 1024, .inl fn)), (xs, .inl (cI, 1024, .inl fx)), (ys, .inl (cI, 1024, .inl fy))]) [0, 1, 2, 3] rfl
      have hDc := hD.sub (ws' := [(pr, .inr (2, [.ref nu, .ref xs, .ref ys, .ref be, .ref wh, .int (nI n)])), (nu, .inl (cI, 1024, .inl fn)), (xs, .inl (cI, 1024, .inl fx)), (ys, .inl (cI, 1024, .inl fy))]) [0, 1, 2, 3] (by decide) rfl
      have hFc := va_free (wc := [(pr, .inr (2, [.ref nu, .ref xs, .ref ys, .ref be, .ref wh, .int (nI n)])), (nu, .inl (cI, 1024, .inl fn)), (xs, .inl (cI, 1024, .inl fx)), (ys, .inl (cI, 1024, .inl fy))]) hD hS hA [0, 1, 2, 3] rfl
      refine va_callv (va_runV (As := [.int 2, .int k, .int 14]) (rest := []) ⟨hx, hb, hml, hown, hts⟩ (p_r2 l D cI cZ pr nu xs ys be wh n fn fx fy 2 k 14 H.size hn) ⟨cB 3 hts k_458 k_61 k_455 hd_PR_addWithR2 ⟨Nat.le_of_ble_eq_true rfl, Nat.le_of_ble_eq_true rfl⟩ rfl rfl, hts _ k_457, hts _ k_13⟩ (PcW.preV (va_recv hK hP (q0 := 0) (ci := 2) rfl rfl) hPc hK hDc hN) rfl rfl hl.1 rfl (lv_room (Nat.le_of_ble_eq_true rfl)) d_PR_addSum_160 ⟨Nat.le_of_ble_eq_true rfl, Nat.le_of_ble_eq_true rfl⟩) hS (fun q _ h => hFc q h) hFc (fun u t H1 locs ht hvm e160 hB hz1 hk1 hS => ?_)
      obtain ⟨n1160, fn1160, fx1160, fy1160⟩ := u
      obtain ⟨hP1, hK1, hD1⟩ := hB
      rw [ht] at hP1
      obtain ⟨hP, hD⟩ := va_join (wr := []) (w1 := [(pr, .inr (2, [.ref nu, .ref xs, .ref ys, .ref be, .ref wh, .int (nI n1160)])), (nu, .inl (cI, 1024, .inl fn1160)), (xs, .inl (cI, 1024, .inl fx1160)), (ys, .inl (cI, 1024, .inl fy1160))]) hP hD [0, 1, 2, 3] [] rfl rfl (by decide) (by decide) hk1 hFc hP1 hD1
      generalize H1 = H at hP hS ⊢
      try dsimp only at e160
      have hP : va_P D vwCl [(pr, .inr (2, [.ref nu, .ref xs, .ref ys, .ref be, .ref wh, .int (nI n1160)])), (nu, .inl (cI, 1024, .inl fn1160)), (xs, .inl (cI, 1024, .inl fx1160)), (ys, .inl (cI, 1024, .inl fy1160))] H := hP
      have hD : va_D A [(pr, .inr (2, [.ref nu, .ref xs, .ref ys, .ref be, .ref wh, .int (nI n1160)])), (nu, .inl (cI, 1024, .inl fn1160)), (xs, .inl (cI, 1024, .inl fx1160)), (ys, .inl (cI, 1024, .inl fy1160))] := hD
      refine lv_goto (tgt := 185) hx hb d_PR_addSum_163 rfl ?_
      have hP9 : va_P D vwCl [(pr, .inr (2, [.ref nu, .ref xs, .ref ys, .ref be, .ref wh, .int (nI n1160)])), (nu, .inl (cI, 1024, .inl fn1160)), (xs, .inl (cI, 1024, .inl fx1160)), (ys, .inl (cI, 1024, .inl fy1160))] H := hP.sub [0, 1, 2, 3] rfl
      have hD9 : va_D A [(pr, .inr (2, [.ref nu, .ref xs, .ref ys, .ref be, .ref wh, .int (nI n1160)])), (nu, .inl (cI, 1024, .inl fn1160)), (xs, .inl (cI, 1024, .inl fx1160)), (ys, .inl (cI, 1024, .inl fy1160))] := hD.sub [0, 1, 2, 3] (by decide) rfl
      exact W.vret hx hb hr (fun t ht hW => ⟨⟨(n1160, fn1160, fx1160, fy1160), rfl, ⟨by rw [e160.1, h1]; try rfl, e160.2⟩, by rw [ht]; exact hP9, va_K.moved hW.alike hK, hD9⟩, hS.F ht⟩) hS.2.2 d_PR_addSum_185
    | 10, _, h1 =>
      have h1 : op = 20 := h1
      refine lv_tableIn (off := 165) (tgt := 166) hx hb d_PR_addSum_1 (by rw [h1]; decide) (by rw [h1]; decide) (by rw [h1]; rfl) rfl ?_
      refine lv_aload_n hx hb d_PR_addSum_166 rfl (lv_at hl 0 rfl) ?_
      refine lv_bipush (v := 15) hx hb d_PR_addSum_167 (by decide) ?_
      refine lv_iconst (v := 0) hx hb d_PR_addSum_169 (by decide) ?_
      refine lv_iconst (v := 0) hx hb d_PR_addSum_170 (by decide) ?_
      have hPc := hP.sub (ws' := [(pr, .inr (2, [.ref nu, .ref xs, .ref ys, .ref be, .ref wh, .int (nI n)])), (nu, .inl (cI, 1024, .inl fn)), (xs, .inl (cI, 1024, .inl fx)), (ys, .inl (cI, 1024, .inl fy))]) [0, 1, 2, 3] rfl
      have hDc := hD.sub (ws' := [(pr, .inr (2, [.ref nu, .ref xs, .ref ys, .ref be, .ref wh, .int (nI n)])), (nu, .inl (cI, 1024, .inl fn)), (xs, .inl (cI, 1024, .inl fx)), (ys, .inl (cI, 1024, .inl fy))]) [0, 1, 2, 3] (by decide) rfl
      have hFc := va_free (wc := [(pr, .inr (2, [.ref nu, .ref xs, .ref ys, .ref be, .ref wh, .int (nI n)])), (nu, .inl (cI, 1024, .inl fn)), (xs, .inl (cI, 1024, .inl fx)), (ys, .inl (cI, 1024, .inl fy))]) hD hS hA [0, 1, 2, 3] rfl
      refine va_callv (va_runV (As := [.int 15, .int 0, .int 0]) (rest := []) ⟨hx, hb, hml, hown, hts⟩ (p_add l D cI cZ pr nu xs ys be wh n fn fx fy 15 0 0 H.size hn) ⟨cB 3 hts k_442 k_61 k_439 hd_PR_add ⟨Nat.le_of_ble_eq_true rfl, Nat.le_of_ble_eq_true rfl⟩ rfl rfl, hts _ k_441, hts _ k_9⟩ (PcW.preV (va_recv hK hP (q0 := 0) (ci := 2) rfl rfl) hPc hK hDc hN) rfl rfl hl.1 rfl (lv_room (Nat.le_of_ble_eq_true rfl)) d_PR_addSum_171 ⟨Nat.le_of_ble_eq_true rfl, Nat.le_of_ble_eq_true rfl⟩) hS (fun q _ h => hFc q h) hFc (fun u t H1 locs ht hvm e171 hB hz1 hk1 hS => ?_)
      obtain ⟨n1171, fn1171, fx1171, fy1171⟩ := u
      obtain ⟨hP1, hK1, hD1⟩ := hB
      rw [ht] at hP1
      obtain ⟨hP, hD⟩ := va_join (wr := []) (w1 := [(pr, .inr (2, [.ref nu, .ref xs, .ref ys, .ref be, .ref wh, .int (nI n1171)])), (nu, .inl (cI, 1024, .inl fn1171)), (xs, .inl (cI, 1024, .inl fx1171)), (ys, .inl (cI, 1024, .inl fy1171))]) hP hD [0, 1, 2, 3] [] rfl rfl (by decide) (by decide) hk1 hFc hP1 hD1
      generalize H1 = H at hP hS ⊢
      try dsimp only at e171
      have hP : va_P D vwCl [(pr, .inr (2, [.ref nu, .ref xs, .ref ys, .ref be, .ref wh, .int (nI n1171)])), (nu, .inl (cI, 1024, .inl fn1171)), (xs, .inl (cI, 1024, .inl fx1171)), (ys, .inl (cI, 1024, .inl fy1171))] H := hP
      have hD : va_D A [(pr, .inr (2, [.ref nu, .ref xs, .ref ys, .ref be, .ref wh, .int (nI n1171)])), (nu, .inl (cI, 1024, .inl fn1171)), (xs, .inl (cI, 1024, .inl fx1171)), (ys, .inl (cI, 1024, .inl fy1171))] := hD
      refine lv_goto (tgt := 185) hx hb d_PR_addSum_174 rfl ?_
      have hP9 : va_P D vwCl [(pr, .inr (2, [.ref nu, .ref xs, .ref ys, .ref be, .ref wh, .int (nI n1171)])), (nu, .inl (cI, 1024, .inl fn1171)), (xs, .inl (cI, 1024, .inl fx1171)), (ys, .inl (cI, 1024, .inl fy1171))] H := hP.sub [0, 1, 2, 3] rfl
      have hD9 : va_D A [(pr, .inr (2, [.ref nu, .ref xs, .ref ys, .ref be, .ref wh, .int (nI n1171)])), (nu, .inl (cI, 1024, .inl fn1171)), (xs, .inl (cI, 1024, .inl fx1171)), (ys, .inl (cI, 1024, .inl fy1171))] := hD.sub [0, 1, 2, 3] (by decide) rfl
      exact W.vret hx hb hr (fun t ht hW => ⟨⟨(n1171, fn1171, fx1171, fy1171), rfl, ⟨by rw [e171.1, h1]; try rfl, e171.2⟩, by rw [ht]; exact hP9, va_K.moved hW.alike hK, hD9⟩, hS.F ht⟩) hS.2.2 d_PR_addSum_185
    | n + 11, h9, _ => exact absurd h9 (by omega)
set_option maxHeartbeats 4000000 in
set_option maxRecDepth 100000 in
theorem p_trn (l : Launch) (D : va_G) (cI cZ : ClassId) (pr : Nat) (nu : Nat) (xs : Nat) (ys : Nat) (be : Nat) (wh : Nat) (n : Nat) (fn : Nat → Int32) (fx : Nat → Int32) (fy : Nat → Int32) (op : Int32) (k : Int32) (b : Int32) (sz : Nat) (hn : n ≤ 1024) : MetV l y_PR_addTransfer w_PR_addTransfer { frames := 2, cells := 0, slots := 0, locals := 45 } D cI cZ [.ref pr, .int op, .int k, .int b] [(pr, .inr (2, [.ref nu, .ref xs, .ref ys, .ref be, .ref wh, .int (nI n)])), (nu, .inl (cI, 1024, .inl fn)), (xs, .inl (cI, 1024, .inl fx)), (ys, .inl (cI, 1024, .inl fy))] sz (fun (u : Nat × (Nat → Int32) × (Nat → Int32) × (Nat → Int32)) => match u with | (n1, fn1, fx1, fy1) => (n1, fn1, fx1, fy1) = trnP op k b (n, fn, fx, fy) ∧ n1 ≤ 1024) (fun (u : Nat × (Nat → Int32) × (Nat → Int32) × (Nat → Int32)) => match u with | (n1, fn1, fx1, fy1) => [(pr, .inr (2, [.ref nu, .ref xs, .ref ys, .ref be, .ref wh, .int (nI n1)])), (nu, .inl (cI, 1024, .inl fn1)), (xs, .inl (cI, 1024, .inl fx1)), (ys, .inl (cI, 1024, .inl fy1))]) 0 0 := by
  refine ofV (cc := c_PR_addTransfer) (maxL := 4) (ret := none) (by decide) rfl (Nat.le_of_ble_eq_true rfl) ?_
  intro p e s m args below meth c A H hH0 hx hb hr hlocks hts hown hnm hml ls hl hP hK hD hA hS hN
  have hown : s.vm.findClass R_PR = some m.cls := hown
  have hl : lv_has ls 4 [(0, .ref pr), (1, .int op), (2, .int k), (3, .int b)] := hl
  refine lv_iload_n hx hb d_PR_addTransfer_0 rfl (lv_at hl 1 rfl) ?_
  rcases sw_cases op 22 9 with h1 | ⟨j1, hj1, h1⟩
  · refine lv_tableOut (tgt := 173) hx hb d_PR_addTransfer_1 h1 rfl ?_
    have n1_22 : ¬ op = 22 := fun h9 => by rw [h9] at h1; revert h1; decide
    have n1_23 : ¬ op = 23 := fun h9 => by rw [h9] at h1; revert h1; decide
    have n1_24 : ¬ op = 24 := fun h9 => by rw [h9] at h1; revert h1; decide
    have n1_25 : ¬ op = 25 := fun h9 => by rw [h9] at h1; revert h1; decide
    have n1_26 : ¬ op = 26 := fun h9 => by rw [h9] at h1; revert h1; decide
    have n1_27 : ¬ op = 27 := fun h9 => by rw [h9] at h1; revert h1; decide
    have n1_28 : ¬ op = 28 := fun h9 => by rw [h9] at h1; revert h1; decide
    have n1_29 : ¬ op = 29 := fun h9 => by rw [h9] at h1; revert h1; decide
    have n1_30 : ¬ op = 30 := fun h9 => by rw [h9] at h1; revert h1; decide
    refine lv_aload_n hx hb d_PR_addTransfer_173 rfl (lv_at hl 0 rfl) ?_
    refine lv_bipush (v := 26) hx hb d_PR_addTransfer_174 (by decide) ?_
    refine lv_iconst (v := 1) hx hb d_PR_addTransfer_176 (by decide) ?_
    refine lv_iconst (v := 0) hx hb d_PR_addTransfer_177 (by decide) ?_
    have hPc := hP.sub (ws' := [(pr, .inr (2, [.ref nu, .ref xs, .ref ys, .ref be, .ref wh, .int (nI n)])), (nu, .inl (cI, 1024, .inl fn)), (xs, .inl (cI, 1024, .inl fx)), (ys, .inl (cI, 1024, .inl fy))]) [0, 1, 2, 3] rfl
    have hDc := hD.sub (ws' := [(pr, .inr (2, [.ref nu, .ref xs, .ref ys, .ref be, .ref wh, .int (nI n)])), (nu, .inl (cI, 1024, .inl fn)), (xs, .inl (cI, 1024, .inl fx)), (ys, .inl (cI, 1024, .inl fy))]) [0, 1, 2, 3] (by decide) rfl
    have hFc := va_free (wc := [(pr, .inr (2, [.ref nu, .ref xs, .ref ys, .ref be, .ref wh, .int (nI n)])), (nu, .inl (cI, 1024, .inl fn)), (xs, .inl (cI, 1024, .inl fx)), (ys, .inl (cI, 1024, .inl fy))]) hD hS hA [0, 1, 2, 3] rfl
    refine va_callv (va_runV (As := [.int 26, .int 1, .int 0]) (rest := []) ⟨hx, hb, hml, hown, hts⟩ (p_add l D cI cZ pr nu xs ys be wh n fn fx fy 26 1 0 H.size hn) ⟨cB 3 hts k_442 k_61 k_439 hd_PR_add ⟨Nat.le_of_ble_eq_true rfl, Nat.le_of_ble_eq_true rfl⟩ rfl rfl, hts _ k_441, hts _ k_9⟩ (PcW.preV (va_recv hK hP (q0 := 0) (ci := 2) rfl rfl) hPc hK hDc hN) rfl rfl hl.1 rfl (lv_room (Nat.le_of_ble_eq_true rfl)) d_PR_addTransfer_178 ⟨Nat.le_of_ble_eq_true rfl, Nat.le_of_ble_eq_true rfl⟩) hS (fun q _ h => hFc q h) hFc (fun u t H1 locs ht hvm e178 hB hz1 hk1 hS => ?_)
    obtain ⟨n1178, fn1178, fx1178, fy1178⟩ := u
    obtain ⟨hP1, hK1, hD1⟩ := hB
    rw [ht] at hP1
    obtain ⟨hP, hD⟩ := va_join (wr := []) (w1 := [(pr, .inr (2, [.ref nu, .ref xs, .ref ys, .ref be, .ref wh, .int (nI n1178)])), (nu, .inl (cI, 1024, .inl fn1178)), (xs, .inl (cI, 1024, .inl fx1178)), (ys, .inl (cI, 1024, .inl fy1178))]) hP hD [0, 1, 2, 3] [] rfl rfl (by decide) (by decide) hk1 hFc hP1 hD1
    generalize H1 = H at hP hS ⊢
    try dsimp only at e178
    have hP : va_P D vwCl [(pr, .inr (2, [.ref nu, .ref xs, .ref ys, .ref be, .ref wh, .int (nI n1178)])), (nu, .inl (cI, 1024, .inl fn1178)), (xs, .inl (cI, 1024, .inl fx1178)), (ys, .inl (cI, 1024, .inl fy1178))] H := hP
    have hD : va_D A [(pr, .inr (2, [.ref nu, .ref xs, .ref ys, .ref be, .ref wh, .int (nI n1178)])), (nu, .inl (cI, 1024, .inl fn1178)), (xs, .inl (cI, 1024, .inl fx1178)), (ys, .inl (cI, 1024, .inl fy1178))] := hD
    have hP9 : va_P D vwCl [(pr, .inr (2, [.ref nu, .ref xs, .ref ys, .ref be, .ref wh, .int (nI n1178)])), (nu, .inl (cI, 1024, .inl fn1178)), (xs, .inl (cI, 1024, .inl fx1178)), (ys, .inl (cI, 1024, .inl fy1178))] H := hP.sub [0, 1, 2, 3] rfl
    have hD9 : va_D A [(pr, .inr (2, [.ref nu, .ref xs, .ref ys, .ref be, .ref wh, .int (nI n1178)])), (nu, .inl (cI, 1024, .inl fn1178)), (xs, .inl (cI, 1024, .inl fx1178)), (ys, .inl (cI, 1024, .inl fy1178))] := hD.sub [0, 1, 2, 3] (by decide) rfl
    exact W.vret hx hb hr (fun t ht hW => ⟨⟨(n1178, fn1178, fx1178, fy1178), rfl, ⟨by rw [e178.1]; rw [trnP, if_neg n1_22, if_neg n1_23, if_neg n1_24, if_neg n1_25, if_neg n1_26, if_neg n1_27, if_neg n1_28, if_neg n1_29, if_neg n1_30], e178.2⟩, by rw [ht]; exact hP9, va_K.moved hW.alike hK, hD9⟩, hS.F ht⟩) hS.2.2 d_PR_addTransfer_181
  · match j1, hj1, h1 with
    | 0, _, h1 =>
      have h1 : op = 22 := h1
      refine lv_tableIn (off := 51) (tgt := 52) hx hb d_PR_addTransfer_1 (by rw [h1]; decide) (by rw [h1]; decide) (by rw [h1]; rfl) rfl ?_
      refine lv_aload_n hx hb d_PR_addTransfer_52 rfl (lv_at hl 0 rfl) ?_
      refine lv_bipush (v := 19) hx hb d_PR_addTransfer_53 (by decide) ?_
      refine lv_iconst (v := 0) hx hb d_PR_addTransfer_55 (by decide) ?_
      refine lv_iload_n hx hb d_PR_addTransfer_56 rfl (lv_at hl 2 rfl) ?_
      have hPc := hP.sub (ws' := [(pr, .inr (2, [.ref nu, .ref xs, .ref ys, .ref be, .ref wh, .int (nI n)])), (nu, .inl (cI, 1024, .inl fn)), (xs, .inl (cI, 1024, .inl fx)), (ys, .inl (cI, 1024, .inl fy))]) [0, 1, 2, 3] rfl
      have hDc := hD.sub (ws' := [(pr, .inr (2, [.ref nu, .ref xs, .ref ys, .ref be, .ref wh, .int (nI n)])), (nu, .inl (cI, 1024, .inl fn)), (xs, .inl (cI, 1024, .inl fx)), (ys, .inl (cI, 1024, .inl fy))]) [0, 1, 2, 3] (by decide) rfl
      have hFc := va_free (wc := [(pr, .inr (2, [.ref nu, .ref xs, .ref ys, .ref be, .ref wh, .int (nI n)])), (nu, .inl (cI, 1024, .inl fn)), (xs, .inl (cI, 1024, .inl fx)), (ys, .inl (cI, 1024, .inl fy))]) hD hS hA [0, 1, 2, 3] rfl
      refine va_callv (va_runV (As := [.int 19, .int 0, .int k]) (rest := []) ⟨hx, hb, hml, hown, hts⟩ (p_add l D cI cZ pr nu xs ys be wh n fn fx fy 19 0 k H.size hn) ⟨cB 3 hts k_442 k_61 k_439 hd_PR_add ⟨Nat.le_of_ble_eq_true rfl, Nat.le_of_ble_eq_true rfl⟩ rfl rfl, hts _ k_441, hts _ k_9⟩ (PcW.preV (va_recv hK hP (q0 := 0) (ci := 2) rfl rfl) hPc hK hDc hN) rfl rfl hl.1 rfl (lv_room (Nat.le_of_ble_eq_true rfl)) d_PR_addTransfer_57 ⟨Nat.le_of_ble_eq_true rfl, Nat.le_of_ble_eq_true rfl⟩) hS (fun q _ h => hFc q h) hFc (fun u t H1 locs ht hvm e57 hB hz1 hk1 hS => ?_)
      obtain ⟨n157, fn157, fx157, fy157⟩ := u
      obtain ⟨hP1, hK1, hD1⟩ := hB
      rw [ht] at hP1
      obtain ⟨hP, hD⟩ := va_join (wr := []) (w1 := [(pr, .inr (2, [.ref nu, .ref xs, .ref ys, .ref be, .ref wh, .int (nI n157)])), (nu, .inl (cI, 1024, .inl fn157)), (xs, .inl (cI, 1024, .inl fx157)), (ys, .inl (cI, 1024, .inl fy157))]) hP hD [0, 1, 2, 3] [] rfl rfl (by decide) (by decide) hk1 hFc hP1 hD1
      generalize H1 = H at hP hS ⊢
      try dsimp only at e57
      have hP : va_P D vwCl [(pr, .inr (2, [.ref nu, .ref xs, .ref ys, .ref be, .ref wh, .int (nI n157)])), (nu, .inl (cI, 1024, .inl fn157)), (xs, .inl (cI, 1024, .inl fx157)), (ys, .inl (cI, 1024, .inl fy157))] H := hP
      have hD : va_D A [(pr, .inr (2, [.ref nu, .ref xs, .ref ys, .ref be, .ref wh, .int (nI n157)])), (nu, .inl (cI, 1024, .inl fn157)), (xs, .inl (cI, 1024, .inl fx157)), (ys, .inl (cI, 1024, .inl fy157))] := hD
      refine lv_goto (tgt := 181) hx hb d_PR_addTransfer_60 rfl ?_
      have hP9 : va_P D vwCl [(pr, .inr (2, [.ref nu, .ref xs, .ref ys, .ref be, .ref wh, .int (nI n157)])), (nu, .inl (cI, 1024, .inl fn157)), (xs, .inl (cI, 1024, .inl fx157)), (ys, .inl (cI, 1024, .inl fy157))] H := hP.sub [0, 1, 2, 3] rfl
      have hD9 : va_D A [(pr, .inr (2, [.ref nu, .ref xs, .ref ys, .ref be, .ref wh, .int (nI n157)])), (nu, .inl (cI, 1024, .inl fn157)), (xs, .inl (cI, 1024, .inl fx157)), (ys, .inl (cI, 1024, .inl fy157))] := hD.sub [0, 1, 2, 3] (by decide) rfl
      exact W.vret hx hb hr (fun t ht hW => ⟨⟨(n157, fn157, fx157, fy157), rfl, ⟨by rw [e57.1, h1]; try rfl, e57.2⟩, by rw [ht]; exact hP9, va_K.moved hW.alike hK, hD9⟩, hS.F ht⟩) hS.2.2 d_PR_addTransfer_181
    | 1, _, h1 =>
      have h1 : op = 23 := h1
      refine lv_tableIn (off := 62) (tgt := 63) hx hb d_PR_addTransfer_1 (by rw [h1]; decide) (by rw [h1]; decide) (by rw [h1]; rfl) rfl ?_
      refine lv_aload_n hx hb d_PR_addTransfer_63 rfl (lv_at hl 0 rfl) ?_
      refine lv_bipush (v := 20) hx hb d_PR_addTransfer_64 (by decide) ?_
      refine lv_iconst (v := 0) hx hb d_PR_addTransfer_66 (by decide) ?_
      refine lv_iload_n hx hb d_PR_addTransfer_67 rfl (lv_at hl 2 rfl) ?_
      have hPc := hP.sub (ws' := [(pr, .inr (2, [.ref nu, .ref xs, .ref ys, .ref be, .ref wh, .int (nI n)])), (nu, .inl (cI, 1024, .inl fn)), (xs, .inl (cI, 1024, .inl fx)), (ys, .inl (cI, 1024, .inl fy))]) [0, 1, 2, 3] rfl
      have hDc := hD.sub (ws' := [(pr, .inr (2, [.ref nu, .ref xs, .ref ys, .ref be, .ref wh, .int (nI n)])), (nu, .inl (cI, 1024, .inl fn)), (xs, .inl (cI, 1024, .inl fx)), (ys, .inl (cI, 1024, .inl fy))]) [0, 1, 2, 3] (by decide) rfl
      have hFc := va_free (wc := [(pr, .inr (2, [.ref nu, .ref xs, .ref ys, .ref be, .ref wh, .int (nI n)])), (nu, .inl (cI, 1024, .inl fn)), (xs, .inl (cI, 1024, .inl fx)), (ys, .inl (cI, 1024, .inl fy))]) hD hS hA [0, 1, 2, 3] rfl
      refine va_callv (va_runV (As := [.int 20, .int 0, .int k]) (rest := []) ⟨hx, hb, hml, hown, hts⟩ (p_add l D cI cZ pr nu xs ys be wh n fn fx fy 20 0 k H.size hn) ⟨cB 3 hts k_442 k_61 k_439 hd_PR_add ⟨Nat.le_of_ble_eq_true rfl, Nat.le_of_ble_eq_true rfl⟩ rfl rfl, hts _ k_441, hts _ k_9⟩ (PcW.preV (va_recv hK hP (q0 := 0) (ci := 2) rfl rfl) hPc hK hDc hN) rfl rfl hl.1 rfl (lv_room (Nat.le_of_ble_eq_true rfl)) d_PR_addTransfer_68 ⟨Nat.le_of_ble_eq_true rfl, Nat.le_of_ble_eq_true rfl⟩) hS (fun q _ h => hFc q h) hFc (fun u t H1 locs ht hvm e68 hB hz1 hk1 hS => ?_)
      obtain ⟨n168, fn168, fx168, fy168⟩ := u
      obtain ⟨hP1, hK1, hD1⟩ := hB
      rw [ht] at hP1
      obtain ⟨hP, hD⟩ := va_join (wr := []) (w1 := [(pr, .inr (2, [.ref nu, .ref xs, .ref ys, .ref be, .ref wh, .int (nI n168)])), (nu, .inl (cI, 1024, .inl fn168)), (xs, .inl (cI, 1024, .inl fx168)), (ys, .inl (cI, 1024, .inl fy168))]) hP hD [0, 1, 2, 3] [] rfl rfl (by decide) (by decide) hk1 hFc hP1 hD1
      generalize H1 = H at hP hS ⊢
      try dsimp only at e68
      have hP : va_P D vwCl [(pr, .inr (2, [.ref nu, .ref xs, .ref ys, .ref be, .ref wh, .int (nI n168)])), (nu, .inl (cI, 1024, .inl fn168)), (xs, .inl (cI, 1024, .inl fx168)), (ys, .inl (cI, 1024, .inl fy168))] H := hP
      have hD : va_D A [(pr, .inr (2, [.ref nu, .ref xs, .ref ys, .ref be, .ref wh, .int (nI n168)])), (nu, .inl (cI, 1024, .inl fn168)), (xs, .inl (cI, 1024, .inl fx168)), (ys, .inl (cI, 1024, .inl fy168))] := hD
      refine lv_goto (tgt := 181) hx hb d_PR_addTransfer_71 rfl ?_
      have hP9 : va_P D vwCl [(pr, .inr (2, [.ref nu, .ref xs, .ref ys, .ref be, .ref wh, .int (nI n168)])), (nu, .inl (cI, 1024, .inl fn168)), (xs, .inl (cI, 1024, .inl fx168)), (ys, .inl (cI, 1024, .inl fy168))] H := hP.sub [0, 1, 2, 3] rfl
      have hD9 : va_D A [(pr, .inr (2, [.ref nu, .ref xs, .ref ys, .ref be, .ref wh, .int (nI n168)])), (nu, .inl (cI, 1024, .inl fn168)), (xs, .inl (cI, 1024, .inl fx168)), (ys, .inl (cI, 1024, .inl fy168))] := hD.sub [0, 1, 2, 3] (by decide) rfl
      exact W.vret hx hb hr (fun t ht hW => ⟨⟨(n168, fn168, fx168, fy168), rfl, ⟨by rw [e68.1, h1]; try rfl, e68.2⟩, by rw [ht]; exact hP9, va_K.moved hW.alike hK, hD9⟩, hS.F ht⟩) hS.2.2 d_PR_addTransfer_181
    | 2, _, h1 =>
      have h1 : op = 24 := h1
      refine lv_tableIn (off := 73) (tgt := 74) hx hb d_PR_addTransfer_1 (by rw [h1]; decide) (by rw [h1]; decide) (by rw [h1]; rfl) rfl ?_
      refine lv_aload_n hx hb d_PR_addTransfer_74 rfl (lv_at hl 0 rfl) ?_
      refine lv_bipush (v := 21) hx hb d_PR_addTransfer_75 (by decide) ?_
      refine lv_iconst (v := 0) hx hb d_PR_addTransfer_77 (by decide) ?_
      refine lv_iload_n hx hb d_PR_addTransfer_78 rfl (lv_at hl 2 rfl) ?_
      have hPc := hP.sub (ws' := [(pr, .inr (2, [.ref nu, .ref xs, .ref ys, .ref be, .ref wh, .int (nI n)])), (nu, .inl (cI, 1024, .inl fn)), (xs, .inl (cI, 1024, .inl fx)), (ys, .inl (cI, 1024, .inl fy))]) [0, 1, 2, 3] rfl
      have hDc := hD.sub (ws' := [(pr, .inr (2, [.ref nu, .ref xs, .ref ys, .ref be, .ref wh, .int (nI n)])), (nu, .inl (cI, 1024, .inl fn)), (xs, .inl (cI, 1024, .inl fx)), (ys, .inl (cI, 1024, .inl fy))]) [0, 1, 2, 3] (by decide) rfl
      have hFc := va_free (wc := [(pr, .inr (2, [.ref nu, .ref xs, .ref ys, .ref be, .ref wh, .int (nI n)])), (nu, .inl (cI, 1024, .inl fn)), (xs, .inl (cI, 1024, .inl fx)), (ys, .inl (cI, 1024, .inl fy))]) hD hS hA [0, 1, 2, 3] rfl
      refine va_callv (va_runV (As := [.int 21, .int 0, .int k]) (rest := []) ⟨hx, hb, hml, hown, hts⟩ (p_add l D cI cZ pr nu xs ys be wh n fn fx fy 21 0 k H.size hn) ⟨cB 3 hts k_442 k_61 k_439 hd_PR_add ⟨Nat.le_of_ble_eq_true rfl, Nat.le_of_ble_eq_true rfl⟩ rfl rfl, hts _ k_441, hts _ k_9⟩ (PcW.preV (va_recv hK hP (q0 := 0) (ci := 2) rfl rfl) hPc hK hDc hN) rfl rfl hl.1 rfl (lv_room (Nat.le_of_ble_eq_true rfl)) d_PR_addTransfer_79 ⟨Nat.le_of_ble_eq_true rfl, Nat.le_of_ble_eq_true rfl⟩) hS (fun q _ h => hFc q h) hFc (fun u t H1 locs ht hvm e79 hB hz1 hk1 hS => ?_)
      obtain ⟨n179, fn179, fx179, fy179⟩ := u
      obtain ⟨hP1, hK1, hD1⟩ := hB
      rw [ht] at hP1
      obtain ⟨hP, hD⟩ := va_join (wr := []) (w1 := [(pr, .inr (2, [.ref nu, .ref xs, .ref ys, .ref be, .ref wh, .int (nI n179)])), (nu, .inl (cI, 1024, .inl fn179)), (xs, .inl (cI, 1024, .inl fx179)), (ys, .inl (cI, 1024, .inl fy179))]) hP hD [0, 1, 2, 3] [] rfl rfl (by decide) (by decide) hk1 hFc hP1 hD1
      generalize H1 = H at hP hS ⊢
      try dsimp only at e79
      have hP : va_P D vwCl [(pr, .inr (2, [.ref nu, .ref xs, .ref ys, .ref be, .ref wh, .int (nI n179)])), (nu, .inl (cI, 1024, .inl fn179)), (xs, .inl (cI, 1024, .inl fx179)), (ys, .inl (cI, 1024, .inl fy179))] H := hP
      have hD : va_D A [(pr, .inr (2, [.ref nu, .ref xs, .ref ys, .ref be, .ref wh, .int (nI n179)])), (nu, .inl (cI, 1024, .inl fn179)), (xs, .inl (cI, 1024, .inl fx179)), (ys, .inl (cI, 1024, .inl fy179))] := hD
      refine lv_goto (tgt := 181) hx hb d_PR_addTransfer_82 rfl ?_
      have hP9 : va_P D vwCl [(pr, .inr (2, [.ref nu, .ref xs, .ref ys, .ref be, .ref wh, .int (nI n179)])), (nu, .inl (cI, 1024, .inl fn179)), (xs, .inl (cI, 1024, .inl fx179)), (ys, .inl (cI, 1024, .inl fy179))] H := hP.sub [0, 1, 2, 3] rfl
      have hD9 : va_D A [(pr, .inr (2, [.ref nu, .ref xs, .ref ys, .ref be, .ref wh, .int (nI n179)])), (nu, .inl (cI, 1024, .inl fn179)), (xs, .inl (cI, 1024, .inl fx179)), (ys, .inl (cI, 1024, .inl fy179))] := hD.sub [0, 1, 2, 3] (by decide) rfl
      exact W.vret hx hb hr (fun t ht hW => ⟨⟨(n179, fn179, fx179, fy179), rfl, ⟨by rw [e79.1, h1]; try rfl, e79.2⟩, by rw [ht]; exact hP9, va_K.moved hW.alike hK, hD9⟩, hS.F ht⟩) hS.2.2 d_PR_addTransfer_181
    | 3, _, h1 =>
      have h1 : op = 25 := h1
      refine lv_tableIn (off := 84) (tgt := 85) hx hb d_PR_addTransfer_1 (by rw [h1]; decide) (by rw [h1]; decide) (by rw [h1]; rfl) rfl ?_
      refine lv_aload_n hx hb d_PR_addTransfer_85 rfl (lv_at hl 0 rfl) ?_
      refine lv_bipush (v := 22) hx hb d_PR_addTransfer_86 (by decide) ?_
      refine lv_iconst (v := 0) hx hb d_PR_addTransfer_88 (by decide) ?_
      refine lv_iload_n hx hb d_PR_addTransfer_89 rfl (lv_at hl 2 rfl) ?_
      have hPc := hP.sub (ws' := [(pr, .inr (2, [.ref nu, .ref xs, .ref ys, .ref be, .ref wh, .int (nI n)])), (nu, .inl (cI, 1024, .inl fn)), (xs, .inl (cI, 1024, .inl fx)), (ys, .inl (cI, 1024, .inl fy))]) [0, 1, 2, 3] rfl
      have hDc := hD.sub (ws' := [(pr, .inr (2, [.ref nu, .ref xs, .ref ys, .ref be, .ref wh, .int (nI n)])), (nu, .inl (cI, 1024, .inl fn)), (xs, .inl (cI, 1024, .inl fx)), (ys, .inl (cI, 1024, .inl fy))]) [0, 1, 2, 3] (by decide) rfl
      have hFc := va_free (wc := [(pr, .inr (2, [.ref nu, .ref xs, .ref ys, .ref be, .ref wh, .int (nI n)])), (nu, .inl (cI, 1024, .inl fn)), (xs, .inl (cI, 1024, .inl fx)), (ys, .inl (cI, 1024, .inl fy))]) hD hS hA [0, 1, 2, 3] rfl
      refine va_callv (va_runV (As := [.int 22, .int 0, .int k]) (rest := []) ⟨hx, hb, hml, hown, hts⟩ (p_add l D cI cZ pr nu xs ys be wh n fn fx fy 22 0 k H.size hn) ⟨cB 3 hts k_442 k_61 k_439 hd_PR_add ⟨Nat.le_of_ble_eq_true rfl, Nat.le_of_ble_eq_true rfl⟩ rfl rfl, hts _ k_441, hts _ k_9⟩ (PcW.preV (va_recv hK hP (q0 := 0) (ci := 2) rfl rfl) hPc hK hDc hN) rfl rfl hl.1 rfl (lv_room (Nat.le_of_ble_eq_true rfl)) d_PR_addTransfer_90 ⟨Nat.le_of_ble_eq_true rfl, Nat.le_of_ble_eq_true rfl⟩) hS (fun q _ h => hFc q h) hFc (fun u t H1 locs ht hvm e90 hB hz1 hk1 hS => ?_)
      obtain ⟨n190, fn190, fx190, fy190⟩ := u
      obtain ⟨hP1, hK1, hD1⟩ := hB
      rw [ht] at hP1
      obtain ⟨hP, hD⟩ := va_join (wr := []) (w1 := [(pr, .inr (2, [.ref nu, .ref xs, .ref ys, .ref be, .ref wh, .int (nI n190)])), (nu, .inl (cI, 1024, .inl fn190)), (xs, .inl (cI, 1024, .inl fx190)), (ys, .inl (cI, 1024, .inl fy190))]) hP hD [0, 1, 2, 3] [] rfl rfl (by decide) (by decide) hk1 hFc hP1 hD1
      generalize H1 = H at hP hS ⊢
      try dsimp only at e90
      have hP : va_P D vwCl [(pr, .inr (2, [.ref nu, .ref xs, .ref ys, .ref be, .ref wh, .int (nI n190)])), (nu, .inl (cI, 1024, .inl fn190)), (xs, .inl (cI, 1024, .inl fx190)), (ys, .inl (cI, 1024, .inl fy190))] H := hP
      have hD : va_D A [(pr, .inr (2, [.ref nu, .ref xs, .ref ys, .ref be, .ref wh, .int (nI n190)])), (nu, .inl (cI, 1024, .inl fn190)), (xs, .inl (cI, 1024, .inl fx190)), (ys, .inl (cI, 1024, .inl fy190))] := hD
      refine lv_goto (tgt := 181) hx hb d_PR_addTransfer_93 rfl ?_
      have hP9 : va_P D vwCl [(pr, .inr (2, [.ref nu, .ref xs, .ref ys, .ref be, .ref wh, .int (nI n190)])), (nu, .inl (cI, 1024, .inl fn190)), (xs, .inl (cI, 1024, .inl fx190)), (ys, .inl (cI, 1024, .inl fy190))] H := hP.sub [0, 1, 2, 3] rfl
      have hD9 : va_D A [(pr, .inr (2, [.ref nu, .ref xs, .ref ys, .ref be, .ref wh, .int (nI n190)])), (nu, .inl (cI, 1024, .inl fn190)), (xs, .inl (cI, 1024, .inl fx190)), (ys, .inl (cI, 1024, .inl fy190))] := hD.sub [0, 1, 2, 3] (by decide) rfl
      exact W.vret hx hb hr (fun t ht hW => ⟨⟨(n190, fn190, fx190, fy190), rfl, ⟨by rw [e90.1, h1]; try rfl, e90.2⟩, by rw [ht]; exact hP9, va_K.moved hW.alike hK, hD9⟩, hS.F ht⟩) hS.2.2 d_PR_addTransfer_181
    | 4, _, h1 =>
      have h1 : op = 26 := h1
      refine lv_tableIn (off := 95) (tgt := 96) hx hb d_PR_addTransfer_1 (by rw [h1]; decide) (by rw [h1]; decide) (by rw [h1]; rfl) rfl ?_
      refine lv_aload_n hx hb d_PR_addTransfer_96 rfl (lv_at hl 0 rfl) ?_
      refine lv_bipush (v := 23) hx hb d_PR_addTransfer_97 (by decide) ?_
      refine lv_iconst (v := 0) hx hb d_PR_addTransfer_99 (by decide) ?_
      refine lv_iload_n hx hb d_PR_addTransfer_100 rfl (lv_at hl 2 rfl) ?_
      have hPc := hP.sub (ws' := [(pr, .inr (2, [.ref nu, .ref xs, .ref ys, .ref be, .ref wh, .int (nI n)])), (nu, .inl (cI, 1024, .inl fn)), (xs, .inl (cI, 1024, .inl fx)), (ys, .inl (cI, 1024, .inl fy))]) [0, 1, 2, 3] rfl
      have hDc := hD.sub (ws' := [(pr, .inr (2, [.ref nu, .ref xs, .ref ys, .ref be, .ref wh, .int (nI n)])), (nu, .inl (cI, 1024, .inl fn)), (xs, .inl (cI, 1024, .inl fx)), (ys, .inl (cI, 1024, .inl fy))]) [0, 1, 2, 3] (by decide) rfl
      have hFc := va_free (wc := [(pr, .inr (2, [.ref nu, .ref xs, .ref ys, .ref be, .ref wh, .int (nI n)])), (nu, .inl (cI, 1024, .inl fn)), (xs, .inl (cI, 1024, .inl fx)), (ys, .inl (cI, 1024, .inl fy))]) hD hS hA [0, 1, 2, 3] rfl
      refine va_callv (va_runV (As := [.int 23, .int 0, .int k]) (rest := []) ⟨hx, hb, hml, hown, hts⟩ (p_add l D cI cZ pr nu xs ys be wh n fn fx fy 23 0 k H.size hn) ⟨cB 3 hts k_442 k_61 k_439 hd_PR_add ⟨Nat.le_of_ble_eq_true rfl, Nat.le_of_ble_eq_true rfl⟩ rfl rfl, hts _ k_441, hts _ k_9⟩ (PcW.preV (va_recv hK hP (q0 := 0) (ci := 2) rfl rfl) hPc hK hDc hN) rfl rfl hl.1 rfl (lv_room (Nat.le_of_ble_eq_true rfl)) d_PR_addTransfer_101 ⟨Nat.le_of_ble_eq_true rfl, Nat.le_of_ble_eq_true rfl⟩) hS (fun q _ h => hFc q h) hFc (fun u t H1 locs ht hvm e101 hB hz1 hk1 hS => ?_)
      obtain ⟨n1101, fn1101, fx1101, fy1101⟩ := u
      obtain ⟨hP1, hK1, hD1⟩ := hB
      rw [ht] at hP1
      obtain ⟨hP, hD⟩ := va_join (wr := []) (w1 := [(pr, .inr (2, [.ref nu, .ref xs, .ref ys, .ref be, .ref wh, .int (nI n1101)])), (nu, .inl (cI, 1024, .inl fn1101)), (xs, .inl (cI, 1024, .inl fx1101)), (ys, .inl (cI, 1024, .inl fy1101))]) hP hD [0, 1, 2, 3] [] rfl rfl (by decide) (by decide) hk1 hFc hP1 hD1
      generalize H1 = H at hP hS ⊢
      try dsimp only at e101
      have hP : va_P D vwCl [(pr, .inr (2, [.ref nu, .ref xs, .ref ys, .ref be, .ref wh, .int (nI n1101)])), (nu, .inl (cI, 1024, .inl fn1101)), (xs, .inl (cI, 1024, .inl fx1101)), (ys, .inl (cI, 1024, .inl fy1101))] H := hP
      have hD : va_D A [(pr, .inr (2, [.ref nu, .ref xs, .ref ys, .ref be, .ref wh, .int (nI n1101)])), (nu, .inl (cI, 1024, .inl fn1101)), (xs, .inl (cI, 1024, .inl fx1101)), (ys, .inl (cI, 1024, .inl fy1101))] := hD
      refine lv_goto (tgt := 181) hx hb d_PR_addTransfer_104 rfl ?_
      have hP9 : va_P D vwCl [(pr, .inr (2, [.ref nu, .ref xs, .ref ys, .ref be, .ref wh, .int (nI n1101)])), (nu, .inl (cI, 1024, .inl fn1101)), (xs, .inl (cI, 1024, .inl fx1101)), (ys, .inl (cI, 1024, .inl fy1101))] H := hP.sub [0, 1, 2, 3] rfl
      have hD9 : va_D A [(pr, .inr (2, [.ref nu, .ref xs, .ref ys, .ref be, .ref wh, .int (nI n1101)])), (nu, .inl (cI, 1024, .inl fn1101)), (xs, .inl (cI, 1024, .inl fx1101)), (ys, .inl (cI, 1024, .inl fy1101))] := hD.sub [0, 1, 2, 3] (by decide) rfl
      exact W.vret hx hb hr (fun t ht hW => ⟨⟨(n1101, fn1101, fx1101, fy1101), rfl, ⟨by rw [e101.1, h1]; try rfl, e101.2⟩, by rw [ht]; exact hP9, va_K.moved hW.alike hK, hD9⟩, hS.F ht⟩) hS.2.2 d_PR_addTransfer_181
    | 5, _, h1 =>
      have h1 : op = 27 := h1
      refine lv_tableIn (off := 106) (tgt := 107) hx hb d_PR_addTransfer_1 (by rw [h1]; decide) (by rw [h1]; decide) (by rw [h1]; rfl) rfl ?_
      refine lv_aload_n hx hb d_PR_addTransfer_107 rfl (lv_at hl 0 rfl) ?_
      refine lv_iconst (v := 2) hx hb d_PR_addTransfer_108 (by decide) ?_
      refine lv_iconst (v := 2) hx hb d_PR_addTransfer_109 (by decide) ?_
      refine lv_iload_n hx hb d_PR_addTransfer_110 rfl (lv_at hl 3 rfl) ?_
      have hPc := hP.sub (ws' := [(pr, .inr (2, [.ref nu, .ref xs, .ref ys, .ref be, .ref wh, .int (nI n)])), (nu, .inl (cI, 1024, .inl fn)), (xs, .inl (cI, 1024, .inl fx)), (ys, .inl (cI, 1024, .inl fy))]) [0, 1, 2, 3] rfl
      have hDc := hD.sub (ws' := [(pr, .inr (2, [.ref nu, .ref xs, .ref ys, .ref be, .ref wh, .int (nI n)])), (nu, .inl (cI, 1024, .inl fn)), (xs, .inl (cI, 1024, .inl fx)), (ys, .inl (cI, 1024, .inl fy))]) [0, 1, 2, 3] (by decide) rfl
      have hFc := va_free (wc := [(pr, .inr (2, [.ref nu, .ref xs, .ref ys, .ref be, .ref wh, .int (nI n)])), (nu, .inl (cI, 1024, .inl fn)), (xs, .inl (cI, 1024, .inl fx)), (ys, .inl (cI, 1024, .inl fy))]) hD hS hA [0, 1, 2, 3] rfl
      refine va_callv (va_runV (As := [.int 2, .int 2, .int b]) (rest := []) ⟨hx, hb, hml, hown, hts⟩ (p_add l D cI cZ pr nu xs ys be wh n fn fx fy 2 2 b H.size hn) ⟨cB 3 hts k_442 k_61 k_439 hd_PR_add ⟨Nat.le_of_ble_eq_true rfl, Nat.le_of_ble_eq_true rfl⟩ rfl rfl, hts _ k_441, hts _ k_9⟩ (PcW.preV (va_recv hK hP (q0 := 0) (ci := 2) rfl rfl) hPc hK hDc hN) rfl rfl hl.1 rfl (lv_room (Nat.le_of_ble_eq_true rfl)) d_PR_addTransfer_111 ⟨Nat.le_of_ble_eq_true rfl, Nat.le_of_ble_eq_true rfl⟩) hS (fun q _ h => hFc q h) hFc (fun u t H1 locs ht hvm e111 hB hz1 hk1 hS => ?_)
      obtain ⟨n1111, fn1111, fx1111, fy1111⟩ := u
      obtain ⟨hP1, hK1, hD1⟩ := hB
      rw [ht] at hP1
      obtain ⟨hP, hD⟩ := va_join (wr := []) (w1 := [(pr, .inr (2, [.ref nu, .ref xs, .ref ys, .ref be, .ref wh, .int (nI n1111)])), (nu, .inl (cI, 1024, .inl fn1111)), (xs, .inl (cI, 1024, .inl fx1111)), (ys, .inl (cI, 1024, .inl fy1111))]) hP hD [0, 1, 2, 3] [] rfl rfl (by decide) (by decide) hk1 hFc hP1 hD1
      generalize H1 = H at hP hS ⊢
      try dsimp only at e111
      have hP : va_P D vwCl [(pr, .inr (2, [.ref nu, .ref xs, .ref ys, .ref be, .ref wh, .int (nI n1111)])), (nu, .inl (cI, 1024, .inl fn1111)), (xs, .inl (cI, 1024, .inl fx1111)), (ys, .inl (cI, 1024, .inl fy1111))] H := hP
      have hD : va_D A [(pr, .inr (2, [.ref nu, .ref xs, .ref ys, .ref be, .ref wh, .int (nI n1111)])), (nu, .inl (cI, 1024, .inl fn1111)), (xs, .inl (cI, 1024, .inl fx1111)), (ys, .inl (cI, 1024, .inl fy1111))] := hD
      refine lv_aload_n hx hb d_PR_addTransfer_114 rfl (lv_at hl 0 rfl) ?_
      refine lv_bipush (v := 24) hx hb d_PR_addTransfer_115 (by decide) ?_
      refine lv_iconst (v := 2) hx hb d_PR_addTransfer_117 (by decide) ?_
      refine lv_iconst (v := 0) hx hb d_PR_addTransfer_118 (by decide) ?_
      have hPc := hP.sub (ws' := [(pr, .inr (2, [.ref nu, .ref xs, .ref ys, .ref be, .ref wh, .int (nI n1111)])), (nu, .inl (cI, 1024, .inl fn1111)), (xs, .inl (cI, 1024, .inl fx1111)), (ys, .inl (cI, 1024, .inl fy1111))]) [0, 1, 2, 3] rfl
      have hDc := hD.sub (ws' := [(pr, .inr (2, [.ref nu, .ref xs, .ref ys, .ref be, .ref wh, .int (nI n1111)])), (nu, .inl (cI, 1024, .inl fn1111)), (xs, .inl (cI, 1024, .inl fx1111)), (ys, .inl (cI, 1024, .inl fy1111))]) [0, 1, 2, 3] (by decide) rfl
      have hFc := va_free (wc := [(pr, .inr (2, [.ref nu, .ref xs, .ref ys, .ref be, .ref wh, .int (nI n1111)])), (nu, .inl (cI, 1024, .inl fn1111)), (xs, .inl (cI, 1024, .inl fx1111)), (ys, .inl (cI, 1024, .inl fy1111))]) hD hS hA [0, 1, 2, 3] rfl
      refine va_callv (va_runV (As := [.int 24, .int 2, .int 0]) (rest := []) ⟨hx, hb, hml, hown, hts⟩ (p_add l D cI cZ pr nu xs ys be wh n1111 fn1111 fx1111 fy1111 24 2 0 H.size e111.2) ⟨cB 3 hts k_442 k_61 k_439 hd_PR_add ⟨Nat.le_of_ble_eq_true rfl, Nat.le_of_ble_eq_true rfl⟩ rfl rfl, hts _ k_441, hts _ k_9⟩ (PcW.preV (va_recv hK hP (q0 := 0) (ci := 2) rfl rfl) hPc hK hDc hN) rfl rfl hl.1 rfl (lv_room (Nat.le_of_ble_eq_true rfl)) d_PR_addTransfer_119 ⟨Nat.le_of_ble_eq_true rfl, Nat.le_of_ble_eq_true rfl⟩) hS (fun q _ h => hFc q h) hFc (fun u t H1 locs ht hvm e119 hB hz1 hk1 hS => ?_)
      obtain ⟨n1119, fn1119, fx1119, fy1119⟩ := u
      obtain ⟨hP1, hK1, hD1⟩ := hB
      rw [ht] at hP1
      obtain ⟨hP, hD⟩ := va_join (wr := []) (w1 := [(pr, .inr (2, [.ref nu, .ref xs, .ref ys, .ref be, .ref wh, .int (nI n1119)])), (nu, .inl (cI, 1024, .inl fn1119)), (xs, .inl (cI, 1024, .inl fx1119)), (ys, .inl (cI, 1024, .inl fy1119))]) hP hD [0, 1, 2, 3] [] rfl rfl (by decide) (by decide) hk1 hFc hP1 hD1
      generalize H1 = H at hP hS ⊢
      try dsimp only at e119
      have hP : va_P D vwCl [(pr, .inr (2, [.ref nu, .ref xs, .ref ys, .ref be, .ref wh, .int (nI n1119)])), (nu, .inl (cI, 1024, .inl fn1119)), (xs, .inl (cI, 1024, .inl fx1119)), (ys, .inl (cI, 1024, .inl fy1119))] H := hP
      have hD : va_D A [(pr, .inr (2, [.ref nu, .ref xs, .ref ys, .ref be, .ref wh, .int (nI n1119)])), (nu, .inl (cI, 1024, .inl fn1119)), (xs, .inl (cI, 1024, .inl fx1119)), (ys, .inl (cI, 1024, .inl fy1119))] := hD
      refine lv_aload_n hx hb d_PR_addTransfer_122 rfl (lv_at hl 0 rfl) ?_
      refine lv_bipush (v := 19) hx hb d_PR_addTransfer_123 (by decide) ?_
      refine lv_iconst (v := 0) hx hb d_PR_addTransfer_125 (by decide) ?_
      refine lv_iload_n hx hb d_PR_addTransfer_126 rfl (lv_at hl 2 rfl) ?_
      have hPc := hP.sub (ws' := [(pr, .inr (2, [.ref nu, .ref xs, .ref ys, .ref be, .ref wh, .int (nI n1119)])), (nu, .inl (cI, 1024, .inl fn1119)), (xs, .inl (cI, 1024, .inl fx1119)), (ys, .inl (cI, 1024, .inl fy1119))]) [0, 1, 2, 3] rfl
      have hDc := hD.sub (ws' := [(pr, .inr (2, [.ref nu, .ref xs, .ref ys, .ref be, .ref wh, .int (nI n1119)])), (nu, .inl (cI, 1024, .inl fn1119)), (xs, .inl (cI, 1024, .inl fx1119)), (ys, .inl (cI, 1024, .inl fy1119))]) [0, 1, 2, 3] (by decide) rfl
      have hFc := va_free (wc := [(pr, .inr (2, [.ref nu, .ref xs, .ref ys, .ref be, .ref wh, .int (nI n1119)])), (nu, .inl (cI, 1024, .inl fn1119)), (xs, .inl (cI, 1024, .inl fx1119)), (ys, .inl (cI, 1024, .inl fy1119))]) hD hS hA [0, 1, 2, 3] rfl
      refine va_callv (va_runV (As := [.int 19, .int 0, .int k]) (rest := []) ⟨hx, hb, hml, hown, hts⟩ (p_add l D cI cZ pr nu xs ys be wh n1119 fn1119 fx1119 fy1119 19 0 k H.size e119.2) ⟨cB 3 hts k_442 k_61 k_439 hd_PR_add ⟨Nat.le_of_ble_eq_true rfl, Nat.le_of_ble_eq_true rfl⟩ rfl rfl, hts _ k_441, hts _ k_9⟩ (PcW.preV (va_recv hK hP (q0 := 0) (ci := 2) rfl rfl) hPc hK hDc hN) rfl rfl hl.1 rfl (lv_room (Nat.le_of_ble_eq_true rfl)) d_PR_addTransfer_127 ⟨Nat.le_of_ble_eq_true rfl, Nat.le_of_ble_eq_true rfl⟩) hS (fun q _ h => hFc q h) hFc (fun u t H1 locs ht hvm e127 hB hz1 hk1 hS => ?_)
      obtain ⟨n1127, fn1127, fx1127, fy1127⟩ := u
      obtain ⟨hP1, hK1, hD1⟩ := hB
      rw [ht] at hP1
      obtain ⟨hP, hD⟩ := va_join (wr := []) (w1 := [(pr, .inr (2, [.ref nu, .ref xs, .ref ys, .ref be, .ref wh, .int (nI n1127)])), (nu, .inl (cI, 1024, .inl fn1127)), (xs, .inl (cI, 1024, .inl fx1127)), (ys, .inl (cI, 1024, .inl fy1127))]) hP hD [0, 1, 2, 3] [] rfl rfl (by decide) (by decide) hk1 hFc hP1 hD1
      generalize H1 = H at hP hS ⊢
      try dsimp only at e127
      have hP : va_P D vwCl [(pr, .inr (2, [.ref nu, .ref xs, .ref ys, .ref be, .ref wh, .int (nI n1127)])), (nu, .inl (cI, 1024, .inl fn1127)), (xs, .inl (cI, 1024, .inl fx1127)), (ys, .inl (cI, 1024, .inl fy1127))] H := hP
      have hD : va_D A [(pr, .inr (2, [.ref nu, .ref xs, .ref ys, .ref be, .ref wh, .int (nI n1127)])), (nu, .inl (cI, 1024, .inl fn1127)), (xs, .inl (cI, 1024, .inl fx1127)), (ys, .inl (cI, 1024, .inl fy1127))] := hD
      refine lv_goto (tgt := 181) hx hb d_PR_addTransfer_130 rfl ?_
      have hP9 : va_P D vwCl [(pr, .inr (2, [.ref nu, .ref xs, .ref ys, .ref be, .ref wh, .int (nI n1127)])), (nu, .inl (cI, 1024, .inl fn1127)), (xs, .inl (cI, 1024, .inl fx1127)), (ys, .inl (cI, 1024, .inl fy1127))] H := hP.sub [0, 1, 2, 3] rfl
      have hD9 : va_D A [(pr, .inr (2, [.ref nu, .ref xs, .ref ys, .ref be, .ref wh, .int (nI n1127)])), (nu, .inl (cI, 1024, .inl fn1127)), (xs, .inl (cI, 1024, .inl fx1127)), (ys, .inl (cI, 1024, .inl fy1127))] := hD.sub [0, 1, 2, 3] (by decide) rfl
      exact W.vret hx hb hr (fun t ht hW => ⟨⟨(n1127, fn1127, fx1127, fy1127), rfl, ⟨by rw [e127.1, e119.1, e111.1, h1]; try rfl, e127.2⟩, by rw [ht]; exact hP9, va_K.moved hW.alike hK, hD9⟩, hS.F ht⟩) hS.2.2 d_PR_addTransfer_181
    | 6, _, h1 =>
      have h1 : op = 28 := h1
      refine lv_tableIn (off := 132) (tgt := 133) hx hb d_PR_addTransfer_1 (by rw [h1]; decide) (by rw [h1]; decide) (by rw [h1]; rfl) rfl ?_
      refine lv_aload_n hx hb d_PR_addTransfer_133 rfl (lv_at hl 0 rfl) ?_
      refine lv_bipush (v := 25) hx hb d_PR_addTransfer_134 (by decide) ?_
      refine lv_iconst (v := 2) hx hb d_PR_addTransfer_136 (by decide) ?_
      refine lv_iconst (v := 0) hx hb d_PR_addTransfer_137 (by decide) ?_
      have hPc := hP.sub (ws' := [(pr, .inr (2, [.ref nu, .ref xs, .ref ys, .ref be, .ref wh, .int (nI n)])), (nu, .inl (cI, 1024, .inl fn)), (xs, .inl (cI, 1024, .inl fx)), (ys, .inl (cI, 1024, .inl fy))]) [0, 1, 2, 3] rfl
      have hDc := hD.sub (ws' := [(pr, .inr (2, [.ref nu, .ref xs, .ref ys, .ref be, .ref wh, .int (nI n)])), (nu, .inl (cI, 1024, .inl fn)), (xs, .inl (cI, 1024, .inl fx)), (ys, .inl (cI, 1024, .inl fy))]) [0, 1, 2, 3] (by decide) rfl
      have hFc := va_free (wc := [(pr, .inr (2, [.ref nu, .ref xs, .ref ys, .ref be, .ref wh, .int (nI n)])), (nu, .inl (cI, 1024, .inl fn)), (xs, .inl (cI, 1024, .inl fx)), (ys, .inl (cI, 1024, .inl fy))]) hD hS hA [0, 1, 2, 3] rfl
      refine va_callv (va_runV (As := [.int 25, .int 2, .int 0]) (rest := []) ⟨hx, hb, hml, hown, hts⟩ (p_add l D cI cZ pr nu xs ys be wh n fn fx fy 25 2 0 H.size hn) ⟨cB 3 hts k_442 k_61 k_439 hd_PR_add ⟨Nat.le_of_ble_eq_true rfl, Nat.le_of_ble_eq_true rfl⟩ rfl rfl, hts _ k_441, hts _ k_9⟩ (PcW.preV (va_recv hK hP (q0 := 0) (ci := 2) rfl rfl) hPc hK hDc hN) rfl rfl hl.1 rfl (lv_room (Nat.le_of_ble_eq_true rfl)) d_PR_addTransfer_138 ⟨Nat.le_of_ble_eq_true rfl, Nat.le_of_ble_eq_true rfl⟩) hS (fun q _ h => hFc q h) hFc (fun u t H1 locs ht hvm e138 hB hz1 hk1 hS => ?_)
      obtain ⟨n1138, fn1138, fx1138, fy1138⟩ := u
      obtain ⟨hP1, hK1, hD1⟩ := hB
      rw [ht] at hP1
      obtain ⟨hP, hD⟩ := va_join (wr := []) (w1 := [(pr, .inr (2, [.ref nu, .ref xs, .ref ys, .ref be, .ref wh, .int (nI n1138)])), (nu, .inl (cI, 1024, .inl fn1138)), (xs, .inl (cI, 1024, .inl fx1138)), (ys, .inl (cI, 1024, .inl fy1138))]) hP hD [0, 1, 2, 3] [] rfl rfl (by decide) (by decide) hk1 hFc hP1 hD1
      generalize H1 = H at hP hS ⊢
      try dsimp only at e138
      have hP : va_P D vwCl [(pr, .inr (2, [.ref nu, .ref xs, .ref ys, .ref be, .ref wh, .int (nI n1138)])), (nu, .inl (cI, 1024, .inl fn1138)), (xs, .inl (cI, 1024, .inl fx1138)), (ys, .inl (cI, 1024, .inl fy1138))] H := hP
      have hD : va_D A [(pr, .inr (2, [.ref nu, .ref xs, .ref ys, .ref be, .ref wh, .int (nI n1138)])), (nu, .inl (cI, 1024, .inl fn1138)), (xs, .inl (cI, 1024, .inl fx1138)), (ys, .inl (cI, 1024, .inl fy1138))] := hD
      refine lv_aload_n hx hb d_PR_addTransfer_141 rfl (lv_at hl 0 rfl) ?_
      refine lv_bipush (v := 26) hx hb d_PR_addTransfer_142 (by decide) ?_
      refine lv_iconst (v := 2) hx hb d_PR_addTransfer_144 (by decide) ?_
      refine lv_iconst (v := 0) hx hb d_PR_addTransfer_145 (by decide) ?_
      have hPc := hP.sub (ws' := [(pr, .inr (2, [.ref nu, .ref xs, .ref ys, .ref be, .ref wh, .int (nI n1138)])), (nu, .inl (cI, 1024, .inl fn1138)), (xs, .inl (cI, 1024, .inl fx1138)), (ys, .inl (cI, 1024, .inl fy1138))]) [0, 1, 2, 3] rfl
      have hDc := hD.sub (ws' := [(pr, .inr (2, [.ref nu, .ref xs, .ref ys, .ref be, .ref wh, .int (nI n1138)])), (nu, .inl (cI, 1024, .inl fn1138)), (xs, .inl (cI, 1024, .inl fx1138)), (ys, .inl (cI, 1024, .inl fy1138))]) [0, 1, 2, 3] (by decide) rfl
      have hFc := va_free (wc := [(pr, .inr (2, [.ref nu, .ref xs, .ref ys, .ref be, .ref wh, .int (nI n1138)])), (nu, .inl (cI, 1024, .inl fn1138)), (xs, .inl (cI, 1024, .inl fx1138)), (ys, .inl (cI, 1024, .inl fy1138))]) hD hS hA [0, 1, 2, 3] rfl
      refine va_callv (va_runV (As := [.int 26, .int 2, .int 0]) (rest := []) ⟨hx, hb, hml, hown, hts⟩ (p_add l D cI cZ pr nu xs ys be wh n1138 fn1138 fx1138 fy1138 26 2 0 H.size e138.2) ⟨cB 3 hts k_442 k_61 k_439 hd_PR_add ⟨Nat.le_of_ble_eq_true rfl, Nat.le_of_ble_eq_true rfl⟩ rfl rfl, hts _ k_441, hts _ k_9⟩ (PcW.preV (va_recv hK hP (q0 := 0) (ci := 2) rfl rfl) hPc hK hDc hN) rfl rfl hl.1 rfl (lv_room (Nat.le_of_ble_eq_true rfl)) d_PR_addTransfer_146 ⟨Nat.le_of_ble_eq_true rfl, Nat.le_of_ble_eq_true rfl⟩) hS (fun q _ h => hFc q h) hFc (fun u t H1 locs ht hvm e146 hB hz1 hk1 hS => ?_)
      obtain ⟨n1146, fn1146, fx1146, fy1146⟩ := u
      obtain ⟨hP1, hK1, hD1⟩ := hB
      rw [ht] at hP1
      obtain ⟨hP, hD⟩ := va_join (wr := []) (w1 := [(pr, .inr (2, [.ref nu, .ref xs, .ref ys, .ref be, .ref wh, .int (nI n1146)])), (nu, .inl (cI, 1024, .inl fn1146)), (xs, .inl (cI, 1024, .inl fx1146)), (ys, .inl (cI, 1024, .inl fy1146))]) hP hD [0, 1, 2, 3] [] rfl rfl (by decide) (by decide) hk1 hFc hP1 hD1
      generalize H1 = H at hP hS ⊢
      try dsimp only at e146
      have hP : va_P D vwCl [(pr, .inr (2, [.ref nu, .ref xs, .ref ys, .ref be, .ref wh, .int (nI n1146)])), (nu, .inl (cI, 1024, .inl fn1146)), (xs, .inl (cI, 1024, .inl fx1146)), (ys, .inl (cI, 1024, .inl fy1146))] H := hP
      have hD : va_D A [(pr, .inr (2, [.ref nu, .ref xs, .ref ys, .ref be, .ref wh, .int (nI n1146)])), (nu, .inl (cI, 1024, .inl fn1146)), (xs, .inl (cI, 1024, .inl fx1146)), (ys, .inl (cI, 1024, .inl fy1146))] := hD
      refine lv_goto (tgt := 181) hx hb d_PR_addTransfer_149 rfl ?_
      have hP9 : va_P D vwCl [(pr, .inr (2, [.ref nu, .ref xs, .ref ys, .ref be, .ref wh, .int (nI n1146)])), (nu, .inl (cI, 1024, .inl fn1146)), (xs, .inl (cI, 1024, .inl fx1146)), (ys, .inl (cI, 1024, .inl fy1146))] H := hP.sub [0, 1, 2, 3] rfl
      have hD9 : va_D A [(pr, .inr (2, [.ref nu, .ref xs, .ref ys, .ref be, .ref wh, .int (nI n1146)])), (nu, .inl (cI, 1024, .inl fn1146)), (xs, .inl (cI, 1024, .inl fx1146)), (ys, .inl (cI, 1024, .inl fy1146))] := hD.sub [0, 1, 2, 3] (by decide) rfl
      exact W.vret hx hb hr (fun t ht hW => ⟨⟨(n1146, fn1146, fx1146, fy1146), rfl, ⟨by rw [e146.1, e138.1, h1]; try rfl, e146.2⟩, by rw [ht]; exact hP9, va_K.moved hW.alike hK, hD9⟩, hS.F ht⟩) hS.2.2 d_PR_addTransfer_181
    | 7, _, h1 =>
      have h1 : op = 29 := h1
      refine lv_tableIn (off := 151) (tgt := 152) hx hb d_PR_addTransfer_1 (by rw [h1]; decide) (by rw [h1]; decide) (by rw [h1]; rfl) rfl ?_
      refine lv_aload_n hx hb d_PR_addTransfer_152 rfl (lv_at hl 0 rfl) ?_
      refine lv_bipush (v := 24) hx hb d_PR_addTransfer_153 (by decide) ?_
      refine lv_iconst (v := 0) hx hb d_PR_addTransfer_155 (by decide) ?_
      refine lv_iconst (v := 0) hx hb d_PR_addTransfer_156 (by decide) ?_
      have hPc := hP.sub (ws' := [(pr, .inr (2, [.ref nu, .ref xs, .ref ys, .ref be, .ref wh, .int (nI n)])), (nu, .inl (cI, 1024, .inl fn)), (xs, .inl (cI, 1024, .inl fx)), (ys, .inl (cI, 1024, .inl fy))]) [0, 1, 2, 3] rfl
      have hDc := hD.sub (ws' := [(pr, .inr (2, [.ref nu, .ref xs, .ref ys, .ref be, .ref wh, .int (nI n)])), (nu, .inl (cI, 1024, .inl fn)), (xs, .inl (cI, 1024, .inl fx)), (ys, .inl (cI, 1024, .inl fy))]) [0, 1, 2, 3] (by decide) rfl
      have hFc := va_free (wc := [(pr, .inr (2, [.ref nu, .ref xs, .ref ys, .ref be, .ref wh, .int (nI n)])), (nu, .inl (cI, 1024, .inl fn)), (xs, .inl (cI, 1024, .inl fx)), (ys, .inl (cI, 1024, .inl fy))]) hD hS hA [0, 1, 2, 3] rfl
      refine va_callv (va_runV (As := [.int 24, .int 0, .int 0]) (rest := []) ⟨hx, hb, hml, hown, hts⟩ (p_add l D cI cZ pr nu xs ys be wh n fn fx fy 24 0 0 H.size hn) ⟨cB 3 hts k_442 k_61 k_439 hd_PR_add ⟨Nat.le_of_ble_eq_true rfl, Nat.le_of_ble_eq_true rfl⟩ rfl rfl, hts _ k_441, hts _ k_9⟩ (PcW.preV (va_recv hK hP (q0 := 0) (ci := 2) rfl rfl) hPc hK hDc hN) rfl rfl hl.1 rfl (lv_room (Nat.le_of_ble_eq_true rfl)) d_PR_addTransfer_157 ⟨Nat.le_of_ble_eq_true rfl, Nat.le_of_ble_eq_true rfl⟩) hS (fun q _ h => hFc q h) hFc (fun u t H1 locs ht hvm e157 hB hz1 hk1 hS => ?_)
      obtain ⟨n1157, fn1157, fx1157, fy1157⟩ := u
      obtain ⟨hP1, hK1, hD1⟩ := hB
      rw [ht] at hP1
      obtain ⟨hP, hD⟩ := va_join (wr := []) (w1 := [(pr, .inr (2, [.ref nu, .ref xs, .ref ys, .ref be, .ref wh, .int (nI n1157)])), (nu, .inl (cI, 1024, .inl fn1157)), (xs, .inl (cI, 1024, .inl fx1157)), (ys, .inl (cI, 1024, .inl fy1157))]) hP hD [0, 1, 2, 3] [] rfl rfl (by decide) (by decide) hk1 hFc hP1 hD1
      generalize H1 = H at hP hS ⊢
      try dsimp only at e157
      have hP : va_P D vwCl [(pr, .inr (2, [.ref nu, .ref xs, .ref ys, .ref be, .ref wh, .int (nI n1157)])), (nu, .inl (cI, 1024, .inl fn1157)), (xs, .inl (cI, 1024, .inl fx1157)), (ys, .inl (cI, 1024, .inl fy1157))] H := hP
      have hD : va_D A [(pr, .inr (2, [.ref nu, .ref xs, .ref ys, .ref be, .ref wh, .int (nI n1157)])), (nu, .inl (cI, 1024, .inl fn1157)), (xs, .inl (cI, 1024, .inl fx1157)), (ys, .inl (cI, 1024, .inl fy1157))] := hD
      refine lv_goto (tgt := 181) hx hb d_PR_addTransfer_160 rfl ?_
      have hP9 : va_P D vwCl [(pr, .inr (2, [.ref nu, .ref xs, .ref ys, .ref be, .ref wh, .int (nI n1157)])), (nu, .inl (cI, 1024, .inl fn1157)), (xs, .inl (cI, 1024, .inl fx1157)), (ys, .inl (cI, 1024, .inl fy1157))] H := hP.sub [0, 1, 2, 3] rfl
      have hD9 : va_D A [(pr, .inr (2, [.ref nu, .ref xs, .ref ys, .ref be, .ref wh, .int (nI n1157)])), (nu, .inl (cI, 1024, .inl fn1157)), (xs, .inl (cI, 1024, .inl fx1157)), (ys, .inl (cI, 1024, .inl fy1157))] := hD.sub [0, 1, 2, 3] (by decide) rfl
      exact W.vret hx hb hr (fun t ht hW => ⟨⟨(n1157, fn1157, fx1157, fy1157), rfl, ⟨by rw [e157.1, h1]; try rfl, e157.2⟩, by rw [ht]; exact hP9, va_K.moved hW.alike hK, hD9⟩, hS.F ht⟩) hS.2.2 d_PR_addTransfer_181
    | 8, _, h1 =>
      have h1 : op = 30 := h1
      refine lv_tableIn (off := 162) (tgt := 163) hx hb d_PR_addTransfer_1 (by rw [h1]; decide) (by rw [h1]; decide) (by rw [h1]; rfl) rfl ?_
      refine lv_aload_n hx hb d_PR_addTransfer_163 rfl (lv_at hl 0 rfl) ?_
      refine lv_bipush (v := 25) hx hb d_PR_addTransfer_164 (by decide) ?_
      refine lv_iconst (v := 0) hx hb d_PR_addTransfer_166 (by decide) ?_
      have hPc := hP.sub (ws' := [(pr, .inr (2, [.ref nu, .ref xs, .ref ys, .ref be, .ref wh, .int (nI n)])), (nu, .inl (cI, 1024, .inl fn)), (xs, .inl (cI, 1024, .inl fx)), (ys, .inl (cI, 1024, .inl fy))]) [0, 1, 2, 3] rfl
      have hDc := hD.sub (ws' := [(pr, .inr (2, [.ref nu, .ref xs, .ref ys, .ref be, .ref wh, .int (nI n)])), (nu, .inl (cI, 1024, .inl fn)), (xs, .inl (cI, 1024, .inl fx)), (ys, .inl (cI, 1024, .inl fy))]) [0, 1, 2, 3] (by decide) rfl
      have hFc := va_free (wc := [(pr, .inr (2, [.ref nu, .ref xs, .ref ys, .ref be, .ref wh, .int (nI n)])), (nu, .inl (cI, 1024, .inl fn)), (xs, .inl (cI, 1024, .inl fx)), (ys, .inl (cI, 1024, .inl fy))]) hD hS hA [0, 1, 2, 3] rfl
      refine va_callv (va_runV (As := [.int 25, .int 0]) (rest := []) ⟨hx, hb, hml, hown, hts⟩ (p_tst l D cI cZ pr nu xs ys be wh n fn fx fy 25 0 H.size hn) ⟨cB 2 hts k_446 k_61 k_443 hd_PR_addTestedA ⟨Nat.le_of_ble_eq_true rfl, Nat.le_of_ble_eq_true rfl⟩ rfl rfl, hts _ k_445, hts _ k_10⟩ (PcW.preV (va_recv hK hP (q0 := 0) (ci := 2) rfl rfl) hPc hK hDc hN) rfl rfl hl.1 rfl (lv_room (Nat.le_of_ble_eq_true rfl)) d_PR_addTransfer_167 ⟨Nat.le_of_ble_eq_true rfl, Nat.le_of_ble_eq_true rfl⟩) hS (fun q _ h => hFc q h) hFc (fun u t H1 locs ht hvm e167 hB hz1 hk1 hS => ?_)
      obtain ⟨n1167, fn1167, fx1167, fy1167⟩ := u
      obtain ⟨hP1, hK1, hD1⟩ := hB
      rw [ht] at hP1
      obtain ⟨hP, hD⟩ := va_join (wr := []) (w1 := [(pr, .inr (2, [.ref nu, .ref xs, .ref ys, .ref be, .ref wh, .int (nI n1167)])), (nu, .inl (cI, 1024, .inl fn1167)), (xs, .inl (cI, 1024, .inl fx1167)), (ys, .inl (cI, 1024, .inl fy1167))]) hP hD [0, 1, 2, 3] [] rfl rfl (by decide) (by decide) hk1 hFc hP1 hD1
      generalize H1 = H at hP hS ⊢
      try dsimp only at e167
      have hP : va_P D vwCl [(pr, .inr (2, [.ref nu, .ref xs, .ref ys, .ref be, .ref wh, .int (nI n1167)])), (nu, .inl (cI, 1024, .inl fn1167)), (xs, .inl (cI, 1024, .inl fx1167)), (ys, .inl (cI, 1024, .inl fy1167))] H := hP
      have hD : va_D A [(pr, .inr (2, [.ref nu, .ref xs, .ref ys, .ref be, .ref wh, .int (nI n1167)])), (nu, .inl (cI, 1024, .inl fn1167)), (xs, .inl (cI, 1024, .inl fx1167)), (ys, .inl (cI, 1024, .inl fy1167))] := hD
      refine lv_goto (tgt := 181) hx hb d_PR_addTransfer_170 rfl ?_
      have hP9 : va_P D vwCl [(pr, .inr (2, [.ref nu, .ref xs, .ref ys, .ref be, .ref wh, .int (nI n1167)])), (nu, .inl (cI, 1024, .inl fn1167)), (xs, .inl (cI, 1024, .inl fx1167)), (ys, .inl (cI, 1024, .inl fy1167))] H := hP.sub [0, 1, 2, 3] rfl
      have hD9 : va_D A [(pr, .inr (2, [.ref nu, .ref xs, .ref ys, .ref be, .ref wh, .int (nI n1167)])), (nu, .inl (cI, 1024, .inl fn1167)), (xs, .inl (cI, 1024, .inl fx1167)), (ys, .inl (cI, 1024, .inl fy1167))] := hD.sub [0, 1, 2, 3] (by decide) rfl
      exact W.vret hx hb hr (fun t ht hW => ⟨⟨(n1167, fn1167, fx1167, fy1167), rfl, ⟨by rw [e167.1, h1]; try rfl, e167.2⟩, by rw [ht]; exact hP9, va_K.moved hW.alike hK, hD9⟩, hS.F ht⟩) hS.2.2 d_PR_addTransfer_181
    | n + 9, h9, _ => exact absurd h9 (by omega)
set_option maxHeartbeats 4000000 in
set_option maxRecDepth 100000 in
theorem p_row (l : Launch) (D : va_G) (cI cZ : ClassId) (pr : Nat) (nu : Nat) (xs : Nat) (ys : Nat) (be : Nat) (wh : Nat) (n : Nat) (fn : Nat → Int32) (fx : Nat → Int32) (fy : Nat → Int32) (op : Int32) (k : Int32) (b : Int32) (sz : Nat) (hn : n ≤ 1024) : MetV l y_PR_addRow w_PR_addRow { frames := 3, cells := 0, slots := 0, locals := 68 } D cI cZ [.ref pr, .int op, .int k, .int b] [(pr, .inr (2, [.ref nu, .ref xs, .ref ys, .ref be, .ref wh, .int (nI n)])), (nu, .inl (cI, 1024, .inl fn)), (xs, .inl (cI, 1024, .inl fx)), (ys, .inl (cI, 1024, .inl fy))] sz (fun (u : Nat × (Nat → Int32) × (Nat → Int32) × (Nat → Int32)) => match u with | (n1, fn1, fx1, fy1) => (n1, fn1, fx1, fy1) = rowP op k b (n, fn, fx, fy) ∧ n1 ≤ 1024) (fun (u : Nat × (Nat → Int32) × (Nat → Int32) × (Nat → Int32)) => match u with | (n1, fn1, fx1, fy1) => [(pr, .inr (2, [.ref nu, .ref xs, .ref ys, .ref be, .ref wh, .int (nI n1)])), (nu, .inl (cI, 1024, .inl fn1)), (xs, .inl (cI, 1024, .inl fx1)), (ys, .inl (cI, 1024, .inl fy1))]) 0 0 := by
  refine ofV (cc := c_PR_addRow) (maxL := 4) (ret := none) (by decide) rfl (Nat.le_of_ble_eq_true rfl) ?_
  intro p e s m args below meth c A H hH0 hx hb hr hlocks hts hown hnm hml ls hl hP hK hD hA hS hN
  have hown : s.vm.findClass R_PR = some m.cls := hown
  have hl : lv_has ls 4 [(0, .ref pr), (1, .int op), (2, .int k), (3, .int b)] := hl
  refine lv_iload_n hx hb d_PR_addRow_0 rfl (lv_at hl 1 rfl) ?_
  refine lv_bipush (v := 9) hx hb d_PR_addRow_1 (by decide) ?_
  refine lv_icmp_gt (tgt := 15) hx hb d_PR_addRow_3 rfl (fun h3 => ?_) (fun h3 => ?_)
  · refine lv_iload_n hx hb d_PR_addRow_15 rfl (lv_at hl 1 rfl) ?_
    refine lv_bipush (v := 21) hx hb d_PR_addRow_16 (by decide) ?_
    refine lv_icmp_gt (tgt := 30) hx hb d_PR_addRow_18 rfl (fun h18 => ?_) (fun h18 => ?_)
    · refine lv_aload_n hx hb d_PR_addRow_30 rfl (lv_at hl 0 rfl) ?_
      refine lv_iload_n hx hb d_PR_addRow_31 rfl (lv_at hl 1 rfl) ?_
      refine lv_iload_n hx hb d_PR_addRow_32 rfl (lv_at hl 2 rfl) ?_
      refine lv_iload_n hx hb d_PR_addRow_33 rfl (lv_at hl 3 rfl) ?_
      have hPc := hP.sub (ws' := [(pr, .inr (2, [.ref nu, .ref xs, .ref ys, .ref be, .ref wh, .int (nI n)])), (nu, .inl (cI, 1024, .inl fn)), (xs, .inl (cI, 1024, .inl fx)), (ys, .inl (cI, 1024, .inl fy))]) [0, 1, 2, 3] rfl
      have hDc := hD.sub (ws' := [(pr, .inr (2, [.ref nu, .ref xs, .ref ys, .ref be, .ref wh, .int (nI n)])), (nu, .inl (cI, 1024, .inl fn)), (xs, .inl (cI, 1024, .inl fx)), (ys, .inl (cI, 1024, .inl fy))]) [0, 1, 2, 3] (by decide) rfl
      have hFc := va_free (wc := [(pr, .inr (2, [.ref nu, .ref xs, .ref ys, .ref be, .ref wh, .int (nI n)])), (nu, .inl (cI, 1024, .inl fn)), (xs, .inl (cI, 1024, .inl fx)), (ys, .inl (cI, 1024, .inl fy))]) hD hS hA [0, 1, 2, 3] rfl
      refine va_callv (va_runV (As := [.int op, .int k, .int b]) (rest := []) ⟨hx, hb, hml, hown, hts⟩ (p_trn l D cI cZ pr nu xs ys be wh n fn fx fy op k b H.size hn) ⟨cB 3 hts k_462 k_61 k_459 hd_PR_addTransfer ⟨Nat.le_of_ble_eq_true rfl, Nat.le_of_ble_eq_true rfl⟩ rfl rfl, hts _ k_461, hts _ k_14⟩ (PcW.preV (va_recv hK hP (q0 := 0) (ci := 2) rfl rfl) hPc hK hDc hN) rfl rfl hl.1 rfl (lv_room (Nat.le_of_ble_eq_true rfl)) d_PR_addRow_34 ⟨Nat.le_of_ble_eq_true rfl, Nat.le_of_ble_eq_true rfl⟩) hS (fun q _ h => hFc q h) hFc (fun u t H1 locs ht hvm e34 hB hz1 hk1 hS => ?_)
      obtain ⟨n134, fn134, fx134, fy134⟩ := u
      obtain ⟨hP1, hK1, hD1⟩ := hB
      rw [ht] at hP1
      obtain ⟨hP, hD⟩ := va_join (wr := []) (w1 := [(pr, .inr (2, [.ref nu, .ref xs, .ref ys, .ref be, .ref wh, .int (nI n134)])), (nu, .inl (cI, 1024, .inl fn134)), (xs, .inl (cI, 1024, .inl fx134)), (ys, .inl (cI, 1024, .inl fy134))]) hP hD [0, 1, 2, 3] [] rfl rfl (by decide) (by decide) hk1 hFc hP1 hD1
      generalize H1 = H at hP hS ⊢
      try dsimp only at e34
      have hP : va_P D vwCl [(pr, .inr (2, [.ref nu, .ref xs, .ref ys, .ref be, .ref wh, .int (nI n134)])), (nu, .inl (cI, 1024, .inl fn134)), (xs, .inl (cI, 1024, .inl fx134)), (ys, .inl (cI, 1024, .inl fy134))] H := hP
      have hD : va_D A [(pr, .inr (2, [.ref nu, .ref xs, .ref ys, .ref be, .ref wh, .int (nI n134)])), (nu, .inl (cI, 1024, .inl fn134)), (xs, .inl (cI, 1024, .inl fx134)), (ys, .inl (cI, 1024, .inl fy134))] := hD
      have hP9 : va_P D vwCl [(pr, .inr (2, [.ref nu, .ref xs, .ref ys, .ref be, .ref wh, .int (nI n134)])), (nu, .inl (cI, 1024, .inl fn134)), (xs, .inl (cI, 1024, .inl fx134)), (ys, .inl (cI, 1024, .inl fy134))] H := hP.sub [0, 1, 2, 3] rfl
      have hD9 : va_D A [(pr, .inr (2, [.ref nu, .ref xs, .ref ys, .ref be, .ref wh, .int (nI n134)])), (nu, .inl (cI, 1024, .inl fn134)), (xs, .inl (cI, 1024, .inl fx134)), (ys, .inl (cI, 1024, .inl fy134))] := hD.sub [0, 1, 2, 3] (by decide) rfl
      exact W.vret hx hb hr (fun t ht hW => ⟨⟨(n134, fn134, fx134, fy134), rfl, ⟨by rw [e34.1]; rw [rowP, if_pos h3, if_pos h18], e34.2⟩, by rw [ht]; exact hP9, va_K.moved hW.alike hK, hD9⟩, hS.F ht⟩) hS.2.2 d_PR_addRow_37
    · refine lv_aload_n hx hb d_PR_addRow_21 rfl (lv_at hl 0 rfl) ?_
      refine lv_iload_n hx hb d_PR_addRow_22 rfl (lv_at hl 1 rfl) ?_
      refine lv_iload_n hx hb d_PR_addRow_23 rfl (lv_at hl 2 rfl) ?_
      have hPc := hP.sub (ws' := [(pr, .inr (2, [.ref nu, .ref xs, .ref ys, .ref be, .ref wh, .int (nI n)])), (nu, .inl (cI, 1024, .inl fn)), (xs, .inl (cI, 1024, .inl fx)), (ys, .inl (cI, 1024, .inl fy))]) [0, 1, 2, 3] rfl
      have hDc := hD.sub (ws' := [(pr, .inr (2, [.ref nu, .ref xs, .ref ys, .ref be, .ref wh, .int (nI n)])), (nu, .inl (cI, 1024, .inl fn)), (xs, .inl (cI, 1024, .inl fx)), (ys, .inl (cI, 1024, .inl fy))]) [0, 1, 2, 3] (by decide) rfl
      have hFc := va_free (wc := [(pr, .inr (2, [.ref nu, .ref xs, .ref ys, .ref be, .ref wh, .int (nI n)])), (nu, .inl (cI, 1024, .inl fn)), (xs, .inl (cI, 1024, .inl fx)), (ys, .inl (cI, 1024, .inl fy))]) hD hS hA [0, 1, 2, 3] rfl
      refine va_callv (va_runV (As := [.int op, .int k]) (rest := []) ⟨hx, hb, hml, hown, hts⟩ (p_sum l D cI cZ pr nu xs ys be wh n fn fx fy op k H.size hn) ⟨cB 2 hts k_450 k_61 k_447 hd_PR_addSum ⟨Nat.le_of_ble_eq_true rfl, Nat.le_of_ble_eq_true rfl⟩ rfl rfl, hts _ k_449, hts _ k_11⟩ (PcW.preV (va_recv hK hP (q0 := 0) (ci := 2) rfl rfl) hPc hK hDc hN) rfl rfl hl.1 rfl (lv_room (Nat.le_of_ble_eq_true rfl)) d_PR_addRow_24 ⟨Nat.le_of_ble_eq_true rfl, Nat.le_of_ble_eq_true rfl⟩) hS (fun q _ h => hFc q h) hFc (fun u t H1 locs ht hvm e24 hB hz1 hk1 hS => ?_)
      obtain ⟨n124, fn124, fx124, fy124⟩ := u
      obtain ⟨hP1, hK1, hD1⟩ := hB
      rw [ht] at hP1
      obtain ⟨hP, hD⟩ := va_join (wr := []) (w1 := [(pr, .inr (2, [.ref nu, .ref xs, .ref ys, .ref be, .ref wh, .int (nI n124)])), (nu, .inl (cI, 1024, .inl fn124)), (xs, .inl (cI, 1024, .inl fx124)), (ys, .inl (cI, 1024, .inl fy124))]) hP hD [0, 1, 2, 3] [] rfl rfl (by decide) (by decide) hk1 hFc hP1 hD1
      generalize H1 = H at hP hS ⊢
      try dsimp only at e24
      have hP : va_P D vwCl [(pr, .inr (2, [.ref nu, .ref xs, .ref ys, .ref be, .ref wh, .int (nI n124)])), (nu, .inl (cI, 1024, .inl fn124)), (xs, .inl (cI, 1024, .inl fx124)), (ys, .inl (cI, 1024, .inl fy124))] H := hP
      have hD : va_D A [(pr, .inr (2, [.ref nu, .ref xs, .ref ys, .ref be, .ref wh, .int (nI n124)])), (nu, .inl (cI, 1024, .inl fn124)), (xs, .inl (cI, 1024, .inl fx124)), (ys, .inl (cI, 1024, .inl fy124))] := hD
      refine lv_goto (tgt := 37) hx hb d_PR_addRow_27 rfl ?_
      have hP9 : va_P D vwCl [(pr, .inr (2, [.ref nu, .ref xs, .ref ys, .ref be, .ref wh, .int (nI n124)])), (nu, .inl (cI, 1024, .inl fn124)), (xs, .inl (cI, 1024, .inl fx124)), (ys, .inl (cI, 1024, .inl fy124))] H := hP.sub [0, 1, 2, 3] rfl
      have hD9 : va_D A [(pr, .inr (2, [.ref nu, .ref xs, .ref ys, .ref be, .ref wh, .int (nI n124)])), (nu, .inl (cI, 1024, .inl fn124)), (xs, .inl (cI, 1024, .inl fx124)), (ys, .inl (cI, 1024, .inl fy124))] := hD.sub [0, 1, 2, 3] (by decide) rfl
      exact W.vret hx hb hr (fun t ht hW => ⟨⟨(n124, fn124, fx124, fy124), rfl, ⟨by rw [e24.1]; rw [rowP, if_pos h3, if_neg h18], e24.2⟩, by rw [ht]; exact hP9, va_K.moved hW.alike hK, hD9⟩, hS.F ht⟩) hS.2.2 d_PR_addRow_37
  · refine lv_aload_n hx hb d_PR_addRow_6 rfl (lv_at hl 0 rfl) ?_
    refine lv_iload_n hx hb d_PR_addRow_7 rfl (lv_at hl 1 rfl) ?_
    refine lv_iload_n hx hb d_PR_addRow_8 rfl (lv_at hl 2 rfl) ?_
    have hPc := hP.sub (ws' := [(pr, .inr (2, [.ref nu, .ref xs, .ref ys, .ref be, .ref wh, .int (nI n)])), (nu, .inl (cI, 1024, .inl fn)), (xs, .inl (cI, 1024, .inl fx)), (ys, .inl (cI, 1024, .inl fy))]) [0, 1, 2, 3] rfl
    have hDc := hD.sub (ws' := [(pr, .inr (2, [.ref nu, .ref xs, .ref ys, .ref be, .ref wh, .int (nI n)])), (nu, .inl (cI, 1024, .inl fn)), (xs, .inl (cI, 1024, .inl fx)), (ys, .inl (cI, 1024, .inl fy))]) [0, 1, 2, 3] (by decide) rfl
    have hFc := va_free (wc := [(pr, .inr (2, [.ref nu, .ref xs, .ref ys, .ref be, .ref wh, .int (nI n)])), (nu, .inl (cI, 1024, .inl fn)), (xs, .inl (cI, 1024, .inl fx)), (ys, .inl (cI, 1024, .inl fy))]) hD hS hA [0, 1, 2, 3] rfl
    refine va_callv (va_runV (As := [.int op, .int k]) (rest := []) ⟨hx, hb, hml, hown, hts⟩ (p_mov l D cI cZ pr nu xs ys be wh n fn fx fy op k H.size hn) ⟨cB 2 hts k_438 k_61 k_435 hd_PR_addMove ⟨Nat.le_of_ble_eq_true rfl, Nat.le_of_ble_eq_true rfl⟩ rfl rfl, hts _ k_437, hts _ k_8⟩ (PcW.preV (va_recv hK hP (q0 := 0) (ci := 2) rfl rfl) hPc hK hDc hN) rfl rfl hl.1 rfl (lv_room (Nat.le_of_ble_eq_true rfl)) d_PR_addRow_9 ⟨Nat.le_of_ble_eq_true rfl, Nat.le_of_ble_eq_true rfl⟩) hS (fun q _ h => hFc q h) hFc (fun u t H1 locs ht hvm e9 hB hz1 hk1 hS => ?_)
    obtain ⟨n19, fn19, fx19, fy19⟩ := u
    obtain ⟨hP1, hK1, hD1⟩ := hB
    rw [ht] at hP1
    obtain ⟨hP, hD⟩ := va_join (wr := []) (w1 := [(pr, .inr (2, [.ref nu, .ref xs, .ref ys, .ref be, .ref wh, .int (nI n19)])), (nu, .inl (cI, 1024, .inl fn19)), (xs, .inl (cI, 1024, .inl fx19)), (ys, .inl (cI, 1024, .inl fy19))]) hP hD [0, 1, 2, 3] [] rfl rfl (by decide) (by decide) hk1 hFc hP1 hD1
    generalize H1 = H at hP hS ⊢
    try dsimp only at e9
    have hP : va_P D vwCl [(pr, .inr (2, [.ref nu, .ref xs, .ref ys, .ref be, .ref wh, .int (nI n19)])), (nu, .inl (cI, 1024, .inl fn19)), (xs, .inl (cI, 1024, .inl fx19)), (ys, .inl (cI, 1024, .inl fy19))] H := hP
    have hD : va_D A [(pr, .inr (2, [.ref nu, .ref xs, .ref ys, .ref be, .ref wh, .int (nI n19)])), (nu, .inl (cI, 1024, .inl fn19)), (xs, .inl (cI, 1024, .inl fx19)), (ys, .inl (cI, 1024, .inl fy19))] := hD
    refine lv_goto (tgt := 37) hx hb d_PR_addRow_12 rfl ?_
    have hP9 : va_P D vwCl [(pr, .inr (2, [.ref nu, .ref xs, .ref ys, .ref be, .ref wh, .int (nI n19)])), (nu, .inl (cI, 1024, .inl fn19)), (xs, .inl (cI, 1024, .inl fx19)), (ys, .inl (cI, 1024, .inl fy19))] H := hP.sub [0, 1, 2, 3] rfl
    have hD9 : va_D A [(pr, .inr (2, [.ref nu, .ref xs, .ref ys, .ref be, .ref wh, .int (nI n19)])), (nu, .inl (cI, 1024, .inl fn19)), (xs, .inl (cI, 1024, .inl fx19)), (ys, .inl (cI, 1024, .inl fy19))] := hD.sub [0, 1, 2, 3] (by decide) rfl
    exact W.vret hx hb hr (fun t ht hW => ⟨⟨(n19, fn19, fx19, fy19), rfl, ⟨by rw [e9.1]; rw [rowP, if_neg h3], e9.2⟩, by rw [ht]; exact hP9, va_K.moved hW.alike hK, hD9⟩, hS.F ht⟩) hS.2.2 d_PR_addRow_37
