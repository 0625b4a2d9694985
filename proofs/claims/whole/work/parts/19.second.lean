set_option maxHeartbeats 4000000 in
set_option maxRecDepth 100000 in
theorem m_SM_move (l : Launch) (D : va_G) (cI cZ : ClassId) (o : Nat) (mm : Nat) (a : Int32) (x : Int32) (sp : Int32) (pc : Int32) (zf : Bool) (cf : Bool) (st : Int32) (dn : Int32) (pr : Nat) (r2 : Int32) (kp : Bool) (g : Nat → Int32) (nb : Int32) (i : Int32) (j : Int32) (sz : Nat) : MetV l y_SM_move w_SM_move { frames := 1, cells := 0, slots := 0, locals := 22 } D cI cZ [.ref o, .int nb, .int i, .int j] [(o, .inr (4, [.ref mm, .int a, .int x, .int sp, .int pc, .int (bI zf), .int (bI cf), .int st, .int dn, .ref pr, .int r2, .int (bI kp)])), (mm, .inl (cI, 256, .inl g))] sz (fun (u : (Nat → Int32) × Int32 × Int32 × Int32 × Int32 × Bool × Bool × Int32 × Int32 × Bool) => match u with | (g1, a1, x1, sp1, pc1, z1, c1, st1, r21, kp1) => (g1, a1, x1, sp1, pc1, z1, c1, st1, r21, kp1) = sMove nb i j g a x sp pc zf cf st r2 kp) (fun (u : (Nat → Int32) × Int32 × Int32 × Int32 × Int32 × Bool × Bool × Int32 × Int32 × Bool) => match u with | (g1, a1, x1, sp1, pc1, z1, c1, st1, r21, kp1) => [(o, .inr (4, [.ref mm, .int a1, .int x1, .int sp1, .int pc1, .int (bI z1), .int (bI c1), .int st1, .int dn, .ref pr, .int r21, .int (bI kp1)])), (mm, .inl (cI, 256, .inl g1))]) 0 0 := by
  refine ofV (cc := c_SM_move) (maxL := 4) (ret := none) (by decide) rfl (Nat.le_of_ble_eq_true rfl) ?_
  intro p e s m args below meth c A H hH0 hx hb hr hlocks hts hown hnm hml ls hl hP hK hD hA hS hN
  have hown : s.vm.findClass R_SM = some m.cls := hown
  have hl : lv_has ls 4 [(0, .ref o), (1, .int nb), (2, .int i), (3, .int j)] := hl
  refine lv_iload_n hx hb d_SM_move_0 rfl (lv_at hl 1 rfl) ?_
  rcases sw_cases nb 2 6 with h1 | ⟨j1, hj1, h1⟩
  · refine lv_tableOut (tgt := 122) hx hb d_SM_move_1 h1 rfl ?_
    have n1_2 : ¬ nb = 2 := fun h9 => by rw [h9] at h1; revert h1; decide
    have n1_3 : ¬ nb = 3 := fun h9 => by rw [h9] at h1; revert h1; decide
    have n1_4 : ¬ nb = 4 := fun h9 => by rw [h9] at h1; revert h1; decide
    have n1_5 : ¬ nb = 5 := fun h9 => by rw [h9] at h1; revert h1; decide
    have n1_6 : ¬ nb = 6 := fun h9 => by rw [h9] at h1; revert h1; decide
    have n1_7 : ¬ nb = 7 := fun h9 => by rw [h9] at h1; revert h1; decide
    have hP9 : va_P D vwCl [(o, .inr (4, [.ref mm, .int a, .int x, .int sp, .int pc, .int (bI zf), .int (bI cf), .int st, .int dn, .ref pr, .int r2, .int (bI kp)])), (mm, .inl (cI, 256, .inl g))] H := hP.sub [0, 1] rfl
    have hD9 : va_D A [(o, .inr (4, [.ref mm, .int a, .int x, .int sp, .int pc, .int (bI zf), .int (bI cf), .int st, .int dn, .ref pr, .int r2, .int (bI kp)])), (mm, .inl (cI, 256, .inl g))] := hD.sub [0, 1] (by decide) rfl
    exact W.vret hx hb hr (fun t ht hW => ⟨⟨(g, a, x, sp, pc, zf, cf, st, r2, kp), rfl, by first | (simp only [sMove, sSet, sumI, sumC, difI, difC, dblI, dblC, hlvI, hlvC, n1_2, n1_3, n1_4, n1_5, n1_6, n1_7, ↓reduceIte, not_true_eq_false, not_false_eq_true, and_true, true_and, and_false, false_and, and_self, or_true, true_or, or_false, false_or, decide_true, decide_false, Bool.false_eq_true, reduceCtorEq]; done) | (simp_all [sMove, sSet, sumI, sumC, difI, difC, dblI, dblC, hlvI, hlvC]; done), by rw [ht]; exact hP9, va_K.moved hW.alike hK, hD9⟩, hS.F ht⟩) hS.2.2 d_SM_move_122
  · match j1, hj1, h1 with
    | 0, _, h1 =>
      have h1 : nb = 2 := h1
      refine lv_tableIn (off := 39) (tgt := 40) hx hb d_SM_move_1 (by rw [h1]; decide) (by rw [h1]; decide) (by rw [h1]; rfl) rfl ?_
      refine lv_aload_n hx hb d_SM_move_40 rfl (lv_at hl 0 rfl) ?_
      refine lv_iload_n hx hb d_SM_move_41 rfl (lv_at hl 2 rfl) ?_
      refine lv_iload_n hx hb d_SM_move_42 rfl (lv_at hl 3 rfl) ?_
      have hPc := hP.sub (ws' := [(o, .inr (4, [.ref mm, .int a, .int x, .int sp, .int pc, .int (bI zf), .int (bI cf), .int st, .int dn, .ref pr, .int r2, .int (bI kp)]))]) [0] rfl
      have hDc := hD.sub (ws' := [(o, .inr (4, [.ref mm, .int a, .int x, .int sp, .int pc, .int (bI zf), .int (bI cf), .int st, .int dn, .ref pr, .int r2, .int (bI kp)]))]) [0] (by decide) rfl
      have hFc := va_free (wc := [(o, .inr (4, [.ref mm, .int a, .int x, .int sp, .int pc, .int (bI zf), .int (bI cf), .int st, .int dn, .ref pr, .int r2, .int (bI kp)]))]) hD hS hA [0] rfl
      refine va_callv (va_runV (As := [.int i, .int j]) (rest := []) ⟨hx, hb, hml, hown, hts⟩ (m_SM_setRegister l D cI cZ o mm a x sp pc zf cf st dn pr r2 kp i j H.size) ⟨cB 2 hts k_624 k_60 k_621 hd_SM_setRegister ⟨Nat.le_of_ble_eq_true rfl, Nat.le_of_ble_eq_true rfl⟩ rfl rfl, hts _ k_623, hts _ k_23⟩ (PcW.preV (va_recv hK hP (q0 := 0) (ci := 4) rfl rfl) hPc hK hDc hN) rfl rfl hl.1 rfl (lv_room (Nat.le_of_ble_eq_true rfl)) d_SM_move_43 ⟨Nat.le_of_ble_eq_true rfl, Nat.le_of_ble_eq_true rfl⟩) hS (fun q _ h => hFc q h) hFc (fun u t H1 locs ht hvm e43 hB hz1 hk1 hS => ?_)
      obtain ⟨a143, x143, r2143⟩ := u
      obtain ⟨hP1, hK1, hD1⟩ := hB
      rw [ht] at hP1
      obtain ⟨hP, hD⟩ := va_join (wr := [(mm, .inl (cI, 256, .inl g))]) (w1 := [(o, .inr (4, [.ref mm, .int a143, .int x143, .int sp, .int pc, .int (bI zf), .int (bI cf), .int st, .int dn, .ref pr, .int r2143, .int (bI kp)]))]) hP hD [0] [1] rfl rfl (by decide) (by decide) hk1 hFc hP1 hD1
      generalize H1 = H at hP hS ⊢
      try dsimp only at e43
      obtain ⟨e43_0, e43_1, e43_2⟩ := e43
      replace e43_0 := e43_0.symm
      subst e43_0
      replace e43_1 := e43_1.symm
      subst e43_1
      replace e43_2 := e43_2.symm
      subst e43_2
      have hP : va_P D vwCl [(mm, .inl (cI, 256, .inl g)), (o, .inr (4, [.ref mm, .int (setA i j a), .int (setX i j x), .int sp, .int pc, .int (bI zf), .int (bI cf), .int st, .int dn, .ref pr, .int (setR i j r2), .int (bI kp)]))] H := hP
      have hD : va_D A [(mm, .inl (cI, 256, .inl g)), (o, .inr (4, [.ref mm, .int (setA i j a), .int (setX i j x), .int sp, .int pc, .int (bI zf), .int (bI cf), .int st, .int dn, .ref pr, .int (setR i j r2), .int (bI kp)]))] := hD
      refine lv_goto (tgt := 122) hx hb d_SM_move_46 rfl ?_
      have hP9 : va_P D vwCl [(o, .inr (4, [.ref mm, .int (setA i j a), .int (setX i j x), .int sp, .int pc, .int (bI zf), .int (bI cf), .int st, .int dn, .ref pr, .int (setR i j r2), .int (bI kp)])), (mm, .inl (cI, 256, .inl g))] H := hP.sub [1, 0] rfl
      have hD9 : va_D A [(o, .inr (4, [.ref mm, .int (setA i j a), .int (setX i j x), .int sp, .int pc, .int (bI zf), .int (bI cf), .int st, .int dn, .ref pr, .int (setR i j r2), .int (bI kp)])), (mm, .inl (cI, 256, .inl g))] := hD.sub [1, 0] (by decide) rfl
      exact W.vret hx hb hr (fun t ht hW => ⟨⟨(g, setA i j a, setX i j x, sp, pc, zf, cf, st, setR i j r2, kp), rfl, by first | (rw [h1]; rfl) | (rw [h1]; simp [sMove, sSet, sumI, sumC, difI, difC, dblI, dblC, hlvI, hlvC]; done) | (rw [h1]; simp [sMove, sSet, sumI, sumC, difI, difC, dblI, dblC, hlvI, hlvC]; done), by rw [ht]; exact hP9, va_K.moved hW.alike hK, hD9⟩, hS.F ht⟩) hS.2.2 d_SM_move_122
    | 1, _, h1 =>
      have h1 : nb = 3 := h1
      refine lv_tableIn (off := 48) (tgt := 49) hx hb d_SM_move_1 (by rw [h1]; decide) (by rw [h1]; decide) (by rw [h1]; rfl) rfl ?_
      refine lv_aload_n hx hb d_SM_move_49 rfl (lv_at hl 0 rfl) ?_
      refine lv_iload_n hx hb d_SM_move_50 rfl (lv_at hl 2 rfl) ?_
      refine lv_aload_n hx hb d_SM_move_51 rfl (lv_at hl 0 rfl) ?_
      refine lv_iload_n hx hb d_SM_move_52 rfl (lv_at hl 3 rfl) ?_
      have hPc := hP.sub (ws' := [(o, .inr (4, [.ref mm, .int a, .int x, .int sp, .int pc, .int (bI zf), .int (bI cf), .int st, .int dn, .ref pr, .int r2, .int (bI kp)]))]) [0] rfl
      refine vp_callSi (va_runV (As := [.int j]) (rest := [.int i, .ref o]) ⟨hx, hb, hml, hown, hts⟩ (m_SM_register l D cI cZ o mm a x sp pc zf cf st dn pr r2 kp j) ⟨cB 1 hts k_611 k_60 k_608 hd_SM_register ⟨Nat.le_of_ble_eq_true rfl, Nat.le_of_ble_eq_true rfl⟩ rfl rfl, hts _ k_610, hts _ k_20⟩ (PcR.preV (va_recv hK hP (q0 := 0) (ci := 4) rfl rfl) hPc hK hN) rfl rfl hl.1 rfl (lv_room (Nat.le_of_ble_eq_true rfl)) d_SM_move_53 ⟨Nat.le_of_ble_eq_true rfl, Nat.le_of_ble_eq_true rfl⟩).run (fun r53 e53 => ?_)
      replace e53 := e53.symm
      subst e53
      have hPc := hP.sub (ws' := [(o, .inr (4, [.ref mm, .int a, .int x, .int sp, .int pc, .int (bI zf), .int (bI cf), .int st, .int dn, .ref pr, .int r2, .int (bI kp)]))]) [0] rfl
      have hDc := hD.sub (ws' := [(o, .inr (4, [.ref mm, .int a, .int x, .int sp, .int pc, .int (bI zf), .int (bI cf), .int st, .int dn, .ref pr, .int r2, .int (bI kp)]))]) [0] (by decide) rfl
      have hFc := va_free (wc := [(o, .inr (4, [.ref mm, .int a, .int x, .int sp, .int pc, .int (bI zf), .int (bI cf), .int st, .int dn, .ref pr, .int r2, .int (bI kp)]))]) hD hS hA [0] rfl
      refine va_callv (va_runV (As := [.int i, .int (regI j a x r2)]) (rest := []) ⟨hx, hb, hml, hown, hts⟩ (m_SM_setRegister l D cI cZ o mm a x sp pc zf cf st dn pr r2 kp i (regI j a x r2) H.size) ⟨cB 2 hts k_624 k_60 k_621 hd_SM_setRegister ⟨Nat.le_of_ble_eq_true rfl, Nat.le_of_ble_eq_true rfl⟩ rfl rfl, hts _ k_623, hts _ k_23⟩ (PcW.preV (va_recv hK hP (q0 := 0) (ci := 4) rfl rfl) hPc hK hDc hN) rfl rfl hl.1 rfl (lv_room (Nat.le_of_ble_eq_true rfl)) d_SM_move_56 ⟨Nat.le_of_ble_eq_true rfl, Nat.le_of_ble_eq_true rfl⟩) hS (fun q _ h => hFc q h) hFc (fun u t H1 locs ht hvm e56 hB hz1 hk1 hS => ?_)
      obtain ⟨a156, x156, r2156⟩ := u
      obtain ⟨hP1, hK1, hD1⟩ := hB
      rw [ht] at hP1
      obtain ⟨hP, hD⟩ := va_join (wr := [(mm, .inl (cI, 256, .inl g))]) (w1 := [(o, .inr (4, [.ref mm, .int a156, .int x156, .int sp, .int pc, .int (bI zf), .int (bI cf), .int st, .int dn, .ref pr, .int r2156, .int (bI kp)]))]) hP hD [0] [1] rfl rfl (by decide) (by decide) hk1 hFc hP1 hD1
      generalize H1 = H at hP hS ⊢
      try dsimp only at e56
      obtain ⟨e56_0, e56_1, e56_2⟩ := e56
      replace e56_0 := e56_0.symm
      subst e56_0
      replace e56_1 := e56_1.symm
      subst e56_1
      replace e56_2 := e56_2.symm
      subst e56_2
      have hP : va_P D vwCl [(mm, .inl (cI, 256, .inl g)), (o, .inr (4, [.ref mm, .int (setA i (regI j a x r2) a), .int (setX i (regI j a x r2) x), .int sp, .int pc, .int (bI zf), .int (bI cf), .int st, .int dn, .ref pr, .int (setR i (regI j a x r2) r2), .int (bI kp)]))] H := hP
      have hD : va_D A [(mm, .inl (cI, 256, .inl g)), (o, .inr (4, [.ref mm, .int (setA i (regI j a x r2) a), .int (setX i (regI j a x r2) x), .int sp, .int pc, .int (bI zf), .int (bI cf), .int st, .int dn, .ref pr, .int (setR i (regI j a x r2) r2), .int (bI kp)]))] := hD
      refine lv_goto (tgt := 122) hx hb d_SM_move_59 rfl ?_
      have hP9 : va_P D vwCl [(o, .inr (4, [.ref mm, .int (setA i (regI j a x r2) a), .int (setX i (regI j a x r2) x), .int sp, .int pc, .int (bI zf), .int (bI cf), .int st, .int dn, .ref pr, .int (setR i (regI j a x r2) r2), .int (bI kp)])), (mm, .inl (cI, 256, .inl g))] H := hP.sub [1, 0] rfl
      have hD9 : va_D A [(o, .inr (4, [.ref mm, .int (setA i (regI j a x r2) a), .int (setX i (regI j a x r2) x), .int sp, .int pc, .int (bI zf), .int (bI cf), .int st, .int dn, .ref pr, .int (setR i (regI j a x r2) r2), .int (bI kp)])), (mm, .inl (cI, 256, .inl g))] := hD.sub [1, 0] (by decide) rfl
      exact W.vret hx hb hr (fun t ht hW => ⟨⟨(g, setA i (regI j a x r2) a, setX i (regI j a x r2) x, sp, pc, zf, cf, st, setR i (regI j a x r2) r2, kp), rfl, by first | (rw [h1]; rfl) | (rw [h1]; simp [sMove, sSet, sumI, sumC, difI, difC, dblI, dblC, hlvI, hlvC]; done) | (rw [h1]; simp [sMove, sSet, sumI, sumC, difI, difC, dblI, dblC, hlvI, hlvC]; done), by rw [ht]; exact hP9, va_K.moved hW.alike hK, hD9⟩, hS.F ht⟩) hS.2.2 d_SM_move_122
    | 2, _, h1 =>
      have h1 : nb = 4 := h1
      refine lv_tableIn (off := 61) (tgt := 62) hx hb d_SM_move_1 (by rw [h1]; decide) (by rw [h1]; decide) (by rw [h1]; rfl) rfl ?_
      refine lv_aload_n hx hb d_SM_move_62 rfl (lv_at hl 0 rfl) ?_
      refine lv_iload_n hx hb d_SM_move_63 rfl (lv_at hl 2 rfl) ?_
      refine lv_aload_n hx hb d_SM_move_64 rfl (lv_at hl 0 rfl) ?_
      refine lv_iload_n hx hb d_SM_move_65 rfl (lv_at hl 3 rfl) ?_
      have hPc := hP.sub (ws' := [(o, .inr (4, [.ref mm, .int a, .int x, .int sp, .int pc, .int (bI zf), .int (bI cf), .int st, .int dn, .ref pr, .int r2, .int (bI kp)])), (mm, .inl (cI, 256, .inl g))]) [0, 1] rfl
      refine vp_callSi (va_runU (As := [.int j]) (rest := [.int i, .ref o]) ⟨hx, hb, hml, hown, hts⟩ (m_SM_peek l D cI cZ o mm a x sp pc zf cf st dn pr r2 kp g j) (va_cwU 1 hts (gU k_625 k_626 k_627 k_296 k_58 k_300) rfl rfl rfl rfl hd_MA_peek ⟨Nat.le_of_ble_eq_true rfl, Nat.le_of_ble_eq_true rfl⟩) (PcR.preV (va_recv hK hP (q0 := 0) (ci := 4) rfl rfl) hPc hK hN) rfl rfl hl.1 rfl (lv_room (Nat.le_of_ble_eq_true rfl)) d_SM_move_66 ⟨Nat.le_of_ble_eq_true rfl, Nat.le_of_ble_eq_true rfl⟩).run (fun r66 e66 => ?_)
      replace e66 := e66.symm
      subst e66
      have hPc := hP.sub (ws' := [(o, .inr (4, [.ref mm, .int a, .int x, .int sp, .int pc, .int (bI zf), .int (bI cf), .int st, .int dn, .ref pr, .int r2, .int (bI kp)]))]) [0] rfl
      have hDc := hD.sub (ws' := [(o, .inr (4, [.ref mm, .int a, .int x, .int sp, .int pc, .int (bI zf), .int (bI cf), .int st, .int dn, .ref pr, .int r2, .int (bI kp)]))]) [0] (by decide) rfl
      have hFc := va_free (wc := [(o, .inr (4, [.ref mm, .int a, .int x, .int sp, .int pc, .int (bI zf), .int (bI cf), .int st, .int dn, .ref pr, .int r2, .int (bI kp)]))]) hD hS hA [0] rfl
      refine va_callv (va_runV (As := [.int i, .int (rd g j)]) (rest := []) ⟨hx, hb, hml, hown, hts⟩ (m_SM_setRegister l D cI cZ o mm a x sp pc zf cf st dn pr r2 kp i (rd g j) H.size) ⟨cB 2 hts k_624 k_60 k_621 hd_SM_setRegister ⟨Nat.le_of_ble_eq_true rfl, Nat.le_of_ble_eq_true rfl⟩ rfl rfl, hts _ k_623, hts _ k_23⟩ (PcW.preV (va_recv hK hP (q0 := 0) (ci := 4) rfl rfl) hPc hK hDc hN) rfl rfl hl.1 rfl (lv_room (Nat.le_of_ble_eq_true rfl)) d_SM_move_69 ⟨Nat.le_of_ble_eq_true rfl, Nat.le_of_ble_eq_true rfl⟩) hS (fun q _ h => hFc q h) hFc (fun u t H1 locs ht hvm e69 hB hz1 hk1 hS => ?_)
      obtain ⟨a169, x169, r2169⟩ := u
      obtain ⟨hP1, hK1, hD1⟩ := hB
      rw [ht] at hP1
      obtain ⟨hP, hD⟩ := va_join (wr := [(mm, .inl (cI, 256, .inl g))]) (w1 := [(o, .inr (4, [.ref mm, .int a169, .int x169, .int sp, .int pc, .int (bI zf), .int (bI cf), .int st, .int dn, .ref pr, .int r2169, .int (bI kp)]))]) hP hD [0] [1] rfl rfl (by decide) (by decide) hk1 hFc hP1 hD1
      generalize H1 = H at hP hS ⊢
      try dsimp only at e69
      obtain ⟨e69_0, e69_1, e69_2⟩ := e69
      replace e69_0 := e69_0.symm
      subst e69_0
      replace e69_1 := e69_1.symm
      subst e69_1
      replace e69_2 := e69_2.symm
      subst e69_2
      have hP : va_P D vwCl [(mm, .inl (cI, 256, .inl g)), (o, .inr (4, [.ref mm, .int (setA i (rd g j) a), .int (setX i (rd g j) x), .int sp, .int pc, .int (bI zf), .int (bI cf), .int st, .int dn, .ref pr, .int (setR i (rd g j) r2), .int (bI kp)]))] H := hP
      have hD : va_D A [(mm, .inl (cI, 256, .inl g)), (o, .inr (4, [.ref mm, .int (setA i (rd g j) a), .int (setX i (rd g j) x), .int sp, .int pc, .int (bI zf), .int (bI cf), .int st, .int dn, .ref pr, .int (setR i (rd g j) r2), .int (bI kp)]))] := hD
      refine lv_goto (tgt := 122) hx hb d_SM_move_72 rfl ?_
      have hP9 : va_P D vwCl [(o, .inr (4, [.ref mm, .int (setA i (rd g j) a), .int (setX i (rd g j) x), .int sp, .int pc, .int (bI zf), .int (bI cf), .int st, .int dn, .ref pr, .int (setR i (rd g j) r2), .int (bI kp)])), (mm, .inl (cI, 256, .inl g))] H := hP.sub [1, 0] rfl
      have hD9 : va_D A [(o, .inr (4, [.ref mm, .int (setA i (rd g j) a), .int (setX i (rd g j) x), .int sp, .int pc, .int (bI zf), .int (bI cf), .int st, .int dn, .ref pr, .int (setR i (rd g j) r2), .int (bI kp)])), (mm, .inl (cI, 256, .inl g))] := hD.sub [1, 0] (by decide) rfl
      exact W.vret hx hb hr (fun t ht hW => ⟨⟨(g, setA i (rd g j) a, setX i (rd g j) x, sp, pc, zf, cf, st, setR i (rd g j) r2, kp), rfl, by first | (rw [h1]; rfl) | (rw [h1]; simp [sMove, sSet, sumI, sumC, difI, difC, dblI, dblC, hlvI, hlvC]; done) | (rw [h1]; simp [sMove, sSet, sumI, sumC, difI, difC, dblI, dblC, hlvI, hlvC]; done), by rw [ht]; exact hP9, va_K.moved hW.alike hK, hD9⟩, hS.F ht⟩) hS.2.2 d_SM_move_122
    | 3, _, h1 =>
      have h1 : nb = 5 := h1
      refine lv_tableIn (off := 74) (tgt := 75) hx hb d_SM_move_1 (by rw [h1]; decide) (by rw [h1]; decide) (by rw [h1]; rfl) rfl ?_
      refine lv_aload_n hx hb d_SM_move_75 rfl (lv_at hl 0 rfl) ?_
      refine lv_iload_n hx hb d_SM_move_76 rfl (lv_at hl 3 rfl) ?_
      refine lv_aload_n hx hb d_SM_move_77 rfl (lv_at hl 0 rfl) ?_
      refine lv_iload_n hx hb d_SM_move_78 rfl (lv_at hl 2 rfl) ?_
      have hPc := hP.sub (ws' := [(o, .inr (4, [.ref mm, .int a, .int x, .int sp, .int pc, .int (bI zf), .int (bI cf), .int st, .int dn, .ref pr, .int r2, .int (bI kp)]))]) [0] rfl
      refine vp_callSi (va_runV (As := [.int i]) (rest := [.int j, .ref o]) ⟨hx, hb, hml, hown, hts⟩ (m_SM_register l D cI cZ o mm a x sp pc zf cf st dn pr r2 kp i) ⟨cB 1 hts k_611 k_60 k_608 hd_SM_register ⟨Nat.le_of_ble_eq_true rfl, Nat.le_of_ble_eq_true rfl⟩ rfl rfl, hts _ k_610, hts _ k_20⟩ (PcR.preV (va_recv hK hP (q0 := 0) (ci := 4) rfl rfl) hPc hK hN) rfl rfl hl.1 rfl (lv_room (Nat.le_of_ble_eq_true rfl)) d_SM_move_79 ⟨Nat.le_of_ble_eq_true rfl, Nat.le_of_ble_eq_true rfl⟩).run (fun r79 e79 => ?_)
      replace e79 := e79.symm
      subst e79
      have hPc := hP.sub (ws' := [(o, .inr (4, [.ref mm, .int a, .int x, .int sp, .int pc, .int (bI zf), .int (bI cf), .int st, .int dn, .ref pr, .int r2, .int (bI kp)])), (mm, .inl (cI, 256, .inl g))]) [0, 1] rfl
      have hDc := hD.sub (ws' := [(o, .inr (4, [.ref mm, .int a, .int x, .int sp, .int pc, .int (bI zf), .int (bI cf), .int st, .int dn, .ref pr, .int r2, .int (bI kp)])), (mm, .inl (cI, 256, .inl g))]) [0, 1] (by decide) rfl
      have hFc := va_free (wc := [(o, .inr (4, [.ref mm, .int a, .int x, .int sp, .int pc, .int (bI zf), .int (bI cf), .int st, .int dn, .ref pr, .int r2, .int (bI kp)])), (mm, .inl (cI, 256, .inl g))]) hD hS hA [0, 1] rfl
      refine va_callv (va_runU (As := [.int j, .int (regI i a x r2)]) (rest := []) ⟨hx, hb, hml, hown, hts⟩ (m_SM_poke l D cI cZ o mm a x sp pc zf cf st dn pr r2 kp g j (regI i a x r2) H.size) (va_cwU 2 hts (gU k_628 k_629 k_630 k_543 k_58 k_544) rfl rfl rfl rfl hd_MA_poke ⟨Nat.le_of_ble_eq_true rfl, Nat.le_of_ble_eq_true rfl⟩) (PcW.preV (va_recv hK hP (q0 := 0) (ci := 4) rfl rfl) hPc hK hDc hN) rfl rfl hl.1 rfl (lv_room (Nat.le_of_ble_eq_true rfl)) d_SM_move_82 ⟨Nat.le_of_ble_eq_true rfl, Nat.le_of_ble_eq_true rfl⟩) hS (fun q _ h => hFc q h) hFc (fun u t H1 locs ht hvm e82 hB hz1 hk1 hS => ?_)
      obtain ⟨g182, rfl⟩ : ∃ z, z = u := ⟨_, rfl⟩
      obtain ⟨hP1, hK1, hD1⟩ := hB
      rw [ht] at hP1
      obtain ⟨hP, hD⟩ := va_join (wr := []) (w1 := [(o, .inr (4, [.ref mm, .int a, .int x, .int sp, .int pc, .int (bI zf), .int (bI cf), .int st, .int dn, .ref pr, .int r2, .int (bI kp)])), (mm, .inl (cI, 256, .inl g182))]) hP hD [0, 1] [] rfl rfl (by decide) (by decide) hk1 hFc hP1 hD1
      generalize H1 = H at hP hS ⊢
      try dsimp only at e82
      have e82_0 := e82
      replace e82_0 := e82_0.symm
      subst e82_0
      have hP : va_P D vwCl [(o, .inr (4, [.ref mm, .int a, .int x, .int sp, .int pc, .int (bI zf), .int (bI cf), .int st, .int dn, .ref pr, .int r2, .int (bI kp)])), (mm, .inl (cI, 256, .inl (wr g j (regI i a x r2))))] H := hP
      have hD : va_D A [(o, .inr (4, [.ref mm, .int a, .int x, .int sp, .int pc, .int (bI zf), .int (bI cf), .int st, .int dn, .ref pr, .int r2, .int (bI kp)])), (mm, .inl (cI, 256, .inl (wr g j (regI i a x r2))))] := hD
      refine lv_goto (tgt := 122) hx hb d_SM_move_85 rfl ?_
      have hP9 : va_P D vwCl [(o, .inr (4, [.ref mm, .int a, .int x, .int sp, .int pc, .int (bI zf), .int (bI cf), .int st, .int dn, .ref pr, .int r2, .int (bI kp)])), (mm, .inl (cI, 256, .inl (wr g j (regI i a x r2))))] H := hP.sub [0, 1] rfl
      have hD9 : va_D A [(o, .inr (4, [.ref mm, .int a, .int x, .int sp, .int pc, .int (bI zf), .int (bI cf), .int st, .int dn, .ref pr, .int r2, .int (bI kp)])), (mm, .inl (cI, 256, .inl (wr g j (regI i a x r2))))] := hD.sub [0, 1] (by decide) rfl
      exact W.vret hx hb hr (fun t ht hW => ⟨⟨(wr g j (regI i a x r2), a, x, sp, pc, zf, cf, st, r2, kp), rfl, by first | (rw [h1]; rfl) | (rw [h1]; simp [sMove, sSet, sumI, sumC, difI, difC, dblI, dblC, hlvI, hlvC]; done) | (rw [h1]; simp [sMove, sSet, sumI, sumC, difI, difC, dblI, dblC, hlvI, hlvC]; done), by rw [ht]; exact hP9, va_K.moved hW.alike hK, hD9⟩, hS.F ht⟩) hS.2.2 d_SM_move_122
    | 4, _, h1 =>
      have h1 : nb = 6 := h1
      refine lv_tableIn (off := 87) (tgt := 88) hx hb d_SM_move_1 (by rw [h1]; decide) (by rw [h1]; decide) (by rw [h1]; rfl) rfl ?_
      refine lv_aload_n hx hb d_SM_move_88 rfl (lv_at hl 0 rfl) ?_
      refine lv_aload_n hx hb d_SM_move_89 rfl (lv_at hl 0 rfl) ?_
      refine lv_iload_n hx hb d_SM_move_90 rfl (lv_at hl 3 rfl) ?_
      refine lv_aload_n hx hb d_SM_move_91 rfl (lv_at hl 0 rfl) ?_
      refine va_get (D := D) (ci := 4) (v := .int x) (C := R_SM) (T := T_SM) (N := 12) hx hb hts iw_SM hown hK hP 0 rfl rfl 2 (by decide) (hts _ k_118) (fun x9 h9 => u_same (hts _ k_119) x9 h9) rfl d_SM_move_92 ?_
      refine lv_iadd hx hb d_SM_move_95 ?_
      have hPc := hP.sub (ws' := [(o, .inr (4, [.ref mm, .int a, .int x, .int sp, .int pc, .int (bI zf), .int (bI cf), .int st, .int dn, .ref pr, .int r2, .int (bI kp)])), (mm, .inl (cI, 256, .inl g))]) [0, 1] rfl
      refine vp_callSi (va_runU (As := [.int (j + x)]) (rest := [.ref o]) ⟨hx, hb, hml, hown, hts⟩ (m_SM_peek l D cI cZ o mm a x sp pc zf cf st dn pr r2 kp g (j + x)) (va_cwU 1 hts (gU k_625 k_626 k_627 k_296 k_58 k_300) rfl rfl rfl rfl hd_MA_peek ⟨Nat.le_of_ble_eq_true rfl, Nat.le_of_ble_eq_true rfl⟩) (PcR.preV (va_recv hK hP (q0 := 0) (ci := 4) rfl rfl) hPc hK hN) rfl rfl hl.1 rfl (lv_room (Nat.le_of_ble_eq_true rfl)) d_SM_move_96 ⟨Nat.le_of_ble_eq_true rfl, Nat.le_of_ble_eq_true rfl⟩).run (fun r96 e96 => ?_)
      replace e96 := e96.symm
      subst e96
      refine va_put (D := D) (ci := 4) (v := .int (rd g (j + x))) (ty := .int) (C := R_SM) (T := T_SM) (N := 12) hx hb hts iw_SM ty_SM ty_SM_ok nm_SM hown hK hP hD hS 0 rfl rfl 1 (by decide) (hts _ k_113) (fun x9 h9 => u_same (hts _ k_114) x9 h9) rfl (by decide +kernel) rfl rfl (Nat.le_of_ble_eq_true rfl) d_SM_move_99 (fun H locs hP hD hS => ?_)
      have hP : va_P D vwCl [(o, .inr (4, [.ref mm, .int (rd g (j + x)), .int x, .int sp, .int pc, .int (bI zf), .int (bI cf), .int st, .int dn, .ref pr, .int r2, .int (bI kp)])), (mm, .inl (cI, 256, .inl g))] H := hP
      have hD : va_D A [(o, .inr (4, [.ref mm, .int (rd g (j + x)), .int x, .int sp, .int pc, .int (bI zf), .int (bI cf), .int st, .int dn, .ref pr, .int r2, .int (bI kp)])), (mm, .inl (cI, 256, .inl g))] := hD
      refine lv_goto (tgt := 122) hx hb d_SM_move_102 rfl ?_
      have hP9 : va_P D vwCl [(o, .inr (4, [.ref mm, .int (rd g (j + x)), .int x, .int sp, .int pc, .int (bI zf), .int (bI cf), .int st, .int dn, .ref pr, .int r2, .int (bI kp)])), (mm, .inl (cI, 256, .inl g))] H := hP.sub [0, 1] rfl
      have hD9 : va_D A [(o, .inr (4, [.ref mm, .int (rd g (j + x)), .int x, .int sp, .int pc, .int (bI zf), .int (bI cf), .int st, .int dn, .ref pr, .int r2, .int (bI kp)])), (mm, .inl (cI, 256, .inl g))] := hD.sub [0, 1] (by decide) rfl
      exact W.vret hx hb hr (fun t ht hW => ⟨⟨(g, rd g (j + x), x, sp, pc, zf, cf, st, r2, kp), rfl, by first | (rw [h1]; rfl) | (rw [h1]; simp [sMove, sSet, sumI, sumC, difI, difC, dblI, dblC, hlvI, hlvC]; done) | (rw [h1]; simp [sMove, sSet, sumI, sumC, difI, difC, dblI, dblC, hlvI, hlvC]; done), by rw [ht]; exact hP9, va_K.moved hW.alike hK, hD9⟩, hS.F ht⟩) hS.2.2 d_SM_move_122
    | 5, _, h1 =>
      have h1 : nb = 7 := h1
      refine lv_tableIn (off := 104) (tgt := 105) hx hb d_SM_move_1 (by rw [h1]; decide) (by rw [h1]; decide) (by rw [h1]; rfl) rfl ?_
      refine lv_aload_n hx hb d_SM_move_105 rfl (lv_at hl 0 rfl) ?_
      refine lv_iload_n hx hb d_SM_move_106 rfl (lv_at hl 3 rfl) ?_
      refine lv_aload_n hx hb d_SM_move_107 rfl (lv_at hl 0 rfl) ?_
      refine va_get (D := D) (ci := 4) (v := .int x) (C := R_SM) (T := T_SM) (N := 12) hx hb hts iw_SM hown hK hP 0 rfl rfl 2 (by decide) (hts _ k_118) (fun x9 h9 => u_same (hts _ k_119) x9 h9) rfl d_SM_move_108 ?_
      refine lv_iadd hx hb d_SM_move_111 ?_
      refine lv_aload_n hx hb d_SM_move_112 rfl (lv_at hl 0 rfl) ?_
      refine va_get (D := D) (ci := 4) (v := .int a) (C := R_SM) (T := T_SM) (N := 12) hx hb hts iw_SM hown hK hP 0 rfl rfl 1 (by decide) (hts _ k_113) (fun x9 h9 => u_same (hts _ k_114) x9 h9) rfl d_SM_move_113 ?_
      have hPc := hP.sub (ws' := [(o, .inr (4, [.ref mm, .int a, .int x, .int sp, .int pc, .int (bI zf), .int (bI cf), .int st, .int dn, .ref pr, .int r2, .int (bI kp)])), (mm, .inl (cI, 256, .inl g))]) [0, 1] rfl
      have hDc := hD.sub (ws' := [(o, .inr (4, [.ref mm, .int a, .int x, .int sp, .int pc, .int (bI zf), .int (bI cf), .int st, .int dn, .ref pr, .int r2, .int (bI kp)])), (mm, .inl (cI, 256, .inl g))]) [0, 1] (by decide) rfl
      have hFc := va_free (wc := [(o, .inr (4, [.ref mm, .int a, .int x, .int sp, .int pc, .int (bI zf), .int (bI cf), .int st, .int dn, .ref pr, .int r2, .int (bI kp)])), (mm, .inl (cI, 256, .inl g))]) hD hS hA [0, 1] rfl
      refine va_callv (va_runU (As := [.int (j + x), .int a]) (rest := []) ⟨hx, hb, hml, hown, hts⟩ (m_SM_poke l D cI cZ o mm a x sp pc zf cf st dn pr r2 kp g (j + x) a H.size) (va_cwU 2 hts (gU k_628 k_629 k_630 k_543 k_58 k_544) rfl rfl rfl rfl hd_MA_poke ⟨Nat.le_of_ble_eq_true rfl, Nat.le_of_ble_eq_true rfl⟩) (PcW.preV (va_recv hK hP (q0 := 0) (ci := 4) rfl rfl) hPc hK hDc hN) rfl rfl hl.1 rfl (lv_room (Nat.le_of_ble_eq_true rfl)) d_SM_move_116 ⟨Nat.le_of_ble_eq_true rfl, Nat.le_of_ble_eq_true rfl⟩) hS (fun q _ h => hFc q h) hFc (fun u t H1 locs ht hvm e116 hB hz1 hk1 hS => ?_)
      obtain ⟨g1116, rfl⟩ : ∃ z, z = u := ⟨_, rfl⟩
      obtain ⟨hP1, hK1, hD1⟩ := hB
      rw [ht] at hP1
      obtain ⟨hP, hD⟩ := va_join (wr := []) (w1 := [(o, .inr (4, [.ref mm, .int a, .int x, .int sp, .int pc, .int (bI zf), .int (bI cf), .int st, .int dn, .ref pr, .int r2, .int (bI kp)])), (mm, .inl (cI, 256, .inl g1116))]) hP hD [0, 1] [] rfl rfl (by decide) (by decide) hk1 hFc hP1 hD1
      generalize H1 = H at hP hS ⊢
      try dsimp only at e116
      have e116_0 := e116
      replace e116_0 := e116_0.symm
      subst e116_0
      have hP : va_P D vwCl [(o, .inr (4, [.ref mm, .int a, .int x, .int sp, .int pc, .int (bI zf), .int (bI cf), .int st, .int dn, .ref pr, .int r2, .int (bI kp)])), (mm, .inl (cI, 256, .inl (wr g (j + x) a)))] H := hP
      have hD : va_D A [(o, .inr (4, [.ref mm, .int a, .int x, .int sp, .int pc, .int (bI zf), .int (bI cf), .int st, .int dn, .ref pr, .int r2, .int (bI kp)])), (mm, .inl (cI, 256, .inl (wr g (j + x) a)))] := hD
      refine lv_goto (tgt := 122) hx hb d_SM_move_119 rfl ?_
      have hP9 : va_P D vwCl [(o, .inr (4, [.ref mm, .int a, .int x, .int sp, .int pc, .int (bI zf), .int (bI cf), .int st, .int dn, .ref pr, .int r2, .int (bI kp)])), (mm, .inl (cI, 256, .inl (wr g (j + x) a)))] H := hP.sub [0, 1] rfl
      have hD9 : va_D A [(o, .inr (4, [.ref mm, .int a, .int x, .int sp, .int pc, .int (bI zf), .int (bI cf), .int st, .int dn, .ref pr, .int r2, .int (bI kp)])), (mm, .inl (cI, 256, .inl (wr g (j + x) a)))] := hD.sub [0, 1] (by decide) rfl
      exact W.vret hx hb hr (fun t ht hW => ⟨⟨(wr g (j + x) a, a, x, sp, pc, zf, cf, st, r2, kp), rfl, by first | (rw [h1]; rfl) | (rw [h1]; simp [sMove, sSet, sumI, sumC, difI, difC, dblI, dblC, hlvI, hlvC]; done) | (rw [h1]; simp [sMove, sSet, sumI, sumC, difI, difC, dblI, dblC, hlvI, hlvC]; done), by rw [ht]; exact hP9, va_K.moved hW.alike hK, hD9⟩, hS.F ht⟩) hS.2.2 d_SM_move_122
    | n + 6, h9, _ => exact absurd h9 (by omega)
set_option maxHeartbeats 4000000 in
set_option maxRecDepth 100000 in
theorem m_SM_reckon (l : Launch) (D : va_G) (cI cZ : ClassId) (o : Nat) (mm : Nat) (a : Int32) (x : Int32) (sp : Int32) (pc : Int32) (zf : Bool) (cf : Bool) (st : Int32) (dn : Int32) (pr : Nat) (r2 : Int32) (kp : Bool) (g : Nat → Int32) (nb : Int32) (i : Int32) (j : Int32) (sz : Nat) : MetV l y_SM_reckon w_SM_reckon { frames := 2, cells := 0, slots := 0, locals := 45 } D cI cZ [.ref o, .int nb, .int i, .int j] [(o, .inr (4, [.ref mm, .int a, .int x, .int sp, .int pc, .int (bI zf), .int (bI cf), .int st, .int dn, .ref pr, .int r2, .int (bI kp)])), (mm, .inl (cI, 256, .inl g))] sz (fun (u : (Nat → Int32) × Int32 × Int32 × Int32 × Int32 × Bool × Bool × Int32 × Int32 × Bool) => match u with | (g1, a1, x1, sp1, pc1, z1, c1, st1, r21, kp1) => (g1, a1, x1, sp1, pc1, z1, c1, st1, r21, kp1) = sReck nb i j g a x sp pc zf cf st r2 kp) (fun (u : (Nat → Int32) × Int32 × Int32 × Int32 × Int32 × Bool × Bool × Int32 × Int32 × Bool) => match u with | (g1, a1, x1, sp1, pc1, z1, c1, st1, r21, kp1) => [(o, .inr (4, [.ref mm, .int a1, .int x1, .int sp1, .int pc1, .int (bI z1), .int (bI c1), .int st1, .int dn, .ref pr, .int r21, .int (bI kp1)])), (mm, .inl (cI, 256, .inl g1))]) 0 0 := by
  refine ofV (cc := c_SM_reckon) (maxL := 6) (ret := none) (by decide) rfl (Nat.le_of_ble_eq_true rfl) ?_
  intro p e s m args below meth c A H hH0 hx hb hr hlocks hts hown hnm hml ls hl hP hK hD hA hS hN
  have hown : s.vm.findClass R_SM = some m.cls := hown
  have hl : lv_has ls 6 [(0, .ref o), (1, .int nb), (2, .int i), (3, .int j)] := hl
  refine lv_aload_n hx hb d_SM_reckon_0 rfl (lv_at hl 0 rfl) ?_
  refine lv_iload_n hx hb d_SM_reckon_1 rfl (lv_at hl 2 rfl) ?_
  have hPc := hP.sub (ws' := [(o, .inr (4, [.ref mm, .int a, .int x, .int sp, .int pc, .int (bI zf), .int (bI cf), .int st, .int dn, .ref pr, .int r2, .int (bI kp)]))]) [0] rfl
  refine vp_callSi (va_runV (As := [.int i]) (rest := []) ⟨hx, hb, hml, hown, hts⟩ (m_SM_register l D cI cZ o mm a x sp pc zf cf st dn pr r2 kp i) ⟨cB 1 hts k_611 k_60 k_608 hd_SM_register ⟨Nat.le_of_ble_eq_true rfl, Nat.le_of_ble_eq_true rfl⟩ rfl rfl, hts _ k_610, hts _ k_20⟩ (PcR.preV (va_recv hK hP (q0 := 0) (ci := 4) rfl rfl) hPc hK hN) rfl rfl hl.1 rfl (lv_room (Nat.le_of_ble_eq_true rfl)) d_SM_reckon_2 ⟨Nat.le_of_ble_eq_true rfl, Nat.le_of_ble_eq_true rfl⟩).run (fun r2 e2 => ?_)
  replace e2 := e2.symm
  subst e2
  refine lv_istore hx hb d_SM_reckon_5 hl (by decide) rfl (fun ls hl => ?_)
  have hl : lv_has ls 6 [(4, .int (regI i a x r2)), (0, .ref o), (1, .int nb), (2, .int i), (3, .int j)] := hl
  refine lv_aload_n hx hb d_SM_reckon_7 rfl (lv_at hl 1 rfl) ?_
  refine lv_iload_n hx hb d_SM_reckon_8 rfl (lv_at hl 4 rfl) ?_
  have hPc := hP.sub (ws' := [(o, .inr (4, [.ref mm, .int a, .int x, .int sp, .int pc, .int (bI zf), .int (bI cf), .int st, .int dn, .ref pr, .int r2, .int (bI kp)]))]) [0] rfl
  refine vp_callSi (va_runV (As := [.int j]) (rest := []) ⟨hx, hb, hml, hown, hts⟩ (m_SM_register l D cI cZ o mm a x sp pc zf cf st dn pr r2 kp j) ⟨cB 1 hts k_611 k_60 k_608 hd_SM_register ⟨Nat.le_of_ble_eq_true rfl, Nat.le_of_ble_eq_true rfl⟩ rfl rfl, hts _ k_610, hts _ k_20⟩ (PcR.preV (va_recv hK hP (q0 := 0) (ci := 4) rfl rfl) hPc hK hN) rfl rfl hl.1 rfl (lv_room (Nat.le_of_ble_eq_true rfl)) d_SM_reckon_9 ⟨Nat.le_of_ble_eq_true rfl, Nat.le_of_ble_eq_true rfl⟩).run (fun r9 e9 => ?_)
  replace e9 := e9.symm
  subst e9
  refine lv_istore hx hb d_SM_reckon_12 hl (by decide) rfl (fun ls hl => ?_)
  have hl : lv_has ls 6 [(5, .int (regI j a x r2)), (4, .int (regI i a x r2)), (0, .ref o), (1, .int nb), (2, .int i), (3, .int j)] := hl
  refine lv_iload_n hx hb d_SM_reckon_14 rfl (lv_at hl 3 rfl) ?_
  rcases sw_cases nb 8 9 with h15 | ⟨j15, hj15, h15⟩
  · refine lv_tableOut (tgt := 201) hx hb d_SM_reckon_15 h15 rfl ?_
    have n15_8 : ¬ nb = 8 := fun h9 => by rw [h9] at h15; revert h15; decide
    have n15_9 : ¬ nb = 9 := fun h9 => by rw [h9] at h15; revert h15; decide
    have n15_10 : ¬ nb = 10 := fun h9 => by rw [h9] at h15; revert h15; decide
    have n15_11 : ¬ nb = 11 := fun h9 => by rw [h9] at h15; revert h15; decide
    have n15_12 : ¬ nb = 12 := fun h9 => by rw [h9] at h15; revert h15; decide
    have n15_13 : ¬ nb = 13 := fun h9 => by rw [h9] at h15; revert h15; decide
    have n15_14 : ¬ nb = 14 := fun h9 => by rw [h9] at h15; revert h15; decide
    have n15_15 : ¬ nb = 15 := fun h9 => by rw [h9] at h15; revert h15; decide
    have n15_16 : ¬ nb = 16 := fun h9 => by rw [h9] at h15; revert h15; decide
    have hP9 : va_P D vwCl [(o, .inr (4, [.ref mm, .int a, .int x, .int sp, .int pc, .int (bI zf), .int (bI cf), .int st, .int dn, .ref pr, .int r2, .int (bI kp)])), (mm, .inl (cI, 256, .inl g))] H := hP.sub [0, 1] rfl
    have hD9 : va_D A [(o, .inr (4, [.ref mm, .int a, .int x, .int sp, .int pc, .int (bI zf), .int (bI cf), .int st, .int dn, .ref pr, .int r2, .int (bI kp)])), (mm, .inl (cI, 256, .inl g))] := hD.sub [0, 1] (by decide) rfl
    exact W.vret hx hb hr (fun t ht hW => ⟨⟨(g, a, x, sp, pc, zf, cf, st, r2, kp), rfl, by first | (simp only [sReck, sSet, sumI, sumC, difI, difC, dblI, dblC, hlvI, hlvC, n15_8, n15_9, n15_10, n15_11, n15_12, n15_13, n15_14, n15_15, n15_16, ↓reduceIte, not_true_eq_false, not_false_eq_true, and_true, true_and, and_false, false_and, and_self, or_true, true_or, or_false, false_or, decide_true, decide_false, Bool.false_eq_true, reduceCtorEq]; done) | (simp_all [sReck, sSet, sumI, sumC, difI, difC, dblI, dblC, hlvI, hlvC]; done), by rw [ht]; exact hP9, va_K.moved hW.alike hK, hD9⟩, hS.F ht⟩) hS.2.2 d_SM_reckon_201
  · match j15, hj15, h15 with
    | 0, _, h15 =>
      have h15 : nb = 8 := h15
      refine lv_tableIn (off := 49) (tgt := 64) hx hb d_SM_reckon_15 (by rw [h15]; decide) (by rw [h15]; decide) (by rw [h15]; rfl) rfl ?_
      refine lv_aload_n hx hb d_SM_reckon_64 rfl (lv_at hl 2 rfl) ?_
      refine lv_iload hx hb d_SM_reckon_65 (lv_at hl 1 rfl) ?_
      have hPc := hP.sub (ws' := [(o, .inr (4, [.ref mm, .int a, .int x, .int sp, .int pc, .int (bI zf), .int (bI cf), .int st, .int dn, .ref pr, .int r2, .int (bI kp)]))]) [0] rfl
      have hDc := hD.sub (ws' := [(o, .inr (4, [.ref mm, .int a, .int x, .int sp, .int pc, .int (bI zf), .int (bI cf), .int st, .int dn, .ref pr, .int r2, .int (bI kp)]))]) [0] (by decide) rfl
      have hFc := va_free (wc := [(o, .inr (4, [.ref mm, .int a, .int x, .int sp, .int pc, .int (bI zf), .int (bI cf), .int st, .int dn, .ref pr, .int r2, .int (bI kp)]))]) hD hS hA [0] rfl
      refine va_calli (va_runU (As := [.int (regI i a x r2)]) (rest := []) ⟨hx, hb, hml, hown, hts⟩ (m_SM_testedWC l D cI cZ o mm a x sp pc zf cf st dn pr r2 kp (regI i a x r2) H.size) (va_cwU 1 hts (gU k_635 k_636 k_637 k_566 k_58 k_567) rfl rfl rfl rfl hd_MA_testedWithoutCarry ⟨Nat.le_of_ble_eq_true rfl, Nat.le_of_ble_eq_true rfl⟩) (PcW.preV (va_recv hK hP (q0 := 0) (ci := 4) rfl rfl) hPc hK hDc hN) rfl rfl hl.1 rfl (lv_room (Nat.le_of_ble_eq_true rfl)) d_SM_reckon_67 ⟨Nat.le_of_ble_eq_true rfl, Nat.le_of_ble_eq_true rfl⟩) hS (fun q _ h => hFc q h) hFc (fun r67 u t H1 locs ht hvm e67 hB hz1 hk1 hS => ?_)
      obtain ⟨z167, c167⟩ := u
      obtain ⟨hP1, hK1, hD1⟩ := hB
      rw [ht] at hP1
      obtain ⟨hP, hD⟩ := va_join (wr := [(mm, .inl (cI, 256, .inl g))]) (w1 := [(o, .inr (4, [.ref mm, .int a, .int x, .int sp, .int pc, .int (bI z167), .int (bI c167), .int st, .int dn, .ref pr, .int r2, .int (bI kp)]))]) hP hD [0] [1] rfl rfl (by decide) (by decide) hk1 hFc hP1 hD1
      generalize H1 = H at hP hS ⊢
      try dsimp only at e67
      obtain ⟨e67_0, e67_1, e67_2⟩ := e67
      replace e67_0 := e67_0.symm
      subst e67_0
      replace e67_1 := e67_1.symm
      subst e67_1
      replace e67_2 := e67_2.symm
      subst e67_2
      have hP : va_P D vwCl [(mm, .inl (cI, 256, .inl g)), (o, .inr (4, [.ref mm, .int a, .int x, .int sp, .int pc, .int (bI (decide ((regI i a x r2) = 0))), .int (bI false), .int st, .int dn, .ref pr, .int r2, .int (bI kp)]))] H := hP
      have hD : va_D A [(mm, .inl (cI, 256, .inl g)), (o, .inr (4, [.ref mm, .int a, .int x, .int sp, .int pc, .int (bI (decide ((regI i a x r2) = 0))), .int (bI false), .int st, .int dn, .ref pr, .int r2, .int (bI kp)]))] := hD
      refine lv_pop hx hb d_SM_reckon_70 rfl ?_
      refine lv_goto (tgt := 201) hx hb d_SM_reckon_71 rfl ?_
      have hP9 : va_P D vwCl [(o, .inr (4, [.ref mm, .int a, .int x, .int sp, .int pc, .int (bI (decide ((regI i a x r2) = 0))), .int (bI false), .int st, .int dn, .ref pr, .int r2, .int (bI kp)])), (mm, .inl (cI, 256, .inl g))] H := hP.sub [1, 0] rfl
      have hD9 : va_D A [(o, .inr (4, [.ref mm, .int a, .int x, .int sp, .int pc, .int (bI (decide ((regI i a x r2) = 0))), .int (bI false), .int st, .int dn, .ref pr, .int r2, .int (bI kp)])), (mm, .inl (cI, 256, .inl g))] := hD.sub [1, 0] (by decide) rfl
      exact W.vret hx hb hr (fun t ht hW => ⟨⟨(g, a, x, sp, pc, decide ((regI i a x r2) = 0), false, st, r2, kp), rfl, by first | (rw [h15]; rfl) | (rw [h15]; simp [sReck, sSet, sumI, sumC, difI, difC, dblI, dblC, hlvI, hlvC]; done) | (rw [h15]; simp [sReck, sSet, sumI, sumC, difI, difC, dblI, dblC, hlvI, hlvC]; done), by rw [ht]; exact hP9, va_K.moved hW.alike hK, hD9⟩, hS.F ht⟩) hS.2.2 d_SM_reckon_201
    | 1, _, h15 =>
      have h15 : nb = 9 := h15
      refine lv_tableIn (off := 59) (tgt := 74) hx hb d_SM_reckon_15 (by rw [h15]; decide) (by rw [h15]; decide) (by rw [h15]; rfl) rfl ?_
      refine lv_aload_n hx hb d_SM_reckon_74 rfl (lv_at hl 2 rfl) ?_
      refine lv_iload_n hx hb d_SM_reckon_75 rfl (lv_at hl 4 rfl) ?_
      refine lv_aload_n hx hb d_SM_reckon_76 rfl (lv_at hl 2 rfl) ?_
      refine lv_iload hx hb d_SM_reckon_77 (lv_at hl 1 rfl) ?_
      refine lv_iload hx hb d_SM_reckon_79 (lv_at hl 0 rfl) ?_
      refine lv_iconst (v := 0) hx hb d_SM_reckon_81 (by decide) ?_
      have hPc := hP.sub (ws' := [(o, .inr (4, [.ref mm, .int a, .int x, .int sp, .int pc, .int (bI zf), .int (bI cf), .int st, .int dn, .ref pr, .int r2, .int (bI kp)]))]) [0] rfl
      have hDc := hD.sub (ws' := [(o, .inr (4, [.ref mm, .int a, .int x, .int sp, .int pc, .int (bI zf), .int (bI cf), .int st, .int dn, .ref pr, .int r2, .int (bI kp)]))]) [0] (by decide) rfl
      have hFc := va_free (wc := [(o, .inr (4, [.ref mm, .int a, .int x, .int sp, .int pc, .int (bI zf), .int (bI cf), .int st, .int dn, .ref pr, .int r2, .int (bI kp)]))]) hD hS hA [0] rfl
      refine va_calli (va_runU (As := [.int (regI i a x r2), .int (regI j a x r2), .int 0]) (rest := [.int i, .ref o]) ⟨hx, hb, hml, hown, hts⟩ (m_SM_sum l D cI cZ o mm a x sp pc zf cf st dn pr r2 kp (regI i a x r2) (regI j a x r2) false H.size) (va_cwU 3 hts (gU k_638 k_639 k_640 k_553 k_58 k_554) rfl rfl rfl rfl hd_MA_sum ⟨Nat.le_of_ble_eq_true rfl, Nat.le_of_ble_eq_true rfl⟩) (PcW.preV (va_recv hK hP (q0 := 0) (ci := 4) rfl rfl) hPc hK hDc hN) rfl rfl hl.1 rfl (lv_room (Nat.le_of_ble_eq_true rfl)) d_SM_reckon_82 ⟨Nat.le_of_ble_eq_true rfl, Nat.le_of_ble_eq_true rfl⟩) hS (fun q _ h => hFc q h) hFc (fun r82 u t H1 locs ht hvm e82 hB hz1 hk1 hS => ?_)
      obtain ⟨z182, c182⟩ := u
      obtain ⟨hP1, hK1, hD1⟩ := hB
      rw [ht] at hP1
      obtain ⟨hP, hD⟩ := va_join (wr := [(mm, .inl (cI, 256, .inl g))]) (w1 := [(o, .inr (4, [.ref mm, .int a, .int x, .int sp, .int pc, .int (bI z182), .int (bI c182), .int st, .int dn, .ref pr, .int r2, .int (bI kp)]))]) hP hD [0] [1] rfl rfl (by decide) (by decide) hk1 hFc hP1 hD1
      generalize H1 = H at hP hS ⊢
      try dsimp only at e82
      obtain ⟨e82_0, e82_1, e82_2⟩ := e82
      replace e82_0 := e82_0.symm
      subst e82_0
      replace e82_1 := e82_1.symm
      subst e82_1
      replace e82_2 := e82_2.symm
      subst e82_2
      have hP : va_P D vwCl [(mm, .inl (cI, 256, .inl g)), (o, .inr (4, [.ref mm, .int a, .int x, .int sp, .int pc, .int (bI (decide (((regI i a x r2) + (regI j a x r2) + bI false) &&& 255 = 0))), .int (bI (decide (¬ (regI i a x r2) + (regI j a x r2) + bI false ≤ 255))), .int st, .int dn, .ref pr, .int r2, .int (bI kp)]))] H := hP
      have hD : va_D A [(mm, .inl (cI, 256, .inl g)), (o, .inr (4, [.ref mm, .int a, .int x, .int sp, .int pc, .int (bI (decide (((regI i a x r2) + (regI j a x r2) + bI false) &&& 255 = 0))), .int (bI (decide (¬ (regI i a x r2) + (regI j a x r2) + bI false ≤ 255))), .int st, .int dn, .ref pr, .int r2, .int (bI kp)]))] := hD
      have hPc := hP.sub (ws' := [(o, .inr (4, [.ref mm, .int a, .int x, .int sp, .int pc, .int (bI (decide (((regI i a x r2) + (regI j a x r2) + bI false) &&& 255 = 0))), .int (bI (decide (¬ (regI i a x r2) + (regI j a x r2) + bI false ≤ 255))), .int st, .int dn, .ref pr, .int r2, .int (bI kp)]))]) [1] rfl
      have hDc := hD.sub (ws' := [(o, .inr (4, [.ref mm, .int a, .int x, .int sp, .int pc, .int (bI (decide (((regI i a x r2) + (regI j a x r2) + bI false) &&& 255 = 0))), .int (bI (decide (¬ (regI i a x r2) + (regI j a x r2) + bI false ≤ 255))), .int st, .int dn, .ref pr, .int r2, .int (bI kp)]))]) [1] (by decide) rfl
      have hFc := va_free (wc := [(o, .inr (4, [.ref mm, .int a, .int x, .int sp, .int pc, .int (bI (decide (((regI i a x r2) + (regI j a x r2) + bI false) &&& 255 = 0))), .int (bI (decide (¬ (regI i a x r2) + (regI j a x r2) + bI false ≤ 255))), .int st, .int dn, .ref pr, .int r2, .int (bI kp)]))]) hD hS hA [1] rfl
      refine va_callv (va_runV (As := [.int i, .int (((regI i a x r2) + (regI j a x r2) + bI false) &&& 255)]) (rest := []) ⟨hx, hb, hml, hown, hts⟩ (m_SM_setRegister l D cI cZ o mm a x sp pc (decide (((regI i a x r2) + (regI j a x r2) + bI false) &&& 255 = 0)) (decide (¬ (regI i a x r2) + (regI j a x r2) + bI false ≤ 255)) st dn pr r2 kp i (((regI i a x r2) + (regI j a x r2) + bI false) &&& 255) H.size) ⟨cB 2 hts k_624 k_60 k_621 hd_SM_setRegister ⟨Nat.le_of_ble_eq_true rfl, Nat.le_of_ble_eq_true rfl⟩ rfl rfl, hts _ k_623, hts _ k_23⟩ (PcW.preV (va_recv hK hP (q0 := 1) (ci := 4) rfl rfl) hPc hK hDc hN) rfl rfl hl.1 rfl (lv_room (Nat.le_of_ble_eq_true rfl)) d_SM_reckon_85 ⟨Nat.le_of_ble_eq_true rfl, Nat.le_of_ble_eq_true rfl⟩) hS (fun q _ h => hFc q h) hFc (fun u t H1 locs ht hvm e85 hB hz1 hk1 hS => ?_)
      obtain ⟨a185, x185, r2185⟩ := u
      obtain ⟨hP1, hK1, hD1⟩ := hB
      rw [ht] at hP1
      obtain ⟨hP, hD⟩ := va_join (wr := [(mm, .inl (cI, 256, .inl g))]) (w1 := [(o, .inr (4, [.ref mm, .int a185, .int x185, .int sp, .int pc, .int (bI (decide (((regI i a x r2) + (regI j a x r2) + bI false) &&& 255 = 0))), .int (bI (decide (¬ (regI i a x r2) + (regI j a x r2) + bI false ≤ 255))), .int st, .int dn, .ref pr, .int r2185, .int (bI kp)]))]) hP hD [1] [0] rfl rfl (by decide) (by decide) hk1 hFc hP1 hD1
      generalize H1 = H at hP hS ⊢
      try dsimp only at e85
      obtain ⟨e85_0, e85_1, e85_2⟩ := e85
      replace e85_0 := e85_0.symm
      subst e85_0
      replace e85_1 := e85_1.symm
      subst e85_1
      replace e85_2 := e85_2.symm
      subst e85_2
      have hP : va_P D vwCl [(mm, .inl (cI, 256, .inl g)), (o, .inr (4, [.ref mm, .int (setA i (((regI i a x r2) + (regI j a x r2) + bI false) &&& 255) a), .int (setX i (((regI i a x r2) + (regI j a x r2) + bI false) &&& 255) x), .int sp, .int pc, .int (bI (decide (((regI i a x r2) + (regI j a x r2) + bI false) &&& 255 = 0))), .int (bI (decide (¬ (regI i a x r2) + (regI j a x r2) + bI false ≤ 255))), .int st, .int dn, .ref pr, .int (setR i (((regI i a x r2) + (regI j a x r2) + bI false) &&& 255) r2), .int (bI kp)]))] H := hP
      have hD : va_D A [(mm, .inl (cI, 256, .inl g)), (o, .inr (4, [.ref mm, .int (setA i (((regI i a x r2) + (regI j a x r2) + bI false) &&& 255) a), .int (setX i (((regI i a x r2) + (regI j a x r2) + bI false) &&& 255) x), .int sp, .int pc, .int (bI (decide (((regI i a x r2) + (regI j a x r2) + bI false) &&& 255 = 0))), .int (bI (decide (¬ (regI i a x r2) + (regI j a x r2) + bI false ≤ 255))), .int st, .int dn, .ref pr, .int (setR i (((regI i a x r2) + (regI j a x r2) + bI false) &&& 255) r2), .int (bI kp)]))] := hD
      refine lv_goto (tgt := 201) hx hb d_SM_reckon_88 rfl ?_
      have hP9 : va_P D vwCl [(o, .inr (4, [.ref mm, .int (setA i (((regI i a x r2) + (regI j a x r2) + bI false) &&& 255) a), .int (setX i (((regI i a x r2) + (regI j a x r2) + bI false) &&& 255) x), .int sp, .int pc, .int (bI (decide (((regI i a x r2) + (regI j a x r2) + bI false) &&& 255 = 0))), .int (bI (decide (¬ (regI i a x r2) + (regI j a x r2) + bI false ≤ 255))), .int st, .int dn, .ref pr, .int (setR i (((regI i a x r2) + (regI j a x r2) + bI false) &&& 255) r2), .int (bI kp)])), (mm, .inl (cI, 256, .inl g))] H := hP.sub [1, 0] rfl
      have hD9 : va_D A [(o, .inr (4, [.ref mm, .int (setA i (((regI i a x r2) + (regI j a x r2) + bI false) &&& 255) a), .int (setX i (((regI i a x r2) + (regI j a x r2) + bI false) &&& 255) x), .int sp, .int pc, .int (bI (decide (((regI i a x r2) + (regI j a x r2) + bI false) &&& 255 = 0))), .int (bI (decide (¬ (regI i a x r2) + (regI j a x r2) + bI false ≤ 255))), .int st, .int dn, .ref pr, .int (setR i (((regI i a x r2) + (regI j a x r2) + bI false) &&& 255) r2), .int (bI kp)])), (mm, .inl (cI, 256, .inl g))] := hD.sub [1, 0] (by decide) rfl
      exact W.vret hx hb hr (fun t ht hW => ⟨⟨(g, setA i (((regI i a x r2) + (regI j a x r2) + bI false) &&& 255) a, setX i (((regI i a x r2) + (regI j a x r2) + bI false) &&& 255) x, sp, pc, decide (((regI i a x r2) + (regI j a x r2) + bI false) &&& 255 = 0), decide (¬ (regI i a x r2) + (regI j a x r2) + bI false ≤ 255), st, setR i (((regI i a x r2) + (regI j a x r2) + bI false) &&& 255) r2, kp), rfl, by first | (rw [h15]; rfl) | (rw [h15]; simp [sReck, sSet, sumI, sumC, difI, difC, dblI, dblC, hlvI, hlvC]; done) | (rw [h15]; simp [sReck, sSet, sumI, sumC, difI, difC, dblI, dblC, hlvI, hlvC]; done), by rw [ht]; exact hP9, va_K.moved hW.alike hK, hD9⟩, hS.F ht⟩) hS.2.2 d_SM_reckon_201
    | 2, _, h15 =>
      have h15 : nb = 10 := h15
      refine lv_tableIn (off := 76) (tgt := 91) hx hb d_SM_reckon_15 (by rw [h15]; decide) (by rw [h15]; decide) (by rw [h15]; rfl) rfl ?_
      refine lv_aload_n hx hb d_SM_reckon_91 rfl (lv_at hl 2 rfl) ?_
      refine lv_iload_n hx hb d_SM_reckon_92 rfl (lv_at hl 4 rfl) ?_
      refine lv_aload_n hx hb d_SM_reckon_93 rfl (lv_at hl 2 rfl) ?_
      refine lv_iload hx hb d_SM_reckon_94 (lv_at hl 1 rfl) ?_
      refine lv_iload hx hb d_SM_reckon_96 (lv_at hl 0 rfl) ?_
      refine lv_aload_n hx hb d_SM_reckon_98 rfl (lv_at hl 2 rfl) ?_
      refine va_get (D := D) (ci := 4) (v := .int (bI cf)) (C := R_SM) (T := T_SM) (N := 12) hx hb hts iw_SM hown hK hP 0 rfl rfl 6 (by decide) (hts _ k_136) (fun x9 h9 => u_same (hts _ k_137) x9 h9) rfl d_SM_reckon_99 ?_
      have hPc := hP.sub (ws' := [(o, .inr (4, [.ref mm, .int a, .int x, .int sp, .int pc, .int (bI zf), .int (bI cf), .int st, .int dn, .ref pr, .int r2, .int (bI kp)]))]) [0] rfl
      have hDc := hD.sub (ws' := [(o, .inr (4, [.ref mm, .int a, .int x, .int sp, .int pc, .int (bI zf), .int (bI cf), .int st, .int dn, .ref pr, .int r2, .int (bI kp)]))]) [0] (by decide) rfl
      have hFc := va_free (wc := [(o, .inr (4, [.ref mm, .int a, .int x, .int sp, .int pc, .int (bI zf), .int (bI cf), .int st, .int dn, .ref pr, .int r2, .int (bI kp)]))]) hD hS hA [0] rfl
      refine va_calli (va_runU (As := [.int (regI i a x r2), .int (regI j a x r2), .int (bI cf)]) (rest := [.int i, .ref o]) ⟨hx, hb, hml, hown, hts⟩ (m_SM_sum l D cI cZ o mm a x sp pc zf cf st dn pr r2 kp (regI i a x r2) (regI j a x r2) cf H.size) (va_cwU 3 hts (gU k_638 k_639 k_640 k_553 k_58 k_554) rfl rfl rfl rfl hd_MA_sum ⟨Nat.le_of_ble_eq_true rfl, Nat.le_of_ble_eq_true rfl⟩) (PcW.preV (va_recv hK hP (q0 := 0) (ci := 4) rfl rfl) hPc hK hDc hN) rfl rfl hl.1 rfl (lv_room (Nat.le_of_ble_eq_true rfl)) d_SM_reckon_102 ⟨Nat.le_of_ble_eq_true rfl, Nat.le_of_ble_eq_true rfl⟩) hS (fun q _ h => hFc q h) hFc (fun r102 u t H1 locs ht hvm e102 hB hz1 hk1 hS => ?_)
      obtain ⟨z1102, c1102⟩ := u
      obtain ⟨hP1, hK1, hD1⟩ := hB
      rw [ht] at hP1
      obtain ⟨hP, hD⟩ := va_join (wr := [(mm, .inl (cI, 256, .inl g))]) (w1 := [(o, .inr (4, [.ref mm, .int a, .int x, .int sp, .int pc, .int (bI z1102), .int (bI c1102), .int st, .int dn, .ref pr, .int r2, .int (bI kp)]))]) hP hD [0] [1] rfl rfl (by decide) (by decide) hk1 hFc hP1 hD1
      generalize H1 = H at hP hS ⊢
      try dsimp only at e102
      obtain ⟨e102_0, e102_1, e102_2⟩ := e102
      replace e102_0 := e102_0.symm
      subst e102_0
      replace e102_1 := e102_1.symm
      subst e102_1
      replace e102_2 := e102_2.symm
      subst e102_2
      have hP : va_P D vwCl [(mm, .inl (cI, 256, .inl g)), (o, .inr (4, [.ref mm, .int a, .int x, .int sp, .int pc, .int (bI (decide (((regI i a x r2) + (regI j a x r2) + bI cf) &&& 255 = 0))), .int (bI (decide (¬ (regI i a x r2) + (regI j a x r2) + bI cf ≤ 255))), .int st, .int dn, .ref pr, .int r2, .int (bI kp)]))] H := hP
      have hD : va_D A [(mm, .inl (cI, 256, .inl g)), (o, .inr (4, [.ref mm, .int a, .int x, .int sp, .int pc, .int (bI (decide (((regI i a x r2) + (regI j a x r2) + bI cf) &&& 255 = 0))), .int (bI (decide (¬ (regI i a x r2) + (regI j a x r2) + bI cf ≤ 255))), .int st, .int dn, .ref pr, .int r2, .int (bI kp)]))] := hD
      have hPc := hP.sub (ws' := [(o, .inr (4, [.ref mm, .int a, .int x, .int sp, .int pc, .int (bI (decide (((regI i a x r2) + (regI j a x r2) + bI cf) &&& 255 = 0))), .int (bI (decide (¬ (regI i a x r2) + (regI j a x r2) + bI cf ≤ 255))), .int st, .int dn, .ref pr, .int r2, .int (bI kp)]))]) [1] rfl
      have hDc := hD.sub (ws' := [(o, .inr (4, [.ref mm, .int a, .int x, .int sp, .int pc, .int (bI (decide (((regI i a x r2) + (regI j a x r2) + bI cf) &&& 255 = 0))), .int (bI (decide (¬ (regI i a x r2) + (regI j a x r2) + bI cf ≤ 255))), .int st, .int dn, .ref pr, .int r2, .int (bI kp)]))]) [1] (by decide) rfl
      have hFc := va_free (wc := [(o, .inr (4, [.ref mm, .int a, .int x, .int sp, .int pc, .int (bI (decide (((regI i a x r2) + (regI j a x r2) + bI cf) &&& 255 = 0))), .int (bI (decide (¬ (regI i a x r2) + (regI j a x r2) + bI cf ≤ 255))), .int st, .int dn, .ref pr, .int r2, .int (bI kp)]))]) hD hS hA [1] rfl
      refine va_callv (va_runV (As := [.int i, .int (((regI i a x r2) + (regI j a x r2) + bI cf) &&& 255)]) (rest := []) ⟨hx, hb, hml, hown, hts⟩ (m_SM_setRegister l D cI cZ o mm a x sp pc (decide (((regI i a x r2) + (regI j a x r2) + bI cf) &&& 255 = 0)) (decide (¬ (regI i a x r2) + (regI j a x r2) + bI cf ≤ 255)) st dn pr r2 kp i (((regI i a x r2) + (regI j a x r2) + bI cf) &&& 255) H.size) ⟨cB 2 hts k_624 k_60 k_621 hd_SM_setRegister ⟨Nat.le_of_ble_eq_true rfl, Nat.le_of_ble_eq_true rfl⟩ rfl rfl, hts _ k_623, hts _ k_23⟩ (PcW.preV (va_recv hK hP (q0 := 1) (ci := 4) rfl rfl) hPc hK hDc hN) rfl rfl hl.1 rfl (lv_room (Nat.le_of_ble_eq_true rfl)) d_SM_reckon_105 ⟨Nat.le_of_ble_eq_true rfl, Nat.le_of_ble_eq_true rfl⟩) hS (fun q _ h => hFc q h) hFc (fun u t H1 locs ht hvm e105 hB hz1 hk1 hS => ?_)
      obtain ⟨a1105, x1105, r21105⟩ := u
      obtain ⟨hP1, hK1, hD1⟩ := hB
      rw [ht] at hP1
      obtain ⟨hP, hD⟩ := va_join (wr := [(mm, .inl (cI, 256, .inl g))]) (w1 := [(o, .inr (4, [.ref mm, .int a1105, .int x1105, .int sp, .int pc, .int (bI (decide (((regI i a x r2) + (regI j a x r2) + bI cf) &&& 255 = 0))), .int (bI (decide (¬ (regI i a x r2) + (regI j a x r2) + bI cf ≤ 255))), .int st, .int dn, .ref pr, .int r21105, .int (bI kp)]))]) hP hD [1] [0] rfl rfl (by decide) (by decide) hk1 hFc hP1 hD1
      generalize H1 = H at hP hS ⊢
      try dsimp only at e105
      obtain ⟨e105_0, e105_1, e105_2⟩ := e105
      replace e105_0 := e105_0.symm
      subst e105_0
      replace e105_1 := e105_1.symm
      subst e105_1
      replace e105_2 := e105_2.symm
      subst e105_2
      have hP : va_P D vwCl [(mm, .inl (cI, 256, .inl g)), (o, .inr (4, [.ref mm, .int (setA i (((regI i a x r2) + (regI j a x r2) + bI cf) &&& 255) a), .int (setX i (((regI i a x r2) + (regI j a x r2) + bI cf) &&& 255) x), .int sp, .int pc, .int (bI (decide (((regI i a x r2) + (regI j a x r2) + bI cf) &&& 255 = 0))), .int (bI (decide (¬ (regI i a x r2) + (regI j a x r2) + bI cf ≤ 255))), .int st, .int dn, .ref pr, .int (setR i (((regI i a x r2) + (regI j a x r2) + bI cf) &&& 255) r2), .int (bI kp)]))] H := hP
      have hD : va_D A [(mm, .inl (cI, 256, .inl g)), (o, .inr (4, [.ref mm, .int (setA i (((regI i a x r2) + (regI j a x r2) + bI cf) &&& 255) a), .int (setX i (((regI i a x r2) + (regI j a x r2) + bI cf) &&& 255) x), .int sp, .int pc, .int (bI (decide (((regI i a x r2) + (regI j a x r2) + bI cf) &&& 255 = 0))), .int (bI (decide (¬ (regI i a x r2) + (regI j a x r2) + bI cf ≤ 255))), .int st, .int dn, .ref pr, .int (setR i (((regI i a x r2) + (regI j a x r2) + bI cf) &&& 255) r2), .int (bI kp)]))] := hD
      refine lv_goto (tgt := 201) hx hb d_SM_reckon_108 rfl ?_
      have hP9 : va_P D vwCl [(o, .inr (4, [.ref mm, .int (setA i (((regI i a x r2) + (regI j a x r2) + bI cf) &&& 255) a), .int (setX i (((regI i a x r2) + (regI j a x r2) + bI cf) &&& 255) x), .int sp, .int pc, .int (bI (decide (((regI i a x r2) + (regI j a x r2) + bI cf) &&& 255 = 0))), .int (bI (decide (¬ (regI i a x r2) + (regI j a x r2) + bI cf ≤ 255))), .int st, .int dn, .ref pr, .int (setR i (((regI i a x r2) + (regI j a x r2) + bI cf) &&& 255) r2), .int (bI kp)])), (mm, .inl (cI, 256, .inl g))] H := hP.sub [1, 0] rfl
      have hD9 : va_D A [(o, .inr (4, [.ref mm, .int (setA i (((regI i a x r2) + (regI j a x r2) + bI cf) &&& 255) a), .int (setX i (((regI i a x r2) + (regI j a x r2) + bI cf) &&& 255) x), .int sp, .int pc, .int (bI (decide (((regI i a x r2) + (regI j a x r2) + bI cf) &&& 255 = 0))), .int (bI (decide (¬ (regI i a x r2) + (regI j a x r2) + bI cf ≤ 255))), .int st, .int dn, .ref pr, .int (setR i (((regI i a x r2) + (regI j a x r2) + bI cf) &&& 255) r2), .int (bI kp)])), (mm, .inl (cI, 256, .inl g))] := hD.sub [1, 0] (by decide) rfl
      exact W.vret hx hb hr (fun t ht hW => ⟨⟨(g, setA i (((regI i a x r2) + (regI j a x r2) + bI cf) &&& 255) a, setX i (((regI i a x r2) + (regI j a x r2) + bI cf) &&& 255) x, sp, pc, decide (((regI i a x r2) + (regI j a x r2) + bI cf) &&& 255 = 0), decide (¬ (regI i a x r2) + (regI j a x r2) + bI cf ≤ 255), st, setR i (((regI i a x r2) + (regI j a x r2) + bI cf) &&& 255) r2, kp), rfl, by first | (rw [h15]; rfl) | (rw [h15]; simp [sReck, sSet, sumI, sumC, difI, difC, dblI, dblC, hlvI, hlvC]; done) | (rw [h15]; simp [sReck, sSet, sumI, sumC, difI, difC, dblI, dblC, hlvI, hlvC]; done), by rw [ht]; exact hP9, va_K.moved hW.alike hK, hD9⟩, hS.F ht⟩) hS.2.2 d_SM_reckon_201
    | 3, _, h15 =>
      have h15 : nb = 11 := h15
      refine lv_tableIn (off := 96) (tgt := 111) hx hb d_SM_reckon_15 (by rw [h15]; decide) (by rw [h15]; decide) (by rw [h15]; rfl) rfl ?_
      refine lv_aload_n hx hb d_SM_reckon_111 rfl (lv_at hl 2 rfl) ?_
      refine lv_iload_n hx hb d_SM_reckon_112 rfl (lv_at hl 4 rfl) ?_
      refine lv_aload_n hx hb d_SM_reckon_113 rfl (lv_at hl 2 rfl) ?_
      refine lv_iload hx hb d_SM_reckon_114 (lv_at hl 1 rfl) ?_
      refine lv_iload hx hb d_SM_reckon_116 (lv_at hl 0 rfl) ?_
      have hPc := hP.sub (ws' := [(o, .inr (4, [.ref mm, .int a, .int x, .int sp, .int pc, .int (bI zf), .int (bI cf), .int st, .int dn, .ref pr, .int r2, .int (bI kp)]))]) [0] rfl
      have hDc := hD.sub (ws' := [(o, .inr (4, [.ref mm, .int a, .int x, .int sp, .int pc, .int (bI zf), .int (bI cf), .int st, .int dn, .ref pr, .int r2, .int (bI kp)]))]) [0] (by decide) rfl
      have hFc := va_free (wc := [(o, .inr (4, [.ref mm, .int a, .int x, .int sp, .int pc, .int (bI zf), .int (bI cf), .int st, .int dn, .ref pr, .int r2, .int (bI kp)]))]) hD hS hA [0] rfl
      refine va_calli (va_runU (As := [.int (regI i a x r2), .int (regI j a x r2)]) (rest := [.int i, .ref o]) ⟨hx, hb, hml, hown, hts⟩ (m_SM_diff l D cI cZ o mm a x sp pc zf cf st dn pr r2 kp (regI i a x r2) (regI j a x r2) H.size) (va_cwU 2 hts (gU k_641 k_642 k_643 k_560 k_58 k_561) rfl rfl rfl rfl hd_MA_difference ⟨Nat.le_of_ble_eq_true rfl, Nat.le_of_ble_eq_true rfl⟩) (PcW.preV (va_recv hK hP (q0 := 0) (ci := 4) rfl rfl) hPc hK hDc hN) rfl rfl hl.1 rfl (lv_room (Nat.le_of_ble_eq_true rfl)) d_SM_reckon_118 ⟨Nat.le_of_ble_eq_true rfl, Nat.le_of_ble_eq_true rfl⟩) hS (fun q _ h => hFc q h) hFc (fun r118 u t H1 locs ht hvm e118 hB hz1 hk1 hS => ?_)
      obtain ⟨z1118, c1118⟩ := u
      obtain ⟨hP1, hK1, hD1⟩ := hB
      rw [ht] at hP1
      obtain ⟨hP, hD⟩ := va_join (wr := [(mm, .inl (cI, 256, .inl g))]) (w1 := [(o, .inr (4, [.ref mm, .int a, .int x, .int sp, .int pc, .int (bI z1118), .int (bI c1118), .int st, .int dn, .ref pr, .int r2, .int (bI kp)]))]) hP hD [0] [1] rfl rfl (by decide) (by decide) hk1 hFc hP1 hD1
      generalize H1 = H at hP hS ⊢
      try dsimp only at e118
      obtain ⟨e118_0, e118_1, e118_2⟩ := e118
      replace e118_0 := e118_0.symm
      subst e118_0
      replace e118_1 := e118_1.symm
      subst e118_1
      replace e118_2 := e118_2.symm
      subst e118_2
      have hP : va_P D vwCl [(mm, .inl (cI, 256, .inl g)), (o, .inr (4, [.ref mm, .int a, .int x, .int sp, .int pc, .int (bI (decide (((regI i a x r2) - (regI j a x r2)) &&& 255 = 0))), .int (bI (decide (¬ (regI j a x r2) ≤ (regI i a x r2)))), .int st, .int dn, .ref pr, .int r2, .int (bI kp)]))] H := hP
      have hD : va_D A [(mm, .inl (cI, 256, .inl g)), (o, .inr (4, [.ref mm, .int a, .int x, .int sp, .int pc, .int (bI (decide (((regI i a x r2) - (regI j a x r2)) &&& 255 = 0))), .int (bI (decide (¬ (regI j a x r2) ≤ (regI i a x r2)))), .int st, .int dn, .ref pr, .int r2, .int (bI kp)]))] := hD
      have hPc := hP.sub (ws' := [(o, .inr (4, [.ref mm, .int a, .int x, .int sp, .int pc, .int (bI (decide (((regI i a x r2) - (regI j a x r2)) &&& 255 = 0))), .int (bI (decide (¬ (regI j a x r2) ≤ (regI i a x r2)))), .int st, .int dn, .ref pr, .int r2, .int (bI kp)]))]) [1] rfl
      have hDc := hD.sub (ws' := [(o, .inr (4, [.ref mm, .int a, .int x, .int sp, .int pc, .int (bI (decide (((regI i a x r2) - (regI j a x r2)) &&& 255 = 0))), .int (bI (decide (¬ (regI j a x r2) ≤ (regI i a x r2)))), .int st, .int dn, .ref pr, .int r2, .int (bI kp)]))]) [1] (by decide) rfl
      have hFc := va_free (wc := [(o, .inr (4, [.ref mm, .int a, .int x, .int sp, .int pc, .int (bI (decide (((regI i a x r2) - (regI j a x r2)) &&& 255 = 0))), .int (bI (decide (¬ (regI j a x r2) ≤ (regI i a x r2)))), .int st, .int dn, .ref pr, .int r2, .int (bI kp)]))]) hD hS hA [1] rfl
      refine va_callv (va_runV (As := [.int i, .int (((regI i a x r2) - (regI j a x r2)) &&& 255)]) (rest := []) ⟨hx, hb, hml, hown, hts⟩ (m_SM_setRegister l D cI cZ o mm a x sp pc (decide (((regI i a x r2) - (regI j a x r2)) &&& 255 = 0)) (decide (¬ (regI j a x r2) ≤ (regI i a x r2))) st dn pr r2 kp i (((regI i a x r2) - (regI j a x r2)) &&& 255) H.size) ⟨cB 2 hts k_624 k_60 k_621 hd_SM_setRegister ⟨Nat.le_of_ble_eq_true rfl, Nat.le_of_ble_eq_true rfl⟩ rfl rfl, hts _ k_623, hts _ k_23⟩ (PcW.preV (va_recv hK hP (q0 := 1) (ci := 4) rfl rfl) hPc hK hDc hN) rfl rfl hl.1 rfl (lv_room (Nat.le_of_ble_eq_true rfl)) d_SM_reckon_121 ⟨Nat.le_of_ble_eq_true rfl, Nat.le_of_ble_eq_true rfl⟩) hS (fun q _ h => hFc q h) hFc (fun u t H1 locs ht hvm e121 hB hz1 hk1 hS => ?_)
      obtain ⟨a1121, x1121, r21121⟩ := u
      obtain ⟨hP1, hK1, hD1⟩ := hB
      rw [ht] at hP1
      obtain ⟨hP, hD⟩ := va_join (wr := [(mm, .inl (cI, 256, .inl g))]) (w1 := [(o, .inr (4, [.ref mm, .int a1121, .int x1121, .int sp, .int pc, .int (bI (decide (((regI i a x r2) - (regI j a x r2)) &&& 255 = 0))), .int (bI (decide (¬ (regI j a x r2) ≤ (regI i a x r2)))), .int st, .int dn, .ref pr, .int r21121, .int (bI kp)]))]) hP hD [1] [0] rfl rfl (by decide) (by decide) hk1 hFc hP1 hD1
      generalize H1 = H at hP hS ⊢
      try dsimp only at e121
      obtain ⟨e121_0, e121_1, e121_2⟩ := e121
      replace e121_0 := e121_0.symm
      subst e121_0
      replace e121_1 := e121_1.symm
      subst e121_1
      replace e121_2 := e121_2.symm
      subst e121_2
      have hP : va_P D vwCl [(mm, .inl (cI, 256, .inl g)), (o, .inr (4, [.ref mm, .int (setA i (((regI i a x r2) - (regI j a x r2)) &&& 255) a), .int (setX i (((regI i a x r2) - (regI j a x r2)) &&& 255) x), .int sp, .int pc, .int (bI (decide (((regI i a x r2) - (regI j a x r2)) &&& 255 = 0))), .int (bI (decide (¬ (regI j a x r2) ≤ (regI i a x r2)))), .int st, .int dn, .ref pr, .int (setR i (((regI i a x r2) - (regI j a x r2)) &&& 255) r2), .int (bI kp)]))] H := hP
      have hD : va_D A [(mm, .inl (cI, 256, .inl g)), (o, .inr (4, [.ref mm, .int (setA i (((regI i a x r2) - (regI j a x r2)) &&& 255) a), .int (setX i (((regI i a x r2) - (regI j a x r2)) &&& 255) x), .int sp, .int pc, .int (bI (decide (((regI i a x r2) - (regI j a x r2)) &&& 255 = 0))), .int (bI (decide (¬ (regI j a x r2) ≤ (regI i a x r2)))), .int st, .int dn, .ref pr, .int (setR i (((regI i a x r2) - (regI j a x r2)) &&& 255) r2), .int (bI kp)]))] := hD
      refine lv_goto (tgt := 201) hx hb d_SM_reckon_124 rfl ?_
      have hP9 : va_P D vwCl [(o, .inr (4, [.ref mm, .int (setA i (((regI i a x r2) - (regI j a x r2)) &&& 255) a), .int (setX i (((regI i a x r2) - (regI j a x r2)) &&& 255) x), .int sp, .int pc, .int (bI (decide (((regI i a x r2) - (regI j a x r2)) &&& 255 = 0))), .int (bI (decide (¬ (regI j a x r2) ≤ (regI i a x r2)))), .int st, .int dn, .ref pr, .int (setR i (((regI i a x r2) - (regI j a x r2)) &&& 255) r2), .int (bI kp)])), (mm, .inl (cI, 256, .inl g))] H := hP.sub [1, 0] rfl
      have hD9 : va_D A [(o, .inr (4, [.ref mm, .int (setA i (((regI i a x r2) - (regI j a x r2)) &&& 255) a), .int (setX i (((regI i a x r2) - (regI j a x r2)) &&& 255) x), .int sp, .int pc, .int (bI (decide (((regI i a x r2) - (regI j a x r2)) &&& 255 = 0))), .int (bI (decide (¬ (regI j a x r2) ≤ (regI i a x r2)))), .int st, .int dn, .ref pr, .int (setR i (((regI i a x r2) - (regI j a x r2)) &&& 255) r2), .int (bI kp)])), (mm, .inl (cI, 256, .inl g))] := hD.sub [1, 0] (by decide) rfl
      exact W.vret hx hb hr (fun t ht hW => ⟨⟨(g, setA i (((regI i a x r2) - (regI j a x r2)) &&& 255) a, setX i (((regI i a x r2) - (regI j a x r2)) &&& 255) x, sp, pc, decide (((regI i a x r2) - (regI j a x r2)) &&& 255 = 0), decide (¬ (regI j a x r2) ≤ (regI i a x r2)), st, setR i (((regI i a x r2) - (regI j a x r2)) &&& 255) r2, kp), rfl, by first | (rw [h15]; rfl) | (rw [h15]; simp [sReck, sSet, sumI, sumC, difI, difC, dblI, dblC, hlvI, hlvC]; done) | (rw [h15]; simp [sReck, sSet, sumI, sumC, difI, difC, dblI, dblC, hlvI, hlvC]; done), by rw [ht]; exact hP9, va_K.moved hW.alike hK, hD9⟩, hS.F ht⟩) hS.2.2 d_SM_reckon_201
    | 4, _, h15 =>
      have h15 : nb = 12 := h15
      refine lv_tableIn (off := 112) (tgt := 127) hx hb d_SM_reckon_15 (by rw [h15]; decide) (by rw [h15]; decide) (by rw [h15]; rfl) rfl ?_
      refine lv_aload_n hx hb d_SM_reckon_127 rfl (lv_at hl 2 rfl) ?_
      refine lv_iload_n hx hb d_SM_reckon_128 rfl (lv_at hl 4 rfl) ?_
      refine lv_aload_n hx hb d_SM_reckon_129 rfl (lv_at hl 2 rfl) ?_
      refine lv_iload hx hb d_SM_reckon_130 (lv_at hl 1 rfl) ?_
      refine lv_iload hx hb d_SM_reckon_132 (lv_at hl 0 rfl) ?_
      refine lv_iand hx hb d_SM_reckon_134 ?_
      have hPc := hP.sub (ws' := [(o, .inr (4, [.ref mm, .int a, .int x, .int sp, .int pc, .int (bI zf), .int (bI cf), .int st, .int dn, .ref pr, .int r2, .int (bI kp)]))]) [0] rfl
      have hDc := hD.sub (ws' := [(o, .inr (4, [.ref mm, .int a, .int x, .int sp, .int pc, .int (bI zf), .int (bI cf), .int st, .int dn, .ref pr, .int r2, .int (bI kp)]))]) [0] (by decide) rfl
      have hFc := va_free (wc := [(o, .inr (4, [.ref mm, .int a, .int x, .int sp, .int pc, .int (bI zf), .int (bI cf), .int st, .int dn, .ref pr, .int r2, .int (bI kp)]))]) hD hS hA [0] rfl
      refine va_calli (va_runU (As := [.int ((regI i a x r2) &&& (regI j a x r2))]) (rest := [.int i, .ref o]) ⟨hx, hb, hml, hown, hts⟩ (m_SM_testedWC l D cI cZ o mm a x sp pc zf cf st dn pr r2 kp ((regI i a x r2) &&& (regI j a x r2)) H.size) (va_cwU 1 hts (gU k_635 k_636 k_637 k_566 k_58 k_567) rfl rfl rfl rfl hd_MA_testedWithoutCarry ⟨Nat.le_of_ble_eq_true rfl, Nat.le_of_ble_eq_true rfl⟩) (PcW.preV (va_recv hK hP (q0 := 0) (ci := 4) rfl rfl) hPc hK hDc hN) rfl rfl hl.1 rfl (lv_room (Nat.le_of_ble_eq_true rfl)) d_SM_reckon_135 ⟨Nat.le_of_ble_eq_true rfl, Nat.le_of_ble_eq_true rfl⟩) hS (fun q _ h => hFc q h) hFc (fun r135 u t H1 locs ht hvm e135 hB hz1 hk1 hS => ?_)
      obtain ⟨z1135, c1135⟩ := u
      obtain ⟨hP1, hK1, hD1⟩ := hB
      rw [ht] at hP1
      obtain ⟨hP, hD⟩ := va_join (wr := [(mm, .inl (cI, 256, .inl g))]) (w1 := [(o, .inr (4, [.ref mm, .int a, .int x, .int sp, .int pc, .int (bI z1135), .int (bI c1135), .int st, .int dn, .ref pr, .int r2, .int (bI kp)]))]) hP hD [0] [1] rfl rfl (by decide) (by decide) hk1 hFc hP1 hD1
      generalize H1 = H at hP hS ⊢
      try dsimp only at e135
      obtain ⟨e135_0, e135_1, e135_2⟩ := e135
      replace e135_0 := e135_0.symm
      subst e135_0
      replace e135_1 := e135_1.symm
      subst e135_1
      replace e135_2 := e135_2.symm
      subst e135_2
      have hP : va_P D vwCl [(mm, .inl (cI, 256, .inl g)), (o, .inr (4, [.ref mm, .int a, .int x, .int sp, .int pc, .int (bI (decide (((regI i a x r2) &&& (regI j a x r2)) = 0))), .int (bI false), .int st, .int dn, .ref pr, .int r2, .int (bI kp)]))] H := hP
      have hD : va_D A [(mm, .inl (cI, 256, .inl g)), (o, .inr (4, [.ref mm, .int a, .int x, .int sp, .int pc, .int (bI (decide (((regI i a x r2) &&& (regI j a x r2)) = 0))), .int (bI false), .int st, .int dn, .ref pr, .int r2, .int (bI kp)]))] := hD
      have hPc := hP.sub (ws' := [(o, .inr (4, [.ref mm, .int a, .int x, .int sp, .int pc, .int (bI (decide (((regI i a x r2) &&& (regI j a x r2)) = 0))), .int (bI false), .int st, .int dn, .ref pr, .int r2, .int (bI kp)]))]) [1] rfl
      have hDc := hD.sub (ws' := [(o, .inr (4, [.ref mm, .int a, .int x, .int sp, .int pc, .int (bI (decide (((regI i a x r2) &&& (regI j a x r2)) = 0))), .int (bI false), .int st, .int dn, .ref pr, .int r2, .int (bI kp)]))]) [1] (by decide) rfl
      have hFc := va_free (wc := [(o, .inr (4, [.ref mm, .int a, .int x, .int sp, .int pc, .int (bI (decide (((regI i a x r2) &&& (regI j a x r2)) = 0))), .int (bI false), .int st, .int dn, .ref pr, .int r2, .int (bI kp)]))]) hD hS hA [1] rfl
      refine va_callv (va_runV (As := [.int i, .int ((regI i a x r2) &&& (regI j a x r2))]) (rest := []) ⟨hx, hb, hml, hown, hts⟩ (m_SM_setRegister l D cI cZ o mm a x sp pc (decide (((regI i a x r2) &&& (regI j a x r2)) = 0)) false st dn pr r2 kp i ((regI i a x r2) &&& (regI j a x r2)) H.size) ⟨cB 2 hts k_624 k_60 k_621 hd_SM_setRegister ⟨Nat.le_of_ble_eq_true rfl, Nat.le_of_ble_eq_true rfl⟩ rfl rfl, hts _ k_623, hts _ k_23⟩ (PcW.preV (va_recv hK hP (q0 := 1) (ci := 4) rfl rfl) hPc hK hDc hN) rfl rfl hl.1 rfl (lv_room (Nat.le_of_ble_eq_true rfl)) d_SM_reckon_138 ⟨Nat.le_of_ble_eq_true rfl, Nat.le_of_ble_eq_true rfl⟩) hS (fun q _ h => hFc q h) hFc (fun u t H1 locs ht hvm e138 hB hz1 hk1 hS => ?_)
      obtain ⟨a1138, x1138, r21138⟩ := u
      obtain ⟨hP1, hK1, hD1⟩ := hB
      rw [ht] at hP1
      obtain ⟨hP, hD⟩ := va_join (wr := [(mm, .inl (cI, 256, .inl g))]) (w1 := [(o, .inr (4, [.ref mm, .int a1138, .int x1138, .int sp, .int pc, .int (bI (decide (((regI i a x r2) &&& (regI j a x r2)) = 0))), .int (bI false), .int st, .int dn, .ref pr, .int r21138, .int (bI kp)]))]) hP hD [1] [0] rfl rfl (by decide) (by decide) hk1 hFc hP1 hD1
      generalize H1 = H at hP hS ⊢
      try dsimp only at e138
      obtain ⟨e138_0, e138_1, e138_2⟩ := e138
      replace e138_0 := e138_0.symm
      subst e138_0
      replace e138_1 := e138_1.symm
      subst e138_1
      replace e138_2 := e138_2.symm
      subst e138_2
      have hP : va_P D vwCl [(mm, .inl (cI, 256, .inl g)), (o, .inr (4, [.ref mm, .int (setA i ((regI i a x r2) &&& (regI j a x r2)) a), .int (setX i ((regI i a x r2) &&& (regI j a x r2)) x), .int sp, .int pc, .int (bI (decide (((regI i a x r2) &&& (regI j a x r2)) = 0))), .int (bI false), .int st, .int dn, .ref pr, .int (setR i ((regI i a x r2) &&& (regI j a x r2)) r2), .int (bI kp)]))] H := hP
      have hD : va_D A [(mm, .inl (cI, 256, .inl g)), (o, .inr (4, [.ref mm, .int (setA i ((regI i a x r2) &&& (regI j a x r2)) a), .int (setX i ((regI i a x r2) &&& (regI j a x r2)) x), .int sp, .int pc, .int (bI (decide (((regI i a x r2) &&& (regI j a x r2)) = 0))), .int (bI false), .int st, .int dn, .ref pr, .int (setR i ((regI i a x r2) &&& (regI j a x r2)) r2), .int (bI kp)]))] := hD
      refine lv_goto (tgt := 201) hx hb d_SM_reckon_141 rfl ?_
      have hP9 : va_P D vwCl [(o, .inr (4, [.ref mm, .int (setA i ((regI i a x r2) &&& (regI j a x r2)) a), .int (setX i ((regI i a x r2) &&& (regI j a x r2)) x), .int sp, .int pc, .int (bI (decide (((regI i a x r2) &&& (regI j a x r2)) = 0))), .int (bI false), .int st, .int dn, .ref pr, .int (setR i ((regI i a x r2) &&& (regI j a x r2)) r2), .int (bI kp)])), (mm, .inl (cI, 256, .inl g))] H := hP.sub [1, 0] rfl
      have hD9 : va_D A [(o, .inr (4, [.ref mm, .int (setA i ((regI i a x r2) &&& (regI j a x r2)) a), .int (setX i ((regI i a x r2) &&& (regI j a x r2)) x), .int sp, .int pc, .int (bI (decide (((regI i a x r2) &&& (regI j a x r2)) = 0))), .int (bI false), .int st, .int dn, .ref pr, .int (setR i ((regI i a x r2) &&& (regI j a x r2)) r2), .int (bI kp)])), (mm, .inl (cI, 256, .inl g))] := hD.sub [1, 0] (by decide) rfl
      exact W.vret hx hb hr (fun t ht hW => ⟨⟨(g, setA i ((regI i a x r2) &&& (regI j a x r2)) a, setX i ((regI i a x r2) &&& (regI j a x r2)) x, sp, pc, decide (((regI i a x r2) &&& (regI j a x r2)) = 0), false, st, setR i ((regI i a x r2) &&& (regI j a x r2)) r2, kp), rfl, by first | (rw [h15]; rfl) | (rw [h15]; simp [sReck, sSet, sumI, sumC, difI, difC, dblI, dblC, hlvI, hlvC]; done) | (rw [h15]; simp [sReck, sSet, sumI, sumC, difI, difC, dblI, dblC, hlvI, hlvC]; done), by rw [ht]; exact hP9, va_K.moved hW.alike hK, hD9⟩, hS.F ht⟩) hS.2.2 d_SM_reckon_201
    | 5, _, h15 =>
      have h15 : nb = 13 := h15
      refine lv_tableIn (off := 129) (tgt := 144) hx hb d_SM_reckon_15 (by rw [h15]; decide) (by rw [h15]; decide) (by rw [h15]; rfl) rfl ?_
      refine lv_aload_n hx hb d_SM_reckon_144 rfl (lv_at hl 2 rfl) ?_
      refine lv_iload_n hx hb d_SM_reckon_145 rfl (lv_at hl 4 rfl) ?_
      refine lv_aload_n hx hb d_SM_reckon_146 rfl (lv_at hl 2 rfl) ?_
      refine lv_iload hx hb d_SM_reckon_147 (lv_at hl 1 rfl) ?_
      refine lv_iload hx hb d_SM_reckon_149 (lv_at hl 0 rfl) ?_
      refine lv_ixor hx hb d_SM_reckon_151 ?_
      have hPc := hP.sub (ws' := [(o, .inr (4, [.ref mm, .int a, .int x, .int sp, .int pc, .int (bI zf), .int (bI cf), .int st, .int dn, .ref pr, .int r2, .int (bI kp)]))]) [0] rfl
      have hDc := hD.sub (ws' := [(o, .inr (4, [.ref mm, .int a, .int x, .int sp, .int pc, .int (bI zf), .int (bI cf), .int st, .int dn, .ref pr, .int r2, .int (bI kp)]))]) [0] (by decide) rfl
      have hFc := va_free (wc := [(o, .inr (4, [.ref mm, .int a, .int x, .int sp, .int pc, .int (bI zf), .int (bI cf), .int st, .int dn, .ref pr, .int r2, .int (bI kp)]))]) hD hS hA [0] rfl
      refine va_calli (va_runU (As := [.int ((regI i a x r2) ^^^ (regI j a x r2))]) (rest := [.int i, .ref o]) ⟨hx, hb, hml, hown, hts⟩ (m_SM_testedWC l D cI cZ o mm a x sp pc zf cf st dn pr r2 kp ((regI i a x r2) ^^^ (regI j a x r2)) H.size) (va_cwU 1 hts (gU k_635 k_636 k_637 k_566 k_58 k_567) rfl rfl rfl rfl hd_MA_testedWithoutCarry ⟨Nat.le_of_ble_eq_true rfl, Nat.le_of_ble_eq_true rfl⟩) (PcW.preV (va_recv hK hP (q0 := 0) (ci := 4) rfl rfl) hPc hK hDc hN) rfl rfl hl.1 rfl (lv_room (Nat.le_of_ble_eq_true rfl)) d_SM_reckon_152 ⟨Nat.le_of_ble_eq_true rfl, Nat.le_of_ble_eq_true rfl⟩) hS (fun q _ h => hFc q h) hFc (fun r152 u t H1 locs ht hvm e152 hB hz1 hk1 hS => ?_)
      obtain ⟨z1152, c1152⟩ := u
      obtain ⟨hP1, hK1, hD1⟩ := hB
      rw [ht] at hP1
      obtain ⟨hP, hD⟩ := va_join (wr := [(mm, .inl (cI, 256, .inl g))]) (w1 := [(o, .inr (4, [.ref mm, .int a, .int x, .int sp, .int pc, .int (bI z1152), .int (bI c1152), .int st, .int dn, .ref pr, .int r2, .int (bI kp)]))]) hP hD [0] [1] rfl rfl (by decide) (by decide) hk1 hFc hP1 hD1
      generalize H1 = H at hP hS ⊢
      try dsimp only at e152
      obtain ⟨e152_0, e152_1, e152_2⟩ := e152
      replace e152_0 := e152_0.symm
      subst e152_0
      replace e152_1 := e152_1.symm
      subst e152_1
      replace e152_2 := e152_2.symm
      subst e152_2
      have hP : va_P D vwCl [(mm, .inl (cI, 256, .inl g)), (o, .inr (4, [.ref mm, .int a, .int x, .int sp, .int pc, .int (bI (decide (((regI i a x r2) ^^^ (regI j a x r2)) = 0))), .int (bI false), .int st, .int dn, .ref pr, .int r2, .int (bI kp)]))] H := hP
      have hD : va_D A [(mm, .inl (cI, 256, .inl g)), (o, .inr (4, [.ref mm, .int a, .int x, .int sp, .int pc, .int (bI (decide (((regI i a x r2) ^^^ (regI j a x r2)) = 0))), .int (bI false), .int st, .int dn, .ref pr, .int r2, .int (bI kp)]))] := hD
      have hPc := hP.sub (ws' := [(o, .inr (4, [.ref mm, .int a, .int x, .int sp, .int pc, .int (bI (decide (((regI i a x r2) ^^^ (regI j a x r2)) = 0))), .int (bI false), .int st, .int dn, .ref pr, .int r2, .int (bI kp)]))]) [1] rfl
      have hDc := hD.sub (ws' := [(o, .inr (4, [.ref mm, .int a, .int x, .int sp, .int pc, .int (bI (decide (((regI i a x r2) ^^^ (regI j a x r2)) = 0))), .int (bI false), .int st, .int dn, .ref pr, .int r2, .int (bI kp)]))]) [1] (by decide) rfl
      have hFc := va_free (wc := [(o, .inr (4, [.ref mm, .int a, .int x, .int sp, .int pc, .int (bI (decide (((regI i a x r2) ^^^ (regI j a x r2)) = 0))), .int (bI false), .int st, .int dn, .ref pr, .int r2, .int (bI kp)]))]) hD hS hA [1] rfl
      refine va_callv (va_runV (As := [.int i, .int ((regI i a x r2) ^^^ (regI j a x r2))]) (rest := []) ⟨hx, hb, hml, hown, hts⟩ (m_SM_setRegister l D cI cZ o mm a x sp pc (decide (((regI i a x r2) ^^^ (regI j a x r2)) = 0)) false st dn pr r2 kp i ((regI i a x r2) ^^^ (regI j a x r2)) H.size) ⟨cB 2 hts k_624 k_60 k_621 hd_SM_setRegister ⟨Nat.le_of_ble_eq_true rfl, Nat.le_of_ble_eq_true rfl⟩ rfl rfl, hts _ k_623, hts _ k_23⟩ (PcW.preV (va_recv hK hP (q0 := 1) (ci := 4) rfl rfl) hPc hK hDc hN) rfl rfl hl.1 rfl (lv_room (Nat.le_of_ble_eq_true rfl)) d_SM_reckon_155 ⟨Nat.le_of_ble_eq_true rfl, Nat.le_of_ble_eq_true rfl⟩) hS (fun q _ h => hFc q h) hFc (fun u t H1 locs ht hvm e155 hB hz1 hk1 hS => ?_)
      obtain ⟨a1155, x1155, r21155⟩ := u
      obtain ⟨hP1, hK1, hD1⟩ := hB
      rw [ht] at hP1
      obtain ⟨hP, hD⟩ := va_join (wr := [(mm, .inl (cI, 256, .inl g))]) (w1 := [(o, .inr (4, [.ref mm, .int a1155, .int x1155, .int sp, .int pc, .int (bI (decide (((regI i a x r2) ^^^ (regI j a x r2)) = 0))), .int (bI false), .int st, .int dn, .ref pr, .int r21155, .int (bI kp)]))]) hP hD [1] [0] rfl rfl (by decide) (by decide) hk1 hFc hP1 hD1
      generalize H1 = H at hP hS ⊢
      try dsimp only at e155
      obtain ⟨e155_0, e155_1, e155_2⟩ := e155
      replace e155_0 := e155_0.symm
      subst e155_0
      replace e155_1 := e155_1.symm
      subst e155_1
      replace e155_2 := e155_2.symm
      subst e155_2
      have hP : va_P D vwCl [(mm, .inl (cI, 256, .inl g)), (o, .inr (4, [.ref mm, .int (setA i ((regI i a x r2) ^^^ (regI j a x r2)) a), .int (setX i ((regI i a x r2) ^^^ (regI j a x r2)) x), .int sp, .int pc, .int (bI (decide (((regI i a x r2) ^^^ (regI j a x r2)) = 0))), .int (bI false), .int st, .int dn, .ref pr, .int (setR i ((regI i a x r2) ^^^ (regI j a x r2)) r2), .int (bI kp)]))] H := hP
      have hD : va_D A [(mm, .inl (cI, 256, .inl g)), (o, .inr (4, [.ref mm, .int (setA i ((regI i a x r2) ^^^ (regI j a x r2)) a), .int (setX i ((regI i a x r2) ^^^ (regI j a x r2)) x), .int sp, .int pc, .int (bI (decide (((regI i a x r2) ^^^ (regI j a x r2)) = 0))), .int (bI false), .int st, .int dn, .ref pr, .int (setR i ((regI i a x r2) ^^^ (regI j a x r2)) r2), .int (bI kp)]))] := hD
      refine lv_goto (tgt := 201) hx hb d_SM_reckon_158 rfl ?_
      have hP9 : va_P D vwCl [(o, .inr (4, [.ref mm, .int (setA i ((regI i a x r2) ^^^ (regI j a x r2)) a), .int (setX i ((regI i a x r2) ^^^ (regI j a x r2)) x), .int sp, .int pc, .int (bI (decide (((regI i a x r2) ^^^ (regI j a x r2)) = 0))), .int (bI false), .int st, .int dn, .ref pr, .int (setR i ((regI i a x r2) ^^^ (regI j a x r2)) r2), .int (bI kp)])), (mm, .inl (cI, 256, .inl g))] H := hP.sub [1, 0] rfl
      have hD9 : va_D A [(o, .inr (4, [.ref mm, .int (setA i ((regI i a x r2) ^^^ (regI j a x r2)) a), .int (setX i ((regI i a x r2) ^^^ (regI j a x r2)) x), .int sp, .int pc, .int (bI (decide (((regI i a x r2) ^^^ (regI j a x r2)) = 0))), .int (bI false), .int st, .int dn, .ref pr, .int (setR i ((regI i a x r2) ^^^ (regI j a x r2)) r2), .int (bI kp)])), (mm, .inl (cI, 256, .inl g))] := hD.sub [1, 0] (by decide) rfl
      exact W.vret hx hb hr (fun t ht hW => ⟨⟨(g, setA i ((regI i a x r2) ^^^ (regI j a x r2)) a, setX i ((regI i a x r2) ^^^ (regI j a x r2)) x, sp, pc, decide (((regI i a x r2) ^^^ (regI j a x r2)) = 0), false, st, setR i ((regI i a x r2) ^^^ (regI j a x r2)) r2, kp), rfl, by first | (rw [h15]; rfl) | (rw [h15]; simp [sReck, sSet, sumI, sumC, difI, difC, dblI, dblC, hlvI, hlvC]; done) | (rw [h15]; simp [sReck, sSet, sumI, sumC, difI, difC, dblI, dblC, hlvI, hlvC]; done), by rw [ht]; exact hP9, va_K.moved hW.alike hK, hD9⟩, hS.F ht⟩) hS.2.2 d_SM_reckon_201
    | 6, _, h15 =>
      have h15 : nb = 14 := h15
      refine lv_tableIn (off := 146) (tgt := 161) hx hb d_SM_reckon_15 (by rw [h15]; decide) (by rw [h15]; decide) (by rw [h15]; rfl) rfl ?_
      refine lv_aload_n hx hb d_SM_reckon_161 rfl (lv_at hl 2 rfl) ?_
      refine lv_iload hx hb d_SM_reckon_162 (lv_at hl 1 rfl) ?_
      refine lv_iload hx hb d_SM_reckon_164 (lv_at hl 0 rfl) ?_
      have hPc := hP.sub (ws' := [(o, .inr (4, [.ref mm, .int a, .int x, .int sp, .int pc, .int (bI zf), .int (bI cf), .int st, .int dn, .ref pr, .int r2, .int (bI kp)]))]) [0] rfl
      have hDc := hD.sub (ws' := [(o, .inr (4, [.ref mm, .int a, .int x, .int sp, .int pc, .int (bI zf), .int (bI cf), .int st, .int dn, .ref pr, .int r2, .int (bI kp)]))]) [0] (by decide) rfl
      have hFc := va_free (wc := [(o, .inr (4, [.ref mm, .int a, .int x, .int sp, .int pc, .int (bI zf), .int (bI cf), .int st, .int dn, .ref pr, .int r2, .int (bI kp)]))]) hD hS hA [0] rfl
      refine va_calli (va_runU (As := [.int (regI i a x r2), .int (regI j a x r2)]) (rest := []) ⟨hx, hb, hml, hown, hts⟩ (m_SM_diff l D cI cZ o mm a x sp pc zf cf st dn pr r2 kp (regI i a x r2) (regI j a x r2) H.size) (va_cwU 2 hts (gU k_641 k_642 k_643 k_560 k_58 k_561) rfl rfl rfl rfl hd_MA_difference ⟨Nat.le_of_ble_eq_true rfl, Nat.le_of_ble_eq_true rfl⟩) (PcW.preV (va_recv hK hP (q0 := 0) (ci := 4) rfl rfl) hPc hK hDc hN) rfl rfl hl.1 rfl (lv_room (Nat.le_of_ble_eq_true rfl)) d_SM_reckon_166 ⟨Nat.le_of_ble_eq_true rfl, Nat.le_of_ble_eq_true rfl⟩) hS (fun q _ h => hFc q h) hFc (fun r166 u t H1 locs ht hvm e166 hB hz1 hk1 hS => ?_)
      obtain ⟨z1166, c1166⟩ := u
      obtain ⟨hP1, hK1, hD1⟩ := hB
      rw [ht] at hP1
      obtain ⟨hP, hD⟩ := va_join (wr := [(mm, .inl (cI, 256, .inl g))]) (w1 := [(o, .inr (4, [.ref mm, .int a, .int x, .int sp, .int pc, .int (bI z1166), .int (bI c1166), .int st, .int dn, .ref pr, .int r2, .int (bI kp)]))]) hP hD [0] [1] rfl rfl (by decide) (by decide) hk1 hFc hP1 hD1
      generalize H1 = H at hP hS ⊢
      try dsimp only at e166
      obtain ⟨e166_0, e166_1, e166_2⟩ := e166
      replace e166_0 := e166_0.symm
      subst e166_0
      replace e166_1 := e166_1.symm
      subst e166_1
      replace e166_2 := e166_2.symm
      subst e166_2
      have hP : va_P D vwCl [(mm, .inl (cI, 256, .inl g)), (o, .inr (4, [.ref mm, .int a, .int x, .int sp, .int pc, .int (bI (decide (((regI i a x r2) - (regI j a x r2)) &&& 255 = 0))), .int (bI (decide (¬ (regI j a x r2) ≤ (regI i a x r2)))), .int st, .int dn, .ref pr, .int r2, .int (bI kp)]))] H := hP
      have hD : va_D A [(mm, .inl (cI, 256, .inl g)), (o, .inr (4, [.ref mm, .int a, .int x, .int sp, .int pc, .int (bI (decide (((regI i a x r2) - (regI j a x r2)) &&& 255 = 0))), .int (bI (decide (¬ (regI j a x r2) ≤ (regI i a x r2)))), .int st, .int dn, .ref pr, .int r2, .int (bI kp)]))] := hD
      refine lv_pop hx hb d_SM_reckon_169 rfl ?_
      refine lv_goto (tgt := 201) hx hb d_SM_reckon_170 rfl ?_
      have hP9 : va_P D vwCl [(o, .inr (4, [.ref mm, .int a, .int x, .int sp, .int pc, .int (bI (decide (((regI i a x r2) - (regI j a x r2)) &&& 255 = 0))), .int (bI (decide (¬ (regI j a x r2) ≤ (regI i a x r2)))), .int st, .int dn, .ref pr, .int r2, .int (bI kp)])), (mm, .inl (cI, 256, .inl g))] H := hP.sub [1, 0] rfl
      have hD9 : va_D A [(o, .inr (4, [.ref mm, .int a, .int x, .int sp, .int pc, .int (bI (decide (((regI i a x r2) - (regI j a x r2)) &&& 255 = 0))), .int (bI (decide (¬ (regI j a x r2) ≤ (regI i a x r2)))), .int st, .int dn, .ref pr, .int r2, .int (bI kp)])), (mm, .inl (cI, 256, .inl g))] := hD.sub [1, 0] (by decide) rfl
      exact W.vret hx hb hr (fun t ht hW => ⟨⟨(g, a, x, sp, pc, decide (((regI i a x r2) - (regI j a x r2)) &&& 255 = 0), decide (¬ (regI j a x r2) ≤ (regI i a x r2)), st, r2, kp), rfl, by first | (rw [h15]; rfl) | (rw [h15]; simp [sReck, sSet, sumI, sumC, difI, difC, dblI, dblC, hlvI, hlvC]; done) | (rw [h15]; simp [sReck, sSet, sumI, sumC, difI, difC, dblI, dblC, hlvI, hlvC]; done), by rw [ht]; exact hP9, va_K.moved hW.alike hK, hD9⟩, hS.F ht⟩) hS.2.2 d_SM_reckon_201
    | 7, _, h15 =>
      have h15 : nb = 15 := h15
      refine lv_tableIn (off := 158) (tgt := 173) hx hb d_SM_reckon_15 (by rw [h15]; decide) (by rw [h15]; decide) (by rw [h15]; rfl) rfl ?_
      refine lv_aload_n hx hb d_SM_reckon_173 rfl (lv_at hl 2 rfl) ?_
      refine lv_iload_n hx hb d_SM_reckon_174 rfl (lv_at hl 4 rfl) ?_
      refine lv_aload_n hx hb d_SM_reckon_175 rfl (lv_at hl 2 rfl) ?_
      refine lv_iload hx hb d_SM_reckon_176 (lv_at hl 1 rfl) ?_
      have hPc := hP.sub (ws' := [(o, .inr (4, [.ref mm, .int a, .int x, .int sp, .int pc, .int (bI zf), .int (bI cf), .int st, .int dn, .ref pr, .int r2, .int (bI kp)]))]) [0] rfl
      have hDc := hD.sub (ws' := [(o, .inr (4, [.ref mm, .int a, .int x, .int sp, .int pc, .int (bI zf), .int (bI cf), .int st, .int dn, .ref pr, .int r2, .int (bI kp)]))]) [0] (by decide) rfl
      have hFc := va_free (wc := [(o, .inr (4, [.ref mm, .int a, .int x, .int sp, .int pc, .int (bI zf), .int (bI cf), .int st, .int dn, .ref pr, .int r2, .int (bI kp)]))]) hD hS hA [0] rfl
      refine va_calli (va_runU (As := [.int (regI i a x r2)]) (rest := [.int i, .ref o]) ⟨hx, hb, hml, hown, hts⟩ (m_SM_doubled l D cI cZ o mm a x sp pc zf cf st dn pr r2 kp (regI i a x r2) H.size) (va_cwU 1 hts (gU k_644 k_645 k_646 k_572 k_58 k_573) rfl rfl rfl rfl hd_MA_doubled ⟨Nat.le_of_ble_eq_true rfl, Nat.le_of_ble_eq_true rfl⟩) (PcW.preV (va_recv hK hP (q0 := 0) (ci := 4) rfl rfl) hPc hK hDc hN) rfl rfl hl.1 rfl (lv_room (Nat.le_of_ble_eq_true rfl)) d_SM_reckon_178 ⟨Nat.le_of_ble_eq_true rfl, Nat.le_of_ble_eq_true rfl⟩) hS (fun q _ h => hFc q h) hFc (fun r178 u t H1 locs ht hvm e178 hB hz1 hk1 hS => ?_)
      obtain ⟨z1178, c1178⟩ := u
      obtain ⟨hP1, hK1, hD1⟩ := hB
      rw [ht] at hP1
      obtain ⟨hP, hD⟩ := va_join (wr := [(mm, .inl (cI, 256, .inl g))]) (w1 := [(o, .inr (4, [.ref mm, .int a, .int x, .int sp, .int pc, .int (bI z1178), .int (bI c1178), .int st, .int dn, .ref pr, .int r2, .int (bI kp)]))]) hP hD [0] [1] rfl rfl (by decide) (by decide) hk1 hFc hP1 hD1
      generalize H1 = H at hP hS ⊢
      try dsimp only at e178
      obtain ⟨e178_0, e178_1, e178_2⟩ := e178
      replace e178_0 := e178_0.symm
      subst e178_0
      replace e178_1 := e178_1.symm
      subst e178_1
      replace e178_2 := e178_2.symm
      subst e178_2
      have hP : va_P D vwCl [(mm, .inl (cI, 256, .inl g)), (o, .inr (4, [.ref mm, .int a, .int x, .int sp, .int pc, .int (bI (decide ((2 * (regI i a x r2)) &&& 255 = 0))), .int (bI (decide (¬ (regI i a x r2) &&& 128 = 0))), .int st, .int dn, .ref pr, .int r2, .int (bI kp)]))] H := hP
      have hD : va_D A [(mm, .inl (cI, 256, .inl g)), (o, .inr (4, [.ref mm, .int a, .int x, .int sp, .int pc, .int (bI (decide ((2 * (regI i a x r2)) &&& 255 = 0))), .int (bI (decide (¬ (regI i a x r2) &&& 128 = 0))), .int st, .int dn, .ref pr, .int r2, .int (bI kp)]))] := hD
      have hPc := hP.sub (ws' := [(o, .inr (4, [.ref mm, .int a, .int x, .int sp, .int pc, .int (bI (decide ((2 * (regI i a x r2)) &&& 255 = 0))), .int (bI (decide (¬ (regI i a x r2) &&& 128 = 0))), .int st, .int dn, .ref pr, .int r2, .int (bI kp)]))]) [1] rfl
      have hDc := hD.sub (ws' := [(o, .inr (4, [.ref mm, .int a, .int x, .int sp, .int pc, .int (bI (decide ((2 * (regI i a x r2)) &&& 255 = 0))), .int (bI (decide (¬ (regI i a x r2) &&& 128 = 0))), .int st, .int dn, .ref pr, .int r2, .int (bI kp)]))]) [1] (by decide) rfl
      have hFc := va_free (wc := [(o, .inr (4, [.ref mm, .int a, .int x, .int sp, .int pc, .int (bI (decide ((2 * (regI i a x r2)) &&& 255 = 0))), .int (bI (decide (¬ (regI i a x r2) &&& 128 = 0))), .int st, .int dn, .ref pr, .int r2, .int (bI kp)]))]) hD hS hA [1] rfl
      refine va_callv (va_runV (As := [.int i, .int ((2 * (regI i a x r2)) &&& 255)]) (rest := []) ⟨hx, hb, hml, hown, hts⟩ (m_SM_setRegister l D cI cZ o mm a x sp pc (decide ((2 * (regI i a x r2)) &&& 255 = 0)) (decide (¬ (regI i a x r2) &&& 128 = 0)) st dn pr r2 kp i ((2 * (regI i a x r2)) &&& 255) H.size) ⟨cB 2 hts k_624 k_60 k_621 hd_SM_setRegister ⟨Nat.le_of_ble_eq_true rfl, Nat.le_of_ble_eq_true rfl⟩ rfl rfl, hts _ k_623, hts _ k_23⟩ (PcW.preV (va_recv hK hP (q0 := 1) (ci := 4) rfl rfl) hPc hK hDc hN) rfl rfl hl.1 rfl (lv_room (Nat.le_of_ble_eq_true rfl)) d_SM_reckon_181 ⟨Nat.le_of_ble_eq_true rfl, Nat.le_of_ble_eq_true rfl⟩) hS (fun q _ h => hFc q h) hFc (fun u t H1 locs ht hvm e181 hB hz1 hk1 hS => ?_)
      obtain ⟨a1181, x1181, r21181⟩ := u
      obtain ⟨hP1, hK1, hD1⟩ := hB
      rw [ht] at hP1
      obtain ⟨hP, hD⟩ := va_join (wr := [(mm, .inl (cI, 256, .inl g))]) (w1 := [(o, .inr (4, [.ref mm, .int a1181, .int x1181, .int sp, .int pc, .int (bI (decide ((2 * (regI i a x r2)) &&& 255 = 0))), .int (bI (decide (¬ (regI i a x r2) &&& 128 = 0))), .int st, .int dn, .ref pr, .int r21181, .int (bI kp)]))]) hP hD [1] [0] rfl rfl (by decide) (by decide) hk1 hFc hP1 hD1
      generalize H1 = H at hP hS ⊢
      try dsimp only at e181
      obtain ⟨e181_0, e181_1, e181_2⟩ := e181
      replace e181_0 := e181_0.symm
      subst e181_0
      replace e181_1 := e181_1.symm
      subst e181_1
      replace e181_2 := e181_2.symm
      subst e181_2
      have hP : va_P D vwCl [(mm, .inl (cI, 256, .inl g)), (o, .inr (4, [.ref mm, .int (setA i ((2 * (regI i a x r2)) &&& 255) a), .int (setX i ((2 * (regI i a x r2)) &&& 255) x), .int sp, .int pc, .int (bI (decide ((2 * (regI i a x r2)) &&& 255 = 0))), .int (bI (decide (¬ (regI i a x r2) &&& 128 = 0))), .int st, .int dn, .ref pr, .int (setR i ((2 * (regI i a x r2)) &&& 255) r2), .int (bI kp)]))] H := hP
      have hD : va_D A [(mm, .inl (cI, 256, .inl g)), (o, .inr (4, [.ref mm, .int (setA i ((2 * (regI i a x r2)) &&& 255) a), .int (setX i ((2 * (regI i a x r2)) &&& 255) x), .int sp, .int pc, .int (bI (decide ((2 * (regI i a x r2)) &&& 255 = 0))), .int (bI (decide (¬ (regI i a x r2) &&& 128 = 0))), .int st, .int dn, .ref pr, .int (setR i ((2 * (regI i a x r2)) &&& 255) r2), .int (bI kp)]))] := hD
      refine lv_goto (tgt := 201) hx hb d_SM_reckon_184 rfl ?_
      have hP9 : va_P D vwCl [(o, .inr (4, [.ref mm, .int (setA i ((2 * (regI i a x r2)) &&& 255) a), .int (setX i ((2 * (regI i a x r2)) &&& 255) x), .int sp, .int pc, .int (bI (decide ((2 * (regI i a x r2)) &&& 255 = 0))), .int (bI (decide (¬ (regI i a x r2) &&& 128 = 0))), .int st, .int dn, .ref pr, .int (setR i ((2 * (regI i a x r2)) &&& 255) r2), .int (bI kp)])), (mm, .inl (cI, 256, .inl g))] H := hP.sub [1, 0] rfl
      have hD9 : va_D A [(o, .inr (4, [.ref mm, .int (setA i ((2 * (regI i a x r2)) &&& 255) a), .int (setX i ((2 * (regI i a x r2)) &&& 255) x), .int sp, .int pc, .int (bI (decide ((2 * (regI i a x r2)) &&& 255 = 0))), .int (bI (decide (¬ (regI i a x r2) &&& 128 = 0))), .int st, .int dn, .ref pr, .int (setR i ((2 * (regI i a x r2)) &&& 255) r2), .int (bI kp)])), (mm, .inl (cI, 256, .inl g))] := hD.sub [1, 0] (by decide) rfl
      exact W.vret hx hb hr (fun t ht hW => ⟨⟨(g, setA i ((2 * (regI i a x r2)) &&& 255) a, setX i ((2 * (regI i a x r2)) &&& 255) x, sp, pc, decide ((2 * (regI i a x r2)) &&& 255 = 0), decide (¬ (regI i a x r2) &&& 128 = 0), st, setR i ((2 * (regI i a x r2)) &&& 255) r2, kp), rfl, by first | (rw [h15]; rfl) | (rw [h15]; simp [sReck, sSet, sumI, sumC, difI, difC, dblI, dblC, hlvI, hlvC]; done) | (rw [h15]; simp [sReck, sSet, sumI, sumC, difI, difC, dblI, dblC, hlvI, hlvC]; done), by rw [ht]; exact hP9, va_K.moved hW.alike hK, hD9⟩, hS.F ht⟩) hS.2.2 d_SM_reckon_201
    | 8, _, h15 =>
      have h15 : nb = 16 := h15
      refine lv_tableIn (off := 172) (tgt := 187) hx hb d_SM_reckon_15 (by rw [h15]; decide) (by rw [h15]; decide) (by rw [h15]; rfl) rfl ?_
      refine lv_aload_n hx hb d_SM_reckon_187 rfl (lv_at hl 2 rfl) ?_
      refine lv_iload_n hx hb d_SM_reckon_188 rfl (lv_at hl 4 rfl) ?_
      refine lv_aload_n hx hb d_SM_reckon_189 rfl (lv_at hl 2 rfl) ?_
      refine lv_iload hx hb d_SM_reckon_190 (lv_at hl 1 rfl) ?_
      have hPc := hP.sub (ws' := [(o, .inr (4, [.ref mm, .int a, .int x, .int sp, .int pc, .int (bI zf), .int (bI cf), .int st, .int dn, .ref pr, .int r2, .int (bI kp)]))]) [0] rfl
      have hDc := hD.sub (ws' := [(o, .inr (4, [.ref mm, .int a, .int x, .int sp, .int pc, .int (bI zf), .int (bI cf), .int st, .int dn, .ref pr, .int r2, .int (bI kp)]))]) [0] (by decide) rfl
      have hFc := va_free (wc := [(o, .inr (4, [.ref mm, .int a, .int x, .int sp, .int pc, .int (bI zf), .int (bI cf), .int st, .int dn, .ref pr, .int r2, .int (bI kp)]))]) hD hS hA [0] rfl
      refine va_calli (va_runU (As := [.int (regI i a x r2)]) (rest := [.int i, .ref o]) ⟨hx, hb, hml, hown, hts⟩ (m_SM_halved l D cI cZ o mm a x sp pc zf cf st dn pr r2 kp (regI i a x r2) H.size) (va_cwU 1 hts (gU k_647 k_648 k_649 k_578 k_58 k_579) rfl rfl rfl rfl hd_MA_halved ⟨Nat.le_of_ble_eq_true rfl, Nat.le_of_ble_eq_true rfl⟩) (PcW.preV (va_recv hK hP (q0 := 0) (ci := 4) rfl rfl) hPc hK hDc hN) rfl rfl hl.1 rfl (lv_room (Nat.le_of_ble_eq_true rfl)) d_SM_reckon_192 ⟨Nat.le_of_ble_eq_true rfl, Nat.le_of_ble_eq_true rfl⟩) hS (fun q _ h => hFc q h) hFc (fun r192 u t H1 locs ht hvm e192 hB hz1 hk1 hS => ?_)
      obtain ⟨z1192, c1192⟩ := u
      obtain ⟨hP1, hK1, hD1⟩ := hB
      rw [ht] at hP1
      obtain ⟨hP, hD⟩ := va_join (wr := [(mm, .inl (cI, 256, .inl g))]) (w1 := [(o, .inr (4, [.ref mm, .int a, .int x, .int sp, .int pc, .int (bI z1192), .int (bI c1192), .int st, .int dn, .ref pr, .int r2, .int (bI kp)]))]) hP hD [0] [1] rfl rfl (by decide) (by decide) hk1 hFc hP1 hD1
      generalize H1 = H at hP hS ⊢
      try dsimp only at e192
      obtain ⟨e192_0, e192_1, e192_2⟩ := e192
      replace e192_0 := e192_0.symm
      subst e192_0
      replace e192_1 := e192_1.symm
      subst e192_1
      replace e192_2 := e192_2.symm
      subst e192_2
      have hP : va_P D vwCl [(mm, .inl (cI, 256, .inl g)), (o, .inr (4, [.ref mm, .int a, .int x, .int sp, .int pc, .int (bI (decide ((regI i a x r2) >>> (1 &&& 31) = 0))), .int (bI (decide (¬ (regI i a x r2) &&& 1 = 0))), .int st, .int dn, .ref pr, .int r2, .int (bI kp)]))] H := hP
      have hD : va_D A [(mm, .inl (cI, 256, .inl g)), (o, .inr (4, [.ref mm, .int a, .int x, .int sp, .int pc, .int (bI (decide ((regI i a x r2) >>> (1 &&& 31) = 0))), .int (bI (decide (¬ (regI i a x r2) &&& 1 = 0))), .int st, .int dn, .ref pr, .int r2, .int (bI kp)]))] := hD
      have hPc := hP.sub (ws' := [(o, .inr (4, [.ref mm, .int a, .int x, .int sp, .int pc, .int (bI (decide ((regI i a x r2) >>> (1 &&& 31) = 0))), .int (bI (decide (¬ (regI i a x r2) &&& 1 = 0))), .int st, .int dn, .ref pr, .int r2, .int (bI kp)]))]) [1] rfl
      have hDc := hD.sub (ws' := [(o, .inr (4, [.ref mm, .int a, .int x, .int sp, .int pc, .int (bI (decide ((regI i a x r2) >>> (1 &&& 31) = 0))), .int (bI (decide (¬ (regI i a x r2) &&& 1 = 0))), .int st, .int dn, .ref pr, .int r2, .int (bI kp)]))]) [1] (by decide) rfl
      have hFc := va_free (wc := [(o, .inr (4, [.ref mm, .int a, .int x, .int sp, .int pc, .int (bI (decide ((regI i a x r2) >>> (1 &&& 31) = 0))), .int (bI (decide (¬ (regI i a x r2) &&& 1 = 0))), .int st, .int dn, .ref pr, .int r2, .int (bI kp)]))]) hD hS hA [1] rfl
      refine va_callv (va_runV (As := [.int i, .int ((regI i a x r2) >>> (1 &&& 31))]) (rest := []) ⟨hx, hb, hml, hown, hts⟩ (m_SM_setRegister l D cI cZ o mm a x sp pc (decide ((regI i a x r2) >>> (1 &&& 31) = 0)) (decide (¬ (regI i a x r2) &&& 1 = 0)) st dn pr r2 kp i ((regI i a x r2) >>> (1 &&& 31)) H.size) ⟨cB 2 hts k_624 k_60 k_621 hd_SM_setRegister ⟨Nat.le_of_ble_eq_true rfl, Nat.le_of_ble_eq_true rfl⟩ rfl rfl, hts _ k_623, hts _ k_23⟩ (PcW.preV (va_recv hK hP (q0 := 1) (ci := 4) rfl rfl) hPc hK hDc hN) rfl rfl hl.1 rfl (lv_room (Nat.le_of_ble_eq_true rfl)) d_SM_reckon_195 ⟨Nat.le_of_ble_eq_true rfl, Nat.le_of_ble_eq_true rfl⟩) hS (fun q _ h => hFc q h) hFc (fun u t H1 locs ht hvm e195 hB hz1 hk1 hS => ?_)
      obtain ⟨a1195, x1195, r21195⟩ := u
      obtain ⟨hP1, hK1, hD1⟩ := hB
      rw [ht] at hP1
      obtain ⟨hP, hD⟩ := va_join (wr := [(mm, .inl (cI, 256, .inl g))]) (w1 := [(o, .inr (4, [.ref mm, .int a1195, .int x1195, .int sp, .int pc, .int (bI (decide ((regI i a x r2) >>> (1 &&& 31) = 0))), .int (bI (decide (¬ (regI i a x r2) &&& 1 = 0))), .int st, .int dn, .ref pr, .int r21195, .int (bI kp)]))]) hP hD [1] [0] rfl rfl (by decide) (by decide) hk1 hFc hP1 hD1
      generalize H1 = H at hP hS ⊢
      try dsimp only at e195
      obtain ⟨e195_0, e195_1, e195_2⟩ := e195
      replace e195_0 := e195_0.symm
      subst e195_0
      replace e195_1 := e195_1.symm
      subst e195_1
      replace e195_2 := e195_2.symm
      subst e195_2
      have hP : va_P D vwCl [(mm, .inl (cI, 256, .inl g)), (o, .inr (4, [.ref mm, .int (setA i ((regI i a x r2) >>> (1 &&& 31)) a), .int (setX i ((regI i a x r2) >>> (1 &&& 31)) x), .int sp, .int pc, .int (bI (decide ((regI i a x r2) >>> (1 &&& 31) = 0))), .int (bI (decide (¬ (regI i a x r2) &&& 1 = 0))), .int st, .int dn, .ref pr, .int (setR i ((regI i a x r2) >>> (1 &&& 31)) r2), .int (bI kp)]))] H := hP
      have hD : va_D A [(mm, .inl (cI, 256, .inl g)), (o, .inr (4, [.ref mm, .int (setA i ((regI i a x r2) >>> (1 &&& 31)) a), .int (setX i ((regI i a x r2) >>> (1 &&& 31)) x), .int sp, .int pc, .int (bI (decide ((regI i a x r2) >>> (1 &&& 31) = 0))), .int (bI (decide (¬ (regI i a x r2) &&& 1 = 0))), .int st, .int dn, .ref pr, .int (setR i ((regI i a x r2) >>> (1 &&& 31)) r2), .int (bI kp)]))] := hD
      refine lv_goto (tgt := 201) hx hb d_SM_reckon_198 rfl ?_
      have hP9 : va_P D vwCl [(o, .inr (4, [.ref mm, .int (setA i ((regI i a x r2) >>> (1 &&& 31)) a), .int (setX i ((regI i a x r2) >>> (1 &&& 31)) x), .int sp, .int pc, .int (bI (decide ((regI i a x r2) >>> (1 &&& 31) = 0))), .int (bI (decide (¬ (regI i a x r2) &&& 1 = 0))), .int st, .int dn, .ref pr, .int (setR i ((regI i a x r2) >>> (1 &&& 31)) r2), .int (bI kp)])), (mm, .inl (cI, 256, .inl g))] H := hP.sub [1, 0] rfl
      have hD9 : va_D A [(o, .inr (4, [.ref mm, .int (setA i ((regI i a x r2) >>> (1 &&& 31)) a), .int (setX i ((regI i a x r2) >>> (1 &&& 31)) x), .int sp, .int pc, .int (bI (decide ((regI i a x r2) >>> (1 &&& 31) = 0))), .int (bI (decide (¬ (regI i a x r2) &&& 1 = 0))), .int st, .int dn, .ref pr, .int (setR i ((regI i a x r2) >>> (1 &&& 31)) r2), .int (bI kp)])), (mm, .inl (cI, 256, .inl g))] := hD.sub [1, 0] (by decide) rfl
      exact W.vret hx hb hr (fun t ht hW => ⟨⟨(g, setA i ((regI i a x r2) >>> (1 &&& 31)) a, setX i ((regI i a x r2) >>> (1 &&& 31)) x, sp, pc, decide ((regI i a x r2) >>> (1 &&& 31) = 0), decide (¬ (regI i a x r2) &&& 1 = 0), st, setR i ((regI i a x r2) >>> (1 &&& 31)) r2, kp), rfl, by first | (rw [h15]; rfl) | (rw [h15]; simp [sReck, sSet, sumI, sumC, difI, difC, dblI, dblC, hlvI, hlvC]; done) | (rw [h15]; simp [sReck, sSet, sumI, sumC, difI, difC, dblI, dblC, hlvI, hlvC]; done), by rw [ht]; exact hP9, va_K.moved hW.alike hK, hD9⟩, hS.F ht⟩) hS.2.2 d_SM_reckon_201
    | n + 9, h9, _ => exact absurd h9 (by omega)
set_option maxHeartbeats 4000000 in
set_option maxRecDepth 100000 in
theorem m_SM_control (l : Launch) (D : va_G) (cI cZ : ClassId) (o : Nat) (mm : Nat) (a : Int32) (x : Int32) (sp : Int32) (pc : Int32) (zf : Bool) (cf : Bool) (st : Int32) (dn : Int32) (pr : Nat) (r2 : Int32) (kp : Bool) (g : Nat → Int32) (nb : Int32) (i : Int32) (j : Int32) (sz : Nat) : MetV l y_SM_control w_SM_control { frames := 2, cells := 0, slots := 0, locals := 43 } D cI cZ [.ref o, .int nb, .int i, .int j] [(o, .inr (4, [.ref mm, .int a, .int x, .int sp, .int pc, .int (bI zf), .int (bI cf), .int st, .int dn, .ref pr, .int r2, .int (bI kp)])), (mm, .inl (cI, 256, .inl g))] sz (fun (u : (Nat → Int32) × Int32 × Int32 × Int32 × Int32 × Bool × Bool × Int32 × Int32 × Bool) => match u with | (g1, a1, x1, sp1, pc1, z1, c1, st1, r21, kp1) => (g1, a1, x1, sp1, pc1, z1, c1, st1, r21, kp1) = sCtl nb i j g a x sp pc zf cf st r2 kp) (fun (u : (Nat → Int32) × Int32 × Int32 × Int32 × Int32 × Bool × Bool × Int32 × Int32 × Bool) => match u with | (g1, a1, x1, sp1, pc1, z1, c1, st1, r21, kp1) => [(o, .inr (4, [.ref mm, .int a1, .int x1, .int sp1, .int pc1, .int (bI z1), .int (bI c1), .int st1, .int dn, .ref pr, .int r21, .int (bI kp1)])), (mm, .inl (cI, 256, .inl g1))]) 0 0 := by
  refine ofV (cc := c_SM_control) (maxL := 4) (ret := none) (by decide) rfl (Nat.le_of_ble_eq_true rfl) ?_
  intro p e s m args below meth c A H hH0 hx hb hr hlocks hts hown hnm hml ls hl hP hK hD hA hS hN
  have hown : s.vm.findClass R_SM = some m.cls := hown
  have hl : lv_has ls 4 [(0, .ref o), (1, .int nb), (2, .int i), (3, .int j)] := hl
  refine lv_iload_n hx hb d_SM_control_0 rfl (lv_at hl 1 rfl) ?_
  rcases sw_cases nb 17 9 with h1 | ⟨j1, hj1, h1⟩
  · refine lv_tableOut (tgt := 170) hx hb d_SM_control_1 h1 rfl ?_
    have n1_17 : ¬ nb = 17 := fun h9 => by rw [h9] at h1; revert h1; decide
    have n1_18 : ¬ nb = 18 := fun h9 => by rw [h9] at h1; revert h1; decide
    have n1_19 : ¬ nb = 19 := fun h9 => by rw [h9] at h1; revert h1; decide
    have n1_20 : ¬ nb = 20 := fun h9 => by rw [h9] at h1; revert h1; decide
    have n1_21 : ¬ nb = 21 := fun h9 => by rw [h9] at h1; revert h1; decide
    have n1_22 : ¬ nb = 22 := fun h9 => by rw [h9] at h1; revert h1; decide
    have n1_23 : ¬ nb = 23 := fun h9 => by rw [h9] at h1; revert h1; decide
    have n1_24 : ¬ nb = 24 := fun h9 => by rw [h9] at h1; revert h1; decide
    have n1_25 : ¬ nb = 25 := fun h9 => by rw [h9] at h1; revert h1; decide
    have hP9 : va_P D vwCl [(o, .inr (4, [.ref mm, .int a, .int x, .int sp, .int pc, .int (bI zf), .int (bI cf), .int st, .int dn, .ref pr, .int r2, .int (bI kp)])), (mm, .inl (cI, 256, .inl g))] H := hP.sub [0, 1] rfl
    have hD9 : va_D A [(o, .inr (4, [.ref mm, .int a, .int x, .int sp, .int pc, .int (bI zf), .int (bI cf), .int st, .int dn, .ref pr, .int r2, .int (bI kp)])), (mm, .inl (cI, 256, .inl g))] := hD.sub [0, 1] (by decide) rfl
    exact W.vret hx hb hr (fun t ht hW => ⟨⟨(g, a, x, sp, pc, zf, cf, st, r2, kp), rfl, by first | (simp only [sCtl, sSet, sumI, sumC, difI, difC, dblI, dblC, hlvI, hlvC, n1_17, n1_18, n1_19, n1_20, n1_21, n1_22, n1_23, n1_24, n1_25, ↓reduceIte, not_true_eq_false, not_false_eq_true, and_true, true_and, and_false, false_and, and_self, or_true, true_or, or_false, false_or, decide_true, decide_false, Bool.false_eq_true, reduceCtorEq]; done) | (simp_all [sCtl, sSet, sumI, sumC, difI, difC, dblI, dblC, hlvI, hlvC]; done), by rw [ht]; exact hP9, va_K.moved hW.alike hK, hD9⟩, hS.F ht⟩) hS.2.2 d_SM_control_170
  · match j1, hj1, h1 with
    | 0, _, h1 =>
      have h1 : nb = 17 := h1
      refine lv_tableIn (off := 51) (tgt := 52) hx hb d_SM_control_1 (by rw [h1]; decide) (by rw [h1]; decide) (by rw [h1]; rfl) rfl ?_
      refine lv_aload_n hx hb d_SM_control_52 rfl (lv_at hl 0 rfl) ?_
      refine lv_aload_n hx hb d_SM_control_53 rfl (lv_at hl 0 rfl) ?_
      refine va_get (D := D) (ci := 4) (v := .int (bI cf)) (C := R_SM) (T := T_SM) (N := 12) hx hb hts iw_SM hown hK hP 0 rfl rfl 6 (by decide) (hts _ k_136) (fun x9 h9 => u_same (hts _ k_137) x9 h9) rfl d_SM_control_54 ?_
      refine va_put (D := D) (ci := 4) (v := .int (bI cf)) (ty := .boolean) (C := R_SM) (T := T_SM) (N := 12) hx hb hts iw_SM ty_SM ty_SM_ok nm_SM hown hK hP hD hS 0 rfl rfl 11 (by decide) (hts _ k_198) (fun _ h9 => h9) rfl (by decide +kernel) (nb_n _) (nb_f _) (Nat.le_of_ble_eq_true rfl) d_SM_control_57 (fun H locs hP hD hS => ?_)
      have hP : va_P D vwCl [(o, .inr (4, [.ref mm, .int a, .int x, .int sp, .int pc, .int (bI zf), .int (bI cf), .int st, .int dn, .ref pr, .int r2, .int (bI cf)])), (mm, .inl (cI, 256, .inl g))] H := hP
      have hD : va_D A [(o, .inr (4, [.ref mm, .int a, .int x, .int sp, .int pc, .int (bI zf), .int (bI cf), .int st, .int dn, .ref pr, .int r2, .int (bI cf)])), (mm, .inl (cI, 256, .inl g))] := hD
      refine lv_goto (tgt := 170) hx hb d_SM_control_60 rfl ?_
      have hP9 : va_P D vwCl [(o, .inr (4, [.ref mm, .int a, .int x, .int sp, .int pc, .int (bI zf), .int (bI cf), .int st, .int dn, .ref pr, .int r2, .int (bI cf)])), (mm, .inl (cI, 256, .inl g))] H := hP.sub [0, 1] rfl
      have hD9 : va_D A [(o, .inr (4, [.ref mm, .int a, .int x, .int sp, .int pc, .int (bI zf), .int (bI cf), .int st, .int dn, .ref pr, .int r2, .int (bI cf)])), (mm, .inl (cI, 256, .inl g))] := hD.sub [0, 1] (by decide) rfl
      exact W.vret hx hb hr (fun t ht hW => ⟨⟨(g, a, x, sp, pc, zf, cf, st, r2, cf), rfl, by first | (rw [h1]; rfl) | (rw [h1]; simp [sCtl, sSet, sumI, sumC, difI, difC, dblI, dblC, hlvI, hlvC]; done) | (rw [h1]; simp [sCtl, sSet, sumI, sumC, difI, difC, dblI, dblC, hlvI, hlvC]; done), by rw [ht]; exact hP9, va_K.moved hW.alike hK, hD9⟩, hS.F ht⟩) hS.2.2 d_SM_control_170
    | 1, _, h1 =>
      have h1 : nb = 18 := h1
      refine lv_tableIn (off := 62) (tgt := 63) hx hb d_SM_control_1 (by rw [h1]; decide) (by rw [h1]; decide) (by rw [h1]; rfl) rfl ?_
      refine lv_aload_n hx hb d_SM_control_63 rfl (lv_at hl 0 rfl) ?_
      refine lv_aload_n hx hb d_SM_control_64 rfl (lv_at hl 0 rfl) ?_
      refine va_get (D := D) (ci := 4) (v := .int (bI kp)) (C := R_SM) (T := T_SM) (N := 12) hx hb hts iw_SM hown hK hP 0 rfl rfl 11 (by decide) (hts _ k_198) (fun _ h9 => h9) rfl d_SM_control_65 ?_
      refine va_put (D := D) (ci := 4) (v := .int (bI kp)) (ty := .boolean) (C := R_SM) (T := T_SM) (N := 12) hx hb hts iw_SM ty_SM ty_SM_ok nm_SM hown hK hP hD hS 0 rfl rfl 6 (by decide) (hts _ k_136) (fun x9 h9 => u_same (hts _ k_137) x9 h9) rfl (by decide +kernel) (nb_n _) (nb_f _) (Nat.le_of_ble_eq_true rfl) d_SM_control_68 (fun H locs hP hD hS => ?_)
      have hP : va_P D vwCl [(o, .inr (4, [.ref mm, .int a, .int x, .int sp, .int pc, .int (bI zf), .int (bI kp), .int st, .int dn, .ref pr, .int r2, .int (bI kp)])), (mm, .inl (cI, 256, .inl g))] H := hP
      have hD : va_D A [(o, .inr (4, [.ref mm, .int a, .int x, .int sp, .int pc, .int (bI zf), .int (bI kp), .int st, .int dn, .ref pr, .int r2, .int (bI kp)])), (mm, .inl (cI, 256, .inl g))] := hD
      refine lv_goto (tgt := 170) hx hb d_SM_control_71 rfl ?_
      have hP9 : va_P D vwCl [(o, .inr (4, [.ref mm, .int a, .int x, .int sp, .int pc, .int (bI zf), .int (bI kp), .int st, .int dn, .ref pr, .int r2, .int (bI kp)])), (mm, .inl (cI, 256, .inl g))] H := hP.sub [0, 1] rfl
      have hD9 : va_D A [(o, .inr (4, [.ref mm, .int a, .int x, .int sp, .int pc, .int (bI zf), .int (bI kp), .int st, .int dn, .ref pr, .int r2, .int (bI kp)])), (mm, .inl (cI, 256, .inl g))] := hD.sub [0, 1] (by decide) rfl
      exact W.vret hx hb hr (fun t ht hW => ⟨⟨(g, a, x, sp, pc, zf, kp, st, r2, kp), rfl, by first | (rw [h1]; rfl) | (rw [h1]; simp [sCtl, sSet, sumI, sumC, difI, difC, dblI, dblC, hlvI, hlvC]; done) | (rw [h1]; simp [sCtl, sSet, sumI, sumC, difI, difC, dblI, dblC, hlvI, hlvC]; done), by rw [ht]; exact hP9, va_K.moved hW.alike hK, hD9⟩, hS.F ht⟩) hS.2.2 d_SM_control_170
    | 2, _, h1 =>
      have h1 : nb = 19 := h1
      refine lv_tableIn (off := 73) (tgt := 74) hx hb d_SM_control_1 (by rw [h1]; decide) (by rw [h1]; decide) (by rw [h1]; rfl) rfl ?_
      refine lv_aload_n hx hb d_SM_control_74 rfl (lv_at hl 0 rfl) ?_
      refine lv_iload_n hx hb d_SM_control_75 rfl (lv_at hl 3 rfl) ?_
      refine va_put (D := D) (ci := 4) (v := .int j) (ty := .int) (C := R_SM) (T := T_SM) (N := 12) hx hb hts iw_SM ty_SM ty_SM_ok nm_SM hown hK hP hD hS 0 rfl rfl 4 (by decide) (hts _ k_123) (fun x9 h9 => u_same (hts _ k_124) x9 h9) rfl (by decide +kernel) rfl rfl (Nat.le_of_ble_eq_true rfl) d_SM_control_76 (fun H locs hP hD hS => ?_)
      have hP : va_P D vwCl [(o, .inr (4, [.ref mm, .int a, .int x, .int sp, .int j, .int (bI zf), .int (bI cf), .int st, .int dn, .ref pr, .int r2, .int (bI kp)])), (mm, .inl (cI, 256, .inl g))] H := hP
      have hD : va_D A [(o, .inr (4, [.ref mm, .int a, .int x, .int sp, .int j, .int (bI zf), .int (bI cf), .int st, .int dn, .ref pr, .int r2, .int (bI kp)])), (mm, .inl (cI, 256, .inl g))] := hD
      refine lv_goto (tgt := 170) hx hb d_SM_control_79 rfl ?_
      have hP9 : va_P D vwCl [(o, .inr (4, [.ref mm, .int a, .int x, .int sp, .int j, .int (bI zf), .int (bI cf), .int st, .int dn, .ref pr, .int r2, .int (bI kp)])), (mm, .inl (cI, 256, .inl g))] H := hP.sub [0, 1] rfl
      have hD9 : va_D A [(o, .inr (4, [.ref mm, .int a, .int x, .int sp, .int j, .int (bI zf), .int (bI cf), .int st, .int dn, .ref pr, .int r2, .int (bI kp)])), (mm, .inl (cI, 256, .inl g))] := hD.sub [0, 1] (by decide) rfl
      exact W.vret hx hb hr (fun t ht hW => ⟨⟨(g, a, x, sp, j, zf, cf, st, r2, kp), rfl, by first | (rw [h1]; rfl) | (rw [h1]; simp [sCtl, sSet, sumI, sumC, difI, difC, dblI, dblC, hlvI, hlvC]; done) | (rw [h1]; simp [sCtl, sSet, sumI, sumC, difI, difC, dblI, dblC, hlvI, hlvC]; done), by rw [ht]; exact hP9, va_K.moved hW.alike hK, hD9⟩, hS.F ht⟩) hS.2.2 d_SM_control_170
    | 3, _, h1 =>
      have h1 : nb = 20 := h1
      refine lv_tableIn (off := 81) (tgt := 82) hx hb d_SM_control_1 (by rw [h1]; decide) (by rw [h1]; decide) (by rw [h1]; rfl) rfl ?_
      refine lv_aload_n hx hb d_SM_control_82 rfl (lv_at hl 0 rfl) ?_
      refine lv_aload_n hx hb d_SM_control_83 rfl (lv_at hl 0 rfl) ?_
      refine va_get (D := D) (ci := 4) (v := .int (bI zf)) (C := R_SM) (T := T_SM) (N := 12) hx hb hts iw_SM hown hK hP 0 rfl rfl 5 (by decide) (hts _ k_131) (fun x9 h9 => u_same (hts _ k_132) x9 h9) rfl d_SM_control_84 ?_
      refine lv_iload_n hx hb d_SM_control_87 rfl (lv_at hl 3 rfl) ?_
      have hPc := hP.sub (ws' := [(o, .inr (4, [.ref mm, .int a, .int x, .int sp, .int pc, .int (bI zf), .int (bI cf), .int st, .int dn, .ref pr, .int r2, .int (bI kp)]))]) [0] rfl
      have hDc := hD.sub (ws' := [(o, .inr (4, [.ref mm, .int a, .int x, .int sp, .int pc, .int (bI zf), .int (bI cf), .int st, .int dn, .ref pr, .int r2, .int (bI kp)]))]) [0] (by decide) rfl
      have hFc := va_free (wc := [(o, .inr (4, [.ref mm, .int a, .int x, .int sp, .int pc, .int (bI zf), .int (bI cf), .int st, .int dn, .ref pr, .int r2, .int (bI kp)]))]) hD hS hA [0] rfl
      refine va_callv (va_runU (As := [.int (bI zf), .int j]) (rest := []) ⟨hx, hb, hml, hown, hts⟩ (m_SM_goIf l D cI cZ o mm a x sp pc zf cf st dn pr r2 kp zf j H.size) (va_cwU 2 hts (gU k_654 k_655 k_656 k_588 k_58 k_589) rfl rfl rfl rfl hd_MA_goIf ⟨Nat.le_of_ble_eq_true rfl, Nat.le_of_ble_eq_true rfl⟩) (PcW.preV (va_recv hK hP (q0 := 0) (ci := 4) rfl rfl) hPc hK hDc hN) rfl rfl hl.1 rfl (lv_room (Nat.le_of_ble_eq_true rfl)) d_SM_control_88 ⟨Nat.le_of_ble_eq_true rfl, Nat.le_of_ble_eq_true rfl⟩) hS (fun q _ h => hFc q h) hFc (fun u t H1 locs ht hvm e88 hB hz1 hk1 hS => ?_)
      obtain ⟨pc188, rfl⟩ : ∃ z, z = u := ⟨_, rfl⟩
      obtain ⟨hP1, hK1, hD1⟩ := hB
      rw [ht] at hP1
      obtain ⟨hP, hD⟩ := va_join (wr := [(mm, .inl (cI, 256, .inl g))]) (w1 := [(o, .inr (4, [.ref mm, .int a, .int x, .int sp, .int pc188, .int (bI zf), .int (bI cf), .int st, .int dn, .ref pr, .int r2, .int (bI kp)]))]) hP hD [0] [1] rfl rfl (by decide) (by decide) hk1 hFc hP1 hD1
      generalize H1 = H at hP hS ⊢
      try dsimp only at e88
      have e88_0 := e88
      replace e88_0 := e88_0.symm
      subst e88_0
      have hP : va_P D vwCl [(mm, .inl (cI, 256, .inl g)), (o, .inr (4, [.ref mm, .int a, .int x, .int sp, .int (if zf = true then j else pc), .int (bI zf), .int (bI cf), .int st, .int dn, .ref pr, .int r2, .int (bI kp)]))] H := hP
      have hD : va_D A [(mm, .inl (cI, 256, .inl g)), (o, .inr (4, [.ref mm, .int a, .int x, .int sp, .int (if zf = true then j else pc), .int (bI zf), .int (bI cf), .int st, .int dn, .ref pr, .int r2, .int (bI kp)]))] := hD
      refine lv_goto (tgt := 170) hx hb d_SM_control_91 rfl ?_
      have hP9 : va_P D vwCl [(o, .inr (4, [.ref mm, .int a, .int x, .int sp, .int (if zf = true then j else pc), .int (bI zf), .int (bI cf), .int st, .int dn, .ref pr, .int r2, .int (bI kp)])), (mm, .inl (cI, 256, .inl g))] H := hP.sub [1, 0] rfl
      have hD9 : va_D A [(o, .inr (4, [.ref mm, .int a, .int x, .int sp, .int (if zf = true then j else pc), .int (bI zf), .int (bI cf), .int st, .int dn, .ref pr, .int r2, .int (bI kp)])), (mm, .inl (cI, 256, .inl g))] := hD.sub [1, 0] (by decide) rfl
      exact W.vret hx hb hr (fun t ht hW => ⟨⟨(g, a, x, sp, if zf = true then j else pc, zf, cf, st, r2, kp), rfl, by first | (rw [h1]; rfl) | (rw [h1]; simp [sCtl, sSet, sumI, sumC, difI, difC, dblI, dblC, hlvI, hlvC]; done) | (rw [h1]; simp [sCtl, sSet, sumI, sumC, difI, difC, dblI, dblC, hlvI, hlvC]; done), by rw [ht]; exact hP9, va_K.moved hW.alike hK, hD9⟩, hS.F ht⟩) hS.2.2 d_SM_control_170
    | 4, _, h1 =>
      have h1 : nb = 21 := h1
      refine lv_tableIn (off := 93) (tgt := 94) hx hb d_SM_control_1 (by rw [h1]; decide) (by rw [h1]; decide) (by rw [h1]; rfl) rfl ?_
      refine lv_aload_n hx hb d_SM_control_94 rfl (lv_at hl 0 rfl) ?_
      refine lv_aload_n hx hb d_SM_control_95 rfl (lv_at hl 0 rfl) ?_
      refine va_get (D := D) (ci := 4) (v := .int (bI zf)) (C := R_SM) (T := T_SM) (N := 12) hx hb hts iw_SM hown hK hP 0 rfl rfl 5 (by decide) (hts _ k_131) (fun x9 h9 => u_same (hts _ k_132) x9 h9) rfl d_SM_control_96 ?_
      refine lv_if_ne (tgt := 106) hx hb d_SM_control_99 rfl (fun h99 => ?_) (fun h99 => ?_)
      · have h99 : zf = true := bI_t h99
        refine lv_iconst (v := 0) hx hb d_SM_control_106 (by decide) ?_
        refine lv_iload_n hx hb d_SM_control_107 rfl (lv_at hl 3 rfl) ?_
        have hPc := hP.sub (ws' := [(o, .inr (4, [.ref mm, .int a, .int x, .int sp, .int pc, .int (bI zf), .int (bI cf), .int st, .int dn, .ref pr, .int r2, .int (bI kp)]))]) [0] rfl
        have hDc := hD.sub (ws' := [(o, .inr (4, [.ref mm, .int a, .int x, .int sp, .int pc, .int (bI zf), .int (bI cf), .int st, .int dn, .ref pr, .int r2, .int (bI kp)]))]) [0] (by decide) rfl
        have hFc := va_free (wc := [(o, .inr (4, [.ref mm, .int a, .int x, .int sp, .int pc, .int (bI zf), .int (bI cf), .int st, .int dn, .ref pr, .int r2, .int (bI kp)]))]) hD hS hA [0] rfl
        refine va_callv (va_runU (As := [.int 0, .int j]) (rest := []) ⟨hx, hb, hml, hown, hts⟩ (m_SM_goIf l D cI cZ o mm a x sp pc zf cf st dn pr r2 kp false j H.size) (va_cwU 2 hts (gU k_654 k_655 k_656 k_588 k_58 k_589) rfl rfl rfl rfl hd_MA_goIf ⟨Nat.le_of_ble_eq_true rfl, Nat.le_of_ble_eq_true rfl⟩) (PcW.preV (va_recv hK hP (q0 := 0) (ci := 4) rfl rfl) hPc hK hDc hN) rfl rfl hl.1 rfl (lv_room (Nat.le_of_ble_eq_true rfl)) d_SM_control_108 ⟨Nat.le_of_ble_eq_true rfl, Nat.le_of_ble_eq_true rfl⟩) hS (fun q _ h => hFc q h) hFc (fun u t H1 locs ht hvm e108 hB hz1 hk1 hS => ?_)
        obtain ⟨pc1108, rfl⟩ : ∃ z, z = u := ⟨_, rfl⟩
        obtain ⟨hP1, hK1, hD1⟩ := hB
        rw [ht] at hP1
        obtain ⟨hP, hD⟩ := va_join (wr := [(mm, .inl (cI, 256, .inl g))]) (w1 := [(o, .inr (4, [.ref mm, .int a, .int x, .int sp, .int pc1108, .int (bI zf), .int (bI cf), .int st, .int dn, .ref pr, .int r2, .int (bI kp)]))]) hP hD [0] [1] rfl rfl (by decide) (by decide) hk1 hFc hP1 hD1
        generalize H1 = H at hP hS ⊢
        try dsimp only at e108
        have e108_0 := e108
        replace e108_0 := e108_0.symm
        subst e108_0
        have hP : va_P D vwCl [(mm, .inl (cI, 256, .inl g)), (o, .inr (4, [.ref mm, .int a, .int x, .int sp, .int (if false = true then j else pc), .int (bI zf), .int (bI cf), .int st, .int dn, .ref pr, .int r2, .int (bI kp)]))] H := hP
        have hD : va_D A [(mm, .inl (cI, 256, .inl g)), (o, .inr (4, [.ref mm, .int a, .int x, .int sp, .int (if false = true then j else pc), .int (bI zf), .int (bI cf), .int st, .int dn, .ref pr, .int r2, .int (bI kp)]))] := hD
        refine lv_goto (tgt := 170) hx hb d_SM_control_111 rfl ?_
        have hP9 : va_P D vwCl [(o, .inr (4, [.ref mm, .int a, .int x, .int sp, .int (if false = true then j else pc), .int (bI zf), .int (bI cf), .int st, .int dn, .ref pr, .int r2, .int (bI kp)])), (mm, .inl (cI, 256, .inl g))] H := hP.sub [1, 0] rfl
        have hD9 : va_D A [(o, .inr (4, [.ref mm, .int a, .int x, .int sp, .int (if false = true then j else pc), .int (bI zf), .int (bI cf), .int st, .int dn, .ref pr, .int r2, .int (bI kp)])), (mm, .inl (cI, 256, .inl g))] := hD.sub [1, 0] (by decide) rfl
        exact W.vret hx hb hr (fun t ht hW => ⟨⟨(g, a, x, sp, if false = true then j else pc, zf, cf, st, r2, kp), rfl, by first | (rw [h1]; rfl) | (rw [h1]; simp [sCtl, sSet, sumI, sumC, difI, difC, dblI, dblC, hlvI, hlvC]; done) | (rw [h1]; simp [sCtl, sSet, sumI, sumC, difI, difC, dblI, dblC, hlvI, hlvC, h99]; done), by rw [ht]; exact hP9, va_K.moved hW.alike hK, hD9⟩, hS.F ht⟩) hS.2.2 d_SM_control_170
      · have h99 : zf = false := bI_f h99
        refine lv_iconst (v := 1) hx hb d_SM_control_102 (by decide) ?_
        refine lv_goto (tgt := 107) hx hb d_SM_control_103 rfl ?_
        refine lv_iload_n hx hb d_SM_control_107 rfl (lv_at hl 3 rfl) ?_
        have hPc := hP.sub (ws' := [(o, .inr (4, [.ref mm, .int a, .int x, .int sp, .int pc, .int (bI zf), .int (bI cf), .int st, .int dn, .ref pr, .int r2, .int (bI kp)]))]) [0] rfl
        have hDc := hD.sub (ws' := [(o, .inr (4, [.ref mm, .int a, .int x, .int sp, .int pc, .int (bI zf), .int (bI cf), .int st, .int dn, .ref pr, .int r2, .int (bI kp)]))]) [0] (by decide) rfl
        have hFc := va_free (wc := [(o, .inr (4, [.ref mm, .int a, .int x, .int sp, .int pc, .int (bI zf), .int (bI cf), .int st, .int dn, .ref pr, .int r2, .int (bI kp)]))]) hD hS hA [0] rfl
        refine va_callv (va_runU (As := [.int 1, .int j]) (rest := []) ⟨hx, hb, hml, hown, hts⟩ (m_SM_goIf l D cI cZ o mm a x sp pc zf cf st dn pr r2 kp true j H.size) (va_cwU 2 hts (gU k_654 k_655 k_656 k_588 k_58 k_589) rfl rfl rfl rfl hd_MA_goIf ⟨Nat.le_of_ble_eq_true rfl, Nat.le_of_ble_eq_true rfl⟩) (PcW.preV (va_recv hK hP (q0 := 0) (ci := 4) rfl rfl) hPc hK hDc hN) rfl rfl hl.1 rfl (lv_room (Nat.le_of_ble_eq_true rfl)) d_SM_control_108 ⟨Nat.le_of_ble_eq_true rfl, Nat.le_of_ble_eq_true rfl⟩) hS (fun q _ h => hFc q h) hFc (fun u t H1 locs ht hvm e108 hB hz1 hk1 hS => ?_)
        obtain ⟨pc1108, rfl⟩ : ∃ z, z = u := ⟨_, rfl⟩
        obtain ⟨hP1, hK1, hD1⟩ := hB
        rw [ht] at hP1
        obtain ⟨hP, hD⟩ := va_join (wr := [(mm, .inl (cI, 256, .inl g))]) (w1 := [(o, .inr (4, [.ref mm, .int a, .int x, .int sp, .int pc1108, .int (bI zf), .int (bI cf), .int st, .int dn, .ref pr, .int r2, .int (bI kp)]))]) hP hD [0] [1] rfl rfl (by decide) (by decide) hk1 hFc hP1 hD1
        generalize H1 = H at hP hS ⊢
        try dsimp only at e108
        have e108_0 := e108
        replace e108_0 := e108_0.symm
        subst e108_0
        have hP : va_P D vwCl [(mm, .inl (cI, 256, .inl g)), (o, .inr (4, [.ref mm, .int a, .int x, .int sp, .int (if true = true then j else pc), .int (bI zf), .int (bI cf), .int st, .int dn, .ref pr, .int r2, .int (bI kp)]))] H := hP
        have hD : va_D A [(mm, .inl (cI, 256, .inl g)), (o, .inr (4, [.ref mm, .int a, .int x, .int sp, .int (if true = true then j else pc), .int (bI zf), .int (bI cf), .int st, .int dn, .ref pr, .int r2, .int (bI kp)]))] := hD
        refine lv_goto (tgt := 170) hx hb d_SM_control_111 rfl ?_
        have hP9 : va_P D vwCl [(o, .inr (4, [.ref mm, .int a, .int x, .int sp, .int (if true = true then j else pc), .int (bI zf), .int (bI cf), .int st, .int dn, .ref pr, .int r2, .int (bI kp)])), (mm, .inl (cI, 256, .inl g))] H := hP.sub [1, 0] rfl
        have hD9 : va_D A [(o, .inr (4, [.ref mm, .int a, .int x, .int sp, .int (if true = true then j else pc), .int (bI zf), .int (bI cf), .int st, .int dn, .ref pr, .int r2, .int (bI kp)])), (mm, .inl (cI, 256, .inl g))] := hD.sub [1, 0] (by decide) rfl
        exact W.vret hx hb hr (fun t ht hW => ⟨⟨(g, a, x, sp, if true = true then j else pc, zf, cf, st, r2, kp), rfl, by first | (rw [h1]; rfl) | (rw [h1]; simp [sCtl, sSet, sumI, sumC, difI, difC, dblI, dblC, hlvI, hlvC]; done) | (rw [h1]; simp [sCtl, sSet, sumI, sumC, difI, difC, dblI, dblC, hlvI, hlvC, h99]; done), by rw [ht]; exact hP9, va_K.moved hW.alike hK, hD9⟩, hS.F ht⟩) hS.2.2 d_SM_control_170
    | 5, _, h1 =>
      have h1 : nb = 22 := h1
      refine lv_tableIn (off := 113) (tgt := 114) hx hb d_SM_control_1 (by rw [h1]; decide) (by rw [h1]; decide) (by rw [h1]; rfl) rfl ?_
      refine lv_aload_n hx hb d_SM_control_114 rfl (lv_at hl 0 rfl) ?_
      refine lv_aload_n hx hb d_SM_control_115 rfl (lv_at hl 0 rfl) ?_
      refine va_get (D := D) (ci := 4) (v := .int (bI cf)) (C := R_SM) (T := T_SM) (N := 12) hx hb hts iw_SM hown hK hP 0 rfl rfl 6 (by decide) (hts _ k_136) (fun x9 h9 => u_same (hts _ k_137) x9 h9) rfl d_SM_control_116 ?_
      refine lv_iload_n hx hb d_SM_control_119 rfl (lv_at hl 3 rfl) ?_
      have hPc := hP.sub (ws' := [(o, .inr (4, [.ref mm, .int a, .int x, .int sp, .int pc, .int (bI zf), .int (bI cf), .int st, .int dn, .ref pr, .int r2, .int (bI kp)]))]) [0] rfl
      have hDc := hD.sub (ws' := [(o, .inr (4, [.ref mm, .int a, .int x, .int sp, .int pc, .int (bI zf), .int (bI cf), .int st, .int dn, .ref pr, .int r2, .int (bI kp)]))]) [0] (by decide) rfl
      have hFc := va_free (wc := [(o, .inr (4, [.ref mm, .int a, .int x, .int sp, .int pc, .int (bI zf), .int (bI cf), .int st, .int dn, .ref pr, .int r2, .int (bI kp)]))]) hD hS hA [0] rfl
      refine va_callv (va_runU (As := [.int (bI cf), .int j]) (rest := []) ⟨hx, hb, hml, hown, hts⟩ (m_SM_goIf l D cI cZ o mm a x sp pc zf cf st dn pr r2 kp cf j H.size) (va_cwU 2 hts (gU k_654 k_655 k_656 k_588 k_58 k_589) rfl rfl rfl rfl hd_MA_goIf ⟨Nat.le_of_ble_eq_true rfl, Nat.le_of_ble_eq_true rfl⟩) (PcW.preV (va_recv hK hP (q0 := 0) (ci := 4) rfl rfl) hPc hK hDc hN) rfl rfl hl.1 rfl (lv_room (Nat.le_of_ble_eq_true rfl)) d_SM_control_120 ⟨Nat.le_of_ble_eq_true rfl, Nat.le_of_ble_eq_true rfl⟩) hS (fun q _ h => hFc q h) hFc (fun u t H1 locs ht hvm e120 hB hz1 hk1 hS => ?_)
      obtain ⟨pc1120, rfl⟩ : ∃ z, z = u := ⟨_, rfl⟩
      obtain ⟨hP1, hK1, hD1⟩ := hB
      rw [ht] at hP1
      obtain ⟨hP, hD⟩ := va_join (wr := [(mm, .inl (cI, 256, .inl g))]) (w1 := [(o, .inr (4, [.ref mm, .int a, .int x, .int sp, .int pc1120, .int (bI zf), .int (bI cf), .int st, .int dn, .ref pr, .int r2, .int (bI kp)]))]) hP hD [0] [1] rfl rfl (by decide) (by decide) hk1 hFc hP1 hD1
      generalize H1 = H at hP hS ⊢
      try dsimp only at e120
      have e120_0 := e120
      replace e120_0 := e120_0.symm
      subst e120_0
      have hP : va_P D vwCl [(mm, .inl (cI, 256, .inl g)), (o, .inr (4, [.ref mm, .int a, .int x, .int sp, .int (if cf = true then j else pc), .int (bI zf), .int (bI cf), .int st, .int dn, .ref pr, .int r2, .int (bI kp)]))] H := hP
      have hD : va_D A [(mm, .inl (cI, 256, .inl g)), (o, .inr (4, [.ref mm, .int a, .int x, .int sp, .int (if cf = true then j else pc), .int (bI zf), .int (bI cf), .int st, .int dn, .ref pr, .int r2, .int (bI kp)]))] := hD
      refine lv_goto (tgt := 170) hx hb d_SM_control_123 rfl ?_
      have hP9 : va_P D vwCl [(o, .inr (4, [.ref mm, .int a, .int x, .int sp, .int (if cf = true then j else pc), .int (bI zf), .int (bI cf), .int st, .int dn, .ref pr, .int r2, .int (bI kp)])), (mm, .inl (cI, 256, .inl g))] H := hP.sub [1, 0] rfl
      have hD9 : va_D A [(o, .inr (4, [.ref mm, .int a, .int x, .int sp, .int (if cf = true then j else pc), .int (bI zf), .int (bI cf), .int st, .int dn, .ref pr, .int r2, .int (bI kp)])), (mm, .inl (cI, 256, .inl g))] := hD.sub [1, 0] (by decide) rfl
      exact W.vret hx hb hr (fun t ht hW => ⟨⟨(g, a, x, sp, if cf = true then j else pc, zf, cf, st, r2, kp), rfl, by first | (rw [h1]; rfl) | (rw [h1]; simp [sCtl, sSet, sumI, sumC, difI, difC, dblI, dblC, hlvI, hlvC]; done) | (rw [h1]; simp [sCtl, sSet, sumI, sumC, difI, difC, dblI, dblC, hlvI, hlvC]; done), by rw [ht]; exact hP9, va_K.moved hW.alike hK, hD9⟩, hS.F ht⟩) hS.2.2 d_SM_control_170
    | 6, _, h1 =>
      have h1 : nb = 23 := h1
      refine lv_tableIn (off := 125) (tgt := 126) hx hb d_SM_control_1 (by rw [h1]; decide) (by rw [h1]; decide) (by rw [h1]; rfl) rfl ?_
      refine lv_aload_n hx hb d_SM_control_126 rfl (lv_at hl 0 rfl) ?_
      refine lv_aload_n hx hb d_SM_control_127 rfl (lv_at hl 0 rfl) ?_
      refine va_get (D := D) (ci := 4) (v := .int (bI cf)) (C := R_SM) (T := T_SM) (N := 12) hx hb hts iw_SM hown hK hP 0 rfl rfl 6 (by decide) (hts _ k_136) (fun x9 h9 => u_same (hts _ k_137) x9 h9) rfl d_SM_control_128 ?_
      refine lv_if_ne (tgt := 138) hx hb d_SM_control_131 rfl (fun h131 => ?_) (fun h131 => ?_)
      · have h131 : cf = true := bI_t h131
        refine lv_iconst (v := 0) hx hb d_SM_control_138 (by decide) ?_
        refine lv_iload_n hx hb d_SM_control_139 rfl (lv_at hl 3 rfl) ?_
        have hPc := hP.sub (ws' := [(o, .inr (4, [.ref mm, .int a, .int x, .int sp, .int pc, .int (bI zf), .int (bI cf), .int st, .int dn, .ref pr, .int r2, .int (bI kp)]))]) [0] rfl
        have hDc := hD.sub (ws' := [(o, .inr (4, [.ref mm, .int a, .int x, .int sp, .int pc, .int (bI zf), .int (bI cf), .int st, .int dn, .ref pr, .int r2, .int (bI kp)]))]) [0] (by decide) rfl
        have hFc := va_free (wc := [(o, .inr (4, [.ref mm, .int a, .int x, .int sp, .int pc, .int (bI zf), .int (bI cf), .int st, .int dn, .ref pr, .int r2, .int (bI kp)]))]) hD hS hA [0] rfl
        refine va_callv (va_runU (As := [.int 0, .int j]) (rest := []) ⟨hx, hb, hml, hown, hts⟩ (m_SM_goIf l D cI cZ o mm a x sp pc zf cf st dn pr r2 kp false j H.size) (va_cwU 2 hts (gU k_654 k_655 k_656 k_588 k_58 k_589) rfl rfl rfl rfl hd_MA_goIf ⟨Nat.le_of_ble_eq_true rfl, Nat.le_of_ble_eq_true rfl⟩) (PcW.preV (va_recv hK hP (q0 := 0) (ci := 4) rfl rfl) hPc hK hDc hN) rfl rfl hl.1 rfl (lv_room (Nat.le_of_ble_eq_true rfl)) d_SM_control_140 ⟨Nat.le_of_ble_eq_true rfl, Nat.le_of_ble_eq_true rfl⟩) hS (fun q _ h => hFc q h) hFc (fun u t H1 locs ht hvm e140 hB hz1 hk1 hS => ?_)
        obtain ⟨pc1140, rfl⟩ : ∃ z, z = u := ⟨_, rfl⟩
        obtain ⟨hP1, hK1, hD1⟩ := hB
        rw [ht] at hP1
        obtain ⟨hP, hD⟩ := va_join (wr := [(mm, .inl (cI, 256, .inl g))]) (w1 := [(o, .inr (4, [.ref mm, .int a, .int x, .int sp, .int pc1140, .int (bI zf), .int (bI cf), .int st, .int dn, .ref pr, .int r2, .int (bI kp)]))]) hP hD [0] [1] rfl rfl (by decide) (by decide) hk1 hFc hP1 hD1
        generalize H1 = H at hP hS ⊢
        try dsimp only at e140
        have e140_0 := e140
        replace e140_0 := e140_0.symm
        subst e140_0
        have hP : va_P D vwCl [(mm, .inl (cI, 256, .inl g)), (o, .inr (4, [.ref mm, .int a, .int x, .int sp, .int (if false = true then j else pc), .int (bI zf), .int (bI cf), .int st, .int dn, .ref pr, .int r2, .int (bI kp)]))] H := hP
        have hD : va_D A [(mm, .inl (cI, 256, .inl g)), (o, .inr (4, [.ref mm, .int a, .int x, .int sp, .int (if false = true then j else pc), .int (bI zf), .int (bI cf), .int st, .int dn, .ref pr, .int r2, .int (bI kp)]))] := hD
        refine lv_goto (tgt := 170) hx hb d_SM_control_143 rfl ?_
        have hP9 : va_P D vwCl [(o, .inr (4, [.ref mm, .int a, .int x, .int sp, .int (if false = true then j else pc), .int (bI zf), .int (bI cf), .int st, .int dn, .ref pr, .int r2, .int (bI kp)])), (mm, .inl (cI, 256, .inl g))] H := hP.sub [1, 0] rfl
        have hD9 : va_D A [(o, .inr (4, [.ref mm, .int a, .int x, .int sp, .int (if false = true then j else pc), .int (bI zf), .int (bI cf), .int st, .int dn, .ref pr, .int r2, .int (bI kp)])), (mm, .inl (cI, 256, .inl g))] := hD.sub [1, 0] (by decide) rfl
        exact W.vret hx hb hr (fun t ht hW => ⟨⟨(g, a, x, sp, if false = true then j else pc, zf, cf, st, r2, kp), rfl, by first | (rw [h1]; rfl) | (rw [h1]; simp [sCtl, sSet, sumI, sumC, difI, difC, dblI, dblC, hlvI, hlvC]; done) | (rw [h1]; simp [sCtl, sSet, sumI, sumC, difI, difC, dblI, dblC, hlvI, hlvC, h131]; done), by rw [ht]; exact hP9, va_K.moved hW.alike hK, hD9⟩, hS.F ht⟩) hS.2.2 d_SM_control_170
      · have h131 : cf = false := bI_f h131
        refine lv_iconst (v := 1) hx hb d_SM_control_134 (by decide) ?_
        refine lv_goto (tgt := 139) hx hb d_SM_control_135 rfl ?_
        refine lv_iload_n hx hb d_SM_control_139 rfl (lv_at hl 3 rfl) ?_
        have hPc := hP.sub (ws' := [(o, .inr (4, [.ref mm, .int a, .int x, .int sp, .int pc, .int (bI zf), .int (bI cf), .int st, .int dn, .ref pr, .int r2, .int (bI kp)]))]) [0] rfl
        have hDc := hD.sub (ws' := [(o, .inr (4, [.ref mm, .int a, .int x, .int sp, .int pc, .int (bI zf), .int (bI cf), .int st, .int dn, .ref pr, .int r2, .int (bI kp)]))]) [0] (by decide) rfl
        have hFc := va_free (wc := [(o, .inr (4, [.ref mm, .int a, .int x, .int sp, .int pc, .int (bI zf), .int (bI cf), .int st, .int dn, .ref pr, .int r2, .int (bI kp)]))]) hD hS hA [0] rfl
        refine va_callv (va_runU (As := [.int 1, .int j]) (rest := []) ⟨hx, hb, hml, hown, hts⟩ (m_SM_goIf l D cI cZ o mm a x sp pc zf cf st dn pr r2 kp true j H.size) (va_cwU 2 hts (gU k_654 k_655 k_656 k_588 k_58 k_589) rfl rfl rfl rfl hd_MA_goIf ⟨Nat.le_of_ble_eq_true rfl, Nat.le_of_ble_eq_true rfl⟩) (PcW.preV (va_recv hK hP (q0 := 0) (ci := 4) rfl rfl) hPc hK hDc hN) rfl rfl hl.1 rfl (lv_room (Nat.le_of_ble_eq_true rfl)) d_SM_control_140 ⟨Nat.le_of_ble_eq_true rfl, Nat.le_of_ble_eq_true rfl⟩) hS (fun q _ h => hFc q h) hFc (fun u t H1 locs ht hvm e140 hB hz1 hk1 hS => ?_)
        obtain ⟨pc1140, rfl⟩ : ∃ z, z = u := ⟨_, rfl⟩
        obtain ⟨hP1, hK1, hD1⟩ := hB
        rw [ht] at hP1
        obtain ⟨hP, hD⟩ := va_join (wr := [(mm, .inl (cI, 256, .inl g))]) (w1 := [(o, .inr (4, [.ref mm, .int a, .int x, .int sp, .int pc1140, .int (bI zf), .int (bI cf), .int st, .int dn, .ref pr, .int r2, .int (bI kp)]))]) hP hD [0] [1] rfl rfl (by decide) (by decide) hk1 hFc hP1 hD1
        generalize H1 = H at hP hS ⊢
        try dsimp only at e140
        have e140_0 := e140
        replace e140_0 := e140_0.symm
        subst e140_0
        have hP : va_P D vwCl [(mm, .inl (cI, 256, .inl g)), (o, .inr (4, [.ref mm, .int a, .int x, .int sp, .int (if true = true then j else pc), .int (bI zf), .int (bI cf), .int st, .int dn, .ref pr, .int r2, .int (bI kp)]))] H := hP
        have hD : va_D A [(mm, .inl (cI, 256, .inl g)), (o, .inr (4, [.ref mm, .int a, .int x, .int sp, .int (if true = true then j else pc), .int (bI zf), .int (bI cf), .int st, .int dn, .ref pr, .int r2, .int (bI kp)]))] := hD
        refine lv_goto (tgt := 170) hx hb d_SM_control_143 rfl ?_
        have hP9 : va_P D vwCl [(o, .inr (4, [.ref mm, .int a, .int x, .int sp, .int (if true = true then j else pc), .int (bI zf), .int (bI cf), .int st, .int dn, .ref pr, .int r2, .int (bI kp)])), (mm, .inl (cI, 256, .inl g))] H := hP.sub [1, 0] rfl
        have hD9 : va_D A [(o, .inr (4, [.ref mm, .int a, .int x, .int sp, .int (if true = true then j else pc), .int (bI zf), .int (bI cf), .int st, .int dn, .ref pr, .int r2, .int (bI kp)])), (mm, .inl (cI, 256, .inl g))] := hD.sub [1, 0] (by decide) rfl
        exact W.vret hx hb hr (fun t ht hW => ⟨⟨(g, a, x, sp, if true = true then j else pc, zf, cf, st, r2, kp), rfl, by first | (rw [h1]; rfl) | (rw [h1]; simp [sCtl, sSet, sumI, sumC, difI, difC, dblI, dblC, hlvI, hlvC]; done) | (rw [h1]; simp [sCtl, sSet, sumI, sumC, difI, difC, dblI, dblC, hlvI, hlvC, h131]; done), by rw [ht]; exact hP9, va_K.moved hW.alike hK, hD9⟩, hS.F ht⟩) hS.2.2 d_SM_control_170
    | 7, _, h1 =>
      have h1 : nb = 24 := h1
      refine lv_tableIn (off := 145) (tgt := 146) hx hb d_SM_control_1 (by rw [h1]; decide) (by rw [h1]; decide) (by rw [h1]; rfl) rfl ?_
      refine lv_aload_n hx hb d_SM_control_146 rfl (lv_at hl 0 rfl) ?_
      refine lv_aload_n hx hb d_SM_control_147 rfl (lv_at hl 0 rfl) ?_
      refine lv_iload_n hx hb d_SM_control_148 rfl (lv_at hl 2 rfl) ?_
      have hPc := hP.sub (ws' := [(o, .inr (4, [.ref mm, .int a, .int x, .int sp, .int pc, .int (bI zf), .int (bI cf), .int st, .int dn, .ref pr, .int r2, .int (bI kp)]))]) [0] rfl
      refine vp_callSi (va_runV (As := [.int i]) (rest := [.ref o]) ⟨hx, hb, hml, hown, hts⟩ (m_SM_register l D cI cZ o mm a x sp pc zf cf st dn pr r2 kp i) ⟨cB 1 hts k_611 k_60 k_608 hd_SM_register ⟨Nat.le_of_ble_eq_true rfl, Nat.le_of_ble_eq_true rfl⟩ rfl rfl, hts _ k_610, hts _ k_20⟩ (PcR.preV (va_recv hK hP (q0 := 0) (ci := 4) rfl rfl) hPc hK hN) rfl rfl hl.1 rfl (lv_room (Nat.le_of_ble_eq_true rfl)) d_SM_control_149 ⟨Nat.le_of_ble_eq_true rfl, Nat.le_of_ble_eq_true rfl⟩).run (fun r149 e149 => ?_)
      replace e149 := e149.symm
      subst e149
      have hPc := hP.sub (ws' := [(o, .inr (4, [.ref mm, .int a, .int x, .int sp, .int pc, .int (bI zf), .int (bI cf), .int st, .int dn, .ref pr, .int r2, .int (bI kp)])), (mm, .inl (cI, 256, .inl g))]) [0, 1] rfl
      have hDc := hD.sub (ws' := [(o, .inr (4, [.ref mm, .int a, .int x, .int sp, .int pc, .int (bI zf), .int (bI cf), .int st, .int dn, .ref pr, .int r2, .int (bI kp)])), (mm, .inl (cI, 256, .inl g))]) [0, 1] (by decide) rfl
      have hFc := va_free (wc := [(o, .inr (4, [.ref mm, .int a, .int x, .int sp, .int pc, .int (bI zf), .int (bI cf), .int st, .int dn, .ref pr, .int r2, .int (bI kp)])), (mm, .inl (cI, 256, .inl g))]) hD hS hA [0, 1] rfl
      refine va_callv (va_runU (As := [.int (regI i a x r2)]) (rest := []) ⟨hx, hb, hml, hown, hts⟩ (m_SM_push l D cI cZ o mm a x sp pc zf cf st dn pr r2 kp g (regI i a x r2) H.size) (va_cwU 1 hts (gU k_657 k_658 k_659 k_594 k_58 k_595) rfl rfl rfl rfl hd_MA_push ⟨Nat.le_of_ble_eq_true rfl, Nat.le_of_ble_eq_true rfl⟩) (PcW.preV (va_recv hK hP (q0 := 0) (ci := 4) rfl rfl) hPc hK hDc hN) rfl rfl hl.1 rfl (lv_room (Nat.le_of_ble_eq_true rfl)) d_SM_control_152 ⟨Nat.le_of_ble_eq_true rfl, Nat.le_of_ble_eq_true rfl⟩) hS (fun q _ h => hFc q h) hFc (fun u t H1 locs ht hvm e152 hB hz1 hk1 hS => ?_)
      obtain ⟨g1152, sp1152⟩ := u
      obtain ⟨hP1, hK1, hD1⟩ := hB
      rw [ht] at hP1
      obtain ⟨hP, hD⟩ := va_join (wr := []) (w1 := [(o, .inr (4, [.ref mm, .int a, .int x, .int sp1152, .int pc, .int (bI zf), .int (bI cf), .int st, .int dn, .ref pr, .int r2, .int (bI kp)])), (mm, .inl (cI, 256, .inl g1152))]) hP hD [0, 1] [] rfl rfl (by decide) (by decide) hk1 hFc hP1 hD1
      generalize H1 = H at hP hS ⊢
      try dsimp only at e152
      obtain ⟨e152_0, e152_1⟩ := e152
      replace e152_0 := e152_0.symm
      subst e152_0
      replace e152_1 := e152_1.symm
      subst e152_1
      have hP : va_P D vwCl [(o, .inr (4, [.ref mm, .int a, .int x, .int ((sp - 1) &&& 255), .int pc, .int (bI zf), .int (bI cf), .int st, .int dn, .ref pr, .int r2, .int (bI kp)])), (mm, .inl (cI, 256, .inl (wr g sp (regI i a x r2))))] H := hP
      have hD : va_D A [(o, .inr (4, [.ref mm, .int a, .int x, .int ((sp - 1) &&& 255), .int pc, .int (bI zf), .int (bI cf), .int st, .int dn, .ref pr, .int r2, .int (bI kp)])), (mm, .inl (cI, 256, .inl (wr g sp (regI i a x r2))))] := hD
      refine lv_goto (tgt := 170) hx hb d_SM_control_155 rfl ?_
      have hP9 : va_P D vwCl [(o, .inr (4, [.ref mm, .int a, .int x, .int ((sp - 1) &&& 255), .int pc, .int (bI zf), .int (bI cf), .int st, .int dn, .ref pr, .int r2, .int (bI kp)])), (mm, .inl (cI, 256, .inl (wr g sp (regI i a x r2))))] H := hP.sub [0, 1] rfl
      have hD9 : va_D A [(o, .inr (4, [.ref mm, .int a, .int x, .int ((sp - 1) &&& 255), .int pc, .int (bI zf), .int (bI cf), .int st, .int dn, .ref pr, .int r2, .int (bI kp)])), (mm, .inl (cI, 256, .inl (wr g sp (regI i a x r2))))] := hD.sub [0, 1] (by decide) rfl
      exact W.vret hx hb hr (fun t ht hW => ⟨⟨(wr g sp (regI i a x r2), a, x, (sp - 1) &&& 255, pc, zf, cf, st, r2, kp), rfl, by first | (rw [h1]; rfl) | (rw [h1]; simp [sCtl, sSet, sumI, sumC, difI, difC, dblI, dblC, hlvI, hlvC]; done) | (rw [h1]; simp [sCtl, sSet, sumI, sumC, difI, difC, dblI, dblC, hlvI, hlvC]; done), by rw [ht]; exact hP9, va_K.moved hW.alike hK, hD9⟩, hS.F ht⟩) hS.2.2 d_SM_control_170
    | 8, _, h1 =>
      have h1 : nb = 25 := h1
      refine lv_tableIn (off := 157) (tgt := 158) hx hb d_SM_control_1 (by rw [h1]; decide) (by rw [h1]; decide) (by rw [h1]; rfl) rfl ?_
      refine lv_aload_n hx hb d_SM_control_158 rfl (lv_at hl 0 rfl) ?_
      refine lv_iload_n hx hb d_SM_control_159 rfl (lv_at hl 2 rfl) ?_
      refine lv_aload_n hx hb d_SM_control_160 rfl (lv_at hl 0 rfl) ?_
      have hPc := hP.sub (ws' := [(o, .inr (4, [.ref mm, .int a, .int x, .int sp, .int pc, .int (bI zf), .int (bI cf), .int st, .int dn, .ref pr, .int r2, .int (bI kp)])), (mm, .inl (cI, 256, .inl g))]) [0, 1] rfl
      have hDc := hD.sub (ws' := [(o, .inr (4, [.ref mm, .int a, .int x, .int sp, .int pc, .int (bI zf), .int (bI cf), .int st, .int dn, .ref pr, .int r2, .int (bI kp)])), (mm, .inl (cI, 256, .inl g))]) [0, 1] (by decide) rfl
      have hFc := va_free (wc := [(o, .inr (4, [.ref mm, .int a, .int x, .int sp, .int pc, .int (bI zf), .int (bI cf), .int st, .int dn, .ref pr, .int r2, .int (bI kp)])), (mm, .inl (cI, 256, .inl g))]) hD hS hA [0, 1] rfl
      refine va_calli (va_runU (As := []) (rest := [.int i, .ref o]) ⟨hx, hb, hml, hown, hts⟩ (m_SM_pop l D cI cZ o mm a x sp pc zf cf st dn pr r2 kp g H.size) (va_cwU 0 hts (gU k_660 k_661 k_662 k_601 k_58 k_602) rfl rfl rfl rfl hd_MA_pop ⟨Nat.le_of_ble_eq_true rfl, Nat.le_of_ble_eq_true rfl⟩) (PcW.preV (va_recv hK hP (q0 := 0) (ci := 4) rfl rfl) hPc hK hDc hN) rfl rfl hl.1 rfl (lv_room (Nat.le_of_ble_eq_true rfl)) d_SM_control_161 ⟨Nat.le_of_ble_eq_true rfl, Nat.le_of_ble_eq_true rfl⟩) hS (fun q _ h => hFc q h) hFc (fun r161 u t H1 locs ht hvm e161 hB hz1 hk1 hS => ?_)
      obtain ⟨sp1161, rfl⟩ : ∃ z, z = u := ⟨_, rfl⟩
      obtain ⟨hP1, hK1, hD1⟩ := hB
      rw [ht] at hP1
      obtain ⟨hP, hD⟩ := va_join (wr := []) (w1 := [(o, .inr (4, [.ref mm, .int a, .int x, .int sp1161, .int pc, .int (bI zf), .int (bI cf), .int st, .int dn, .ref pr, .int r2, .int (bI kp)])), (mm, .inl (cI, 256, .inl g))]) hP hD [0, 1] [] rfl rfl (by decide) (by decide) hk1 hFc hP1 hD1
      generalize H1 = H at hP hS ⊢
      try dsimp only at e161
      obtain ⟨e161_0, e161_1⟩ := e161
      replace e161_0 := e161_0.symm
      subst e161_0
      replace e161_1 := e161_1.symm
      subst e161_1
      have hP : va_P D vwCl [(o, .inr (4, [.ref mm, .int a, .int x, .int ((sp + 1) &&& 255), .int pc, .int (bI zf), .int (bI cf), .int st, .int dn, .ref pr, .int r2, .int (bI kp)])), (mm, .inl (cI, 256, .inl g))] H := hP
      have hD : va_D A [(o, .inr (4, [.ref mm, .int a, .int x, .int ((sp + 1) &&& 255), .int pc, .int (bI zf), .int (bI cf), .int st, .int dn, .ref pr, .int r2, .int (bI kp)])), (mm, .inl (cI, 256, .inl g))] := hD
      have hPc := hP.sub (ws' := [(o, .inr (4, [.ref mm, .int a, .int x, .int ((sp + 1) &&& 255), .int pc, .int (bI zf), .int (bI cf), .int st, .int dn, .ref pr, .int r2, .int (bI kp)]))]) [0] rfl
      have hDc := hD.sub (ws' := [(o, .inr (4, [.ref mm, .int a, .int x, .int ((sp + 1) &&& 255), .int pc, .int (bI zf), .int (bI cf), .int st, .int dn, .ref pr, .int r2, .int (bI kp)]))]) [0] (by decide) rfl
      have hFc := va_free (wc := [(o, .inr (4, [.ref mm, .int a, .int x, .int ((sp + 1) &&& 255), .int pc, .int (bI zf), .int (bI cf), .int st, .int dn, .ref pr, .int r2, .int (bI kp)]))]) hD hS hA [0] rfl
      refine va_callv (va_runV (As := [.int i, .int (rd g ((sp + 1) &&& 255))]) (rest := []) ⟨hx, hb, hml, hown, hts⟩ (m_SM_setRegister l D cI cZ o mm a x ((sp + 1) &&& 255) pc zf cf st dn pr r2 kp i (rd g ((sp + 1) &&& 255)) H.size) ⟨cB 2 hts k_624 k_60 k_621 hd_SM_setRegister ⟨Nat.le_of_ble_eq_true rfl, Nat.le_of_ble_eq_true rfl⟩ rfl rfl, hts _ k_623, hts _ k_23⟩ (PcW.preV (va_recv hK hP (q0 := 0) (ci := 4) rfl rfl) hPc hK hDc hN) rfl rfl hl.1 rfl (lv_room (Nat.le_of_ble_eq_true rfl)) d_SM_control_164 ⟨Nat.le_of_ble_eq_true rfl, Nat.le_of_ble_eq_true rfl⟩) hS (fun q _ h => hFc q h) hFc (fun u t H1 locs ht hvm e164 hB hz1 hk1 hS => ?_)
      obtain ⟨a1164, x1164, r21164⟩ := u
      obtain ⟨hP1, hK1, hD1⟩ := hB
      rw [ht] at hP1
      obtain ⟨hP, hD⟩ := va_join (wr := [(mm, .inl (cI, 256, .inl g))]) (w1 := [(o, .inr (4, [.ref mm, .int a1164, .int x1164, .int ((sp + 1) &&& 255), .int pc, .int (bI zf), .int (bI cf), .int st, .int dn, .ref pr, .int r21164, .int (bI kp)]))]) hP hD [0] [1] rfl rfl (by decide) (by decide) hk1 hFc hP1 hD1
      generalize H1 = H at hP hS ⊢
      try dsimp only at e164
      obtain ⟨e164_0, e164_1, e164_2⟩ := e164
      replace e164_0 := e164_0.symm
      subst e164_0
      replace e164_1 := e164_1.symm
      subst e164_1
      replace e164_2 := e164_2.symm
      subst e164_2
      have hP : va_P D vwCl [(mm, .inl (cI, 256, .inl g)), (o, .inr (4, [.ref mm, .int (setA i (rd g ((sp + 1) &&& 255)) a), .int (setX i (rd g ((sp + 1) &&& 255)) x), .int ((sp + 1) &&& 255), .int pc, .int (bI zf), .int (bI cf), .int st, .int dn, .ref pr, .int (setR i (rd g ((sp + 1) &&& 255)) r2), .int (bI kp)]))] H := hP
      have hD : va_D A [(mm, .inl (cI, 256, .inl g)), (o, .inr (4, [.ref mm, .int (setA i (rd g ((sp + 1) &&& 255)) a), .int (setX i (rd g ((sp + 1) &&& 255)) x), .int ((sp + 1) &&& 255), .int pc, .int (bI zf), .int (bI cf), .int st, .int dn, .ref pr, .int (setR i (rd g ((sp + 1) &&& 255)) r2), .int (bI kp)]))] := hD
      refine lv_goto (tgt := 170) hx hb d_SM_control_167 rfl ?_
      have hP9 : va_P D vwCl [(o, .inr (4, [.ref mm, .int (setA i (rd g ((sp + 1) &&& 255)) a), .int (setX i (rd g ((sp + 1) &&& 255)) x), .int ((sp + 1) &&& 255), .int pc, .int (bI zf), .int (bI cf), .int st, .int dn, .ref pr, .int (setR i (rd g ((sp + 1) &&& 255)) r2), .int (bI kp)])), (mm, .inl (cI, 256, .inl g))] H := hP.sub [1, 0] rfl
      have hD9 : va_D A [(o, .inr (4, [.ref mm, .int (setA i (rd g ((sp + 1) &&& 255)) a), .int (setX i (rd g ((sp + 1) &&& 255)) x), .int ((sp + 1) &&& 255), .int pc, .int (bI zf), .int (bI cf), .int st, .int dn, .ref pr, .int (setR i (rd g ((sp + 1) &&& 255)) r2), .int (bI kp)])), (mm, .inl (cI, 256, .inl g))] := hD.sub [1, 0] (by decide) rfl
      exact W.vret hx hb hr (fun t ht hW => ⟨⟨(g, setA i (rd g ((sp + 1) &&& 255)) a, setX i (rd g ((sp + 1) &&& 255)) x, (sp + 1) &&& 255, pc, zf, cf, st, setR i (rd g ((sp + 1) &&& 255)) r2, kp), rfl, by first | (rw [h1]; rfl) | (rw [h1]; simp [sCtl, sSet, sumI, sumC, difI, difC, dblI, dblC, hlvI, hlvC]; done) | (rw [h1]; simp [sCtl, sSet, sumI, sumC, difI, difC, dblI, dblC, hlvI, hlvC]; done), by rw [ht]; exact hP9, va_K.moved hW.alike hK, hD9⟩, hS.F ht⟩) hS.2.2 d_SM_control_170
    | n + 9, h9, _ => exact absurd h9 (by omega)
