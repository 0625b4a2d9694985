set_option maxHeartbeats 4000000 in
set_option maxRecDepth 100000 in
theorem m_FM_move (l : Launch) (D : va_G) (cI cZ : ClassId) (o : Nat) (mm : Nat) (a : Int32) (x : Int32) (sp : Int32) (pc : Int32) (zf : Bool) (cf : Bool) (st : Int32) (dn : Int32) (g : Nat → Int32) (op : Int32) (n : Int32) (sz : Nat) : MetV l y_FM_move w_FM_move { frames := 1, cells := 0, slots := 0, locals := 22 } D cI cZ [.ref o, .int op, .int n] [(o, .inr (3, [.ref mm, .int a, .int x, .int sp, .int pc, .int (bI zf), .int (bI cf), .int st, .int dn])), (mm, .inl (cI, 256, .inl g))] sz (fun (u : (Nat → Int32) × Int32 × Int32 × Int32 × Int32 × Bool × Bool × Int32) => match u with | (g1, a1, x1, sp1, pc1, z1, c1, st1) => (g1, a1, x1, sp1, pc1, z1, c1, st1) = fMove op n g a x sp pc zf cf st) (fun (u : (Nat → Int32) × Int32 × Int32 × Int32 × Int32 × Bool × Bool × Int32) => match u with | (g1, a1, x1, sp1, pc1, z1, c1, st1) => [(o, .inr (3, [.ref mm, .int a1, .int x1, .int sp1, .int pc1, .int (bI z1), .int (bI c1), .int st1, .int dn])), (mm, .inl (cI, 256, .inl g1))]) 0 0 := by
  refine ofV (cc := c_FM_move) (maxL := 3) (ret := none) (by decide) rfl (Nat.le_of_ble_eq_true rfl) ?_
  intro p e s m args below meth c A H hH0 hx hb hr hlocks hts hown hnm hml ls hl hP hK hD hA hS hN
  have hown : s.vm.findClass R_FM = some m.cls := hown
  have hl : lv_has ls 3 [(0, .ref o), (1, .int op), (2, .int n)] := hl
  refine lv_iload_n hx hb d_FM_move_0 rfl (lv_at hl 1 rfl) ?_
  rcases sw_cases op 2 8 with h1 | ⟨j1, hj1, h1⟩
  · refine lv_tableOut (tgt := 160) hx hb d_FM_move_1 h1 rfl ?_
    have n1_2 : ¬ op = 2 := fun h9 => by rw [h9] at h1; revert h1; decide
    have n1_3 : ¬ op = 3 := fun h9 => by rw [h9] at h1; revert h1; decide
    have n1_4 : ¬ op = 4 := fun h9 => by rw [h9] at h1; revert h1; decide
    have n1_5 : ¬ op = 5 := fun h9 => by rw [h9] at h1; revert h1; decide
    have n1_6 : ¬ op = 6 := fun h9 => by rw [h9] at h1; revert h1; decide
    have n1_7 : ¬ op = 7 := fun h9 => by rw [h9] at h1; revert h1; decide
    have n1_8 : ¬ op = 8 := fun h9 => by rw [h9] at h1; revert h1; decide
    have n1_9 : ¬ op = 9 := fun h9 => by rw [h9] at h1; revert h1; decide
    have hP9 : va_P D vwCl [(o, .inr (3, [.ref mm, .int a, .int x, .int sp, .int pc, .int (bI zf), .int (bI cf), .int st, .int dn])), (mm, .inl (cI, 256, .inl g))] H := hP.sub [0, 1] rfl
    have hD9 : va_D A [(o, .inr (3, [.ref mm, .int a, .int x, .int sp, .int pc, .int (bI zf), .int (bI cf), .int st, .int dn])), (mm, .inl (cI, 256, .inl g))] := hD.sub [0, 1] (by decide) rfl
    exact W.vret hx hb hr (fun t ht hW => ⟨⟨(g, a, x, sp, pc, zf, cf, st), rfl, by first | (simp only [fMove, sumI, sumC, difI, difC, dblI, dblC, hlvI, hlvC, n1_2, n1_3, n1_4, n1_5, n1_6, n1_7, n1_8, n1_9, ↓reduceIte, not_true_eq_false, not_false_eq_true, and_true, true_and, and_false, false_and, and_self, or_true, true_or, or_false, false_or, decide_true, decide_false, Bool.false_eq_true, reduceCtorEq]; done) | (simp_all [fMove, sumI, sumC, difI, difC, dblI, dblC, hlvI, hlvC]; done), by rw [ht]; exact hP9, va_K.moved hW.alike hK, hD9⟩, hS.F ht⟩) hS.2.2 d_FM_move_160
  · match j1, hj1, h1 with
    | 0, _, h1 =>
      have h1 : op = 2 := h1
      refine lv_tableIn (off := 47) (tgt := 48) hx hb d_FM_move_1 (by rw [h1]; decide) (by rw [h1]; decide) (by rw [h1]; rfl) rfl ?_
      refine lv_aload_n hx hb d_FM_move_48 rfl (lv_at hl 0 rfl) ?_
      refine lv_aload_n hx hb d_FM_move_49 rfl (lv_at hl 0 rfl) ?_
      refine lv_iload_n hx hb d_FM_move_50 rfl (lv_at hl 2 rfl) ?_
      have hPc := hP.sub (ws' := [(o, .inr (3, [.ref mm, .int a, .int x, .int sp, .int pc, .int (bI zf), .int (bI cf), .int st, .int dn]))]) [0] rfl
      have hDc := hD.sub (ws' := [(o, .inr (3, [.ref mm, .int a, .int x, .int sp, .int pc, .int (bI zf), .int (bI cf), .int st, .int dn]))]) [0] (by decide) rfl
      have hFc := va_free (wc := [(o, .inr (3, [.ref mm, .int a, .int x, .int sp, .int pc, .int (bI zf), .int (bI cf), .int st, .int dn]))]) hD hS hA [0] rfl
      refine va_calli (va_runU (As := [.int n]) (rest := [.ref o]) ⟨hx, hb, hml, hown, hts⟩ (m_FM_tested l D cI cZ o mm a x sp pc zf cf st dn n H.size) (va_cwU 1 hts (gU k_533 k_534 k_536 k_537 k_58 k_538) rfl rfl rfl rfl hd_MA_tested ⟨Nat.le_of_ble_eq_true rfl, Nat.le_of_ble_eq_true rfl⟩) (PcW.preV (va_recv hK hP (q0 := 0) (ci := 3) rfl rfl) hPc hK hDc hN) rfl rfl hl.1 rfl (lv_room (Nat.le_of_ble_eq_true rfl)) d_FM_move_51 ⟨Nat.le_of_ble_eq_true rfl, Nat.le_of_ble_eq_true rfl⟩) hS (fun q _ h => hFc q h) hFc (fun r51 u t H1 locs ht hvm e51 hB hz1 hk1 hS => ?_)
      obtain ⟨z151, rfl⟩ : ∃ z, z = u := ⟨_, rfl⟩
      obtain ⟨hP1, hK1, hD1⟩ := hB
      rw [ht] at hP1
      obtain ⟨hP, hD⟩ := va_join (wr := [(mm, .inl (cI, 256, .inl g))]) (w1 := [(o, .inr (3, [.ref mm, .int a, .int x, .int sp, .int pc, .int (bI z151), .int (bI cf), .int st, .int dn]))]) hP hD [0] [1] rfl rfl (by decide) (by decide) hk1 hFc hP1 hD1
      generalize H1 = H at hP hS ⊢
      try dsimp only at e51
      obtain ⟨e51_0, e51_1⟩ := e51
      replace e51_0 := e51_0.symm
      subst e51_0
      replace e51_1 := e51_1.symm
      subst e51_1
      have hP : va_P D vwCl [(mm, .inl (cI, 256, .inl g)), (o, .inr (3, [.ref mm, .int a, .int x, .int sp, .int pc, .int (bI (decide (n = 0))), .int (bI cf), .int st, .int dn]))] H := hP
      have hD : va_D A [(mm, .inl (cI, 256, .inl g)), (o, .inr (3, [.ref mm, .int a, .int x, .int sp, .int pc, .int (bI (decide (n = 0))), .int (bI cf), .int st, .int dn]))] := hD
      refine va_put (D := D) (ci := 3) (v := .int n) (ty := .int) (C := R_FM) (T := T_FM) (N := 9) hx hb hts iw_FM ty_FM ty_FM_ok nm_FM hown hK hP hD hS 1 rfl rfl 1 (by decide) (hts _ k_111) (fun x9 h9 => u_same (hts _ k_112) x9 h9) rfl (by decide +kernel) rfl rfl (Nat.le_of_ble_eq_true rfl) d_FM_move_54 (fun H locs hP hD hS => ?_)
      have hP : va_P D vwCl [(mm, .inl (cI, 256, .inl g)), (o, .inr (3, [.ref mm, .int n, .int x, .int sp, .int pc, .int (bI (decide (n = 0))), .int (bI cf), .int st, .int dn]))] H := hP
      have hD : va_D A [(mm, .inl (cI, 256, .inl g)), (o, .inr (3, [.ref mm, .int n, .int x, .int sp, .int pc, .int (bI (decide (n = 0))), .int (bI cf), .int st, .int dn]))] := hD
      refine lv_goto (tgt := 160) hx hb d_FM_move_57 rfl ?_
      have hP9 : va_P D vwCl [(o, .inr (3, [.ref mm, .int n, .int x, .int sp, .int pc, .int (bI (decide (n = 0))), .int (bI cf), .int st, .int dn])), (mm, .inl (cI, 256, .inl g))] H := hP.sub [1, 0] rfl
      have hD9 : va_D A [(o, .inr (3, [.ref mm, .int n, .int x, .int sp, .int pc, .int (bI (decide (n = 0))), .int (bI cf), .int st, .int dn])), (mm, .inl (cI, 256, .inl g))] := hD.sub [1, 0] (by decide) rfl
      exact W.vret hx hb hr (fun t ht hW => ⟨⟨(g, n, x, sp, pc, decide (n = 0), cf, st), rfl, by first | (rw [h1]; rfl) | (rw [h1]; simp [fMove, sumI, sumC, difI, difC, dblI, dblC, hlvI, hlvC]; done) | (rw [h1]; simp [fMove, sumI, sumC, difI, difC, dblI, dblC, hlvI, hlvC]; done), by rw [ht]; exact hP9, va_K.moved hW.alike hK, hD9⟩, hS.F ht⟩) hS.2.2 d_FM_move_160
    | 1, _, h1 =>
      have h1 : op = 3 := h1
      refine lv_tableIn (off := 59) (tgt := 60) hx hb d_FM_move_1 (by rw [h1]; decide) (by rw [h1]; decide) (by rw [h1]; rfl) rfl ?_
      refine lv_aload_n hx hb d_FM_move_60 rfl (lv_at hl 0 rfl) ?_
      refine lv_aload_n hx hb d_FM_move_61 rfl (lv_at hl 0 rfl) ?_
      refine lv_aload_n hx hb d_FM_move_62 rfl (lv_at hl 0 rfl) ?_
      refine lv_iload_n hx hb d_FM_move_63 rfl (lv_at hl 2 rfl) ?_
      have hPc := hP.sub (ws' := [(o, .inr (3, [.ref mm, .int a, .int x, .int sp, .int pc, .int (bI zf), .int (bI cf), .int st, .int dn])), (mm, .inl (cI, 256, .inl g))]) [0, 1] rfl
      refine vp_callSi (va_runU (As := [.int n]) (rest := [.ref o, .ref o]) ⟨hx, hb, hml, hown, hts⟩ (m_FM_peek l D cI cZ o mm a x sp pc zf cf st dn g n) (va_cwU 1 hts (gU k_523 k_524 k_526 k_296 k_58 k_300) rfl rfl rfl rfl hd_MA_peek ⟨Nat.le_of_ble_eq_true rfl, Nat.le_of_ble_eq_true rfl⟩) (PcR.preV (va_recv hK hP (q0 := 0) (ci := 3) rfl rfl) hPc hK hN) rfl rfl hl.1 rfl (lv_room (Nat.le_of_ble_eq_true rfl)) d_FM_move_64 ⟨Nat.le_of_ble_eq_true rfl, Nat.le_of_ble_eq_true rfl⟩).run (fun r64 e64 => ?_)
      replace e64 := e64.symm
      subst e64
      have hPc := hP.sub (ws' := [(o, .inr (3, [.ref mm, .int a, .int x, .int sp, .int pc, .int (bI zf), .int (bI cf), .int st, .int dn]))]) [0] rfl
      have hDc := hD.sub (ws' := [(o, .inr (3, [.ref mm, .int a, .int x, .int sp, .int pc, .int (bI zf), .int (bI cf), .int st, .int dn]))]) [0] (by decide) rfl
      have hFc := va_free (wc := [(o, .inr (3, [.ref mm, .int a, .int x, .int sp, .int pc, .int (bI zf), .int (bI cf), .int st, .int dn]))]) hD hS hA [0] rfl
      refine va_calli (va_runU (As := [.int (rd g n)]) (rest := [.ref o]) ⟨hx, hb, hml, hown, hts⟩ (m_FM_tested l D cI cZ o mm a x sp pc zf cf st dn (rd g n) H.size) (va_cwU 1 hts (gU k_533 k_534 k_536 k_537 k_58 k_538) rfl rfl rfl rfl hd_MA_tested ⟨Nat.le_of_ble_eq_true rfl, Nat.le_of_ble_eq_true rfl⟩) (PcW.preV (va_recv hK hP (q0 := 0) (ci := 3) rfl rfl) hPc hK hDc hN) rfl rfl hl.1 rfl (lv_room (Nat.le_of_ble_eq_true rfl)) d_FM_move_67 ⟨Nat.le_of_ble_eq_true rfl, Nat.le_of_ble_eq_true rfl⟩) hS (fun q _ h => hFc q h) hFc (fun r67 u t H1 locs ht hvm e67 hB hz1 hk1 hS => ?_)
      obtain ⟨z167, rfl⟩ : ∃ z, z = u := ⟨_, rfl⟩
      obtain ⟨hP1, hK1, hD1⟩ := hB
      rw [ht] at hP1
      obtain ⟨hP, hD⟩ := va_join (wr := [(mm, .inl (cI, 256, .inl g))]) (w1 := [(o, .inr (3, [.ref mm, .int a, .int x, .int sp, .int pc, .int (bI z167), .int (bI cf), .int st, .int dn]))]) hP hD [0] [1] rfl rfl (by decide) (by decide) hk1 hFc hP1 hD1
      generalize H1 = H at hP hS ⊢
      try dsimp only at e67
      obtain ⟨e67_0, e67_1⟩ := e67
      replace e67_0 := e67_0.symm
      subst e67_0
      replace e67_1 := e67_1.symm
      subst e67_1
      have hP : va_P D vwCl [(mm, .inl (cI, 256, .inl g)), (o, .inr (3, [.ref mm, .int a, .int x, .int sp, .int pc, .int (bI (decide ((rd g n) = 0))), .int (bI cf), .int st, .int dn]))] H := hP
      have hD : va_D A [(mm, .inl (cI, 256, .inl g)), (o, .inr (3, [.ref mm, .int a, .int x, .int sp, .int pc, .int (bI (decide ((rd g n) = 0))), .int (bI cf), .int st, .int dn]))] := hD
      refine va_put (D := D) (ci := 3) (v := .int (rd g n)) (ty := .int) (C := R_FM) (T := T_FM) (N := 9) hx hb hts iw_FM ty_FM ty_FM_ok nm_FM hown hK hP hD hS 1 rfl rfl 1 (by decide) (hts _ k_111) (fun x9 h9 => u_same (hts _ k_112) x9 h9) rfl (by decide +kernel) rfl rfl (Nat.le_of_ble_eq_true rfl) d_FM_move_70 (fun H locs hP hD hS => ?_)
      have hP : va_P D vwCl [(mm, .inl (cI, 256, .inl g)), (o, .inr (3, [.ref mm, .int (rd g n), .int x, .int sp, .int pc, .int (bI (decide ((rd g n) = 0))), .int (bI cf), .int st, .int dn]))] H := hP
      have hD : va_D A [(mm, .inl (cI, 256, .inl g)), (o, .inr (3, [.ref mm, .int (rd g n), .int x, .int sp, .int pc, .int (bI (decide ((rd g n) = 0))), .int (bI cf), .int st, .int dn]))] := hD
      refine lv_goto (tgt := 160) hx hb d_FM_move_73 rfl ?_
      have hP9 : va_P D vwCl [(o, .inr (3, [.ref mm, .int (rd g n), .int x, .int sp, .int pc, .int (bI (decide ((rd g n) = 0))), .int (bI cf), .int st, .int dn])), (mm, .inl (cI, 256, .inl g))] H := hP.sub [1, 0] rfl
      have hD9 : va_D A [(o, .inr (3, [.ref mm, .int (rd g n), .int x, .int sp, .int pc, .int (bI (decide ((rd g n) = 0))), .int (bI cf), .int st, .int dn])), (mm, .inl (cI, 256, .inl g))] := hD.sub [1, 0] (by decide) rfl
      exact W.vret hx hb hr (fun t ht hW => ⟨⟨(g, rd g n, x, sp, pc, decide ((rd g n) = 0), cf, st), rfl, by first | (rw [h1]; rfl) | (rw [h1]; simp [fMove, sumI, sumC, difI, difC, dblI, dblC, hlvI, hlvC]; done) | (rw [h1]; simp [fMove, sumI, sumC, difI, difC, dblI, dblC, hlvI, hlvC]; done), by rw [ht]; exact hP9, va_K.moved hW.alike hK, hD9⟩, hS.F ht⟩) hS.2.2 d_FM_move_160
    | 2, _, h1 =>
      have h1 : op = 4 := h1
      refine lv_tableIn (off := 75) (tgt := 76) hx hb d_FM_move_1 (by rw [h1]; decide) (by rw [h1]; decide) (by rw [h1]; rfl) rfl ?_
      refine lv_aload_n hx hb d_FM_move_76 rfl (lv_at hl 0 rfl) ?_
      refine lv_aload_n hx hb d_FM_move_77 rfl (lv_at hl 0 rfl) ?_
      refine lv_aload_n hx hb d_FM_move_78 rfl (lv_at hl 0 rfl) ?_
      refine lv_iload_n hx hb d_FM_move_79 rfl (lv_at hl 2 rfl) ?_
      refine lv_aload_n hx hb d_FM_move_80 rfl (lv_at hl 0 rfl) ?_
      refine va_get (D := D) (ci := 3) (v := .int x) (C := R_FM) (T := T_FM) (N := 9) hx hb hts iw_FM hown hK hP 0 rfl rfl 2 (by decide) (hts _ k_116) (fun x9 h9 => u_same (hts _ k_117) x9 h9) rfl d_FM_move_81 ?_
      refine lv_iadd hx hb d_FM_move_84 ?_
      have hPc := hP.sub (ws' := [(o, .inr (3, [.ref mm, .int a, .int x, .int sp, .int pc, .int (bI zf), .int (bI cf), .int st, .int dn])), (mm, .inl (cI, 256, .inl g))]) [0, 1] rfl
      refine vp_callSi (va_runU (As := [.int (n + x)]) (rest := [.ref o, .ref o]) ⟨hx, hb, hml, hown, hts⟩ (m_FM_peek l D cI cZ o mm a x sp pc zf cf st dn g (n + x)) (va_cwU 1 hts (gU k_523 k_524 k_526 k_296 k_58 k_300) rfl rfl rfl rfl hd_MA_peek ⟨Nat.le_of_ble_eq_true rfl, Nat.le_of_ble_eq_true rfl⟩) (PcR.preV (va_recv hK hP (q0 := 0) (ci := 3) rfl rfl) hPc hK hN) rfl rfl hl.1 rfl (lv_room (Nat.le_of_ble_eq_true rfl)) d_FM_move_85 ⟨Nat.le_of_ble_eq_true rfl, Nat.le_of_ble_eq_true rfl⟩).run (fun r85 e85 => ?_)
      replace e85 := e85.symm
      subst e85
      have hPc := hP.sub (ws' := [(o, .inr (3, [.ref mm, .int a, .int x, .int sp, .int pc, .int (bI zf), .int (bI cf), .int st, .int dn]))]) [0] rfl
      have hDc := hD.sub (ws' := [(o, .inr (3, [.ref mm, .int a, .int x, .int sp, .int pc, .int (bI zf), .int (bI cf), .int st, .int dn]))]) [0] (by decide) rfl
      have hFc := va_free (wc := [(o, .inr (3, [.ref mm, .int a, .int x, .int sp, .int pc, .int (bI zf), .int (bI cf), .int st, .int dn]))]) hD hS hA [0] rfl
      refine va_calli (va_runU (As := [.int (rd g (n + x))]) (rest := [.ref o]) ⟨hx, hb, hml, hown, hts⟩ (m_FM_tested l D cI cZ o mm a x sp pc zf cf st dn (rd g (n + x)) H.size) (va_cwU 1 hts (gU k_533 k_534 k_536 k_537 k_58 k_538) rfl rfl rfl rfl hd_MA_tested ⟨Nat.le_of_ble_eq_true rfl, Nat.le_of_ble_eq_true rfl⟩) (PcW.preV (va_recv hK hP (q0 := 0) (ci := 3) rfl rfl) hPc hK hDc hN) rfl rfl hl.1 rfl (lv_room (Nat.le_of_ble_eq_true rfl)) d_FM_move_88 ⟨Nat.le_of_ble_eq_true rfl, Nat.le_of_ble_eq_true rfl⟩) hS (fun q _ h => hFc q h) hFc (fun r88 u t H1 locs ht hvm e88 hB hz1 hk1 hS => ?_)
      obtain ⟨z188, rfl⟩ : ∃ z, z = u := ⟨_, rfl⟩
      obtain ⟨hP1, hK1, hD1⟩ := hB
      rw [ht] at hP1
      obtain ⟨hP, hD⟩ := va_join (wr := [(mm, .inl (cI, 256, .inl g))]) (w1 := [(o, .inr (3, [.ref mm, .int a, .int x, .int sp, .int pc, .int (bI z188), .int (bI cf), .int st, .int dn]))]) hP hD [0] [1] rfl rfl (by decide) (by decide) hk1 hFc hP1 hD1
      generalize H1 = H at hP hS ⊢
      try dsimp only at e88
      obtain ⟨e88_0, e88_1⟩ := e88
      replace e88_0 := e88_0.symm
      subst e88_0
      replace e88_1 := e88_1.symm
      subst e88_1
      have hP : va_P D vwCl [(mm, .inl (cI, 256, .inl g)), (o, .inr (3, [.ref mm, .int a, .int x, .int sp, .int pc, .int (bI (decide ((rd g (n + x)) = 0))), .int (bI cf), .int st, .int dn]))] H := hP
      have hD : va_D A [(mm, .inl (cI, 256, .inl g)), (o, .inr (3, [.ref mm, .int a, .int x, .int sp, .int pc, .int (bI (decide ((rd g (n + x)) = 0))), .int (bI cf), .int st, .int dn]))] := hD
      refine va_put (D := D) (ci := 3) (v := .int (rd g (n + x))) (ty := .int) (C := R_FM) (T := T_FM) (N := 9) hx hb hts iw_FM ty_FM ty_FM_ok nm_FM hown hK hP hD hS 1 rfl rfl 1 (by decide) (hts _ k_111) (fun x9 h9 => u_same (hts _ k_112) x9 h9) rfl (by decide +kernel) rfl rfl (Nat.le_of_ble_eq_true rfl) d_FM_move_91 (fun H locs hP hD hS => ?_)
      have hP : va_P D vwCl [(mm, .inl (cI, 256, .inl g)), (o, .inr (3, [.ref mm, .int (rd g (n + x)), .int x, .int sp, .int pc, .int (bI (decide ((rd g (n + x)) = 0))), .int (bI cf), .int st, .int dn]))] H := hP
      have hD : va_D A [(mm, .inl (cI, 256, .inl g)), (o, .inr (3, [.ref mm, .int (rd g (n + x)), .int x, .int sp, .int pc, .int (bI (decide ((rd g (n + x)) = 0))), .int (bI cf), .int st, .int dn]))] := hD
      refine lv_goto (tgt := 160) hx hb d_FM_move_94 rfl ?_
      have hP9 : va_P D vwCl [(o, .inr (3, [.ref mm, .int (rd g (n + x)), .int x, .int sp, .int pc, .int (bI (decide ((rd g (n + x)) = 0))), .int (bI cf), .int st, .int dn])), (mm, .inl (cI, 256, .inl g))] H := hP.sub [1, 0] rfl
      have hD9 : va_D A [(o, .inr (3, [.ref mm, .int (rd g (n + x)), .int x, .int sp, .int pc, .int (bI (decide ((rd g (n + x)) = 0))), .int (bI cf), .int st, .int dn])), (mm, .inl (cI, 256, .inl g))] := hD.sub [1, 0] (by decide) rfl
      exact W.vret hx hb hr (fun t ht hW => ⟨⟨(g, rd g (n + x), x, sp, pc, decide ((rd g (n + x)) = 0), cf, st), rfl, by first | (rw [h1]; rfl) | (rw [h1]; simp [fMove, sumI, sumC, difI, difC, dblI, dblC, hlvI, hlvC]; done) | (rw [h1]; simp [fMove, sumI, sumC, difI, difC, dblI, dblC, hlvI, hlvC]; done), by rw [ht]; exact hP9, va_K.moved hW.alike hK, hD9⟩, hS.F ht⟩) hS.2.2 d_FM_move_160
    | 3, _, h1 =>
      have h1 : op = 5 := h1
      refine lv_tableIn (off := 96) (tgt := 97) hx hb d_FM_move_1 (by rw [h1]; decide) (by rw [h1]; decide) (by rw [h1]; rfl) rfl ?_
      refine lv_aload_n hx hb d_FM_move_97 rfl (lv_at hl 0 rfl) ?_
      refine lv_iload_n hx hb d_FM_move_98 rfl (lv_at hl 2 rfl) ?_
      refine lv_aload_n hx hb d_FM_move_99 rfl (lv_at hl 0 rfl) ?_
      refine va_get (D := D) (ci := 3) (v := .int a) (C := R_FM) (T := T_FM) (N := 9) hx hb hts iw_FM hown hK hP 0 rfl rfl 1 (by decide) (hts _ k_111) (fun x9 h9 => u_same (hts _ k_112) x9 h9) rfl d_FM_move_100 ?_
      have hPc := hP.sub (ws' := [(o, .inr (3, [.ref mm, .int a, .int x, .int sp, .int pc, .int (bI zf), .int (bI cf), .int st, .int dn])), (mm, .inl (cI, 256, .inl g))]) [0, 1] rfl
      have hDc := hD.sub (ws' := [(o, .inr (3, [.ref mm, .int a, .int x, .int sp, .int pc, .int (bI zf), .int (bI cf), .int st, .int dn])), (mm, .inl (cI, 256, .inl g))]) [0, 1] (by decide) rfl
      have hFc := va_free (wc := [(o, .inr (3, [.ref mm, .int a, .int x, .int sp, .int pc, .int (bI zf), .int (bI cf), .int st, .int dn])), (mm, .inl (cI, 256, .inl g))]) hD hS hA [0, 1] rfl
      refine va_callv (va_runU (As := [.int n, .int a]) (rest := []) ⟨hx, hb, hml, hown, hts⟩ (m_FM_poke l D cI cZ o mm a x sp pc zf cf st dn g n a H.size) (va_cwU 2 hts (gU k_539 k_540 k_542 k_543 k_58 k_544) rfl rfl rfl rfl hd_MA_poke ⟨Nat.le_of_ble_eq_true rfl, Nat.le_of_ble_eq_true rfl⟩) (PcW.preV (va_recv hK hP (q0 := 0) (ci := 3) rfl rfl) hPc hK hDc hN) rfl rfl hl.1 rfl (lv_room (Nat.le_of_ble_eq_true rfl)) d_FM_move_103 ⟨Nat.le_of_ble_eq_true rfl, Nat.le_of_ble_eq_true rfl⟩) hS (fun q _ h => hFc q h) hFc (fun u t H1 locs ht hvm e103 hB hz1 hk1 hS => ?_)
      obtain ⟨g1103, rfl⟩ : ∃ z, z = u := ⟨_, rfl⟩
      obtain ⟨hP1, hK1, hD1⟩ := hB
      rw [ht] at hP1
      obtain ⟨hP, hD⟩ := va_join (wr := []) (w1 := [(o, .inr (3, [.ref mm, .int a, .int x, .int sp, .int pc, .int (bI zf), .int (bI cf), .int st, .int dn])), (mm, .inl (cI, 256, .inl g1103))]) hP hD [0, 1] [] rfl rfl (by decide) (by decide) hk1 hFc hP1 hD1
      generalize H1 = H at hP hS ⊢
      try dsimp only at e103
      have e103_0 := e103
      replace e103_0 := e103_0.symm
      subst e103_0
      have hP : va_P D vwCl [(o, .inr (3, [.ref mm, .int a, .int x, .int sp, .int pc, .int (bI zf), .int (bI cf), .int st, .int dn])), (mm, .inl (cI, 256, .inl (wr g n a)))] H := hP
      have hD : va_D A [(o, .inr (3, [.ref mm, .int a, .int x, .int sp, .int pc, .int (bI zf), .int (bI cf), .int st, .int dn])), (mm, .inl (cI, 256, .inl (wr g n a)))] := hD
      refine lv_goto (tgt := 160) hx hb d_FM_move_106 rfl ?_
      have hP9 : va_P D vwCl [(o, .inr (3, [.ref mm, .int a, .int x, .int sp, .int pc, .int (bI zf), .int (bI cf), .int st, .int dn])), (mm, .inl (cI, 256, .inl (wr g n a)))] H := hP.sub [0, 1] rfl
      have hD9 : va_D A [(o, .inr (3, [.ref mm, .int a, .int x, .int sp, .int pc, .int (bI zf), .int (bI cf), .int st, .int dn])), (mm, .inl (cI, 256, .inl (wr g n a)))] := hD.sub [0, 1] (by decide) rfl
      exact W.vret hx hb hr (fun t ht hW => ⟨⟨(wr g n a, a, x, sp, pc, zf, cf, st), rfl, by first | (rw [h1]; rfl) | (rw [h1]; simp [fMove, sumI, sumC, difI, difC, dblI, dblC, hlvI, hlvC]; done) | (rw [h1]; simp [fMove, sumI, sumC, difI, difC, dblI, dblC, hlvI, hlvC]; done), by rw [ht]; exact hP9, va_K.moved hW.alike hK, hD9⟩, hS.F ht⟩) hS.2.2 d_FM_move_160
    | 4, _, h1 =>
      have h1 : op = 6 := h1
      refine lv_tableIn (off := 108) (tgt := 109) hx hb d_FM_move_1 (by rw [h1]; decide) (by rw [h1]; decide) (by rw [h1]; rfl) rfl ?_
      refine lv_aload_n hx hb d_FM_move_109 rfl (lv_at hl 0 rfl) ?_
      refine lv_iload_n hx hb d_FM_move_110 rfl (lv_at hl 2 rfl) ?_
      refine lv_aload_n hx hb d_FM_move_111 rfl (lv_at hl 0 rfl) ?_
      refine va_get (D := D) (ci := 3) (v := .int x) (C := R_FM) (T := T_FM) (N := 9) hx hb hts iw_FM hown hK hP 0 rfl rfl 2 (by decide) (hts _ k_116) (fun x9 h9 => u_same (hts _ k_117) x9 h9) rfl d_FM_move_112 ?_
      refine lv_iadd hx hb d_FM_move_115 ?_
      refine lv_aload_n hx hb d_FM_move_116 rfl (lv_at hl 0 rfl) ?_
      refine va_get (D := D) (ci := 3) (v := .int a) (C := R_FM) (T := T_FM) (N := 9) hx hb hts iw_FM hown hK hP 0 rfl rfl 1 (by decide) (hts _ k_111) (fun x9 h9 => u_same (hts _ k_112) x9 h9) rfl d_FM_move_117 ?_
      have hPc := hP.sub (ws' := [(o, .inr (3, [.ref mm, .int a, .int x, .int sp, .int pc, .int (bI zf), .int (bI cf), .int st, .int dn])), (mm, .inl (cI, 256, .inl g))]) [0, 1] rfl
      have hDc := hD.sub (ws' := [(o, .inr (3, [.ref mm, .int a, .int x, .int sp, .int pc, .int (bI zf), .int (bI cf), .int st, .int dn])), (mm, .inl (cI, 256, .inl g))]) [0, 1] (by decide) rfl
      have hFc := va_free (wc := [(o, .inr (3, [.ref mm, .int a, .int x, .int sp, .int pc, .int (bI zf), .int (bI cf), .int st, .int dn])), (mm, .inl (cI, 256, .inl g))]) hD hS hA [0, 1] rfl
      refine va_callv (va_runU (As := [.int (n + x), .int a]) (rest := []) ⟨hx, hb, hml, hown, hts⟩ (m_FM_poke l D cI cZ o mm a x sp pc zf cf st dn g (n + x) a H.size) (va_cwU 2 hts (gU k_539 k_540 k_542 k_543 k_58 k_544) rfl rfl rfl rfl hd_MA_poke ⟨Nat.le_of_ble_eq_true rfl, Nat.le_of_ble_eq_true rfl⟩) (PcW.preV (va_recv hK hP (q0 := 0) (ci := 3) rfl rfl) hPc hK hDc hN) rfl rfl hl.1 rfl (lv_room (Nat.le_of_ble_eq_true rfl)) d_FM_move_120 ⟨Nat.le_of_ble_eq_true rfl, Nat.le_of_ble_eq_true rfl⟩) hS (fun q _ h => hFc q h) hFc (fun u t H1 locs ht hvm e120 hB hz1 hk1 hS => ?_)
      obtain ⟨g1120, rfl⟩ : ∃ z, z = u := ⟨_, rfl⟩
      obtain ⟨hP1, hK1, hD1⟩ := hB
      rw [ht] at hP1
      obtain ⟨hP, hD⟩ := va_join (wr := []) (w1 := [(o, .inr (3, [.ref mm, .int a, .int x, .int sp, .int pc, .int (bI zf), .int (bI cf), .int st, .int dn])), (mm, .inl (cI, 256, .inl g1120))]) hP hD [0, 1] [] rfl rfl (by decide) (by decide) hk1 hFc hP1 hD1
      generalize H1 = H at hP hS ⊢
      try dsimp only at e120
      have e120_0 := e120
      replace e120_0 := e120_0.symm
      subst e120_0
      have hP : va_P D vwCl [(o, .inr (3, [.ref mm, .int a, .int x, .int sp, .int pc, .int (bI zf), .int (bI cf), .int st, .int dn])), (mm, .inl (cI, 256, .inl (wr g (n + x) a)))] H := hP
      have hD : va_D A [(o, .inr (3, [.ref mm, .int a, .int x, .int sp, .int pc, .int (bI zf), .int (bI cf), .int st, .int dn])), (mm, .inl (cI, 256, .inl (wr g (n + x) a)))] := hD
      refine lv_goto (tgt := 160) hx hb d_FM_move_123 rfl ?_
      have hP9 : va_P D vwCl [(o, .inr (3, [.ref mm, .int a, .int x, .int sp, .int pc, .int (bI zf), .int (bI cf), .int st, .int dn])), (mm, .inl (cI, 256, .inl (wr g (n + x) a)))] H := hP.sub [0, 1] rfl
      have hD9 : va_D A [(o, .inr (3, [.ref mm, .int a, .int x, .int sp, .int pc, .int (bI zf), .int (bI cf), .int st, .int dn])), (mm, .inl (cI, 256, .inl (wr g (n + x) a)))] := hD.sub [0, 1] (by decide) rfl
      exact W.vret hx hb hr (fun t ht hW => ⟨⟨(wr g (n + x) a, a, x, sp, pc, zf, cf, st), rfl, by first | (rw [h1]; rfl) | (rw [h1]; simp [fMove, sumI, sumC, difI, difC, dblI, dblC, hlvI, hlvC]; done) | (rw [h1]; simp [fMove, sumI, sumC, difI, difC, dblI, dblC, hlvI, hlvC]; done), by rw [ht]; exact hP9, va_K.moved hW.alike hK, hD9⟩, hS.F ht⟩) hS.2.2 d_FM_move_160
    | 5, _, h1 =>
      have h1 : op = 7 := h1
      refine lv_tableIn (off := 125) (tgt := 126) hx hb d_FM_move_1 (by rw [h1]; decide) (by rw [h1]; decide) (by rw [h1]; rfl) rfl ?_
      refine lv_aload_n hx hb d_FM_move_126 rfl (lv_at hl 0 rfl) ?_
      refine lv_iload_n hx hb d_FM_move_127 rfl (lv_at hl 2 rfl) ?_
      refine va_put (D := D) (ci := 3) (v := .int n) (ty := .int) (C := R_FM) (T := T_FM) (N := 9) hx hb hts iw_FM ty_FM ty_FM_ok nm_FM hown hK hP hD hS 0 rfl rfl 2 (by decide) (hts _ k_116) (fun x9 h9 => u_same (hts _ k_117) x9 h9) rfl (by decide +kernel) rfl rfl (Nat.le_of_ble_eq_true rfl) d_FM_move_128 (fun H locs hP hD hS => ?_)
      have hP : va_P D vwCl [(o, .inr (3, [.ref mm, .int a, .int n, .int sp, .int pc, .int (bI zf), .int (bI cf), .int st, .int dn])), (mm, .inl (cI, 256, .inl g))] H := hP
      have hD : va_D A [(o, .inr (3, [.ref mm, .int a, .int n, .int sp, .int pc, .int (bI zf), .int (bI cf), .int st, .int dn])), (mm, .inl (cI, 256, .inl g))] := hD
      refine lv_goto (tgt := 160) hx hb d_FM_move_131 rfl ?_
      have hP9 : va_P D vwCl [(o, .inr (3, [.ref mm, .int a, .int n, .int sp, .int pc, .int (bI zf), .int (bI cf), .int st, .int dn])), (mm, .inl (cI, 256, .inl g))] H := hP.sub [0, 1] rfl
      have hD9 : va_D A [(o, .inr (3, [.ref mm, .int a, .int n, .int sp, .int pc, .int (bI zf), .int (bI cf), .int st, .int dn])), (mm, .inl (cI, 256, .inl g))] := hD.sub [0, 1] (by decide) rfl
      exact W.vret hx hb hr (fun t ht hW => ⟨⟨(g, a, n, sp, pc, zf, cf, st), rfl, by first | (rw [h1]; rfl) | (rw [h1]; simp [fMove, sumI, sumC, difI, difC, dblI, dblC, hlvI, hlvC]; done) | (rw [h1]; simp [fMove, sumI, sumC, difI, difC, dblI, dblC, hlvI, hlvC]; done), by rw [ht]; exact hP9, va_K.moved hW.alike hK, hD9⟩, hS.F ht⟩) hS.2.2 d_FM_move_160
    | 6, _, h1 =>
      have h1 : op = 8 := h1
      refine lv_tableIn (off := 133) (tgt := 134) hx hb d_FM_move_1 (by rw [h1]; decide) (by rw [h1]; decide) (by rw [h1]; rfl) rfl ?_
      refine lv_aload_n hx hb d_FM_move_134 rfl (lv_at hl 0 rfl) ?_
      refine lv_aload_n hx hb d_FM_move_135 rfl (lv_at hl 0 rfl) ?_
      refine va_get (D := D) (ci := 3) (v := .int a) (C := R_FM) (T := T_FM) (N := 9) hx hb hts iw_FM hown hK hP 0 rfl rfl 1 (by decide) (hts _ k_111) (fun x9 h9 => u_same (hts _ k_112) x9 h9) rfl d_FM_move_136 ?_
      refine va_put (D := D) (ci := 3) (v := .int a) (ty := .int) (C := R_FM) (T := T_FM) (N := 9) hx hb hts iw_FM ty_FM ty_FM_ok nm_FM hown hK hP hD hS 0 rfl rfl 2 (by decide) (hts _ k_116) (fun x9 h9 => u_same (hts _ k_117) x9 h9) rfl (by decide +kernel) rfl rfl (Nat.le_of_ble_eq_true rfl) d_FM_move_139 (fun H locs hP hD hS => ?_)
      have hP : va_P D vwCl [(o, .inr (3, [.ref mm, .int a, .int a, .int sp, .int pc, .int (bI zf), .int (bI cf), .int st, .int dn])), (mm, .inl (cI, 256, .inl g))] H := hP
      have hD : va_D A [(o, .inr (3, [.ref mm, .int a, .int a, .int sp, .int pc, .int (bI zf), .int (bI cf), .int st, .int dn])), (mm, .inl (cI, 256, .inl g))] := hD
      refine lv_goto (tgt := 160) hx hb d_FM_move_142 rfl ?_
      have hP9 : va_P D vwCl [(o, .inr (3, [.ref mm, .int a, .int a, .int sp, .int pc, .int (bI zf), .int (bI cf), .int st, .int dn])), (mm, .inl (cI, 256, .inl g))] H := hP.sub [0, 1] rfl
      have hD9 : va_D A [(o, .inr (3, [.ref mm, .int a, .int a, .int sp, .int pc, .int (bI zf), .int (bI cf), .int st, .int dn])), (mm, .inl (cI, 256, .inl g))] := hD.sub [0, 1] (by decide) rfl
      exact W.vret hx hb hr (fun t ht hW => ⟨⟨(g, a, a, sp, pc, zf, cf, st), rfl, by first | (rw [h1]; rfl) | (rw [h1]; simp [fMove, sumI, sumC, difI, difC, dblI, dblC, hlvI, hlvC]; done) | (rw [h1]; simp [fMove, sumI, sumC, difI, difC, dblI, dblC, hlvI, hlvC]; done), by rw [ht]; exact hP9, va_K.moved hW.alike hK, hD9⟩, hS.F ht⟩) hS.2.2 d_FM_move_160
    | 7, _, h1 =>
      have h1 : op = 9 := h1
      refine lv_tableIn (off := 144) (tgt := 145) hx hb d_FM_move_1 (by rw [h1]; decide) (by rw [h1]; decide) (by rw [h1]; rfl) rfl ?_
      refine lv_aload_n hx hb d_FM_move_145 rfl (lv_at hl 0 rfl) ?_
      refine lv_aload_n hx hb d_FM_move_146 rfl (lv_at hl 0 rfl) ?_
      refine lv_aload_n hx hb d_FM_move_147 rfl (lv_at hl 0 rfl) ?_
      refine va_get (D := D) (ci := 3) (v := .int x) (C := R_FM) (T := T_FM) (N := 9) hx hb hts iw_FM hown hK hP 0 rfl rfl 2 (by decide) (hts _ k_116) (fun x9 h9 => u_same (hts _ k_117) x9 h9) rfl d_FM_move_148 ?_
      have hPc := hP.sub (ws' := [(o, .inr (3, [.ref mm, .int a, .int x, .int sp, .int pc, .int (bI zf), .int (bI cf), .int st, .int dn]))]) [0] rfl
      have hDc := hD.sub (ws' := [(o, .inr (3, [.ref mm, .int a, .int x, .int sp, .int pc, .int (bI zf), .int (bI cf), .int st, .int dn]))]) [0] (by decide) rfl
      have hFc := va_free (wc := [(o, .inr (3, [.ref mm, .int a, .int x, .int sp, .int pc, .int (bI zf), .int (bI cf), .int st, .int dn]))]) hD hS hA [0] rfl
      refine va_calli (va_runU (As := [.int x]) (rest := [.ref o]) ⟨hx, hb, hml, hown, hts⟩ (m_FM_tested l D cI cZ o mm a x sp pc zf cf st dn x H.size) (va_cwU 1 hts (gU k_533 k_534 k_536 k_537 k_58 k_538) rfl rfl rfl rfl hd_MA_tested ⟨Nat.le_of_ble_eq_true rfl, Nat.le_of_ble_eq_true rfl⟩) (PcW.preV (va_recv hK hP (q0 := 0) (ci := 3) rfl rfl) hPc hK hDc hN) rfl rfl hl.1 rfl (lv_room (Nat.le_of_ble_eq_true rfl)) d_FM_move_151 ⟨Nat.le_of_ble_eq_true rfl, Nat.le_of_ble_eq_true rfl⟩) hS (fun q _ h => hFc q h) hFc (fun r151 u t H1 locs ht hvm e151 hB hz1 hk1 hS => ?_)
      obtain ⟨z1151, rfl⟩ : ∃ z, z = u := ⟨_, rfl⟩
      obtain ⟨hP1, hK1, hD1⟩ := hB
      rw [ht] at hP1
      obtain ⟨hP, hD⟩ := va_join (wr := [(mm, .inl (cI, 256, .inl g))]) (w1 := [(o, .inr (3, [.ref mm, .int a, .int x, .int sp, .int pc, .int (bI z1151), .int (bI cf), .int st, .int dn]))]) hP hD [0] [1] rfl rfl (by decide) (by decide) hk1 hFc hP1 hD1
      generalize H1 = H at hP hS ⊢
      try dsimp only at e151
      obtain ⟨e151_0, e151_1⟩ := e151
      replace e151_0 := e151_0.symm
      subst e151_0
      replace e151_1 := e151_1.symm
      subst e151_1
      have hP : va_P D vwCl [(mm, .inl (cI, 256, .inl g)), (o, .inr (3, [.ref mm, .int a, .int x, .int sp, .int pc, .int (bI (decide (x = 0))), .int (bI cf), .int st, .int dn]))] H := hP
      have hD : va_D A [(mm, .inl (cI, 256, .inl g)), (o, .inr (3, [.ref mm, .int a, .int x, .int sp, .int pc, .int (bI (decide (x = 0))), .int (bI cf), .int st, .int dn]))] := hD
      refine va_put (D := D) (ci := 3) (v := .int x) (ty := .int) (C := R_FM) (T := T_FM) (N := 9) hx hb hts iw_FM ty_FM ty_FM_ok nm_FM hown hK hP hD hS 1 rfl rfl 1 (by decide) (hts _ k_111) (fun x9 h9 => u_same (hts _ k_112) x9 h9) rfl (by decide +kernel) rfl rfl (Nat.le_of_ble_eq_true rfl) d_FM_move_154 (fun H locs hP hD hS => ?_)
      have hP : va_P D vwCl [(mm, .inl (cI, 256, .inl g)), (o, .inr (3, [.ref mm, .int x, .int x, .int sp, .int pc, .int (bI (decide (x = 0))), .int (bI cf), .int st, .int dn]))] H := hP
      have hD : va_D A [(mm, .inl (cI, 256, .inl g)), (o, .inr (3, [.ref mm, .int x, .int x, .int sp, .int pc, .int (bI (decide (x = 0))), .int (bI cf), .int st, .int dn]))] := hD
      refine lv_goto (tgt := 160) hx hb d_FM_move_157 rfl ?_
      have hP9 : va_P D vwCl [(o, .inr (3, [.ref mm, .int x, .int x, .int sp, .int pc, .int (bI (decide (x = 0))), .int (bI cf), .int st, .int dn])), (mm, .inl (cI, 256, .inl g))] H := hP.sub [1, 0] rfl
      have hD9 : va_D A [(o, .inr (3, [.ref mm, .int x, .int x, .int sp, .int pc, .int (bI (decide (x = 0))), .int (bI cf), .int st, .int dn])), (mm, .inl (cI, 256, .inl g))] := hD.sub [1, 0] (by decide) rfl
      exact W.vret hx hb hr (fun t ht hW => ⟨⟨(g, x, x, sp, pc, decide (x = 0), cf, st), rfl, by first | (rw [h1]; rfl) | (rw [h1]; simp [fMove, sumI, sumC, difI, difC, dblI, dblC, hlvI, hlvC]; done) | (rw [h1]; simp [fMove, sumI, sumC, difI, difC, dblI, dblC, hlvI, hlvC]; done), by rw [ht]; exact hP9, va_K.moved hW.alike hK, hD9⟩, hS.F ht⟩) hS.2.2 d_FM_move_160
    | n + 8, h9, _ => exact absurd h9 (by omega)
set_option maxHeartbeats 4000000 in
set_option maxRecDepth 100000 in
theorem m_FM_reckon (l : Launch) (D : va_G) (cI cZ : ClassId) (o : Nat) (mm : Nat) (a : Int32) (x : Int32) (sp : Int32) (pc : Int32) (zf : Bool) (cf : Bool) (st : Int32) (dn : Int32) (g : Nat → Int32) (op : Int32) (n : Int32) (sz : Nat) : MetV l y_FM_reckon w_FM_reckon { frames := 2, cells := 0, slots := 0, locals := 45 } D cI cZ [.ref o, .int op, .int n] [(o, .inr (3, [.ref mm, .int a, .int x, .int sp, .int pc, .int (bI zf), .int (bI cf), .int st, .int dn])), (mm, .inl (cI, 256, .inl g))] sz (fun (u : (Nat → Int32) × Int32 × Int32 × Int32 × Int32 × Bool × Bool × Int32) => match u with | (g1, a1, x1, sp1, pc1, z1, c1, st1) => (g1, a1, x1, sp1, pc1, z1, c1, st1) = fReck op n g a x sp pc zf cf st) (fun (u : (Nat → Int32) × Int32 × Int32 × Int32 × Int32 × Bool × Bool × Int32) => match u with | (g1, a1, x1, sp1, pc1, z1, c1, st1) => [(o, .inr (3, [.ref mm, .int a1, .int x1, .int sp1, .int pc1, .int (bI z1), .int (bI c1), .int st1, .int dn])), (mm, .inl (cI, 256, .inl g1))]) 0 0 := by
  refine ofV (cc := c_FM_reckon) (maxL := 3) (ret := none) (by decide) rfl (Nat.le_of_ble_eq_true rfl) ?_
  intro p e s m args below meth c A H hH0 hx hb hr hlocks hts hown hnm hml ls hl hP hK hD hA hS hN
  have hown : s.vm.findClass R_FM = some m.cls := hown
  have hl : lv_has ls 3 [(0, .ref o), (1, .int op), (2, .int n)] := hl
  refine lv_iload_n hx hb d_FM_reckon_0 rfl (lv_at hl 1 rfl) ?_
  rcases sw_cases op 10 12 with h1 | ⟨j1, hj1, h1⟩
  · refine lv_tableOut (tgt := 281) hx hb d_FM_reckon_1 h1 rfl ?_
    have n1_10 : ¬ op = 10 := fun h9 => by rw [h9] at h1; revert h1; decide
    have n1_11 : ¬ op = 11 := fun h9 => by rw [h9] at h1; revert h1; decide
    have n1_12 : ¬ op = 12 := fun h9 => by rw [h9] at h1; revert h1; decide
    have n1_13 : ¬ op = 13 := fun h9 => by rw [h9] at h1; revert h1; decide
    have n1_14 : ¬ op = 14 := fun h9 => by rw [h9] at h1; revert h1; decide
    have n1_15 : ¬ op = 15 := fun h9 => by rw [h9] at h1; revert h1; decide
    have n1_16 : ¬ op = 16 := fun h9 => by rw [h9] at h1; revert h1; decide
    have n1_17 : ¬ op = 17 := fun h9 => by rw [h9] at h1; revert h1; decide
    have n1_18 : ¬ op = 18 := fun h9 => by rw [h9] at h1; revert h1; decide
    have n1_19 : ¬ op = 19 := fun h9 => by rw [h9] at h1; revert h1; decide
    have n1_20 : ¬ op = 20 := fun h9 => by rw [h9] at h1; revert h1; decide
    have n1_21 : ¬ op = 21 := fun h9 => by rw [h9] at h1; revert h1; decide
    have hP9 : va_P D vwCl [(o, .inr (3, [.ref mm, .int a, .int x, .int sp, .int pc, .int (bI zf), .int (bI cf), .int st, .int dn])), (mm, .inl (cI, 256, .inl g))] H := hP.sub [0, 1] rfl
    have hD9 : va_D A [(o, .inr (3, [.ref mm, .int a, .int x, .int sp, .int pc, .int (bI zf), .int (bI cf), .int st, .int dn])), (mm, .inl (cI, 256, .inl g))] := hD.sub [0, 1] (by decide) rfl
    exact W.vret hx hb hr (fun t ht hW => ⟨⟨(g, a, x, sp, pc, zf, cf, st), rfl, by first | (simp only [fReck, sumI, sumC, difI, difC, dblI, dblC, hlvI, hlvC, n1_10, n1_11, n1_12, n1_13, n1_14, n1_15, n1_16, n1_17, n1_18, n1_19, n1_20, n1_21, ↓reduceIte, not_true_eq_false, not_false_eq_true, and_true, true_and, and_false, false_and, and_self, or_true, true_or, or_false, false_or, decide_true, decide_false, Bool.false_eq_true, reduceCtorEq]; done) | (simp_all [fReck, sumI, sumC, difI, difC, dblI, dblC, hlvI, hlvC]; done), by rw [ht]; exact hP9, va_K.moved hW.alike hK, hD9⟩, hS.F ht⟩) hS.2.2 d_FM_reckon_281
  · match j1, hj1, h1 with
    | 0, _, h1 =>
      have h1 : op = 10 := h1
      refine lv_tableIn (off := 63) (tgt := 64) hx hb d_FM_reckon_1 (by rw [h1]; decide) (by rw [h1]; decide) (by rw [h1]; rfl) rfl ?_
      refine lv_aload_n hx hb d_FM_reckon_64 rfl (lv_at hl 0 rfl) ?_
      refine lv_aload_n hx hb d_FM_reckon_65 rfl (lv_at hl 0 rfl) ?_
      refine lv_aload_n hx hb d_FM_reckon_66 rfl (lv_at hl 0 rfl) ?_
      refine va_get (D := D) (ci := 3) (v := .int x) (C := R_FM) (T := T_FM) (N := 9) hx hb hts iw_FM hown hK hP 0 rfl rfl 2 (by decide) (hts _ k_116) (fun x9 h9 => u_same (hts _ k_117) x9 h9) rfl d_FM_reckon_67 ?_
      refine lv_iconst (v := 1) hx hb d_FM_reckon_70 (by decide) ?_
      refine lv_iadd hx hb d_FM_reckon_71 ?_
      refine lv_sipush (v := 255) hx hb d_FM_reckon_72 (by decide) ?_
      refine lv_iand hx hb d_FM_reckon_75 ?_
      have hPc := hP.sub (ws' := [(o, .inr (3, [.ref mm, .int a, .int x, .int sp, .int pc, .int (bI zf), .int (bI cf), .int st, .int dn]))]) [0] rfl
      have hDc := hD.sub (ws' := [(o, .inr (3, [.ref mm, .int a, .int x, .int sp, .int pc, .int (bI zf), .int (bI cf), .int st, .int dn]))]) [0] (by decide) rfl
      have hFc := va_free (wc := [(o, .inr (3, [.ref mm, .int a, .int x, .int sp, .int pc, .int (bI zf), .int (bI cf), .int st, .int dn]))]) hD hS hA [0] rfl
      refine va_calli (va_runU (As := [.int ((x + 1) &&& 255)]) (rest := [.ref o]) ⟨hx, hb, hml, hown, hts⟩ (m_FM_tested l D cI cZ o mm a x sp pc zf cf st dn ((x + 1) &&& 255) H.size) (va_cwU 1 hts (gU k_533 k_534 k_536 k_537 k_58 k_538) rfl rfl rfl rfl hd_MA_tested ⟨Nat.le_of_ble_eq_true rfl, Nat.le_of_ble_eq_true rfl⟩) (PcW.preV (va_recv hK hP (q0 := 0) (ci := 3) rfl rfl) hPc hK hDc hN) rfl rfl hl.1 rfl (lv_room (Nat.le_of_ble_eq_true rfl)) d_FM_reckon_76 ⟨Nat.le_of_ble_eq_true rfl, Nat.le_of_ble_eq_true rfl⟩) hS (fun q _ h => hFc q h) hFc (fun r76 u t H1 locs ht hvm e76 hB hz1 hk1 hS => ?_)
      obtain ⟨z176, rfl⟩ : ∃ z, z = u := ⟨_, rfl⟩
      obtain ⟨hP1, hK1, hD1⟩ := hB
      rw [ht] at hP1
      obtain ⟨hP, hD⟩ := va_join (wr := [(mm, .inl (cI, 256, .inl g))]) (w1 := [(o, .inr (3, [.ref mm, .int a, .int x, .int sp, .int pc, .int (bI z176), .int (bI cf), .int st, .int dn]))]) hP hD [0] [1] rfl rfl (by decide) (by decide) hk1 hFc hP1 hD1
      generalize H1 = H at hP hS ⊢
      try dsimp only at e76
      obtain ⟨e76_0, e76_1⟩ := e76
      replace e76_0 := e76_0.symm
      subst e76_0
      replace e76_1 := e76_1.symm
      subst e76_1
      have hP : va_P D vwCl [(mm, .inl (cI, 256, .inl g)), (o, .inr (3, [.ref mm, .int a, .int x, .int sp, .int pc, .int (bI (decide (((x + 1) &&& 255) = 0))), .int (bI cf), .int st, .int dn]))] H := hP
      have hD : va_D A [(mm, .inl (cI, 256, .inl g)), (o, .inr (3, [.ref mm, .int a, .int x, .int sp, .int pc, .int (bI (decide (((x + 1) &&& 255) = 0))), .int (bI cf), .int st, .int dn]))] := hD
      refine va_put (D := D) (ci := 3) (v := .int ((x + 1) &&& 255)) (ty := .int) (C := R_FM) (T := T_FM) (N := 9) hx hb hts iw_FM ty_FM ty_FM_ok nm_FM hown hK hP hD hS 1 rfl rfl 2 (by decide) (hts _ k_116) (fun x9 h9 => u_same (hts _ k_117) x9 h9) rfl (by decide +kernel) rfl rfl (Nat.le_of_ble_eq_true rfl) d_FM_reckon_79 (fun H locs hP hD hS => ?_)
      have hP : va_P D vwCl [(mm, .inl (cI, 256, .inl g)), (o, .inr (3, [.ref mm, .int a, .int ((x + 1) &&& 255), .int sp, .int pc, .int (bI (decide (((x + 1) &&& 255) = 0))), .int (bI cf), .int st, .int dn]))] H := hP
      have hD : va_D A [(mm, .inl (cI, 256, .inl g)), (o, .inr (3, [.ref mm, .int a, .int ((x + 1) &&& 255), .int sp, .int pc, .int (bI (decide (((x + 1) &&& 255) = 0))), .int (bI cf), .int st, .int dn]))] := hD
      refine lv_goto (tgt := 281) hx hb d_FM_reckon_82 rfl ?_
      have hP9 : va_P D vwCl [(o, .inr (3, [.ref mm, .int a, .int ((x + 1) &&& 255), .int sp, .int pc, .int (bI (decide (((x + 1) &&& 255) = 0))), .int (bI cf), .int st, .int dn])), (mm, .inl (cI, 256, .inl g))] H := hP.sub [1, 0] rfl
      have hD9 : va_D A [(o, .inr (3, [.ref mm, .int a, .int ((x + 1) &&& 255), .int sp, .int pc, .int (bI (decide (((x + 1) &&& 255) = 0))), .int (bI cf), .int st, .int dn])), (mm, .inl (cI, 256, .inl g))] := hD.sub [1, 0] (by decide) rfl
      exact W.vret hx hb hr (fun t ht hW => ⟨⟨(g, a, (x + 1) &&& 255, sp, pc, decide (((x + 1) &&& 255) = 0), cf, st), rfl, by first | (rw [h1]; rfl) | (rw [h1]; simp [fReck, sumI, sumC, difI, difC, dblI, dblC, hlvI, hlvC]; done) | (rw [h1]; simp [fReck, sumI, sumC, difI, difC, dblI, dblC, hlvI, hlvC]; done), by rw [ht]; exact hP9, va_K.moved hW.alike hK, hD9⟩, hS.F ht⟩) hS.2.2 d_FM_reckon_281
    | 1, _, h1 =>
      have h1 : op = 11 := h1
      refine lv_tableIn (off := 84) (tgt := 85) hx hb d_FM_reckon_1 (by rw [h1]; decide) (by rw [h1]; decide) (by rw [h1]; rfl) rfl ?_
      refine lv_aload_n hx hb d_FM_reckon_85 rfl (lv_at hl 0 rfl) ?_
      refine lv_aload_n hx hb d_FM_reckon_86 rfl (lv_at hl 0 rfl) ?_
      refine lv_aload_n hx hb d_FM_reckon_87 rfl (lv_at hl 0 rfl) ?_
      refine va_get (D := D) (ci := 3) (v := .int x) (C := R_FM) (T := T_FM) (N := 9) hx hb hts iw_FM hown hK hP 0 rfl rfl 2 (by decide) (hts _ k_116) (fun x9 h9 => u_same (hts _ k_117) x9 h9) rfl d_FM_reckon_88 ?_
      refine lv_iconst (v := 1) hx hb d_FM_reckon_91 (by decide) ?_
      refine lv_isub hx hb d_FM_reckon_92 ?_
      refine lv_sipush (v := 255) hx hb d_FM_reckon_93 (by decide) ?_
      refine lv_iand hx hb d_FM_reckon_96 ?_
      have hPc := hP.sub (ws' := [(o, .inr (3, [.ref mm, .int a, .int x, .int sp, .int pc, .int (bI zf), .int (bI cf), .int st, .int dn]))]) [0] rfl
      have hDc := hD.sub (ws' := [(o, .inr (3, [.ref mm, .int a, .int x, .int sp, .int pc, .int (bI zf), .int (bI cf), .int st, .int dn]))]) [0] (by decide) rfl
      have hFc := va_free (wc := [(o, .inr (3, [.ref mm, .int a, .int x, .int sp, .int pc, .int (bI zf), .int (bI cf), .int st, .int dn]))]) hD hS hA [0] rfl
      refine va_calli (va_runU (As := [.int ((x - 1) &&& 255)]) (rest := [.ref o]) ⟨hx, hb, hml, hown, hts⟩ (m_FM_tested l D cI cZ o mm a x sp pc zf cf st dn ((x - 1) &&& 255) H.size) (va_cwU 1 hts (gU k_533 k_534 k_536 k_537 k_58 k_538) rfl rfl rfl rfl hd_MA_tested ⟨Nat.le_of_ble_eq_true rfl, Nat.le_of_ble_eq_true rfl⟩) (PcW.preV (va_recv hK hP (q0 := 0) (ci := 3) rfl rfl) hPc hK hDc hN) rfl rfl hl.1 rfl (lv_room (Nat.le_of_ble_eq_true rfl)) d_FM_reckon_97 ⟨Nat.le_of_ble_eq_true rfl, Nat.le_of_ble_eq_true rfl⟩) hS (fun q _ h => hFc q h) hFc (fun r97 u t H1 locs ht hvm e97 hB hz1 hk1 hS => ?_)
      obtain ⟨z197, rfl⟩ : ∃ z, z = u := ⟨_, rfl⟩
      obtain ⟨hP1, hK1, hD1⟩ := hB
      rw [ht] at hP1
      obtain ⟨hP, hD⟩ := va_join (wr := [(mm, .inl (cI, 256, .inl g))]) (w1 := [(o, .inr (3, [.ref mm, .int a, .int x, .int sp, .int pc, .int (bI z197), .int (bI cf), .int st, .int dn]))]) hP hD [0] [1] rfl rfl (by decide) (by decide) hk1 hFc hP1 hD1
      generalize H1 = H at hP hS ⊢
      try dsimp only at e97
      obtain ⟨e97_0, e97_1⟩ := e97
      replace e97_0 := e97_0.symm
      subst e97_0
      replace e97_1 := e97_1.symm
      subst e97_1
      have hP : va_P D vwCl [(mm, .inl (cI, 256, .inl g)), (o, .inr (3, [.ref mm, .int a, .int x, .int sp, .int pc, .int (bI (decide (((x - 1) &&& 255) = 0))), .int (bI cf), .int st, .int dn]))] H := hP
      have hD : va_D A [(mm, .inl (cI, 256, .inl g)), (o, .inr (3, [.ref mm, .int a, .int x, .int sp, .int pc, .int (bI (decide (((x - 1) &&& 255) = 0))), .int (bI cf), .int st, .int dn]))] := hD
      refine va_put (D := D) (ci := 3) (v := .int ((x - 1) &&& 255)) (ty := .int) (C := R_FM) (T := T_FM) (N := 9) hx hb hts iw_FM ty_FM ty_FM_ok nm_FM hown hK hP hD hS 1 rfl rfl 2 (by decide) (hts _ k_116) (fun x9 h9 => u_same (hts _ k_117) x9 h9) rfl (by decide +kernel) rfl rfl (Nat.le_of_ble_eq_true rfl) d_FM_reckon_100 (fun H locs hP hD hS => ?_)
      have hP : va_P D vwCl [(mm, .inl (cI, 256, .inl g)), (o, .inr (3, [.ref mm, .int a, .int ((x - 1) &&& 255), .int sp, .int pc, .int (bI (decide (((x - 1) &&& 255) = 0))), .int (bI cf), .int st, .int dn]))] H := hP
      have hD : va_D A [(mm, .inl (cI, 256, .inl g)), (o, .inr (3, [.ref mm, .int a, .int ((x - 1) &&& 255), .int sp, .int pc, .int (bI (decide (((x - 1) &&& 255) = 0))), .int (bI cf), .int st, .int dn]))] := hD
      refine lv_goto (tgt := 281) hx hb d_FM_reckon_103 rfl ?_
      have hP9 : va_P D vwCl [(o, .inr (3, [.ref mm, .int a, .int ((x - 1) &&& 255), .int sp, .int pc, .int (bI (decide (((x - 1) &&& 255) = 0))), .int (bI cf), .int st, .int dn])), (mm, .inl (cI, 256, .inl g))] H := hP.sub [1, 0] rfl
      have hD9 : va_D A [(o, .inr (3, [.ref mm, .int a, .int ((x - 1) &&& 255), .int sp, .int pc, .int (bI (decide (((x - 1) &&& 255) = 0))), .int (bI cf), .int st, .int dn])), (mm, .inl (cI, 256, .inl g))] := hD.sub [1, 0] (by decide) rfl
      exact W.vret hx hb hr (fun t ht hW => ⟨⟨(g, a, (x - 1) &&& 255, sp, pc, decide (((x - 1) &&& 255) = 0), cf, st), rfl, by first | (rw [h1]; rfl) | (rw [h1]; simp [fReck, sumI, sumC, difI, difC, dblI, dblC, hlvI, hlvC]; done) | (rw [h1]; simp [fReck, sumI, sumC, difI, difC, dblI, dblC, hlvI, hlvC]; done), by rw [ht]; exact hP9, va_K.moved hW.alike hK, hD9⟩, hS.F ht⟩) hS.2.2 d_FM_reckon_281
    | 2, _, h1 =>
      have h1 : op = 12 := h1
      refine lv_tableIn (off := 105) (tgt := 106) hx hb d_FM_reckon_1 (by rw [h1]; decide) (by rw [h1]; decide) (by rw [h1]; rfl) rfl ?_
      refine lv_aload_n hx hb d_FM_reckon_106 rfl (lv_at hl 0 rfl) ?_
      refine lv_aload_n hx hb d_FM_reckon_107 rfl (lv_at hl 0 rfl) ?_
      refine lv_aload_n hx hb d_FM_reckon_108 rfl (lv_at hl 0 rfl) ?_
      refine va_get (D := D) (ci := 3) (v := .int a) (C := R_FM) (T := T_FM) (N := 9) hx hb hts iw_FM hown hK hP 0 rfl rfl 1 (by decide) (hts _ k_111) (fun x9 h9 => u_same (hts _ k_112) x9 h9) rfl d_FM_reckon_109 ?_
      refine lv_iload_n hx hb d_FM_reckon_112 rfl (lv_at hl 2 rfl) ?_
      refine lv_iconst (v := 0) hx hb d_FM_reckon_113 (by decide) ?_
      have hPc := hP.sub (ws' := [(o, .inr (3, [.ref mm, .int a, .int x, .int sp, .int pc, .int (bI zf), .int (bI cf), .int st, .int dn]))]) [0] rfl
      have hDc := hD.sub (ws' := [(o, .inr (3, [.ref mm, .int a, .int x, .int sp, .int pc, .int (bI zf), .int (bI cf), .int st, .int dn]))]) [0] (by decide) rfl
      have hFc := va_free (wc := [(o, .inr (3, [.ref mm, .int a, .int x, .int sp, .int pc, .int (bI zf), .int (bI cf), .int st, .int dn]))]) hD hS hA [0] rfl
      refine va_calli (va_runU (As := [.int a, .int n, .int 0]) (rest := [.ref o]) ⟨hx, hb, hml, hown, hts⟩ (m_FM_sum l D cI cZ o mm a x sp pc zf cf st dn a n false H.size) (va_cwU 3 hts (gU k_549 k_550 k_552 k_553 k_58 k_554) rfl rfl rfl rfl hd_MA_sum ⟨Nat.le_of_ble_eq_true rfl, Nat.le_of_ble_eq_true rfl⟩) (PcW.preV (va_recv hK hP (q0 := 0) (ci := 3) rfl rfl) hPc hK hDc hN) rfl rfl hl.1 rfl (lv_room (Nat.le_of_ble_eq_true rfl)) d_FM_reckon_114 ⟨Nat.le_of_ble_eq_true rfl, Nat.le_of_ble_eq_true rfl⟩) hS (fun q _ h => hFc q h) hFc (fun r114 u t H1 locs ht hvm e114 hB hz1 hk1 hS => ?_)
      obtain ⟨z1114, c1114⟩ := u
      obtain ⟨hP1, hK1, hD1⟩ := hB
      rw [ht] at hP1
      obtain ⟨hP, hD⟩ := va_join (wr := [(mm, .inl (cI, 256, .inl g))]) (w1 := [(o, .inr (3, [.ref mm, .int a, .int x, .int sp, .int pc, .int (bI z1114), .int (bI c1114), .int st, .int dn]))]) hP hD [0] [1] rfl rfl (by decide) (by decide) hk1 hFc hP1 hD1
      generalize H1 = H at hP hS ⊢
      try dsimp only at e114
      obtain ⟨e114_0, e114_1, e114_2⟩ := e114
      replace e114_0 := e114_0.symm
      subst e114_0
      replace e114_1 := e114_1.symm
      subst e114_1
      replace e114_2 := e114_2.symm
      subst e114_2
      have hP : va_P D vwCl [(mm, .inl (cI, 256, .inl g)), (o, .inr (3, [.ref mm, .int a, .int x, .int sp, .int pc, .int (bI (decide ((a + n + bI false) &&& 255 = 0))), .int (bI (decide (¬ a + n + bI false ≤ 255))), .int st, .int dn]))] H := hP
      have hD : va_D A [(mm, .inl (cI, 256, .inl g)), (o, .inr (3, [.ref mm, .int a, .int x, .int sp, .int pc, .int (bI (decide ((a + n + bI false) &&& 255 = 0))), .int (bI (decide (¬ a + n + bI false ≤ 255))), .int st, .int dn]))] := hD
      refine va_put (D := D) (ci := 3) (v := .int ((a + n + bI false) &&& 255)) (ty := .int) (C := R_FM) (T := T_FM) (N := 9) hx hb hts iw_FM ty_FM ty_FM_ok nm_FM hown hK hP hD hS 1 rfl rfl 1 (by decide) (hts _ k_111) (fun x9 h9 => u_same (hts _ k_112) x9 h9) rfl (by decide +kernel) rfl rfl (Nat.le_of_ble_eq_true rfl) d_FM_reckon_117 (fun H locs hP hD hS => ?_)
      have hP : va_P D vwCl [(mm, .inl (cI, 256, .inl g)), (o, .inr (3, [.ref mm, .int ((a + n + bI false) &&& 255), .int x, .int sp, .int pc, .int (bI (decide ((a + n + bI false) &&& 255 = 0))), .int (bI (decide (¬ a + n + bI false ≤ 255))), .int st, .int dn]))] H := hP
      have hD : va_D A [(mm, .inl (cI, 256, .inl g)), (o, .inr (3, [.ref mm, .int ((a + n + bI false) &&& 255), .int x, .int sp, .int pc, .int (bI (decide ((a + n + bI false) &&& 255 = 0))), .int (bI (decide (¬ a + n + bI false ≤ 255))), .int st, .int dn]))] := hD
      refine lv_goto (tgt := 281) hx hb d_FM_reckon_120 rfl ?_
      have hP9 : va_P D vwCl [(o, .inr (3, [.ref mm, .int ((a + n + bI false) &&& 255), .int x, .int sp, .int pc, .int (bI (decide ((a + n + bI false) &&& 255 = 0))), .int (bI (decide (¬ a + n + bI false ≤ 255))), .int st, .int dn])), (mm, .inl (cI, 256, .inl g))] H := hP.sub [1, 0] rfl
      have hD9 : va_D A [(o, .inr (3, [.ref mm, .int ((a + n + bI false) &&& 255), .int x, .int sp, .int pc, .int (bI (decide ((a + n + bI false) &&& 255 = 0))), .int (bI (decide (¬ a + n + bI false ≤ 255))), .int st, .int dn])), (mm, .inl (cI, 256, .inl g))] := hD.sub [1, 0] (by decide) rfl
      exact W.vret hx hb hr (fun t ht hW => ⟨⟨(g, (a + n + bI false) &&& 255, x, sp, pc, decide ((a + n + bI false) &&& 255 = 0), decide (¬ a + n + bI false ≤ 255), st), rfl, by first | (rw [h1]; rfl) | (rw [h1]; simp [fReck, sumI, sumC, difI, difC, dblI, dblC, hlvI, hlvC]; done) | (rw [h1]; simp [fReck, sumI, sumC, difI, difC, dblI, dblC, hlvI, hlvC]; done), by rw [ht]; exact hP9, va_K.moved hW.alike hK, hD9⟩, hS.F ht⟩) hS.2.2 d_FM_reckon_281
    | 3, _, h1 =>
      have h1 : op = 13 := h1
      refine lv_tableIn (off := 122) (tgt := 123) hx hb d_FM_reckon_1 (by rw [h1]; decide) (by rw [h1]; decide) (by rw [h1]; rfl) rfl ?_
      refine lv_aload_n hx hb d_FM_reckon_123 rfl (lv_at hl 0 rfl) ?_
      refine lv_aload_n hx hb d_FM_reckon_124 rfl (lv_at hl 0 rfl) ?_
      refine lv_aload_n hx hb d_FM_reckon_125 rfl (lv_at hl 0 rfl) ?_
      refine va_get (D := D) (ci := 3) (v := .int a) (C := R_FM) (T := T_FM) (N := 9) hx hb hts iw_FM hown hK hP 0 rfl rfl 1 (by decide) (hts _ k_111) (fun x9 h9 => u_same (hts _ k_112) x9 h9) rfl d_FM_reckon_126 ?_
      refine lv_aload_n hx hb d_FM_reckon_129 rfl (lv_at hl 0 rfl) ?_
      refine lv_iload_n hx hb d_FM_reckon_130 rfl (lv_at hl 2 rfl) ?_
      have hPc := hP.sub (ws' := [(o, .inr (3, [.ref mm, .int a, .int x, .int sp, .int pc, .int (bI zf), .int (bI cf), .int st, .int dn])), (mm, .inl (cI, 256, .inl g))]) [0, 1] rfl
      refine vp_callSi (va_runU (As := [.int n]) (rest := [.int a, .ref o, .ref o]) ⟨hx, hb, hml, hown, hts⟩ (m_FM_peek l D cI cZ o mm a x sp pc zf cf st dn g n) (va_cwU 1 hts (gU k_523 k_524 k_526 k_296 k_58 k_300) rfl rfl rfl rfl hd_MA_peek ⟨Nat.le_of_ble_eq_true rfl, Nat.le_of_ble_eq_true rfl⟩) (PcR.preV (va_recv hK hP (q0 := 0) (ci := 3) rfl rfl) hPc hK hN) rfl rfl hl.1 rfl (lv_room (Nat.le_of_ble_eq_true rfl)) d_FM_reckon_131 ⟨Nat.le_of_ble_eq_true rfl, Nat.le_of_ble_eq_true rfl⟩).run (fun r131 e131 => ?_)
      replace e131 := e131.symm
      subst e131
      refine lv_iconst (v := 0) hx hb d_FM_reckon_134 (by decide) ?_
      have hPc := hP.sub (ws' := [(o, .inr (3, [.ref mm, .int a, .int x, .int sp, .int pc, .int (bI zf), .int (bI cf), .int st, .int dn]))]) [0] rfl
      have hDc := hD.sub (ws' := [(o, .inr (3, [.ref mm, .int a, .int x, .int sp, .int pc, .int (bI zf), .int (bI cf), .int st, .int dn]))]) [0] (by decide) rfl
      have hFc := va_free (wc := [(o, .inr (3, [.ref mm, .int a, .int x, .int sp, .int pc, .int (bI zf), .int (bI cf), .int st, .int dn]))]) hD hS hA [0] rfl
      refine va_calli (va_runU (As := [.int a, .int (rd g n), .int 0]) (rest := [.ref o]) ⟨hx, hb, hml, hown, hts⟩ (m_FM_sum l D cI cZ o mm a x sp pc zf cf st dn a (rd g n) false H.size) (va_cwU 3 hts (gU k_549 k_550 k_552 k_553 k_58 k_554) rfl rfl rfl rfl hd_MA_sum ⟨Nat.le_of_ble_eq_true rfl, Nat.le_of_ble_eq_true rfl⟩) (PcW.preV (va_recv hK hP (q0 := 0) (ci := 3) rfl rfl) hPc hK hDc hN) rfl rfl hl.1 rfl (lv_room (Nat.le_of_ble_eq_true rfl)) d_FM_reckon_135 ⟨Nat.le_of_ble_eq_true rfl, Nat.le_of_ble_eq_true rfl⟩) hS (fun q _ h => hFc q h) hFc (fun r135 u t H1 locs ht hvm e135 hB hz1 hk1 hS => ?_)
      obtain ⟨z1135, c1135⟩ := u
      obtain ⟨hP1, hK1, hD1⟩ := hB
      rw [ht] at hP1
      obtain ⟨hP, hD⟩ := va_join (wr := [(mm, .inl (cI, 256, .inl g))]) (w1 := [(o, .inr (3, [.ref mm, .int a, .int x, .int sp, .int pc, .int (bI z1135), .int (bI c1135), .int st, .int dn]))]) hP hD [0] [1] rfl rfl (by decide) (by decide) hk1 hFc hP1 hD1
      generalize H1 = H at hP hS ⊢
      try dsimp only at e135
      obtain ⟨e135_0, e135_1, e135_2⟩ := e135
      replace e135_0 := e135_0.symm
      subst e135_0
      replace e135_1 := e135_1.symm
      subst e135_1
      replace e135_2 := e135_2.symm
      subst e135_2
      have hP : va_P D vwCl [(mm, .inl (cI, 256, .inl g)), (o, .inr (3, [.ref mm, .int a, .int x, .int sp, .int pc, .int (bI (decide ((a + (rd g n) + bI false) &&& 255 = 0))), .int (bI (decide (¬ a + (rd g n) + bI false ≤ 255))), .int st, .int dn]))] H := hP
      have hD : va_D A [(mm, .inl (cI, 256, .inl g)), (o, .inr (3, [.ref mm, .int a, .int x, .int sp, .int pc, .int (bI (decide ((a + (rd g n) + bI false) &&& 255 = 0))), .int (bI (decide (¬ a + (rd g n) + bI false ≤ 255))), .int st, .int dn]))] := hD
      refine va_put (D := D) (ci := 3) (v := .int ((a + (rd g n) + bI false) &&& 255)) (ty := .int) (C := R_FM) (T := T_FM) (N := 9) hx hb hts iw_FM ty_FM ty_FM_ok nm_FM hown hK hP hD hS 1 rfl rfl 1 (by decide) (hts _ k_111) (fun x9 h9 => u_same (hts _ k_112) x9 h9) rfl (by decide +kernel) rfl rfl (Nat.le_of_ble_eq_true rfl) d_FM_reckon_138 (fun H locs hP hD hS => ?_)
      have hP : va_P D vwCl [(mm, .inl (cI, 256, .inl g)), (o, .inr (3, [.ref mm, .int ((a + (rd g n) + bI false) &&& 255), .int x, .int sp, .int pc, .int (bI (decide ((a + (rd g n) + bI false) &&& 255 = 0))), .int (bI (decide (¬ a + (rd g n) + bI false ≤ 255))), .int st, .int dn]))] H := hP
      have hD : va_D A [(mm, .inl (cI, 256, .inl g)), (o, .inr (3, [.ref mm, .int ((a + (rd g n) + bI false) &&& 255), .int x, .int sp, .int pc, .int (bI (decide ((a + (rd g n) + bI false) &&& 255 = 0))), .int (bI (decide (¬ a + (rd g n) + bI false ≤ 255))), .int st, .int dn]))] := hD
      refine lv_goto (tgt := 281) hx hb d_FM_reckon_141 rfl ?_
      have hP9 : va_P D vwCl [(o, .inr (3, [.ref mm, .int ((a + (rd g n) + bI false) &&& 255), .int x, .int sp, .int pc, .int (bI (decide ((a + (rd g n) + bI false) &&& 255 = 0))), .int (bI (decide (¬ a + (rd g n) + bI false ≤ 255))), .int st, .int dn])), (mm, .inl (cI, 256, .inl g))] H := hP.sub [1, 0] rfl
      have hD9 : va_D A [(o, .inr (3, [.ref mm, .int ((a + (rd g n) + bI false) &&& 255), .int x, .int sp, .int pc, .int (bI (decide ((a + (rd g n) + bI false) &&& 255 = 0))), .int (bI (decide (¬ a + (rd g n) + bI false ≤ 255))), .int st, .int dn])), (mm, .inl (cI, 256, .inl g))] := hD.sub [1, 0] (by decide) rfl
      exact W.vret hx hb hr (fun t ht hW => ⟨⟨(g, (a + (rd g n) + bI false) &&& 255, x, sp, pc, decide ((a + (rd g n) + bI false) &&& 255 = 0), decide (¬ a + (rd g n) + bI false ≤ 255), st), rfl, by first | (rw [h1]; rfl) | (rw [h1]; simp [fReck, sumI, sumC, difI, difC, dblI, dblC, hlvI, hlvC]; done) | (rw [h1]; simp [fReck, sumI, sumC, difI, difC, dblI, dblC, hlvI, hlvC]; done), by rw [ht]; exact hP9, va_K.moved hW.alike hK, hD9⟩, hS.F ht⟩) hS.2.2 d_FM_reckon_281
    | 4, _, h1 =>
      have h1 : op = 14 := h1
      refine lv_tableIn (off := 143) (tgt := 144) hx hb d_FM_reckon_1 (by rw [h1]; decide) (by rw [h1]; decide) (by rw [h1]; rfl) rfl ?_
      refine lv_aload_n hx hb d_FM_reckon_144 rfl (lv_at hl 0 rfl) ?_
      refine lv_aload_n hx hb d_FM_reckon_145 rfl (lv_at hl 0 rfl) ?_
      refine lv_aload_n hx hb d_FM_reckon_146 rfl (lv_at hl 0 rfl) ?_
      refine va_get (D := D) (ci := 3) (v := .int a) (C := R_FM) (T := T_FM) (N := 9) hx hb hts iw_FM hown hK hP 0 rfl rfl 1 (by decide) (hts _ k_111) (fun x9 h9 => u_same (hts _ k_112) x9 h9) rfl d_FM_reckon_147 ?_
      refine lv_aload_n hx hb d_FM_reckon_150 rfl (lv_at hl 0 rfl) ?_
      refine lv_iload_n hx hb d_FM_reckon_151 rfl (lv_at hl 2 rfl) ?_
      have hPc := hP.sub (ws' := [(o, .inr (3, [.ref mm, .int a, .int x, .int sp, .int pc, .int (bI zf), .int (bI cf), .int st, .int dn])), (mm, .inl (cI, 256, .inl g))]) [0, 1] rfl
      refine vp_callSi (va_runU (As := [.int n]) (rest := [.int a, .ref o, .ref o]) ⟨hx, hb, hml, hown, hts⟩ (m_FM_peek l D cI cZ o mm a x sp pc zf cf st dn g n) (va_cwU 1 hts (gU k_523 k_524 k_526 k_296 k_58 k_300) rfl rfl rfl rfl hd_MA_peek ⟨Nat.le_of_ble_eq_true rfl, Nat.le_of_ble_eq_true rfl⟩) (PcR.preV (va_recv hK hP (q0 := 0) (ci := 3) rfl rfl) hPc hK hN) rfl rfl hl.1 rfl (lv_room (Nat.le_of_ble_eq_true rfl)) d_FM_reckon_152 ⟨Nat.le_of_ble_eq_true rfl, Nat.le_of_ble_eq_true rfl⟩).run (fun r152 e152 => ?_)
      replace e152 := e152.symm
      subst e152
      refine lv_aload_n hx hb d_FM_reckon_155 rfl (lv_at hl 0 rfl) ?_
      refine va_get (D := D) (ci := 3) (v := .int (bI cf)) (C := R_FM) (T := T_FM) (N := 9) hx hb hts iw_FM hown hK hP 0 rfl rfl 6 (by decide) (hts _ k_134) (fun x9 h9 => u_same (hts _ k_135) x9 h9) rfl d_FM_reckon_156 ?_
      have hPc := hP.sub (ws' := [(o, .inr (3, [.ref mm, .int a, .int x, .int sp, .int pc, .int (bI zf), .int (bI cf), .int st, .int dn]))]) [0] rfl
      have hDc := hD.sub (ws' := [(o, .inr (3, [.ref mm, .int a, .int x, .int sp, .int pc, .int (bI zf), .int (bI cf), .int st, .int dn]))]) [0] (by decide) rfl
      have hFc := va_free (wc := [(o, .inr (3, [.ref mm, .int a, .int x, .int sp, .int pc, .int (bI zf), .int (bI cf), .int st, .int dn]))]) hD hS hA [0] rfl
      refine va_calli (va_runU (As := [.int a, .int (rd g n), .int (bI cf)]) (rest := [.ref o]) ⟨hx, hb, hml, hown, hts⟩ (m_FM_sum l D cI cZ o mm a x sp pc zf cf st dn a (rd g n) cf H.size) (va_cwU 3 hts (gU k_549 k_550 k_552 k_553 k_58 k_554) rfl rfl rfl rfl hd_MA_sum ⟨Nat.le_of_ble_eq_true rfl, Nat.le_of_ble_eq_true rfl⟩) (PcW.preV (va_recv hK hP (q0 := 0) (ci := 3) rfl rfl) hPc hK hDc hN) rfl rfl hl.1 rfl (lv_room (Nat.le_of_ble_eq_true rfl)) d_FM_reckon_159 ⟨Nat.le_of_ble_eq_true rfl, Nat.le_of_ble_eq_true rfl⟩) hS (fun q _ h => hFc q h) hFc (fun r159 u t H1 locs ht hvm e159 hB hz1 hk1 hS => ?_)
      obtain ⟨z1159, c1159⟩ := u
      obtain ⟨hP1, hK1, hD1⟩ := hB
      rw [ht] at hP1
      obtain ⟨hP, hD⟩ := va_join (wr := [(mm, .inl (cI, 256, .inl g))]) (w1 := [(o, .inr (3, [.ref mm, .int a, .int x, .int sp, .int pc, .int (bI z1159), .int (bI c1159), .int st, .int dn]))]) hP hD [0] [1] rfl rfl (by decide) (by decide) hk1 hFc hP1 hD1
      generalize H1 = H at hP hS ⊢
      try dsimp only at e159
      obtain ⟨e159_0, e159_1, e159_2⟩ := e159
      replace e159_0 := e159_0.symm
      subst e159_0
      replace e159_1 := e159_1.symm
      subst e159_1
      replace e159_2 := e159_2.symm
      subst e159_2
      have hP : va_P D vwCl [(mm, .inl (cI, 256, .inl g)), (o, .inr (3, [.ref mm, .int a, .int x, .int sp, .int pc, .int (bI (decide ((a + (rd g n) + bI cf) &&& 255 = 0))), .int (bI (decide (¬ a + (rd g n) + bI cf ≤ 255))), .int st, .int dn]))] H := hP
      have hD : va_D A [(mm, .inl (cI, 256, .inl g)), (o, .inr (3, [.ref mm, .int a, .int x, .int sp, .int pc, .int (bI (decide ((a + (rd g n) + bI cf) &&& 255 = 0))), .int (bI (decide (¬ a + (rd g n) + bI cf ≤ 255))), .int st, .int dn]))] := hD
      refine va_put (D := D) (ci := 3) (v := .int ((a + (rd g n) + bI cf) &&& 255)) (ty := .int) (C := R_FM) (T := T_FM) (N := 9) hx hb hts iw_FM ty_FM ty_FM_ok nm_FM hown hK hP hD hS 1 rfl rfl 1 (by decide) (hts _ k_111) (fun x9 h9 => u_same (hts _ k_112) x9 h9) rfl (by decide +kernel) rfl rfl (Nat.le_of_ble_eq_true rfl) d_FM_reckon_162 (fun H locs hP hD hS => ?_)
      have hP : va_P D vwCl [(mm, .inl (cI, 256, .inl g)), (o, .inr (3, [.ref mm, .int ((a + (rd g n) + bI cf) &&& 255), .int x, .int sp, .int pc, .int (bI (decide ((a + (rd g n) + bI cf) &&& 255 = 0))), .int (bI (decide (¬ a + (rd g n) + bI cf ≤ 255))), .int st, .int dn]))] H := hP
      have hD : va_D A [(mm, .inl (cI, 256, .inl g)), (o, .inr (3, [.ref mm, .int ((a + (rd g n) + bI cf) &&& 255), .int x, .int sp, .int pc, .int (bI (decide ((a + (rd g n) + bI cf) &&& 255 = 0))), .int (bI (decide (¬ a + (rd g n) + bI cf ≤ 255))), .int st, .int dn]))] := hD
      refine lv_goto (tgt := 281) hx hb d_FM_reckon_165 rfl ?_
      have hP9 : va_P D vwCl [(o, .inr (3, [.ref mm, .int ((a + (rd g n) + bI cf) &&& 255), .int x, .int sp, .int pc, .int (bI (decide ((a + (rd g n) + bI cf) &&& 255 = 0))), .int (bI (decide (¬ a + (rd g n) + bI cf ≤ 255))), .int st, .int dn])), (mm, .inl (cI, 256, .inl g))] H := hP.sub [1, 0] rfl
      have hD9 : va_D A [(o, .inr (3, [.ref mm, .int ((a + (rd g n) + bI cf) &&& 255), .int x, .int sp, .int pc, .int (bI (decide ((a + (rd g n) + bI cf) &&& 255 = 0))), .int (bI (decide (¬ a + (rd g n) + bI cf ≤ 255))), .int st, .int dn])), (mm, .inl (cI, 256, .inl g))] := hD.sub [1, 0] (by decide) rfl
      exact W.vret hx hb hr (fun t ht hW => ⟨⟨(g, (a + (rd g n) + bI cf) &&& 255, x, sp, pc, decide ((a + (rd g n) + bI cf) &&& 255 = 0), decide (¬ a + (rd g n) + bI cf ≤ 255), st), rfl, by first | (rw [h1]; rfl) | (rw [h1]; simp [fReck, sumI, sumC, difI, difC, dblI, dblC, hlvI, hlvC]; done) | (rw [h1]; simp [fReck, sumI, sumC, difI, difC, dblI, dblC, hlvI, hlvC]; done), by rw [ht]; exact hP9, va_K.moved hW.alike hK, hD9⟩, hS.F ht⟩) hS.2.2 d_FM_reckon_281
    | 5, _, h1 =>
      have h1 : op = 15 := h1
      refine lv_tableIn (off := 167) (tgt := 168) hx hb d_FM_reckon_1 (by rw [h1]; decide) (by rw [h1]; decide) (by rw [h1]; rfl) rfl ?_
      refine lv_aload_n hx hb d_FM_reckon_168 rfl (lv_at hl 0 rfl) ?_
      refine lv_aload_n hx hb d_FM_reckon_169 rfl (lv_at hl 0 rfl) ?_
      refine lv_aload_n hx hb d_FM_reckon_170 rfl (lv_at hl 0 rfl) ?_
      refine va_get (D := D) (ci := 3) (v := .int a) (C := R_FM) (T := T_FM) (N := 9) hx hb hts iw_FM hown hK hP 0 rfl rfl 1 (by decide) (hts _ k_111) (fun x9 h9 => u_same (hts _ k_112) x9 h9) rfl d_FM_reckon_171 ?_
      refine lv_iload_n hx hb d_FM_reckon_174 rfl (lv_at hl 2 rfl) ?_
      have hPc := hP.sub (ws' := [(o, .inr (3, [.ref mm, .int a, .int x, .int sp, .int pc, .int (bI zf), .int (bI cf), .int st, .int dn]))]) [0] rfl
      have hDc := hD.sub (ws' := [(o, .inr (3, [.ref mm, .int a, .int x, .int sp, .int pc, .int (bI zf), .int (bI cf), .int st, .int dn]))]) [0] (by decide) rfl
      have hFc := va_free (wc := [(o, .inr (3, [.ref mm, .int a, .int x, .int sp, .int pc, .int (bI zf), .int (bI cf), .int st, .int dn]))]) hD hS hA [0] rfl
      refine va_calli (va_runU (As := [.int a, .int n]) (rest := [.ref o]) ⟨hx, hb, hml, hown, hts⟩ (m_FM_diff l D cI cZ o mm a x sp pc zf cf st dn a n H.size) (va_cwU 2 hts (gU k_556 k_557 k_559 k_560 k_58 k_561) rfl rfl rfl rfl hd_MA_difference ⟨Nat.le_of_ble_eq_true rfl, Nat.le_of_ble_eq_true rfl⟩) (PcW.preV (va_recv hK hP (q0 := 0) (ci := 3) rfl rfl) hPc hK hDc hN) rfl rfl hl.1 rfl (lv_room (Nat.le_of_ble_eq_true rfl)) d_FM_reckon_175 ⟨Nat.le_of_ble_eq_true rfl, Nat.le_of_ble_eq_true rfl⟩) hS (fun q _ h => hFc q h) hFc (fun r175 u t H1 locs ht hvm e175 hB hz1 hk1 hS => ?_)
      obtain ⟨z1175, c1175⟩ := u
      obtain ⟨hP1, hK1, hD1⟩ := hB
      rw [ht] at hP1
      obtain ⟨hP, hD⟩ := va_join (wr := [(mm, .inl (cI, 256, .inl g))]) (w1 := [(o, .inr (3, [.ref mm, .int a, .int x, .int sp, .int pc, .int (bI z1175), .int (bI c1175), .int st, .int dn]))]) hP hD [0] [1] rfl rfl (by decide) (by decide) hk1 hFc hP1 hD1
      generalize H1 = H at hP hS ⊢
      try dsimp only at e175
      obtain ⟨e175_0, e175_1, e175_2⟩ := e175
      replace e175_0 := e175_0.symm
      subst e175_0
      replace e175_1 := e175_1.symm
      subst e175_1
      replace e175_2 := e175_2.symm
      subst e175_2
      have hP : va_P D vwCl [(mm, .inl (cI, 256, .inl g)), (o, .inr (3, [.ref mm, .int a, .int x, .int sp, .int pc, .int (bI (decide ((a - n) &&& 255 = 0))), .int (bI (decide (¬ n ≤ a))), .int st, .int dn]))] H := hP
      have hD : va_D A [(mm, .inl (cI, 256, .inl g)), (o, .inr (3, [.ref mm, .int a, .int x, .int sp, .int pc, .int (bI (decide ((a - n) &&& 255 = 0))), .int (bI (decide (¬ n ≤ a))), .int st, .int dn]))] := hD
      refine va_put (D := D) (ci := 3) (v := .int ((a - n) &&& 255)) (ty := .int) (C := R_FM) (T := T_FM) (N := 9) hx hb hts iw_FM ty_FM ty_FM_ok nm_FM hown hK hP hD hS 1 rfl rfl 1 (by decide) (hts _ k_111) (fun x9 h9 => u_same (hts _ k_112) x9 h9) rfl (by decide +kernel) rfl rfl (Nat.le_of_ble_eq_true rfl) d_FM_reckon_178 (fun H locs hP hD hS => ?_)
      have hP : va_P D vwCl [(mm, .inl (cI, 256, .inl g)), (o, .inr (3, [.ref mm, .int ((a - n) &&& 255), .int x, .int sp, .int pc, .int (bI (decide ((a - n) &&& 255 = 0))), .int (bI (decide (¬ n ≤ a))), .int st, .int dn]))] H := hP
      have hD : va_D A [(mm, .inl (cI, 256, .inl g)), (o, .inr (3, [.ref mm, .int ((a - n) &&& 255), .int x, .int sp, .int pc, .int (bI (decide ((a - n) &&& 255 = 0))), .int (bI (decide (¬ n ≤ a))), .int st, .int dn]))] := hD
      refine lv_goto (tgt := 281) hx hb d_FM_reckon_181 rfl ?_
      have hP9 : va_P D vwCl [(o, .inr (3, [.ref mm, .int ((a - n) &&& 255), .int x, .int sp, .int pc, .int (bI (decide ((a - n) &&& 255 = 0))), .int (bI (decide (¬ n ≤ a))), .int st, .int dn])), (mm, .inl (cI, 256, .inl g))] H := hP.sub [1, 0] rfl
      have hD9 : va_D A [(o, .inr (3, [.ref mm, .int ((a - n) &&& 255), .int x, .int sp, .int pc, .int (bI (decide ((a - n) &&& 255 = 0))), .int (bI (decide (¬ n ≤ a))), .int st, .int dn])), (mm, .inl (cI, 256, .inl g))] := hD.sub [1, 0] (by decide) rfl
      exact W.vret hx hb hr (fun t ht hW => ⟨⟨(g, (a - n) &&& 255, x, sp, pc, decide ((a - n) &&& 255 = 0), decide (¬ n ≤ a), st), rfl, by first | (rw [h1]; rfl) | (rw [h1]; simp [fReck, sumI, sumC, difI, difC, dblI, dblC, hlvI, hlvC]; done) | (rw [h1]; simp [fReck, sumI, sumC, difI, difC, dblI, dblC, hlvI, hlvC]; done), by rw [ht]; exact hP9, va_K.moved hW.alike hK, hD9⟩, hS.F ht⟩) hS.2.2 d_FM_reckon_281
    | 6, _, h1 =>
      have h1 : op = 16 := h1
      refine lv_tableIn (off := 183) (tgt := 184) hx hb d_FM_reckon_1 (by rw [h1]; decide) (by rw [h1]; decide) (by rw [h1]; rfl) rfl ?_
      refine lv_aload_n hx hb d_FM_reckon_184 rfl (lv_at hl 0 rfl) ?_
      refine lv_aload_n hx hb d_FM_reckon_185 rfl (lv_at hl 0 rfl) ?_
      refine lv_aload_n hx hb d_FM_reckon_186 rfl (lv_at hl 0 rfl) ?_
      refine va_get (D := D) (ci := 3) (v := .int a) (C := R_FM) (T := T_FM) (N := 9) hx hb hts iw_FM hown hK hP 0 rfl rfl 1 (by decide) (hts _ k_111) (fun x9 h9 => u_same (hts _ k_112) x9 h9) rfl d_FM_reckon_187 ?_
      refine lv_aload_n hx hb d_FM_reckon_190 rfl (lv_at hl 0 rfl) ?_
      refine lv_iload_n hx hb d_FM_reckon_191 rfl (lv_at hl 2 rfl) ?_
      have hPc := hP.sub (ws' := [(o, .inr (3, [.ref mm, .int a, .int x, .int sp, .int pc, .int (bI zf), .int (bI cf), .int st, .int dn])), (mm, .inl (cI, 256, .inl g))]) [0, 1] rfl
      refine vp_callSi (va_runU (As := [.int n]) (rest := [.int a, .ref o, .ref o]) ⟨hx, hb, hml, hown, hts⟩ (m_FM_peek l D cI cZ o mm a x sp pc zf cf st dn g n) (va_cwU 1 hts (gU k_523 k_524 k_526 k_296 k_58 k_300) rfl rfl rfl rfl hd_MA_peek ⟨Nat.le_of_ble_eq_true rfl, Nat.le_of_ble_eq_true rfl⟩) (PcR.preV (va_recv hK hP (q0 := 0) (ci := 3) rfl rfl) hPc hK hN) rfl rfl hl.1 rfl (lv_room (Nat.le_of_ble_eq_true rfl)) d_FM_reckon_192 ⟨Nat.le_of_ble_eq_true rfl, Nat.le_of_ble_eq_true rfl⟩).run (fun r192 e192 => ?_)
      replace e192 := e192.symm
      subst e192
      have hPc := hP.sub (ws' := [(o, .inr (3, [.ref mm, .int a, .int x, .int sp, .int pc, .int (bI zf), .int (bI cf), .int st, .int dn]))]) [0] rfl
      have hDc := hD.sub (ws' := [(o, .inr (3, [.ref mm, .int a, .int x, .int sp, .int pc, .int (bI zf), .int (bI cf), .int st, .int dn]))]) [0] (by decide) rfl
      have hFc := va_free (wc := [(o, .inr (3, [.ref mm, .int a, .int x, .int sp, .int pc, .int (bI zf), .int (bI cf), .int st, .int dn]))]) hD hS hA [0] rfl
      refine va_calli (va_runU (As := [.int a, .int (rd g n)]) (rest := [.ref o]) ⟨hx, hb, hml, hown, hts⟩ (m_FM_diff l D cI cZ o mm a x sp pc zf cf st dn a (rd g n) H.size) (va_cwU 2 hts (gU k_556 k_557 k_559 k_560 k_58 k_561) rfl rfl rfl rfl hd_MA_difference ⟨Nat.le_of_ble_eq_true rfl, Nat.le_of_ble_eq_true rfl⟩) (PcW.preV (va_recv hK hP (q0 := 0) (ci := 3) rfl rfl) hPc hK hDc hN) rfl rfl hl.1 rfl (lv_room (Nat.le_of_ble_eq_true rfl)) d_FM_reckon_195 ⟨Nat.le_of_ble_eq_true rfl, Nat.le_of_ble_eq_true rfl⟩) hS (fun q _ h => hFc q h) hFc (fun r195 u t H1 locs ht hvm e195 hB hz1 hk1 hS => ?_)
      obtain ⟨z1195, c1195⟩ := u
      obtain ⟨hP1, hK1, hD1⟩ := hB
      rw [ht] at hP1
      obtain ⟨hP, hD⟩ := va_join (wr := [(mm, .inl (cI, 256, .inl g))]) (w1 := [(o, .inr (3, [.ref mm, .int a, .int x, .int sp, .int pc, .int (bI z1195), .int (bI c1195), .int st, .int dn]))]) hP hD [0] [1] rfl rfl (by decide) (by decide) hk1 hFc hP1 hD1
      generalize H1 = H at hP hS ⊢
      try dsimp only at e195
      obtain ⟨e195_0, e195_1, e195_2⟩ := e195
      replace e195_0 := e195_0.symm
      subst e195_0
      replace e195_1 := e195_1.symm
      subst e195_1
      replace e195_2 := e195_2.symm
      subst e195_2
      have hP : va_P D vwCl [(mm, .inl (cI, 256, .inl g)), (o, .inr (3, [.ref mm, .int a, .int x, .int sp, .int pc, .int (bI (decide ((a - (rd g n)) &&& 255 = 0))), .int (bI (decide (¬ (rd g n) ≤ a))), .int st, .int dn]))] H := hP
      have hD : va_D A [(mm, .inl (cI, 256, .inl g)), (o, .inr (3, [.ref mm, .int a, .int x, .int sp, .int pc, .int (bI (decide ((a - (rd g n)) &&& 255 = 0))), .int (bI (decide (¬ (rd g n) ≤ a))), .int st, .int dn]))] := hD
      refine va_put (D := D) (ci := 3) (v := .int ((a - (rd g n)) &&& 255)) (ty := .int) (C := R_FM) (T := T_FM) (N := 9) hx hb hts iw_FM ty_FM ty_FM_ok nm_FM hown hK hP hD hS 1 rfl rfl 1 (by decide) (hts _ k_111) (fun x9 h9 => u_same (hts _ k_112) x9 h9) rfl (by decide +kernel) rfl rfl (Nat.le_of_ble_eq_true rfl) d_FM_reckon_198 (fun H locs hP hD hS => ?_)
      have hP : va_P D vwCl [(mm, .inl (cI, 256, .inl g)), (o, .inr (3, [.ref mm, .int ((a - (rd g n)) &&& 255), .int x, .int sp, .int pc, .int (bI (decide ((a - (rd g n)) &&& 255 = 0))), .int (bI (decide (¬ (rd g n) ≤ a))), .int st, .int dn]))] H := hP
      have hD : va_D A [(mm, .inl (cI, 256, .inl g)), (o, .inr (3, [.ref mm, .int ((a - (rd g n)) &&& 255), .int x, .int sp, .int pc, .int (bI (decide ((a - (rd g n)) &&& 255 = 0))), .int (bI (decide (¬ (rd g n) ≤ a))), .int st, .int dn]))] := hD
      refine lv_goto (tgt := 281) hx hb d_FM_reckon_201 rfl ?_
      have hP9 : va_P D vwCl [(o, .inr (3, [.ref mm, .int ((a - (rd g n)) &&& 255), .int x, .int sp, .int pc, .int (bI (decide ((a - (rd g n)) &&& 255 = 0))), .int (bI (decide (¬ (rd g n) ≤ a))), .int st, .int dn])), (mm, .inl (cI, 256, .inl g))] H := hP.sub [1, 0] rfl
      have hD9 : va_D A [(o, .inr (3, [.ref mm, .int ((a - (rd g n)) &&& 255), .int x, .int sp, .int pc, .int (bI (decide ((a - (rd g n)) &&& 255 = 0))), .int (bI (decide (¬ (rd g n) ≤ a))), .int st, .int dn])), (mm, .inl (cI, 256, .inl g))] := hD.sub [1, 0] (by decide) rfl
      exact W.vret hx hb hr (fun t ht hW => ⟨⟨(g, (a - (rd g n)) &&& 255, x, sp, pc, decide ((a - (rd g n)) &&& 255 = 0), decide (¬ (rd g n) ≤ a), st), rfl, by first | (rw [h1]; rfl) | (rw [h1]; simp [fReck, sumI, sumC, difI, difC, dblI, dblC, hlvI, hlvC]; done) | (rw [h1]; simp [fReck, sumI, sumC, difI, difC, dblI, dblC, hlvI, hlvC]; done), by rw [ht]; exact hP9, va_K.moved hW.alike hK, hD9⟩, hS.F ht⟩) hS.2.2 d_FM_reckon_281
    | 7, _, h1 =>
      have h1 : op = 17 := h1
      refine lv_tableIn (off := 203) (tgt := 204) hx hb d_FM_reckon_1 (by rw [h1]; decide) (by rw [h1]; decide) (by rw [h1]; rfl) rfl ?_
      refine lv_aload_n hx hb d_FM_reckon_204 rfl (lv_at hl 0 rfl) ?_
      refine lv_aload_n hx hb d_FM_reckon_205 rfl (lv_at hl 0 rfl) ?_
      refine lv_aload_n hx hb d_FM_reckon_206 rfl (lv_at hl 0 rfl) ?_
      refine va_get (D := D) (ci := 3) (v := .int a) (C := R_FM) (T := T_FM) (N := 9) hx hb hts iw_FM hown hK hP 0 rfl rfl 1 (by decide) (hts _ k_111) (fun x9 h9 => u_same (hts _ k_112) x9 h9) rfl d_FM_reckon_207 ?_
      refine lv_iload_n hx hb d_FM_reckon_210 rfl (lv_at hl 2 rfl) ?_
      refine lv_iand hx hb d_FM_reckon_211 ?_
      have hPc := hP.sub (ws' := [(o, .inr (3, [.ref mm, .int a, .int x, .int sp, .int pc, .int (bI zf), .int (bI cf), .int st, .int dn]))]) [0] rfl
      have hDc := hD.sub (ws' := [(o, .inr (3, [.ref mm, .int a, .int x, .int sp, .int pc, .int (bI zf), .int (bI cf), .int st, .int dn]))]) [0] (by decide) rfl
      have hFc := va_free (wc := [(o, .inr (3, [.ref mm, .int a, .int x, .int sp, .int pc, .int (bI zf), .int (bI cf), .int st, .int dn]))]) hD hS hA [0] rfl
      refine va_calli (va_runU (As := [.int (a &&& n)]) (rest := [.ref o]) ⟨hx, hb, hml, hown, hts⟩ (m_FM_testedWC l D cI cZ o mm a x sp pc zf cf st dn (a &&& n) H.size) (va_cwU 1 hts (gU k_562 k_563 k_565 k_566 k_58 k_567) rfl rfl rfl rfl hd_MA_testedWithoutCarry ⟨Nat.le_of_ble_eq_true rfl, Nat.le_of_ble_eq_true rfl⟩) (PcW.preV (va_recv hK hP (q0 := 0) (ci := 3) rfl rfl) hPc hK hDc hN) rfl rfl hl.1 rfl (lv_room (Nat.le_of_ble_eq_true rfl)) d_FM_reckon_212 ⟨Nat.le_of_ble_eq_true rfl, Nat.le_of_ble_eq_true rfl⟩) hS (fun q _ h => hFc q h) hFc (fun r212 u t H1 locs ht hvm e212 hB hz1 hk1 hS => ?_)
      obtain ⟨z1212, c1212⟩ := u
      obtain ⟨hP1, hK1, hD1⟩ := hB
      rw [ht] at hP1
      obtain ⟨hP, hD⟩ := va_join (wr := [(mm, .inl (cI, 256, .inl g))]) (w1 := [(o, .inr (3, [.ref mm, .int a, .int x, .int sp, .int pc, .int (bI z1212), .int (bI c1212), .int st, .int dn]))]) hP hD [0] [1] rfl rfl (by decide) (by decide) hk1 hFc hP1 hD1
      generalize H1 = H at hP hS ⊢
      try dsimp only at e212
      obtain ⟨e212_0, e212_1, e212_2⟩ := e212
      replace e212_0 := e212_0.symm
      subst e212_0
      replace e212_1 := e212_1.symm
      subst e212_1
      replace e212_2 := e212_2.symm
      subst e212_2
      have hP : va_P D vwCl [(mm, .inl (cI, 256, .inl g)), (o, .inr (3, [.ref mm, .int a, .int x, .int sp, .int pc, .int (bI (decide ((a &&& n) = 0))), .int (bI false), .int st, .int dn]))] H := hP
      have hD : va_D A [(mm, .inl (cI, 256, .inl g)), (o, .inr (3, [.ref mm, .int a, .int x, .int sp, .int pc, .int (bI (decide ((a &&& n) = 0))), .int (bI false), .int st, .int dn]))] := hD
      refine va_put (D := D) (ci := 3) (v := .int (a &&& n)) (ty := .int) (C := R_FM) (T := T_FM) (N := 9) hx hb hts iw_FM ty_FM ty_FM_ok nm_FM hown hK hP hD hS 1 rfl rfl 1 (by decide) (hts _ k_111) (fun x9 h9 => u_same (hts _ k_112) x9 h9) rfl (by decide +kernel) rfl rfl (Nat.le_of_ble_eq_true rfl) d_FM_reckon_215 (fun H locs hP hD hS => ?_)
      have hP : va_P D vwCl [(mm, .inl (cI, 256, .inl g)), (o, .inr (3, [.ref mm, .int (a &&& n), .int x, .int sp, .int pc, .int (bI (decide ((a &&& n) = 0))), .int (bI false), .int st, .int dn]))] H := hP
      have hD : va_D A [(mm, .inl (cI, 256, .inl g)), (o, .inr (3, [.ref mm, .int (a &&& n), .int x, .int sp, .int pc, .int (bI (decide ((a &&& n) = 0))), .int (bI false), .int st, .int dn]))] := hD
      refine lv_goto (tgt := 281) hx hb d_FM_reckon_218 rfl ?_
      have hP9 : va_P D vwCl [(o, .inr (3, [.ref mm, .int (a &&& n), .int x, .int sp, .int pc, .int (bI (decide ((a &&& n) = 0))), .int (bI false), .int st, .int dn])), (mm, .inl (cI, 256, .inl g))] H := hP.sub [1, 0] rfl
      have hD9 : va_D A [(o, .inr (3, [.ref mm, .int (a &&& n), .int x, .int sp, .int pc, .int (bI (decide ((a &&& n) = 0))), .int (bI false), .int st, .int dn])), (mm, .inl (cI, 256, .inl g))] := hD.sub [1, 0] (by decide) rfl
      exact W.vret hx hb hr (fun t ht hW => ⟨⟨(g, a &&& n, x, sp, pc, decide ((a &&& n) = 0), false, st), rfl, by first | (rw [h1]; rfl) | (rw [h1]; simp [fReck, sumI, sumC, difI, difC, dblI, dblC, hlvI, hlvC]; done) | (rw [h1]; simp [fReck, sumI, sumC, difI, difC, dblI, dblC, hlvI, hlvC]; done), by rw [ht]; exact hP9, va_K.moved hW.alike hK, hD9⟩, hS.F ht⟩) hS.2.2 d_FM_reckon_281
    | 8, _, h1 =>
      have h1 : op = 18 := h1
      refine lv_tableIn (off := 220) (tgt := 221) hx hb d_FM_reckon_1 (by rw [h1]; decide) (by rw [h1]; decide) (by rw [h1]; rfl) rfl ?_
      refine lv_aload_n hx hb d_FM_reckon_221 rfl (lv_at hl 0 rfl) ?_
      refine lv_aload_n hx hb d_FM_reckon_222 rfl (lv_at hl 0 rfl) ?_
      refine lv_aload_n hx hb d_FM_reckon_223 rfl (lv_at hl 0 rfl) ?_
      refine va_get (D := D) (ci := 3) (v := .int a) (C := R_FM) (T := T_FM) (N := 9) hx hb hts iw_FM hown hK hP 0 rfl rfl 1 (by decide) (hts _ k_111) (fun x9 h9 => u_same (hts _ k_112) x9 h9) rfl d_FM_reckon_224 ?_
      refine lv_iload_n hx hb d_FM_reckon_227 rfl (lv_at hl 2 rfl) ?_
      refine lv_ixor hx hb d_FM_reckon_228 ?_
      have hPc := hP.sub (ws' := [(o, .inr (3, [.ref mm, .int a, .int x, .int sp, .int pc, .int (bI zf), .int (bI cf), .int st, .int dn]))]) [0] rfl
      have hDc := hD.sub (ws' := [(o, .inr (3, [.ref mm, .int a, .int x, .int sp, .int pc, .int (bI zf), .int (bI cf), .int st, .int dn]))]) [0] (by decide) rfl
      have hFc := va_free (wc := [(o, .inr (3, [.ref mm, .int a, .int x, .int sp, .int pc, .int (bI zf), .int (bI cf), .int st, .int dn]))]) hD hS hA [0] rfl
      refine va_calli (va_runU (As := [.int (a ^^^ n)]) (rest := [.ref o]) ⟨hx, hb, hml, hown, hts⟩ (m_FM_testedWC l D cI cZ o mm a x sp pc zf cf st dn (a ^^^ n) H.size) (va_cwU 1 hts (gU k_562 k_563 k_565 k_566 k_58 k_567) rfl rfl rfl rfl hd_MA_testedWithoutCarry ⟨Nat.le_of_ble_eq_true rfl, Nat.le_of_ble_eq_true rfl⟩) (PcW.preV (va_recv hK hP (q0 := 0) (ci := 3) rfl rfl) hPc hK hDc hN) rfl rfl hl.1 rfl (lv_room (Nat.le_of_ble_eq_true rfl)) d_FM_reckon_229 ⟨Nat.le_of_ble_eq_true rfl, Nat.le_of_ble_eq_true rfl⟩) hS (fun q _ h => hFc q h) hFc (fun r229 u t H1 locs ht hvm e229 hB hz1 hk1 hS => ?_)
      obtain ⟨z1229, c1229⟩ := u
      obtain ⟨hP1, hK1, hD1⟩ := hB
      rw [ht] at hP1
      obtain ⟨hP, hD⟩ := va_join (wr := [(mm, .inl (cI, 256, .inl g))]) (w1 := [(o, .inr (3, [.ref mm, .int a, .int x, .int sp, .int pc, .int (bI z1229), .int (bI c1229), .int st, .int dn]))]) hP hD [0] [1] rfl rfl (by decide) (by decide) hk1 hFc hP1 hD1
      generalize H1 = H at hP hS ⊢
      try dsimp only at e229
      obtain ⟨e229_0, e229_1, e229_2⟩ := e229
      replace e229_0 := e229_0.symm
      subst e229_0
      replace e229_1 := e229_1.symm
      subst e229_1
      replace e229_2 := e229_2.symm
      subst e229_2
      have hP : va_P D vwCl [(mm, .inl (cI, 256, .inl g)), (o, .inr (3, [.ref mm, .int a, .int x, .int sp, .int pc, .int (bI (decide ((a ^^^ n) = 0))), .int (bI false), .int st, .int dn]))] H := hP
      have hD : va_D A [(mm, .inl (cI, 256, .inl g)), (o, .inr (3, [.ref mm, .int a, .int x, .int sp, .int pc, .int (bI (decide ((a ^^^ n) = 0))), .int (bI false), .int st, .int dn]))] := hD
      refine va_put (D := D) (ci := 3) (v := .int (a ^^^ n)) (ty := .int) (C := R_FM) (T := T_FM) (N := 9) hx hb hts iw_FM ty_FM ty_FM_ok nm_FM hown hK hP hD hS 1 rfl rfl 1 (by decide) (hts _ k_111) (fun x9 h9 => u_same (hts _ k_112) x9 h9) rfl (by decide +kernel) rfl rfl (Nat.le_of_ble_eq_true rfl) d_FM_reckon_232 (fun H locs hP hD hS => ?_)
      have hP : va_P D vwCl [(mm, .inl (cI, 256, .inl g)), (o, .inr (3, [.ref mm, .int (a ^^^ n), .int x, .int sp, .int pc, .int (bI (decide ((a ^^^ n) = 0))), .int (bI false), .int st, .int dn]))] H := hP
      have hD : va_D A [(mm, .inl (cI, 256, .inl g)), (o, .inr (3, [.ref mm, .int (a ^^^ n), .int x, .int sp, .int pc, .int (bI (decide ((a ^^^ n) = 0))), .int (bI false), .int st, .int dn]))] := hD
      refine lv_goto (tgt := 281) hx hb d_FM_reckon_235 rfl ?_
      have hP9 : va_P D vwCl [(o, .inr (3, [.ref mm, .int (a ^^^ n), .int x, .int sp, .int pc, .int (bI (decide ((a ^^^ n) = 0))), .int (bI false), .int st, .int dn])), (mm, .inl (cI, 256, .inl g))] H := hP.sub [1, 0] rfl
      have hD9 : va_D A [(o, .inr (3, [.ref mm, .int (a ^^^ n), .int x, .int sp, .int pc, .int (bI (decide ((a ^^^ n) = 0))), .int (bI false), .int st, .int dn])), (mm, .inl (cI, 256, .inl g))] := hD.sub [1, 0] (by decide) rfl
      exact W.vret hx hb hr (fun t ht hW => ⟨⟨(g, a ^^^ n, x, sp, pc, decide ((a ^^^ n) = 0), false, st), rfl, by first | (rw [h1]; rfl) | (rw [h1]; simp [fReck, sumI, sumC, difI, difC, dblI, dblC, hlvI, hlvC]; done) | (rw [h1]; simp [fReck, sumI, sumC, difI, difC, dblI, dblC, hlvI, hlvC]; done), by rw [ht]; exact hP9, va_K.moved hW.alike hK, hD9⟩, hS.F ht⟩) hS.2.2 d_FM_reckon_281
    | 9, _, h1 =>
      have h1 : op = 19 := h1
      refine lv_tableIn (off := 237) (tgt := 238) hx hb d_FM_reckon_1 (by rw [h1]; decide) (by rw [h1]; decide) (by rw [h1]; rfl) rfl ?_
      refine lv_aload_n hx hb d_FM_reckon_238 rfl (lv_at hl 0 rfl) ?_
      refine lv_aload_n hx hb d_FM_reckon_239 rfl (lv_at hl 0 rfl) ?_
      refine va_get (D := D) (ci := 3) (v := .int a) (C := R_FM) (T := T_FM) (N := 9) hx hb hts iw_FM hown hK hP 0 rfl rfl 1 (by decide) (hts _ k_111) (fun x9 h9 => u_same (hts _ k_112) x9 h9) rfl d_FM_reckon_240 ?_
      refine lv_iload_n hx hb d_FM_reckon_243 rfl (lv_at hl 2 rfl) ?_
      have hPc := hP.sub (ws' := [(o, .inr (3, [.ref mm, .int a, .int x, .int sp, .int pc, .int (bI zf), .int (bI cf), .int st, .int dn]))]) [0] rfl
      have hDc := hD.sub (ws' := [(o, .inr (3, [.ref mm, .int a, .int x, .int sp, .int pc, .int (bI zf), .int (bI cf), .int st, .int dn]))]) [0] (by decide) rfl
      have hFc := va_free (wc := [(o, .inr (3, [.ref mm, .int a, .int x, .int sp, .int pc, .int (bI zf), .int (bI cf), .int st, .int dn]))]) hD hS hA [0] rfl
      refine va_calli (va_runU (As := [.int a, .int n]) (rest := []) ⟨hx, hb, hml, hown, hts⟩ (m_FM_diff l D cI cZ o mm a x sp pc zf cf st dn a n H.size) (va_cwU 2 hts (gU k_556 k_557 k_559 k_560 k_58 k_561) rfl rfl rfl rfl hd_MA_difference ⟨Nat.le_of_ble_eq_true rfl, Nat.le_of_ble_eq_true rfl⟩) (PcW.preV (va_recv hK hP (q0 := 0) (ci := 3) rfl rfl) hPc hK hDc hN) rfl rfl hl.1 rfl (lv_room (Nat.le_of_ble_eq_true rfl)) d_FM_reckon_244 ⟨Nat.le_of_ble_eq_true rfl, Nat.le_of_ble_eq_true rfl⟩) hS (fun q _ h => hFc q h) hFc (fun r244 u t H1 locs ht hvm e244 hB hz1 hk1 hS => ?_)
      obtain ⟨z1244, c1244⟩ := u
      obtain ⟨hP1, hK1, hD1⟩ := hB
      rw [ht] at hP1
      obtain ⟨hP, hD⟩ := va_join (wr := [(mm, .inl (cI, 256, .inl g))]) (w1 := [(o, .inr (3, [.ref mm, .int a, .int x, .int sp, .int pc, .int (bI z1244), .int (bI c1244), .int st, .int dn]))]) hP hD [0] [1] rfl rfl (by decide) (by decide) hk1 hFc hP1 hD1
      generalize H1 = H at hP hS ⊢
      try dsimp only at e244
      obtain ⟨e244_0, e244_1, e244_2⟩ := e244
      replace e244_0 := e244_0.symm
      subst e244_0
      replace e244_1 := e244_1.symm
      subst e244_1
      replace e244_2 := e244_2.symm
      subst e244_2
      have hP : va_P D vwCl [(mm, .inl (cI, 256, .inl g)), (o, .inr (3, [.ref mm, .int a, .int x, .int sp, .int pc, .int (bI (decide ((a - n) &&& 255 = 0))), .int (bI (decide (¬ n ≤ a))), .int st, .int dn]))] H := hP
      have hD : va_D A [(mm, .inl (cI, 256, .inl g)), (o, .inr (3, [.ref mm, .int a, .int x, .int sp, .int pc, .int (bI (decide ((a - n) &&& 255 = 0))), .int (bI (decide (¬ n ≤ a))), .int st, .int dn]))] := hD
      refine lv_pop hx hb d_FM_reckon_247 rfl ?_
      refine lv_goto (tgt := 281) hx hb d_FM_reckon_248 rfl ?_
      have hP9 : va_P D vwCl [(o, .inr (3, [.ref mm, .int a, .int x, .int sp, .int pc, .int (bI (decide ((a - n) &&& 255 = 0))), .int (bI (decide (¬ n ≤ a))), .int st, .int dn])), (mm, .inl (cI, 256, .inl g))] H := hP.sub [1, 0] rfl
      have hD9 : va_D A [(o, .inr (3, [.ref mm, .int a, .int x, .int sp, .int pc, .int (bI (decide ((a - n) &&& 255 = 0))), .int (bI (decide (¬ n ≤ a))), .int st, .int dn])), (mm, .inl (cI, 256, .inl g))] := hD.sub [1, 0] (by decide) rfl
      exact W.vret hx hb hr (fun t ht hW => ⟨⟨(g, a, x, sp, pc, decide ((a - n) &&& 255 = 0), decide (¬ n ≤ a), st), rfl, by first | (rw [h1]; rfl) | (rw [h1]; simp [fReck, sumI, sumC, difI, difC, dblI, dblC, hlvI, hlvC]; done) | (rw [h1]; simp [fReck, sumI, sumC, difI, difC, dblI, dblC, hlvI, hlvC]; done), by rw [ht]; exact hP9, va_K.moved hW.alike hK, hD9⟩, hS.F ht⟩) hS.2.2 d_FM_reckon_281
    | 10, _, h1 =>
      have h1 : op = 20 := h1
      refine lv_tableIn (off := 250) (tgt := 251) hx hb d_FM_reckon_1 (by rw [h1]; decide) (by rw [h1]; decide) (by rw [h1]; rfl) rfl ?_
      refine lv_aload_n hx hb d_FM_reckon_251 rfl (lv_at hl 0 rfl) ?_
      refine lv_aload_n hx hb d_FM_reckon_252 rfl (lv_at hl 0 rfl) ?_
      refine lv_aload_n hx hb d_FM_reckon_253 rfl (lv_at hl 0 rfl) ?_
      refine va_get (D := D) (ci := 3) (v := .int a) (C := R_FM) (T := T_FM) (N := 9) hx hb hts iw_FM hown hK hP 0 rfl rfl 1 (by decide) (hts _ k_111) (fun x9 h9 => u_same (hts _ k_112) x9 h9) rfl d_FM_reckon_254 ?_
      have hPc := hP.sub (ws' := [(o, .inr (3, [.ref mm, .int a, .int x, .int sp, .int pc, .int (bI zf), .int (bI cf), .int st, .int dn]))]) [0] rfl
      have hDc := hD.sub (ws' := [(o, .inr (3, [.ref mm, .int a, .int x, .int sp, .int pc, .int (bI zf), .int (bI cf), .int st, .int dn]))]) [0] (by decide) rfl
      have hFc := va_free (wc := [(o, .inr (3, [.ref mm, .int a, .int x, .int sp, .int pc, .int (bI zf), .int (bI cf), .int st, .int dn]))]) hD hS hA [0] rfl
      refine va_calli (va_runU (As := [.int a]) (rest := [.ref o]) ⟨hx, hb, hml, hown, hts⟩ (m_FM_doubled l D cI cZ o mm a x sp pc zf cf st dn a H.size) (va_cwU 1 hts (gU k_568 k_569 k_571 k_572 k_58 k_573) rfl rfl rfl rfl hd_MA_doubled ⟨Nat.le_of_ble_eq_true rfl, Nat.le_of_ble_eq_true rfl⟩) (PcW.preV (va_recv hK hP (q0 := 0) (ci := 3) rfl rfl) hPc hK hDc hN) rfl rfl hl.1 rfl (lv_room (Nat.le_of_ble_eq_true rfl)) d_FM_reckon_257 ⟨Nat.le_of_ble_eq_true rfl, Nat.le_of_ble_eq_true rfl⟩) hS (fun q _ h => hFc q h) hFc (fun r257 u t H1 locs ht hvm e257 hB hz1 hk1 hS => ?_)
      obtain ⟨z1257, c1257⟩ := u
      obtain ⟨hP1, hK1, hD1⟩ := hB
      rw [ht] at hP1
      obtain ⟨hP, hD⟩ := va_join (wr := [(mm, .inl (cI, 256, .inl g))]) (w1 := [(o, .inr (3, [.ref mm, .int a, .int x, .int sp, .int pc, .int (bI z1257), .int (bI c1257), .int st, .int dn]))]) hP hD [0] [1] rfl rfl (by decide) (by decide) hk1 hFc hP1 hD1
      generalize H1 = H at hP hS ⊢
      try dsimp only at e257
      obtain ⟨e257_0, e257_1, e257_2⟩ := e257
      replace e257_0 := e257_0.symm
      subst e257_0
      replace e257_1 := e257_1.symm
      subst e257_1
      replace e257_2 := e257_2.symm
      subst e257_2
      have hP : va_P D vwCl [(mm, .inl (cI, 256, .inl g)), (o, .inr (3, [.ref mm, .int a, .int x, .int sp, .int pc, .int (bI (decide ((2 * a) &&& 255 = 0))), .int (bI (decide (¬ a &&& 128 = 0))), .int st, .int dn]))] H := hP
      have hD : va_D A [(mm, .inl (cI, 256, .inl g)), (o, .inr (3, [.ref mm, .int a, .int x, .int sp, .int pc, .int (bI (decide ((2 * a) &&& 255 = 0))), .int (bI (decide (¬ a &&& 128 = 0))), .int st, .int dn]))] := hD
      refine va_put (D := D) (ci := 3) (v := .int ((2 * a) &&& 255)) (ty := .int) (C := R_FM) (T := T_FM) (N := 9) hx hb hts iw_FM ty_FM ty_FM_ok nm_FM hown hK hP hD hS 1 rfl rfl 1 (by decide) (hts _ k_111) (fun x9 h9 => u_same (hts _ k_112) x9 h9) rfl (by decide +kernel) rfl rfl (Nat.le_of_ble_eq_true rfl) d_FM_reckon_260 (fun H locs hP hD hS => ?_)
      have hP : va_P D vwCl [(mm, .inl (cI, 256, .inl g)), (o, .inr (3, [.ref mm, .int ((2 * a) &&& 255), .int x, .int sp, .int pc, .int (bI (decide ((2 * a) &&& 255 = 0))), .int (bI (decide (¬ a &&& 128 = 0))), .int st, .int dn]))] H := hP
      have hD : va_D A [(mm, .inl (cI, 256, .inl g)), (o, .inr (3, [.ref mm, .int ((2 * a) &&& 255), .int x, .int sp, .int pc, .int (bI (decide ((2 * a) &&& 255 = 0))), .int (bI (decide (¬ a &&& 128 = 0))), .int st, .int dn]))] := hD
      refine lv_goto (tgt := 281) hx hb d_FM_reckon_263 rfl ?_
      have hP9 : va_P D vwCl [(o, .inr (3, [.ref mm, .int ((2 * a) &&& 255), .int x, .int sp, .int pc, .int (bI (decide ((2 * a) &&& 255 = 0))), .int (bI (decide (¬ a &&& 128 = 0))), .int st, .int dn])), (mm, .inl (cI, 256, .inl g))] H := hP.sub [1, 0] rfl
      have hD9 : va_D A [(o, .inr (3, [.ref mm, .int ((2 * a) &&& 255), .int x, .int sp, .int pc, .int (bI (decide ((2 * a) &&& 255 = 0))), .int (bI (decide (¬ a &&& 128 = 0))), .int st, .int dn])), (mm, .inl (cI, 256, .inl g))] := hD.sub [1, 0] (by decide) rfl
      exact W.vret hx hb hr (fun t ht hW => ⟨⟨(g, (2 * a) &&& 255, x, sp, pc, decide ((2 * a) &&& 255 = 0), decide (¬ a &&& 128 = 0), st), rfl, by first | (rw [h1]; rfl) | (rw [h1]; simp [fReck, sumI, sumC, difI, difC, dblI, dblC, hlvI, hlvC]; done) | (rw [h1]; simp [fReck, sumI, sumC, difI, difC, dblI, dblC, hlvI, hlvC]; done), by rw [ht]; exact hP9, va_K.moved hW.alike hK, hD9⟩, hS.F ht⟩) hS.2.2 d_FM_reckon_281
    | 11, _, h1 =>
      have h1 : op = 21 := h1
      refine lv_tableIn (off := 265) (tgt := 266) hx hb d_FM_reckon_1 (by rw [h1]; decide) (by rw [h1]; decide) (by rw [h1]; rfl) rfl ?_
      refine lv_aload_n hx hb d_FM_reckon_266 rfl (lv_at hl 0 rfl) ?_
      refine lv_aload_n hx hb d_FM_reckon_267 rfl (lv_at hl 0 rfl) ?_
      refine lv_aload_n hx hb d_FM_reckon_268 rfl (lv_at hl 0 rfl) ?_
      refine va_get (D := D) (ci := 3) (v := .int a) (C := R_FM) (T := T_FM) (N := 9) hx hb hts iw_FM hown hK hP 0 rfl rfl 1 (by decide) (hts _ k_111) (fun x9 h9 => u_same (hts _ k_112) x9 h9) rfl d_FM_reckon_269 ?_
      have hPc := hP.sub (ws' := [(o, .inr (3, [.ref mm, .int a, .int x, .int sp, .int pc, .int (bI zf), .int (bI cf), .int st, .int dn]))]) [0] rfl
      have hDc := hD.sub (ws' := [(o, .inr (3, [.ref mm, .int a, .int x, .int sp, .int pc, .int (bI zf), .int (bI cf), .int st, .int dn]))]) [0] (by decide) rfl
      have hFc := va_free (wc := [(o, .inr (3, [.ref mm, .int a, .int x, .int sp, .int pc, .int (bI zf), .int (bI cf), .int st, .int dn]))]) hD hS hA [0] rfl
      refine va_calli (va_runU (As := [.int a]) (rest := [.ref o]) ⟨hx, hb, hml, hown, hts⟩ (m_FM_halved l D cI cZ o mm a x sp pc zf cf st dn a H.size) (va_cwU 1 hts (gU k_574 k_575 k_577 k_578 k_58 k_579) rfl rfl rfl rfl hd_MA_halved ⟨Nat.le_of_ble_eq_true rfl, Nat.le_of_ble_eq_true rfl⟩) (PcW.preV (va_recv hK hP (q0 := 0) (ci := 3) rfl rfl) hPc hK hDc hN) rfl rfl hl.1 rfl (lv_room (Nat.le_of_ble_eq_true rfl)) d_FM_reckon_272 ⟨Nat.le_of_ble_eq_true rfl, Nat.le_of_ble_eq_true rfl⟩) hS (fun q _ h => hFc q h) hFc (fun r272 u t H1 locs ht hvm e272 hB hz1 hk1 hS => ?_)
      obtain ⟨z1272, c1272⟩ := u
      obtain ⟨hP1, hK1, hD1⟩ := hB
      rw [ht] at hP1
      obtain ⟨hP, hD⟩ := va_join (wr := [(mm, .inl (cI, 256, .inl g))]) (w1 := [(o, .inr (3, [.ref mm, .int a, .int x, .int sp, .int pc, .int (bI z1272), .int (bI c1272), .int st, .int dn]))]) hP hD [0] [1] rfl rfl (by decide) (by decide) hk1 hFc hP1 hD1
      generalize H1 = H at hP hS ⊢
      try dsimp only at e272
      obtain ⟨e272_0, e272_1, e272_2⟩ := e272
      replace e272_0 := e272_0.symm
      subst e272_0
      replace e272_1 := e272_1.symm
      subst e272_1
      replace e272_2 := e272_2.symm
      subst e272_2
      have hP : va_P D vwCl [(mm, .inl (cI, 256, .inl g)), (o, .inr (3, [.ref mm, .int a, .int x, .int sp, .int pc, .int (bI (decide (a >>> (1 &&& 31) = 0))), .int (bI (decide (¬ a &&& 1 = 0))), .int st, .int dn]))] H := hP
      have hD : va_D A [(mm, .inl (cI, 256, .inl g)), (o, .inr (3, [.ref mm, .int a, .int x, .int sp, .int pc, .int (bI (decide (a >>> (1 &&& 31) = 0))), .int (bI (decide (¬ a &&& 1 = 0))), .int st, .int dn]))] := hD
      refine va_put (D := D) (ci := 3) (v := .int (a >>> (1 &&& 31))) (ty := .int) (C := R_FM) (T := T_FM) (N := 9) hx hb hts iw_FM ty_FM ty_FM_ok nm_FM hown hK hP hD hS 1 rfl rfl 1 (by decide) (hts _ k_111) (fun x9 h9 => u_same (hts _ k_112) x9 h9) rfl (by decide +kernel) rfl rfl (Nat.le_of_ble_eq_true rfl) d_FM_reckon_275 (fun H locs hP hD hS => ?_)
      have hP : va_P D vwCl [(mm, .inl (cI, 256, .inl g)), (o, .inr (3, [.ref mm, .int (a >>> (1 &&& 31)), .int x, .int sp, .int pc, .int (bI (decide (a >>> (1 &&& 31) = 0))), .int (bI (decide (¬ a &&& 1 = 0))), .int st, .int dn]))] H := hP
      have hD : va_D A [(mm, .inl (cI, 256, .inl g)), (o, .inr (3, [.ref mm, .int (a >>> (1 &&& 31)), .int x, .int sp, .int pc, .int (bI (decide (a >>> (1 &&& 31) = 0))), .int (bI (decide (¬ a &&& 1 = 0))), .int st, .int dn]))] := hD
      refine lv_goto (tgt := 281) hx hb d_FM_reckon_278 rfl ?_
      have hP9 : va_P D vwCl [(o, .inr (3, [.ref mm, .int (a >>> (1 &&& 31)), .int x, .int sp, .int pc, .int (bI (decide (a >>> (1 &&& 31) = 0))), .int (bI (decide (¬ a &&& 1 = 0))), .int st, .int dn])), (mm, .inl (cI, 256, .inl g))] H := hP.sub [1, 0] rfl
      have hD9 : va_D A [(o, .inr (3, [.ref mm, .int (a >>> (1 &&& 31)), .int x, .int sp, .int pc, .int (bI (decide (a >>> (1 &&& 31) = 0))), .int (bI (decide (¬ a &&& 1 = 0))), .int st, .int dn])), (mm, .inl (cI, 256, .inl g))] := hD.sub [1, 0] (by decide) rfl
      exact W.vret hx hb hr (fun t ht hW => ⟨⟨(g, a >>> (1 &&& 31), x, sp, pc, decide (a >>> (1 &&& 31) = 0), decide (¬ a &&& 1 = 0), st), rfl, by first | (rw [h1]; rfl) | (rw [h1]; simp [fReck, sumI, sumC, difI, difC, dblI, dblC, hlvI, hlvC]; done) | (rw [h1]; simp [fReck, sumI, sumC, difI, difC, dblI, dblC, hlvI, hlvC]; done), by rw [ht]; exact hP9, va_K.moved hW.alike hK, hD9⟩, hS.F ht⟩) hS.2.2 d_FM_reckon_281
    | n + 12, h9, _ => exact absurd h9 (by omega)
set_option maxHeartbeats 4000000 in
set_option maxRecDepth 100000 in
theorem m_FM_transfer (l : Launch) (D : va_G) (cI cZ : ClassId) (o : Nat) (mm : Nat) (a : Int32) (x : Int32) (sp : Int32) (pc : Int32) (zf : Bool) (cf : Bool) (st : Int32) (dn : Int32) (g : Nat → Int32) (op : Int32) (n : Int32) (sz : Nat) : MetV l y_FM_transfer w_FM_transfer { frames := 2, cells := 0, slots := 0, locals := 43 } D cI cZ [.ref o, .int op, .int n] [(o, .inr (3, [.ref mm, .int a, .int x, .int sp, .int pc, .int (bI zf), .int (bI cf), .int st, .int dn])), (mm, .inl (cI, 256, .inl g))] sz (fun (u : (Nat → Int32) × Int32 × Int32 × Int32 × Int32 × Bool × Bool × Int32) => match u with | (g1, a1, x1, sp1, pc1, z1, c1, st1) => (g1, a1, x1, sp1, pc1, z1, c1, st1) = fTran op n g a x sp pc zf cf st) (fun (u : (Nat → Int32) × Int32 × Int32 × Int32 × Int32 × Bool × Bool × Int32) => match u with | (g1, a1, x1, sp1, pc1, z1, c1, st1) => [(o, .inr (3, [.ref mm, .int a1, .int x1, .int sp1, .int pc1, .int (bI z1), .int (bI c1), .int st1, .int dn])), (mm, .inl (cI, 256, .inl g1))]) 0 0 := by
  refine ofV (cc := c_FM_transfer) (maxL := 3) (ret := none) (by decide) rfl (Nat.le_of_ble_eq_true rfl) ?_
  intro p e s m args below meth c A H hH0 hx hb hr hlocks hts hown hnm hml ls hl hP hK hD hA hS hN
  have hown : s.vm.findClass R_FM = some m.cls := hown
  have hl : lv_has ls 3 [(0, .ref o), (1, .int op), (2, .int n)] := hl
  refine lv_iload_n hx hb d_FM_transfer_0 rfl (lv_at hl 1 rfl) ?_
  rcases sw_cases op 22 10 with h1 | ⟨j1, hj1, h1⟩
  · refine lv_tableOut (tgt := 192) hx hb d_FM_transfer_1 h1 rfl ?_
    have n1_22 : ¬ op = 22 := fun h9 => by rw [h9] at h1; revert h1; decide
    have n1_23 : ¬ op = 23 := fun h9 => by rw [h9] at h1; revert h1; decide
    have n1_24 : ¬ op = 24 := fun h9 => by rw [h9] at h1; revert h1; decide
    have n1_25 : ¬ op = 25 := fun h9 => by rw [h9] at h1; revert h1; decide
    have n1_26 : ¬ op = 26 := fun h9 => by rw [h9] at h1; revert h1; decide
    have n1_27 : ¬ op = 27 := fun h9 => by rw [h9] at h1; revert h1; decide
    have n1_28 : ¬ op = 28 := fun h9 => by rw [h9] at h1; revert h1; decide
    have n1_29 : ¬ op = 29 := fun h9 => by rw [h9] at h1; revert h1; decide
    have n1_30 : ¬ op = 30 := fun h9 => by rw [h9] at h1; revert h1; decide
    have n1_31 : ¬ op = 31 := fun h9 => by rw [h9] at h1; revert h1; decide
    have hP9 : va_P D vwCl [(o, .inr (3, [.ref mm, .int a, .int x, .int sp, .int pc, .int (bI zf), .int (bI cf), .int st, .int dn])), (mm, .inl (cI, 256, .inl g))] H := hP.sub [0, 1] rfl
    have hD9 : va_D A [(o, .inr (3, [.ref mm, .int a, .int x, .int sp, .int pc, .int (bI zf), .int (bI cf), .int st, .int dn])), (mm, .inl (cI, 256, .inl g))] := hD.sub [0, 1] (by decide) rfl
    exact W.vret hx hb hr (fun t ht hW => ⟨⟨(g, a, x, sp, pc, zf, cf, st), rfl, by first | (simp only [fTran, sumI, sumC, difI, difC, dblI, dblC, hlvI, hlvC, n1_22, n1_23, n1_24, n1_25, n1_26, n1_27, n1_28, n1_29, n1_30, n1_31, ↓reduceIte, not_true_eq_false, not_false_eq_true, and_true, true_and, and_false, false_and, and_self, or_true, true_or, or_false, false_or, decide_true, decide_false, Bool.false_eq_true, reduceCtorEq]; done) | (simp_all [fTran, sumI, sumC, difI, difC, dblI, dblC, hlvI, hlvC]; done), by rw [ht]; exact hP9, va_K.moved hW.alike hK, hD9⟩, hS.F ht⟩) hS.2.2 d_FM_transfer_192
  · match j1, hj1, h1 with
    | 0, _, h1 =>
      have h1 : op = 22 := h1
      refine lv_tableIn (off := 55) (tgt := 56) hx hb d_FM_transfer_1 (by rw [h1]; decide) (by rw [h1]; decide) (by rw [h1]; rfl) rfl ?_
      refine lv_aload_n hx hb d_FM_transfer_56 rfl (lv_at hl 0 rfl) ?_
      refine lv_iload_n hx hb d_FM_transfer_57 rfl (lv_at hl 2 rfl) ?_
      refine va_put (D := D) (ci := 3) (v := .int n) (ty := .int) (C := R_FM) (T := T_FM) (N := 9) hx hb hts iw_FM ty_FM ty_FM_ok nm_FM hown hK hP hD hS 0 rfl rfl 4 (by decide) (hts _ k_121) (fun x9 h9 => u_same (hts _ k_122) x9 h9) rfl (by decide +kernel) rfl rfl (Nat.le_of_ble_eq_true rfl) d_FM_transfer_58 (fun H locs hP hD hS => ?_)
      have hP : va_P D vwCl [(o, .inr (3, [.ref mm, .int a, .int x, .int sp, .int n, .int (bI zf), .int (bI cf), .int st, .int dn])), (mm, .inl (cI, 256, .inl g))] H := hP
      have hD : va_D A [(o, .inr (3, [.ref mm, .int a, .int x, .int sp, .int n, .int (bI zf), .int (bI cf), .int st, .int dn])), (mm, .inl (cI, 256, .inl g))] := hD
      refine lv_goto (tgt := 192) hx hb d_FM_transfer_61 rfl ?_
      have hP9 : va_P D vwCl [(o, .inr (3, [.ref mm, .int a, .int x, .int sp, .int n, .int (bI zf), .int (bI cf), .int st, .int dn])), (mm, .inl (cI, 256, .inl g))] H := hP.sub [0, 1] rfl
      have hD9 : va_D A [(o, .inr (3, [.ref mm, .int a, .int x, .int sp, .int n, .int (bI zf), .int (bI cf), .int st, .int dn])), (mm, .inl (cI, 256, .inl g))] := hD.sub [0, 1] (by decide) rfl
      exact W.vret hx hb hr (fun t ht hW => ⟨⟨(g, a, x, sp, n, zf, cf, st), rfl, by first | (rw [h1]; rfl) | (rw [h1]; simp [fTran, sumI, sumC, difI, difC, dblI, dblC, hlvI, hlvC]; done) | (rw [h1]; simp [fTran, sumI, sumC, difI, difC, dblI, dblC, hlvI, hlvC]; done), by rw [ht]; exact hP9, va_K.moved hW.alike hK, hD9⟩, hS.F ht⟩) hS.2.2 d_FM_transfer_192
    | 1, _, h1 =>
      have h1 : op = 23 := h1
      refine lv_tableIn (off := 63) (tgt := 64) hx hb d_FM_transfer_1 (by rw [h1]; decide) (by rw [h1]; decide) (by rw [h1]; rfl) rfl ?_
      refine lv_aload_n hx hb d_FM_transfer_64 rfl (lv_at hl 0 rfl) ?_
      refine lv_aload_n hx hb d_FM_transfer_65 rfl (lv_at hl 0 rfl) ?_
      refine va_get (D := D) (ci := 3) (v := .int (bI zf)) (C := R_FM) (T := T_FM) (N := 9) hx hb hts iw_FM hown hK hP 0 rfl rfl 5 (by decide) (hts _ k_129) (fun x9 h9 => u_same (hts _ k_130) x9 h9) rfl d_FM_transfer_66 ?_
      refine lv_iload_n hx hb d_FM_transfer_69 rfl (lv_at hl 2 rfl) ?_
      have hPc := hP.sub (ws' := [(o, .inr (3, [.ref mm, .int a, .int x, .int sp, .int pc, .int (bI zf), .int (bI cf), .int st, .int dn]))]) [0] rfl
      have hDc := hD.sub (ws' := [(o, .inr (3, [.ref mm, .int a, .int x, .int sp, .int pc, .int (bI zf), .int (bI cf), .int st, .int dn]))]) [0] (by decide) rfl
      have hFc := va_free (wc := [(o, .inr (3, [.ref mm, .int a, .int x, .int sp, .int pc, .int (bI zf), .int (bI cf), .int st, .int dn]))]) hD hS hA [0] rfl
      refine va_callv (va_runU (As := [.int (bI zf), .int n]) (rest := []) ⟨hx, hb, hml, hown, hts⟩ (m_FM_goIf l D cI cZ o mm a x sp pc zf cf st dn zf n H.size) (va_cwU 2 hts (gU k_584 k_585 k_587 k_588 k_58 k_589) rfl rfl rfl rfl hd_MA_goIf ⟨Nat.le_of_ble_eq_true rfl, Nat.le_of_ble_eq_true rfl⟩) (PcW.preV (va_recv hK hP (q0 := 0) (ci := 3) rfl rfl) hPc hK hDc hN) rfl rfl hl.1 rfl (lv_room (Nat.le_of_ble_eq_true rfl)) d_FM_transfer_70 ⟨Nat.le_of_ble_eq_true rfl, Nat.le_of_ble_eq_true rfl⟩) hS (fun q _ h => hFc q h) hFc (fun u t H1 locs ht hvm e70 hB hz1 hk1 hS => ?_)
      obtain ⟨pc170, rfl⟩ : ∃ z, z = u := ⟨_, rfl⟩
      obtain ⟨hP1, hK1, hD1⟩ := hB
      rw [ht] at hP1
      obtain ⟨hP, hD⟩ := va_join (wr := [(mm, .inl (cI, 256, .inl g))]) (w1 := [(o, .inr (3, [.ref mm, .int a, .int x, .int sp, .int pc170, .int (bI zf), .int (bI cf), .int st, .int dn]))]) hP hD [0] [1] rfl rfl (by decide) (by decide) hk1 hFc hP1 hD1
      generalize H1 = H at hP hS ⊢
      try dsimp only at e70
      have e70_0 := e70
      replace e70_0 := e70_0.symm
      subst e70_0
      have hP : va_P D vwCl [(mm, .inl (cI, 256, .inl g)), (o, .inr (3, [.ref mm, .int a, .int x, .int sp, .int (if zf = true then n else pc), .int (bI zf), .int (bI cf), .int st, .int dn]))] H := hP
      have hD : va_D A [(mm, .inl (cI, 256, .inl g)), (o, .inr (3, [.ref mm, .int a, .int x, .int sp, .int (if zf = true then n else pc), .int (bI zf), .int (bI cf), .int st, .int dn]))] := hD
      refine lv_goto (tgt := 192) hx hb d_FM_transfer_73 rfl ?_
      have hP9 : va_P D vwCl [(o, .inr (3, [.ref mm, .int a, .int x, .int sp, .int (if zf = true then n else pc), .int (bI zf), .int (bI cf), .int st, .int dn])), (mm, .inl (cI, 256, .inl g))] H := hP.sub [1, 0] rfl
      have hD9 : va_D A [(o, .inr (3, [.ref mm, .int a, .int x, .int sp, .int (if zf = true then n else pc), .int (bI zf), .int (bI cf), .int st, .int dn])), (mm, .inl (cI, 256, .inl g))] := hD.sub [1, 0] (by decide) rfl
      exact W.vret hx hb hr (fun t ht hW => ⟨⟨(g, a, x, sp, if zf = true then n else pc, zf, cf, st), rfl, by first | (rw [h1]; rfl) | (rw [h1]; simp [fTran, sumI, sumC, difI, difC, dblI, dblC, hlvI, hlvC]; done) | (rw [h1]; simp [fTran, sumI, sumC, difI, difC, dblI, dblC, hlvI, hlvC]; done), by rw [ht]; exact hP9, va_K.moved hW.alike hK, hD9⟩, hS.F ht⟩) hS.2.2 d_FM_transfer_192
    | 2, _, h1 =>
      have h1 : op = 24 := h1
      refine lv_tableIn (off := 75) (tgt := 76) hx hb d_FM_transfer_1 (by rw [h1]; decide) (by rw [h1]; decide) (by rw [h1]; rfl) rfl ?_
      refine lv_aload_n hx hb d_FM_transfer_76 rfl (lv_at hl 0 rfl) ?_
      refine lv_aload_n hx hb d_FM_transfer_77 rfl (lv_at hl 0 rfl) ?_
      refine va_get (D := D) (ci := 3) (v := .int (bI zf)) (C := R_FM) (T := T_FM) (N := 9) hx hb hts iw_FM hown hK hP 0 rfl rfl 5 (by decide) (hts _ k_129) (fun x9 h9 => u_same (hts _ k_130) x9 h9) rfl d_FM_transfer_78 ?_
      refine lv_if_ne (tgt := 88) hx hb d_FM_transfer_81 rfl (fun h81 => ?_) (fun h81 => ?_)
      · have h81 : zf = true := bI_t h81
        refine lv_iconst (v := 0) hx hb d_FM_transfer_88 (by decide) ?_
        refine lv_iload_n hx hb d_FM_transfer_89 rfl (lv_at hl 2 rfl) ?_
        have hPc := hP.sub (ws' := [(o, .inr (3, [.ref mm, .int a, .int x, .int sp, .int pc, .int (bI zf), .int (bI cf), .int st, .int dn]))]) [0] rfl
        have hDc := hD.sub (ws' := [(o, .inr (3, [.ref mm, .int a, .int x, .int sp, .int pc, .int (bI zf), .int (bI cf), .int st, .int dn]))]) [0] (by decide) rfl
        have hFc := va_free (wc := [(o, .inr (3, [.ref mm, .int a, .int x, .int sp, .int pc, .int (bI zf), .int (bI cf), .int st, .int dn]))]) hD hS hA [0] rfl
        refine va_callv (va_runU (As := [.int 0, .int n]) (rest := []) ⟨hx, hb, hml, hown, hts⟩ (m_FM_goIf l D cI cZ o mm a x sp pc zf cf st dn false n H.size) (va_cwU 2 hts (gU k_584 k_585 k_587 k_588 k_58 k_589) rfl rfl rfl rfl hd_MA_goIf ⟨Nat.le_of_ble_eq_true rfl, Nat.le_of_ble_eq_true rfl⟩) (PcW.preV (va_recv hK hP (q0 := 0) (ci := 3) rfl rfl) hPc hK hDc hN) rfl rfl hl.1 rfl (lv_room (Nat.le_of_ble_eq_true rfl)) d_FM_transfer_90 ⟨Nat.le_of_ble_eq_true rfl, Nat.le_of_ble_eq_true rfl⟩) hS (fun q _ h => hFc q h) hFc (fun u t H1 locs ht hvm e90 hB hz1 hk1 hS => ?_)
        obtain ⟨pc190, rfl⟩ : ∃ z, z = u := ⟨_, rfl⟩
        obtain ⟨hP1, hK1, hD1⟩ := hB
        rw [ht] at hP1
        obtain ⟨hP, hD⟩ := va_join (wr := [(mm, .inl (cI, 256, .inl g))]) (w1 := [(o, .inr (3, [.ref mm, .int a, .int x, .int sp, .int pc190, .int (bI zf), .int (bI cf), .int st, .int dn]))]) hP hD [0] [1] rfl rfl (by decide) (by decide) hk1 hFc hP1 hD1
        generalize H1 = H at hP hS ⊢
        try dsimp only at e90
        have e90_0 := e90
        replace e90_0 := e90_0.symm
        subst e90_0
        have hP : va_P D vwCl [(mm, .inl (cI, 256, .inl g)), (o, .inr (3, [.ref mm, .int a, .int x, .int sp, .int (if false = true then n else pc), .int (bI zf), .int (bI cf), .int st, .int dn]))] H := hP
        have hD : va_D A [(mm, .inl (cI, 256, .inl g)), (o, .inr (3, [.ref mm, .int a, .int x, .int sp, .int (if false = true then n else pc), .int (bI zf), .int (bI cf), .int st, .int dn]))] := hD
        refine lv_goto (tgt := 192) hx hb d_FM_transfer_93 rfl ?_
        have hP9 : va_P D vwCl [(o, .inr (3, [.ref mm, .int a, .int x, .int sp, .int (if false = true then n else pc), .int (bI zf), .int (bI cf), .int st, .int dn])), (mm, .inl (cI, 256, .inl g))] H := hP.sub [1, 0] rfl
        have hD9 : va_D A [(o, .inr (3, [.ref mm, .int a, .int x, .int sp, .int (if false = true then n else pc), .int (bI zf), .int (bI cf), .int st, .int dn])), (mm, .inl (cI, 256, .inl g))] := hD.sub [1, 0] (by decide) rfl
        exact W.vret hx hb hr (fun t ht hW => ⟨⟨(g, a, x, sp, if false = true then n else pc, zf, cf, st), rfl, by first | (rw [h1]; rfl) | (rw [h1]; simp [fTran, sumI, sumC, difI, difC, dblI, dblC, hlvI, hlvC]; done) | (rw [h1]; simp [fTran, sumI, sumC, difI, difC, dblI, dblC, hlvI, hlvC, h81]; done), by rw [ht]; exact hP9, va_K.moved hW.alike hK, hD9⟩, hS.F ht⟩) hS.2.2 d_FM_transfer_192
      · have h81 : zf = false := bI_f h81
        refine lv_iconst (v := 1) hx hb d_FM_transfer_84 (by decide) ?_
        refine lv_goto (tgt := 89) hx hb d_FM_transfer_85 rfl ?_
        refine lv_iload_n hx hb d_FM_transfer_89 rfl (lv_at hl 2 rfl) ?_
        have hPc := hP.sub (ws' := [(o, .inr (3, [.ref mm, .int a, .int x, .int sp, .int pc, .int (bI zf), .int (bI cf), .int st, .int dn]))]) [0] rfl
        have hDc := hD.sub (ws' := [(o, .inr (3, [.ref mm, .int a, .int x, .int sp, .int pc, .int (bI zf), .int (bI cf), .int st, .int dn]))]) [0] (by decide) rfl
        have hFc := va_free (wc := [(o, .inr (3, [.ref mm, .int a, .int x, .int sp, .int pc, .int (bI zf), .int (bI cf), .int st, .int dn]))]) hD hS hA [0] rfl
        refine va_callv (va_runU (As := [.int 1, .int n]) (rest := []) ⟨hx, hb, hml, hown, hts⟩ (m_FM_goIf l D cI cZ o mm a x sp pc zf cf st dn true n H.size) (va_cwU 2 hts (gU k_584 k_585 k_587 k_588 k_58 k_589) rfl rfl rfl rfl hd_MA_goIf ⟨Nat.le_of_ble_eq_true rfl, Nat.le_of_ble_eq_true rfl⟩) (PcW.preV (va_recv hK hP (q0 := 0) (ci := 3) rfl rfl) hPc hK hDc hN) rfl rfl hl.1 rfl (lv_room (Nat.le_of_ble_eq_true rfl)) d_FM_transfer_90 ⟨Nat.le_of_ble_eq_true rfl, Nat.le_of_ble_eq_true rfl⟩) hS (fun q _ h => hFc q h) hFc (fun u t H1 locs ht hvm e90 hB hz1 hk1 hS => ?_)
        obtain ⟨pc190, rfl⟩ : ∃ z, z = u := ⟨_, rfl⟩
        obtain ⟨hP1, hK1, hD1⟩ := hB
        rw [ht] at hP1
        obtain ⟨hP, hD⟩ := va_join (wr := [(mm, .inl (cI, 256, .inl g))]) (w1 := [(o, .inr (3, [.ref mm, .int a, .int x, .int sp, .int pc190, .int (bI zf), .int (bI cf), .int st, .int dn]))]) hP hD [0] [1] rfl rfl (by decide) (by decide) hk1 hFc hP1 hD1
        generalize H1 = H at hP hS ⊢
        try dsimp only at e90
        have e90_0 := e90
        replace e90_0 := e90_0.symm
        subst e90_0
        have hP : va_P D vwCl [(mm, .inl (cI, 256, .inl g)), (o, .inr (3, [.ref mm, .int a, .int x, .int sp, .int (if true = true then n else pc), .int (bI zf), .int (bI cf), .int st, .int dn]))] H := hP
        have hD : va_D A [(mm, .inl (cI, 256, .inl g)), (o, .inr (3, [.ref mm, .int a, .int x, .int sp, .int (if true = true then n else pc), .int (bI zf), .int (bI cf), .int st, .int dn]))] := hD
        refine lv_goto (tgt := 192) hx hb d_FM_transfer_93 rfl ?_
        have hP9 : va_P D vwCl [(o, .inr (3, [.ref mm, .int a, .int x, .int sp, .int (if true = true then n else pc), .int (bI zf), .int (bI cf), .int st, .int dn])), (mm, .inl (cI, 256, .inl g))] H := hP.sub [1, 0] rfl
        have hD9 : va_D A [(o, .inr (3, [.ref mm, .int a, .int x, .int sp, .int (if true = true then n else pc), .int (bI zf), .int (bI cf), .int st, .int dn])), (mm, .inl (cI, 256, .inl g))] := hD.sub [1, 0] (by decide) rfl
        exact W.vret hx hb hr (fun t ht hW => ⟨⟨(g, a, x, sp, if true = true then n else pc, zf, cf, st), rfl, by first | (rw [h1]; rfl) | (rw [h1]; simp [fTran, sumI, sumC, difI, difC, dblI, dblC, hlvI, hlvC]; done) | (rw [h1]; simp [fTran, sumI, sumC, difI, difC, dblI, dblC, hlvI, hlvC, h81]; done), by rw [ht]; exact hP9, va_K.moved hW.alike hK, hD9⟩, hS.F ht⟩) hS.2.2 d_FM_transfer_192
    | 3, _, h1 =>
      have h1 : op = 25 := h1
      refine lv_tableIn (off := 95) (tgt := 96) hx hb d_FM_transfer_1 (by rw [h1]; decide) (by rw [h1]; decide) (by rw [h1]; rfl) rfl ?_
      refine lv_aload_n hx hb d_FM_transfer_96 rfl (lv_at hl 0 rfl) ?_
      refine lv_aload_n hx hb d_FM_transfer_97 rfl (lv_at hl 0 rfl) ?_
      refine va_get (D := D) (ci := 3) (v := .int (bI cf)) (C := R_FM) (T := T_FM) (N := 9) hx hb hts iw_FM hown hK hP 0 rfl rfl 6 (by decide) (hts _ k_134) (fun x9 h9 => u_same (hts _ k_135) x9 h9) rfl d_FM_transfer_98 ?_
      refine lv_iload_n hx hb d_FM_transfer_101 rfl (lv_at hl 2 rfl) ?_
      have hPc := hP.sub (ws' := [(o, .inr (3, [.ref mm, .int a, .int x, .int sp, .int pc, .int (bI zf), .int (bI cf), .int st, .int dn]))]) [0] rfl
      have hDc := hD.sub (ws' := [(o, .inr (3, [.ref mm, .int a, .int x, .int sp, .int pc, .int (bI zf), .int (bI cf), .int st, .int dn]))]) [0] (by decide) rfl
      have hFc := va_free (wc := [(o, .inr (3, [.ref mm, .int a, .int x, .int sp, .int pc, .int (bI zf), .int (bI cf), .int st, .int dn]))]) hD hS hA [0] rfl
      refine va_callv (va_runU (As := [.int (bI cf), .int n]) (rest := []) ⟨hx, hb, hml, hown, hts⟩ (m_FM_goIf l D cI cZ o mm a x sp pc zf cf st dn cf n H.size) (va_cwU 2 hts (gU k_584 k_585 k_587 k_588 k_58 k_589) rfl rfl rfl rfl hd_MA_goIf ⟨Nat.le_of_ble_eq_true rfl, Nat.le_of_ble_eq_true rfl⟩) (PcW.preV (va_recv hK hP (q0 := 0) (ci := 3) rfl rfl) hPc hK hDc hN) rfl rfl hl.1 rfl (lv_room (Nat.le_of_ble_eq_true rfl)) d_FM_transfer_102 ⟨Nat.le_of_ble_eq_true rfl, Nat.le_of_ble_eq_true rfl⟩) hS (fun q _ h => hFc q h) hFc (fun u t H1 locs ht hvm e102 hB hz1 hk1 hS => ?_)
      obtain ⟨pc1102, rfl⟩ : ∃ z, z = u := ⟨_, rfl⟩
      obtain ⟨hP1, hK1, hD1⟩ := hB
      rw [ht] at hP1
      obtain ⟨hP, hD⟩ := va_join (wr := [(mm, .inl (cI, 256, .inl g))]) (w1 := [(o, .inr (3, [.ref mm, .int a, .int x, .int sp, .int pc1102, .int (bI zf), .int (bI cf), .int st, .int dn]))]) hP hD [0] [1] rfl rfl (by decide) (by decide) hk1 hFc hP1 hD1
      generalize H1 = H at hP hS ⊢
      try dsimp only at e102
      have e102_0 := e102
      replace e102_0 := e102_0.symm
      subst e102_0
      have hP : va_P D vwCl [(mm, .inl (cI, 256, .inl g)), (o, .inr (3, [.ref mm, .int a, .int x, .int sp, .int (if cf = true then n else pc), .int (bI zf), .int (bI cf), .int st, .int dn]))] H := hP
      have hD : va_D A [(mm, .inl (cI, 256, .inl g)), (o, .inr (3, [.ref mm, .int a, .int x, .int sp, .int (if cf = true then n else pc), .int (bI zf), .int (bI cf), .int st, .int dn]))] := hD
      refine lv_goto (tgt := 192) hx hb d_FM_transfer_105 rfl ?_
      have hP9 : va_P D vwCl [(o, .inr (3, [.ref mm, .int a, .int x, .int sp, .int (if cf = true then n else pc), .int (bI zf), .int (bI cf), .int st, .int dn])), (mm, .inl (cI, 256, .inl g))] H := hP.sub [1, 0] rfl
      have hD9 : va_D A [(o, .inr (3, [.ref mm, .int a, .int x, .int sp, .int (if cf = true then n else pc), .int (bI zf), .int (bI cf), .int st, .int dn])), (mm, .inl (cI, 256, .inl g))] := hD.sub [1, 0] (by decide) rfl
      exact W.vret hx hb hr (fun t ht hW => ⟨⟨(g, a, x, sp, if cf = true then n else pc, zf, cf, st), rfl, by first | (rw [h1]; rfl) | (rw [h1]; simp [fTran, sumI, sumC, difI, difC, dblI, dblC, hlvI, hlvC]; done) | (rw [h1]; simp [fTran, sumI, sumC, difI, difC, dblI, dblC, hlvI, hlvC]; done), by rw [ht]; exact hP9, va_K.moved hW.alike hK, hD9⟩, hS.F ht⟩) hS.2.2 d_FM_transfer_192
    | 4, _, h1 =>
      have h1 : op = 26 := h1
      refine lv_tableIn (off := 107) (tgt := 108) hx hb d_FM_transfer_1 (by rw [h1]; decide) (by rw [h1]; decide) (by rw [h1]; rfl) rfl ?_
      refine lv_aload_n hx hb d_FM_transfer_108 rfl (lv_at hl 0 rfl) ?_
      refine lv_aload_n hx hb d_FM_transfer_109 rfl (lv_at hl 0 rfl) ?_
      refine va_get (D := D) (ci := 3) (v := .int (bI cf)) (C := R_FM) (T := T_FM) (N := 9) hx hb hts iw_FM hown hK hP 0 rfl rfl 6 (by decide) (hts _ k_134) (fun x9 h9 => u_same (hts _ k_135) x9 h9) rfl d_FM_transfer_110 ?_
      refine lv_if_ne (tgt := 120) hx hb d_FM_transfer_113 rfl (fun h113 => ?_) (fun h113 => ?_)
      · have h113 : cf = true := bI_t h113
        refine lv_iconst (v := 0) hx hb d_FM_transfer_120 (by decide) ?_
        refine lv_iload_n hx hb d_FM_transfer_121 rfl (lv_at hl 2 rfl) ?_
        have hPc := hP.sub (ws' := [(o, .inr (3, [.ref mm, .int a, .int x, .int sp, .int pc, .int (bI zf), .int (bI cf), .int st, .int dn]))]) [0] rfl
        have hDc := hD.sub (ws' := [(o, .inr (3, [.ref mm, .int a, .int x, .int sp, .int pc, .int (bI zf), .int (bI cf), .int st, .int dn]))]) [0] (by decide) rfl
        have hFc := va_free (wc := [(o, .inr (3, [.ref mm, .int a, .int x, .int sp, .int pc, .int (bI zf), .int (bI cf), .int st, .int dn]))]) hD hS hA [0] rfl
        refine va_callv (va_runU (As := [.int 0, .int n]) (rest := []) ⟨hx, hb, hml, hown, hts⟩ (m_FM_goIf l D cI cZ o mm a x sp pc zf cf st dn false n H.size) (va_cwU 2 hts (gU k_584 k_585 k_587 k_588 k_58 k_589) rfl rfl rfl rfl hd_MA_goIf ⟨Nat.le_of_ble_eq_true rfl, Nat.le_of_ble_eq_true rfl⟩) (PcW.preV (va_recv hK hP (q0 := 0) (ci := 3) rfl rfl) hPc hK hDc hN) rfl rfl hl.1 rfl (lv_room (Nat.le_of_ble_eq_true rfl)) d_FM_transfer_122 ⟨Nat.le_of_ble_eq_true rfl, Nat.le_of_ble_eq_true rfl⟩) hS (fun q _ h => hFc q h) hFc (fun u t H1 locs ht hvm e122 hB hz1 hk1 hS => ?_)
        obtain ⟨pc1122, rfl⟩ : ∃ z, z = u := ⟨_, rfl⟩
        obtain ⟨hP1, hK1, hD1⟩ := hB
        rw [ht] at hP1
        obtain ⟨hP, hD⟩ := va_join (wr := [(mm, .inl (cI, 256, .inl g))]) (w1 := [(o, .inr (3, [.ref mm, .int a, .int x, .int sp, .int pc1122, .int (bI zf), .int (bI cf), .int st, .int dn]))]) hP hD [0] [1] rfl rfl (by decide) (by decide) hk1 hFc hP1 hD1
        generalize H1 = H at hP hS ⊢
        try dsimp only at e122
        have e122_0 := e122
        replace e122_0 := e122_0.symm
        subst e122_0
        have hP : va_P D vwCl [(mm, .inl (cI, 256, .inl g)), (o, .inr (3, [.ref mm, .int a, .int x, .int sp, .int (if false = true then n else pc), .int (bI zf), .int (bI cf), .int st, .int dn]))] H := hP
        have hD : va_D A [(mm, .inl (cI, 256, .inl g)), (o, .inr (3, [.ref mm, .int a, .int x, .int sp, .int (if false = true then n else pc), .int (bI zf), .int (bI cf), .int st, .int dn]))] := hD
        refine lv_goto (tgt := 192) hx hb d_FM_transfer_125 rfl ?_
        have hP9 : va_P D vwCl [(o, .inr (3, [.ref mm, .int a, .int x, .int sp, .int (if false = true then n else pc), .int (bI zf), .int (bI cf), .int st, .int dn])), (mm, .inl (cI, 256, .inl g))] H := hP.sub [1, 0] rfl
        have hD9 : va_D A [(o, .inr (3, [.ref mm, .int a, .int x, .int sp, .int (if false = true then n else pc), .int (bI zf), .int (bI cf), .int st, .int dn])), (mm, .inl (cI, 256, .inl g))] := hD.sub [1, 0] (by decide) rfl
        exact W.vret hx hb hr (fun t ht hW => ⟨⟨(g, a, x, sp, if false = true then n else pc, zf, cf, st), rfl, by first | (rw [h1]; rfl) | (rw [h1]; simp [fTran, sumI, sumC, difI, difC, dblI, dblC, hlvI, hlvC]; done) | (rw [h1]; simp [fTran, sumI, sumC, difI, difC, dblI, dblC, hlvI, hlvC, h113]; done), by rw [ht]; exact hP9, va_K.moved hW.alike hK, hD9⟩, hS.F ht⟩) hS.2.2 d_FM_transfer_192
      · have h113 : cf = false := bI_f h113
        refine lv_iconst (v := 1) hx hb d_FM_transfer_116 (by decide) ?_
        refine lv_goto (tgt := 121) hx hb d_FM_transfer_117 rfl ?_
        refine lv_iload_n hx hb d_FM_transfer_121 rfl (lv_at hl 2 rfl) ?_
        have hPc := hP.sub (ws' := [(o, .inr (3, [.ref mm, .int a, .int x, .int sp, .int pc, .int (bI zf), .int (bI cf), .int st, .int dn]))]) [0] rfl
        have hDc := hD.sub (ws' := [(o, .inr (3, [.ref mm, .int a, .int x, .int sp, .int pc, .int (bI zf), .int (bI cf), .int st, .int dn]))]) [0] (by decide) rfl
        have hFc := va_free (wc := [(o, .inr (3, [.ref mm, .int a, .int x, .int sp, .int pc, .int (bI zf), .int (bI cf), .int st, .int dn]))]) hD hS hA [0] rfl
        refine va_callv (va_runU (As := [.int 1, .int n]) (rest := []) ⟨hx, hb, hml, hown, hts⟩ (m_FM_goIf l D cI cZ o mm a x sp pc zf cf st dn true n H.size) (va_cwU 2 hts (gU k_584 k_585 k_587 k_588 k_58 k_589) rfl rfl rfl rfl hd_MA_goIf ⟨Nat.le_of_ble_eq_true rfl, Nat.le_of_ble_eq_true rfl⟩) (PcW.preV (va_recv hK hP (q0 := 0) (ci := 3) rfl rfl) hPc hK hDc hN) rfl rfl hl.1 rfl (lv_room (Nat.le_of_ble_eq_true rfl)) d_FM_transfer_122 ⟨Nat.le_of_ble_eq_true rfl, Nat.le_of_ble_eq_true rfl⟩) hS (fun q _ h => hFc q h) hFc (fun u t H1 locs ht hvm e122 hB hz1 hk1 hS => ?_)
        obtain ⟨pc1122, rfl⟩ : ∃ z, z = u := ⟨_, rfl⟩
        obtain ⟨hP1, hK1, hD1⟩ := hB
        rw [ht] at hP1
        obtain ⟨hP, hD⟩ := va_join (wr := [(mm, .inl (cI, 256, .inl g))]) (w1 := [(o, .inr (3, [.ref mm, .int a, .int x, .int sp, .int pc1122, .int (bI zf), .int (bI cf), .int st, .int dn]))]) hP hD [0] [1] rfl rfl (by decide) (by decide) hk1 hFc hP1 hD1
        generalize H1 = H at hP hS ⊢
        try dsimp only at e122
        have e122_0 := e122
        replace e122_0 := e122_0.symm
        subst e122_0
        have hP : va_P D vwCl [(mm, .inl (cI, 256, .inl g)), (o, .inr (3, [.ref mm, .int a, .int x, .int sp, .int (if true = true then n else pc), .int (bI zf), .int (bI cf), .int st, .int dn]))] H := hP
        have hD : va_D A [(mm, .inl (cI, 256, .inl g)), (o, .inr (3, [.ref mm, .int a, .int x, .int sp, .int (if true = true then n else pc), .int (bI zf), .int (bI cf), .int st, .int dn]))] := hD
        refine lv_goto (tgt := 192) hx hb d_FM_transfer_125 rfl ?_
        have hP9 : va_P D vwCl [(o, .inr (3, [.ref mm, .int a, .int x, .int sp, .int (if true = true then n else pc), .int (bI zf), .int (bI cf), .int st, .int dn])), (mm, .inl (cI, 256, .inl g))] H := hP.sub [1, 0] rfl
        have hD9 : va_D A [(o, .inr (3, [.ref mm, .int a, .int x, .int sp, .int (if true = true then n else pc), .int (bI zf), .int (bI cf), .int st, .int dn])), (mm, .inl (cI, 256, .inl g))] := hD.sub [1, 0] (by decide) rfl
        exact W.vret hx hb hr (fun t ht hW => ⟨⟨(g, a, x, sp, if true = true then n else pc, zf, cf, st), rfl, by first | (rw [h1]; rfl) | (rw [h1]; simp [fTran, sumI, sumC, difI, difC, dblI, dblC, hlvI, hlvC]; done) | (rw [h1]; simp [fTran, sumI, sumC, difI, difC, dblI, dblC, hlvI, hlvC, h113]; done), by rw [ht]; exact hP9, va_K.moved hW.alike hK, hD9⟩, hS.F ht⟩) hS.2.2 d_FM_transfer_192
    | 5, _, h1 =>
      have h1 : op = 27 := h1
      refine lv_tableIn (off := 127) (tgt := 128) hx hb d_FM_transfer_1 (by rw [h1]; decide) (by rw [h1]; decide) (by rw [h1]; rfl) rfl ?_
      refine lv_aload_n hx hb d_FM_transfer_128 rfl (lv_at hl 0 rfl) ?_
      refine lv_aload_n hx hb d_FM_transfer_129 rfl (lv_at hl 0 rfl) ?_
      refine va_get (D := D) (ci := 3) (v := .int pc) (C := R_FM) (T := T_FM) (N := 9) hx hb hts iw_FM hown hK hP 0 rfl rfl 4 (by decide) (hts _ k_121) (fun x9 h9 => u_same (hts _ k_122) x9 h9) rfl d_FM_transfer_130 ?_
      have hPc := hP.sub (ws' := [(o, .inr (3, [.ref mm, .int a, .int x, .int sp, .int pc, .int (bI zf), .int (bI cf), .int st, .int dn])), (mm, .inl (cI, 256, .inl g))]) [0, 1] rfl
      have hDc := hD.sub (ws' := [(o, .inr (3, [.ref mm, .int a, .int x, .int sp, .int pc, .int (bI zf), .int (bI cf), .int st, .int dn])), (mm, .inl (cI, 256, .inl g))]) [0, 1] (by decide) rfl
      have hFc := va_free (wc := [(o, .inr (3, [.ref mm, .int a, .int x, .int sp, .int pc, .int (bI zf), .int (bI cf), .int st, .int dn])), (mm, .inl (cI, 256, .inl g))]) hD hS hA [0, 1] rfl
      refine va_callv (va_runU (As := [.int pc]) (rest := []) ⟨hx, hb, hml, hown, hts⟩ (m_FM_push l D cI cZ o mm a x sp pc zf cf st dn g pc H.size) (va_cwU 1 hts (gU k_590 k_591 k_593 k_594 k_58 k_595) rfl rfl rfl rfl hd_MA_push ⟨Nat.le_of_ble_eq_true rfl, Nat.le_of_ble_eq_true rfl⟩) (PcW.preV (va_recv hK hP (q0 := 0) (ci := 3) rfl rfl) hPc hK hDc hN) rfl rfl hl.1 rfl (lv_room (Nat.le_of_ble_eq_true rfl)) d_FM_transfer_133 ⟨Nat.le_of_ble_eq_true rfl, Nat.le_of_ble_eq_true rfl⟩) hS (fun q _ h => hFc q h) hFc (fun u t H1 locs ht hvm e133 hB hz1 hk1 hS => ?_)
      obtain ⟨g1133, sp1133⟩ := u
      obtain ⟨hP1, hK1, hD1⟩ := hB
      rw [ht] at hP1
      obtain ⟨hP, hD⟩ := va_join (wr := []) (w1 := [(o, .inr (3, [.ref mm, .int a, .int x, .int sp1133, .int pc, .int (bI zf), .int (bI cf), .int st, .int dn])), (mm, .inl (cI, 256, .inl g1133))]) hP hD [0, 1] [] rfl rfl (by decide) (by decide) hk1 hFc hP1 hD1
      generalize H1 = H at hP hS ⊢
      try dsimp only at e133
      obtain ⟨e133_0, e133_1⟩ := e133
      replace e133_0 := e133_0.symm
      subst e133_0
      replace e133_1 := e133_1.symm
      subst e133_1
      have hP : va_P D vwCl [(o, .inr (3, [.ref mm, .int a, .int x, .int ((sp - 1) &&& 255), .int pc, .int (bI zf), .int (bI cf), .int st, .int dn])), (mm, .inl (cI, 256, .inl (wr g sp pc)))] H := hP
      have hD : va_D A [(o, .inr (3, [.ref mm, .int a, .int x, .int ((sp - 1) &&& 255), .int pc, .int (bI zf), .int (bI cf), .int st, .int dn])), (mm, .inl (cI, 256, .inl (wr g sp pc)))] := hD
      refine lv_aload_n hx hb d_FM_transfer_136 rfl (lv_at hl 0 rfl) ?_
      refine lv_iload_n hx hb d_FM_transfer_137 rfl (lv_at hl 2 rfl) ?_
      refine va_put (D := D) (ci := 3) (v := .int n) (ty := .int) (C := R_FM) (T := T_FM) (N := 9) hx hb hts iw_FM ty_FM ty_FM_ok nm_FM hown hK hP hD hS 0 rfl rfl 4 (by decide) (hts _ k_121) (fun x9 h9 => u_same (hts _ k_122) x9 h9) rfl (by decide +kernel) rfl rfl (Nat.le_of_ble_eq_true rfl) d_FM_transfer_138 (fun H locs hP hD hS => ?_)
      have hP : va_P D vwCl [(o, .inr (3, [.ref mm, .int a, .int x, .int ((sp - 1) &&& 255), .int n, .int (bI zf), .int (bI cf), .int st, .int dn])), (mm, .inl (cI, 256, .inl (wr g sp pc)))] H := hP
      have hD : va_D A [(o, .inr (3, [.ref mm, .int a, .int x, .int ((sp - 1) &&& 255), .int n, .int (bI zf), .int (bI cf), .int st, .int dn])), (mm, .inl (cI, 256, .inl (wr g sp pc)))] := hD
      refine lv_goto (tgt := 192) hx hb d_FM_transfer_141 rfl ?_
      have hP9 : va_P D vwCl [(o, .inr (3, [.ref mm, .int a, .int x, .int ((sp - 1) &&& 255), .int n, .int (bI zf), .int (bI cf), .int st, .int dn])), (mm, .inl (cI, 256, .inl (wr g sp pc)))] H := hP.sub [0, 1] rfl
      have hD9 : va_D A [(o, .inr (3, [.ref mm, .int a, .int x, .int ((sp - 1) &&& 255), .int n, .int (bI zf), .int (bI cf), .int st, .int dn])), (mm, .inl (cI, 256, .inl (wr g sp pc)))] := hD.sub [0, 1] (by decide) rfl
      exact W.vret hx hb hr (fun t ht hW => ⟨⟨(wr g sp pc, a, x, (sp - 1) &&& 255, n, zf, cf, st), rfl, by first | (rw [h1]; rfl) | (rw [h1]; simp [fTran, sumI, sumC, difI, difC, dblI, dblC, hlvI, hlvC]; done) | (rw [h1]; simp [fTran, sumI, sumC, difI, difC, dblI, dblC, hlvI, hlvC]; done), by rw [ht]; exact hP9, va_K.moved hW.alike hK, hD9⟩, hS.F ht⟩) hS.2.2 d_FM_transfer_192
    | 6, _, h1 =>
      have h1 : op = 28 := h1
      refine lv_tableIn (off := 143) (tgt := 144) hx hb d_FM_transfer_1 (by rw [h1]; decide) (by rw [h1]; decide) (by rw [h1]; rfl) rfl ?_
      refine lv_aload_n hx hb d_FM_transfer_144 rfl (lv_at hl 0 rfl) ?_
      refine lv_aload_n hx hb d_FM_transfer_145 rfl (lv_at hl 0 rfl) ?_
      have hPc := hP.sub (ws' := [(o, .inr (3, [.ref mm, .int a, .int x, .int sp, .int pc, .int (bI zf), .int (bI cf), .int st, .int dn])), (mm, .inl (cI, 256, .inl g))]) [0, 1] rfl
      have hDc := hD.sub (ws' := [(o, .inr (3, [.ref mm, .int a, .int x, .int sp, .int pc, .int (bI zf), .int (bI cf), .int st, .int dn])), (mm, .inl (cI, 256, .inl g))]) [0, 1] (by decide) rfl
      have hFc := va_free (wc := [(o, .inr (3, [.ref mm, .int a, .int x, .int sp, .int pc, .int (bI zf), .int (bI cf), .int st, .int dn])), (mm, .inl (cI, 256, .inl g))]) hD hS hA [0, 1] rfl
      refine va_calli (va_runU (As := []) (rest := [.ref o]) ⟨hx, hb, hml, hown, hts⟩ (m_FM_pop l D cI cZ o mm a x sp pc zf cf st dn g H.size) (va_cwU 0 hts (gU k_597 k_598 k_600 k_601 k_58 k_602) rfl rfl rfl rfl hd_MA_pop ⟨Nat.le_of_ble_eq_true rfl, Nat.le_of_ble_eq_true rfl⟩) (PcW.preV (va_recv hK hP (q0 := 0) (ci := 3) rfl rfl) hPc hK hDc hN) rfl rfl hl.1 rfl (lv_room (Nat.le_of_ble_eq_true rfl)) d_FM_transfer_146 ⟨Nat.le_of_ble_eq_true rfl, Nat.le_of_ble_eq_true rfl⟩) hS (fun q _ h => hFc q h) hFc (fun r146 u t H1 locs ht hvm e146 hB hz1 hk1 hS => ?_)
      obtain ⟨sp1146, rfl⟩ : ∃ z, z = u := ⟨_, rfl⟩
      obtain ⟨hP1, hK1, hD1⟩ := hB
      rw [ht] at hP1
      obtain ⟨hP, hD⟩ := va_join (wr := []) (w1 := [(o, .inr (3, [.ref mm, .int a, .int x, .int sp1146, .int pc, .int (bI zf), .int (bI cf), .int st, .int dn])), (mm, .inl (cI, 256, .inl g))]) hP hD [0, 1] [] rfl rfl (by decide) (by decide) hk1 hFc hP1 hD1
      generalize H1 = H at hP hS ⊢
      try dsimp only at e146
      obtain ⟨e146_0, e146_1⟩ := e146
      replace e146_0 := e146_0.symm
      subst e146_0
      replace e146_1 := e146_1.symm
      subst e146_1
      have hP : va_P D vwCl [(o, .inr (3, [.ref mm, .int a, .int x, .int ((sp + 1) &&& 255), .int pc, .int (bI zf), .int (bI cf), .int st, .int dn])), (mm, .inl (cI, 256, .inl g))] H := hP
      have hD : va_D A [(o, .inr (3, [.ref mm, .int a, .int x, .int ((sp + 1) &&& 255), .int pc, .int (bI zf), .int (bI cf), .int st, .int dn])), (mm, .inl (cI, 256, .inl g))] := hD
      refine va_put (D := D) (ci := 3) (v := .int (rd g ((sp + 1) &&& 255))) (ty := .int) (C := R_FM) (T := T_FM) (N := 9) hx hb hts iw_FM ty_FM ty_FM_ok nm_FM hown hK hP hD hS 0 rfl rfl 4 (by decide) (hts _ k_121) (fun x9 h9 => u_same (hts _ k_122) x9 h9) rfl (by decide +kernel) rfl rfl (Nat.le_of_ble_eq_true rfl) d_FM_transfer_149 (fun H locs hP hD hS => ?_)
      have hP : va_P D vwCl [(o, .inr (3, [.ref mm, .int a, .int x, .int ((sp + 1) &&& 255), .int (rd g ((sp + 1) &&& 255)), .int (bI zf), .int (bI cf), .int st, .int dn])), (mm, .inl (cI, 256, .inl g))] H := hP
      have hD : va_D A [(o, .inr (3, [.ref mm, .int a, .int x, .int ((sp + 1) &&& 255), .int (rd g ((sp + 1) &&& 255)), .int (bI zf), .int (bI cf), .int st, .int dn])), (mm, .inl (cI, 256, .inl g))] := hD
      refine lv_goto (tgt := 192) hx hb d_FM_transfer_152 rfl ?_
      have hP9 : va_P D vwCl [(o, .inr (3, [.ref mm, .int a, .int x, .int ((sp + 1) &&& 255), .int (rd g ((sp + 1) &&& 255)), .int (bI zf), .int (bI cf), .int st, .int dn])), (mm, .inl (cI, 256, .inl g))] H := hP.sub [0, 1] rfl
      have hD9 : va_D A [(o, .inr (3, [.ref mm, .int a, .int x, .int ((sp + 1) &&& 255), .int (rd g ((sp + 1) &&& 255)), .int (bI zf), .int (bI cf), .int st, .int dn])), (mm, .inl (cI, 256, .inl g))] := hD.sub [0, 1] (by decide) rfl
      exact W.vret hx hb hr (fun t ht hW => ⟨⟨(g, a, x, (sp + 1) &&& 255, rd g ((sp + 1) &&& 255), zf, cf, st), rfl, by first | (rw [h1]; rfl) | (rw [h1]; simp [fTran, sumI, sumC, difI, difC, dblI, dblC, hlvI, hlvC]; done) | (rw [h1]; simp [fTran, sumI, sumC, difI, difC, dblI, dblC, hlvI, hlvC]; done), by rw [ht]; exact hP9, va_K.moved hW.alike hK, hD9⟩, hS.F ht⟩) hS.2.2 d_FM_transfer_192
    | 7, _, h1 =>
      have h1 : op = 29 := h1
      refine lv_tableIn (off := 154) (tgt := 155) hx hb d_FM_transfer_1 (by rw [h1]; decide) (by rw [h1]; decide) (by rw [h1]; rfl) rfl ?_
      refine lv_aload_n hx hb d_FM_transfer_155 rfl (lv_at hl 0 rfl) ?_
      refine lv_aload_n hx hb d_FM_transfer_156 rfl (lv_at hl 0 rfl) ?_
      refine va_get (D := D) (ci := 3) (v := .int a) (C := R_FM) (T := T_FM) (N := 9) hx hb hts iw_FM hown hK hP 0 rfl rfl 1 (by decide) (hts _ k_111) (fun x9 h9 => u_same (hts _ k_112) x9 h9) rfl d_FM_transfer_157 ?_
      have hPc := hP.sub (ws' := [(o, .inr (3, [.ref mm, .int a, .int x, .int sp, .int pc, .int (bI zf), .int (bI cf), .int st, .int dn])), (mm, .inl (cI, 256, .inl g))]) [0, 1] rfl
      have hDc := hD.sub (ws' := [(o, .inr (3, [.ref mm, .int a, .int x, .int sp, .int pc, .int (bI zf), .int (bI cf), .int st, .int dn])), (mm, .inl (cI, 256, .inl g))]) [0, 1] (by decide) rfl
      have hFc := va_free (wc := [(o, .inr (3, [.ref mm, .int a, .int x, .int sp, .int pc, .int (bI zf), .int (bI cf), .int st, .int dn])), (mm, .inl (cI, 256, .inl g))]) hD hS hA [0, 1] rfl
      refine va_callv (va_runU (As := [.int a]) (rest := []) ⟨hx, hb, hml, hown, hts⟩ (m_FM_push l D cI cZ o mm a x sp pc zf cf st dn g a H.size) (va_cwU 1 hts (gU k_590 k_591 k_593 k_594 k_58 k_595) rfl rfl rfl rfl hd_MA_push ⟨Nat.le_of_ble_eq_true rfl, Nat.le_of_ble_eq_true rfl⟩) (PcW.preV (va_recv hK hP (q0 := 0) (ci := 3) rfl rfl) hPc hK hDc hN) rfl rfl hl.1 rfl (lv_room (Nat.le_of_ble_eq_true rfl)) d_FM_transfer_160 ⟨Nat.le_of_ble_eq_true rfl, Nat.le_of_ble_eq_true rfl⟩) hS (fun q _ h => hFc q h) hFc (fun u t H1 locs ht hvm e160 hB hz1 hk1 hS => ?_)
      obtain ⟨g1160, sp1160⟩ := u
      obtain ⟨hP1, hK1, hD1⟩ := hB
      rw [ht] at hP1
      obtain ⟨hP, hD⟩ := va_join (wr := []) (w1 := [(o, .inr (3, [.ref mm, .int a, .int x, .int sp1160, .int pc, .int (bI zf), .int (bI cf), .int st, .int dn])), (mm, .inl (cI, 256, .inl g1160))]) hP hD [0, 1] [] rfl rfl (by decide) (by decide) hk1 hFc hP1 hD1
      generalize H1 = H at hP hS ⊢
      try dsimp only at e160
      obtain ⟨e160_0, e160_1⟩ := e160
      replace e160_0 := e160_0.symm
      subst e160_0
      replace e160_1 := e160_1.symm
      subst e160_1
      have hP : va_P D vwCl [(o, .inr (3, [.ref mm, .int a, .int x, .int ((sp - 1) &&& 255), .int pc, .int (bI zf), .int (bI cf), .int st, .int dn])), (mm, .inl (cI, 256, .inl (wr g sp a)))] H := hP
      have hD : va_D A [(o, .inr (3, [.ref mm, .int a, .int x, .int ((sp - 1) &&& 255), .int pc, .int (bI zf), .int (bI cf), .int st, .int dn])), (mm, .inl (cI, 256, .inl (wr g sp a)))] := hD
      refine lv_goto (tgt := 192) hx hb d_FM_transfer_163 rfl ?_
      have hP9 : va_P D vwCl [(o, .inr (3, [.ref mm, .int a, .int x, .int ((sp - 1) &&& 255), .int pc, .int (bI zf), .int (bI cf), .int st, .int dn])), (mm, .inl (cI, 256, .inl (wr g sp a)))] H := hP.sub [0, 1] rfl
      have hD9 : va_D A [(o, .inr (3, [.ref mm, .int a, .int x, .int ((sp - 1) &&& 255), .int pc, .int (bI zf), .int (bI cf), .int st, .int dn])), (mm, .inl (cI, 256, .inl (wr g sp a)))] := hD.sub [0, 1] (by decide) rfl
      exact W.vret hx hb hr (fun t ht hW => ⟨⟨(wr g sp a, a, x, (sp - 1) &&& 255, pc, zf, cf, st), rfl, by first | (rw [h1]; rfl) | (rw [h1]; simp [fTran, sumI, sumC, difI, difC, dblI, dblC, hlvI, hlvC]; done) | (rw [h1]; simp [fTran, sumI, sumC, difI, difC, dblI, dblC, hlvI, hlvC]; done), by rw [ht]; exact hP9, va_K.moved hW.alike hK, hD9⟩, hS.F ht⟩) hS.2.2 d_FM_transfer_192
    | 8, _, h1 =>
      have h1 : op = 30 := h1
      refine lv_tableIn (off := 165) (tgt := 166) hx hb d_FM_transfer_1 (by rw [h1]; decide) (by rw [h1]; decide) (by rw [h1]; rfl) rfl ?_
      refine lv_aload_n hx hb d_FM_transfer_166 rfl (lv_at hl 0 rfl) ?_
      refine lv_aload_n hx hb d_FM_transfer_167 rfl (lv_at hl 0 rfl) ?_
      refine lv_aload_n hx hb d_FM_transfer_168 rfl (lv_at hl 0 rfl) ?_
      have hPc := hP.sub (ws' := [(o, .inr (3, [.ref mm, .int a, .int x, .int sp, .int pc, .int (bI zf), .int (bI cf), .int st, .int dn])), (mm, .inl (cI, 256, .inl g))]) [0, 1] rfl
      have hDc := hD.sub (ws' := [(o, .inr (3, [.ref mm, .int a, .int x, .int sp, .int pc, .int (bI zf), .int (bI cf), .int st, .int dn])), (mm, .inl (cI, 256, .inl g))]) [0, 1] (by decide) rfl
      have hFc := va_free (wc := [(o, .inr (3, [.ref mm, .int a, .int x, .int sp, .int pc, .int (bI zf), .int (bI cf), .int st, .int dn])), (mm, .inl (cI, 256, .inl g))]) hD hS hA [0, 1] rfl
      refine va_calli (va_runU (As := []) (rest := [.ref o, .ref o]) ⟨hx, hb, hml, hown, hts⟩ (m_FM_pop l D cI cZ o mm a x sp pc zf cf st dn g H.size) (va_cwU 0 hts (gU k_597 k_598 k_600 k_601 k_58 k_602) rfl rfl rfl rfl hd_MA_pop ⟨Nat.le_of_ble_eq_true rfl, Nat.le_of_ble_eq_true rfl⟩) (PcW.preV (va_recv hK hP (q0 := 0) (ci := 3) rfl rfl) hPc hK hDc hN) rfl rfl hl.1 rfl (lv_room (Nat.le_of_ble_eq_true rfl)) d_FM_transfer_169 ⟨Nat.le_of_ble_eq_true rfl, Nat.le_of_ble_eq_true rfl⟩) hS (fun q _ h => hFc q h) hFc (fun r169 u t H1 locs ht hvm e169 hB hz1 hk1 hS => ?_)
      obtain ⟨sp1169, rfl⟩ : ∃ z, z = u := ⟨_, rfl⟩
      obtain ⟨hP1, hK1, hD1⟩ := hB
      rw [ht] at hP1
      obtain ⟨hP, hD⟩ := va_join (wr := []) (w1 := [(o, .inr (3, [.ref mm, .int a, .int x, .int sp1169, .int pc, .int (bI zf), .int (bI cf), .int st, .int dn])), (mm, .inl (cI, 256, .inl g))]) hP hD [0, 1] [] rfl rfl (by decide) (by decide) hk1 hFc hP1 hD1
      generalize H1 = H at hP hS ⊢
      try dsimp only at e169
      obtain ⟨e169_0, e169_1⟩ := e169
      replace e169_0 := e169_0.symm
      subst e169_0
      replace e169_1 := e169_1.symm
      subst e169_1
      have hP : va_P D vwCl [(o, .inr (3, [.ref mm, .int a, .int x, .int ((sp + 1) &&& 255), .int pc, .int (bI zf), .int (bI cf), .int st, .int dn])), (mm, .inl (cI, 256, .inl g))] H := hP
      have hD : va_D A [(o, .inr (3, [.ref mm, .int a, .int x, .int ((sp + 1) &&& 255), .int pc, .int (bI zf), .int (bI cf), .int st, .int dn])), (mm, .inl (cI, 256, .inl g))] := hD
      have hPc := hP.sub (ws' := [(o, .inr (3, [.ref mm, .int a, .int x, .int ((sp + 1) &&& 255), .int pc, .int (bI zf), .int (bI cf), .int st, .int dn]))]) [0] rfl
      have hDc := hD.sub (ws' := [(o, .inr (3, [.ref mm, .int a, .int x, .int ((sp + 1) &&& 255), .int pc, .int (bI zf), .int (bI cf), .int st, .int dn]))]) [0] (by decide) rfl
      have hFc := va_free (wc := [(o, .inr (3, [.ref mm, .int a, .int x, .int ((sp + 1) &&& 255), .int pc, .int (bI zf), .int (bI cf), .int st, .int dn]))]) hD hS hA [0] rfl
      refine va_calli (va_runU (As := [.int (rd g ((sp + 1) &&& 255))]) (rest := [.ref o]) ⟨hx, hb, hml, hown, hts⟩ (m_FM_tested l D cI cZ o mm a x ((sp + 1) &&& 255) pc zf cf st dn (rd g ((sp + 1) &&& 255)) H.size) (va_cwU 1 hts (gU k_533 k_534 k_536 k_537 k_58 k_538) rfl rfl rfl rfl hd_MA_tested ⟨Nat.le_of_ble_eq_true rfl, Nat.le_of_ble_eq_true rfl⟩) (PcW.preV (va_recv hK hP (q0 := 0) (ci := 3) rfl rfl) hPc hK hDc hN) rfl rfl hl.1 rfl (lv_room (Nat.le_of_ble_eq_true rfl)) d_FM_transfer_172 ⟨Nat.le_of_ble_eq_true rfl, Nat.le_of_ble_eq_true rfl⟩) hS (fun q _ h => hFc q h) hFc (fun r172 u t H1 locs ht hvm e172 hB hz1 hk1 hS => ?_)
      obtain ⟨z1172, rfl⟩ : ∃ z, z = u := ⟨_, rfl⟩
      obtain ⟨hP1, hK1, hD1⟩ := hB
      rw [ht] at hP1
      obtain ⟨hP, hD⟩ := va_join (wr := [(mm, .inl (cI, 256, .inl g))]) (w1 := [(o, .inr (3, [.ref mm, .int a, .int x, .int ((sp + 1) &&& 255), .int pc, .int (bI z1172), .int (bI cf), .int st, .int dn]))]) hP hD [0] [1] rfl rfl (by decide) (by decide) hk1 hFc hP1 hD1
      generalize H1 = H at hP hS ⊢
      try dsimp only at e172
      obtain ⟨e172_0, e172_1⟩ := e172
      replace e172_0 := e172_0.symm
      subst e172_0
      replace e172_1 := e172_1.symm
      subst e172_1
      have hP : va_P D vwCl [(mm, .inl (cI, 256, .inl g)), (o, .inr (3, [.ref mm, .int a, .int x, .int ((sp + 1) &&& 255), .int pc, .int (bI (decide ((rd g ((sp + 1) &&& 255)) = 0))), .int (bI cf), .int st, .int dn]))] H := hP
      have hD : va_D A [(mm, .inl (cI, 256, .inl g)), (o, .inr (3, [.ref mm, .int a, .int x, .int ((sp + 1) &&& 255), .int pc, .int (bI (decide ((rd g ((sp + 1) &&& 255)) = 0))), .int (bI cf), .int st, .int dn]))] := hD
      refine va_put (D := D) (ci := 3) (v := .int (rd g ((sp + 1) &&& 255))) (ty := .int) (C := R_FM) (T := T_FM) (N := 9) hx hb hts iw_FM ty_FM ty_FM_ok nm_FM hown hK hP hD hS 1 rfl rfl 1 (by decide) (hts _ k_111) (fun x9 h9 => u_same (hts _ k_112) x9 h9) rfl (by decide +kernel) rfl rfl (Nat.le_of_ble_eq_true rfl) d_FM_transfer_175 (fun H locs hP hD hS => ?_)
      have hP : va_P D vwCl [(mm, .inl (cI, 256, .inl g)), (o, .inr (3, [.ref mm, .int (rd g ((sp + 1) &&& 255)), .int x, .int ((sp + 1) &&& 255), .int pc, .int (bI (decide ((rd g ((sp + 1) &&& 255)) = 0))), .int (bI cf), .int st, .int dn]))] H := hP
      have hD : va_D A [(mm, .inl (cI, 256, .inl g)), (o, .inr (3, [.ref mm, .int (rd g ((sp + 1) &&& 255)), .int x, .int ((sp + 1) &&& 255), .int pc, .int (bI (decide ((rd g ((sp + 1) &&& 255)) = 0))), .int (bI cf), .int st, .int dn]))] := hD
      refine lv_goto (tgt := 192) hx hb d_FM_transfer_178 rfl ?_
      have hP9 : va_P D vwCl [(o, .inr (3, [.ref mm, .int (rd g ((sp + 1) &&& 255)), .int x, .int ((sp + 1) &&& 255), .int pc, .int (bI (decide ((rd g ((sp + 1) &&& 255)) = 0))), .int (bI cf), .int st, .int dn])), (mm, .inl (cI, 256, .inl g))] H := hP.sub [1, 0] rfl
      have hD9 : va_D A [(o, .inr (3, [.ref mm, .int (rd g ((sp + 1) &&& 255)), .int x, .int ((sp + 1) &&& 255), .int pc, .int (bI (decide ((rd g ((sp + 1) &&& 255)) = 0))), .int (bI cf), .int st, .int dn])), (mm, .inl (cI, 256, .inl g))] := hD.sub [1, 0] (by decide) rfl
      exact W.vret hx hb hr (fun t ht hW => ⟨⟨(g, rd g ((sp + 1) &&& 255), x, (sp + 1) &&& 255, pc, decide ((rd g ((sp + 1) &&& 255)) = 0), cf, st), rfl, by first | (rw [h1]; rfl) | (rw [h1]; simp [fTran, sumI, sumC, difI, difC, dblI, dblC, hlvI, hlvC]; done) | (rw [h1]; simp [fTran, sumI, sumC, difI, difC, dblI, dblC, hlvI, hlvC]; done), by rw [ht]; exact hP9, va_K.moved hW.alike hK, hD9⟩, hS.F ht⟩) hS.2.2 d_FM_transfer_192
    | 9, _, h1 =>
      have h1 : op = 31 := h1
      refine lv_tableIn (off := 180) (tgt := 181) hx hb d_FM_transfer_1 (by rw [h1]; decide) (by rw [h1]; decide) (by rw [h1]; rfl) rfl ?_
      refine lv_aload_n hx hb d_FM_transfer_181 rfl (lv_at hl 0 rfl) ?_
      refine lv_aload_n hx hb d_FM_transfer_182 rfl (lv_at hl 0 rfl) ?_
      refine va_get (D := D) (ci := 3) (v := .int x) (C := R_FM) (T := T_FM) (N := 9) hx hb hts iw_FM hown hK hP 0 rfl rfl 2 (by decide) (hts _ k_116) (fun x9 h9 => u_same (hts _ k_117) x9 h9) rfl d_FM_transfer_183 ?_
      refine va_put (D := D) (ci := 3) (v := .int x) (ty := .int) (C := R_FM) (T := T_FM) (N := 9) hx hb hts iw_FM ty_FM ty_FM_ok nm_FM hown hK hP hD hS 0 rfl rfl 4 (by decide) (hts _ k_121) (fun x9 h9 => u_same (hts _ k_122) x9 h9) rfl (by decide +kernel) rfl rfl (Nat.le_of_ble_eq_true rfl) d_FM_transfer_186 (fun H locs hP hD hS => ?_)
      have hP : va_P D vwCl [(o, .inr (3, [.ref mm, .int a, .int x, .int sp, .int x, .int (bI zf), .int (bI cf), .int st, .int dn])), (mm, .inl (cI, 256, .inl g))] H := hP
      have hD : va_D A [(o, .inr (3, [.ref mm, .int a, .int x, .int sp, .int x, .int (bI zf), .int (bI cf), .int st, .int dn])), (mm, .inl (cI, 256, .inl g))] := hD
      refine lv_goto (tgt := 192) hx hb d_FM_transfer_189 rfl ?_
      have hP9 : va_P D vwCl [(o, .inr (3, [.ref mm, .int a, .int x, .int sp, .int x, .int (bI zf), .int (bI cf), .int st, .int dn])), (mm, .inl (cI, 256, .inl g))] H := hP.sub [0, 1] rfl
      have hD9 : va_D A [(o, .inr (3, [.ref mm, .int a, .int x, .int sp, .int x, .int (bI zf), .int (bI cf), .int st, .int dn])), (mm, .inl (cI, 256, .inl g))] := hD.sub [0, 1] (by decide) rfl
      exact W.vret hx hb hr (fun t ht hW => ⟨⟨(g, a, x, sp, x, zf, cf, st), rfl, by first | (rw [h1]; rfl) | (rw [h1]; simp [fTran, sumI, sumC, difI, difC, dblI, dblC, hlvI, hlvC]; done) | (rw [h1]; simp [fTran, sumI, sumC, difI, difC, dblI, dblC, hlvI, hlvC]; done), by rw [ht]; exact hP9, va_K.moved hW.alike hK, hD9⟩, hS.F ht⟩) hS.2.2 d_FM_transfer_192
    | n + 10, h9, _ => exact absurd h9 (by omega)
