set_option maxHeartbeats 4000000 in
set_option maxRecDepth 100000 in
theorem m_FM_step (l : Launch) (D : va_G) (cI cZ : ClassId) (o : Nat) (mm : Nat) (a : Int32) (x : Int32) (sp : Int32) (pc : Int32) (zf : Bool) (cf : Bool) (st : Int32) (dn : Int32) (g : Nat → Int32) (sz : Nat) : MetV l y_FM_step w_FM_step { frames := 3, cells := 0, slots := 0, locals := 67 } D cI cZ [.ref o] [(o, .inr (3, [.ref mm, .int a, .int x, .int sp, .int pc, .int (bI zf), .int (bI cf), .int st, .int dn])), (mm, .inl (cI, 256, .inl g))] sz (fun (u : (Nat → Int32) × Int32 × Int32 × Int32 × Int32 × Bool × Bool × Int32) => match u with | (g1, a1, x1, sp1, pc1, z1, c1, st1) => (g1, a1, x1, sp1, pc1, z1, c1, st1) = fStep g a x sp pc zf cf st) (fun (u : (Nat → Int32) × Int32 × Int32 × Int32 × Int32 × Bool × Bool × Int32) => match u with | (g1, a1, x1, sp1, pc1, z1, c1, st1) => [(o, .inr (3, [.ref mm, .int a1, .int x1, .int sp1, .int pc1, .int (bI z1), .int (bI c1), .int st1, .int dn])), (mm, .inl (cI, 256, .inl g1))]) 0 0 := by
  refine ofV (cc := c_FM_step) (maxL := 3) (ret := none) (by decide) rfl (Nat.le_of_ble_eq_true rfl) ?_
  intro p e s m args below meth c A H hH0 hx hb hr hlocks hts hown hnm hml ls hl hP hK hD hA hS hN
  have hown : s.vm.findClass R_FM = some m.cls := hown
  have hl : lv_has ls 3 [(0, .ref o)] := hl
  refine lv_aload_n hx hb d_FM_step_0 rfl (lv_at hl 0 rfl) ?_
  refine lv_aload_n hx hb d_FM_step_1 rfl (lv_at hl 0 rfl) ?_
  refine va_get (D := D) (ci := 3) (v := .int pc) (C := R_FM) (T := T_FM) (N := 9) hx hb hts iw_FM hown hK hP 0 rfl rfl 4 (by decide) (hts _ k_121) (fun x9 h9 => u_same (hts _ k_122) x9 h9) rfl d_FM_step_2 ?_
  have hPc := hP.sub (ws' := [(o, .inr (3, [.ref mm, .int a, .int x, .int sp, .int pc, .int (bI zf), .int (bI cf), .int st, .int dn])), (mm, .inl (cI, 256, .inl g))]) [0, 1] rfl
  refine vp_callSi (va_runU (As := [.int pc]) (rest := []) ⟨hx, hb, hml, hown, hts⟩ (m_FM_peek l D cI cZ o mm a x sp pc zf cf st dn g pc) (va_cwU 1 hts (gU k_523 k_524 k_526 k_296 k_58 k_300) rfl rfl rfl rfl hd_MA_peek ⟨Nat.le_of_ble_eq_true rfl, Nat.le_of_ble_eq_true rfl⟩) (PcR.preV (va_recv hK hP (q0 := 0) (ci := 3) rfl rfl) hPc hK hN) rfl rfl hl.1 rfl (lv_room (Nat.le_of_ble_eq_true rfl)) d_FM_step_5 ⟨Nat.le_of_ble_eq_true rfl, Nat.le_of_ble_eq_true rfl⟩).run (fun r5 e5 => ?_)
  replace e5 := e5.symm
  subst e5
  refine lv_istore_n hx hb d_FM_step_8 rfl hl (by decide) rfl (fun ls hl => ?_)
  have hl : lv_has ls 3 [(1, .int (rd g pc)), (0, .ref o)] := hl
  refine lv_aload_n hx hb d_FM_step_9 rfl (lv_at hl 1 rfl) ?_
  refine lv_aload_n hx hb d_FM_step_10 rfl (lv_at hl 1 rfl) ?_
  refine va_get (D := D) (ci := 3) (v := .int pc) (C := R_FM) (T := T_FM) (N := 9) hx hb hts iw_FM hown hK hP 0 rfl rfl 4 (by decide) (hts _ k_121) (fun x9 h9 => u_same (hts _ k_122) x9 h9) rfl d_FM_step_11 ?_
  refine lv_iconst (v := 1) hx hb d_FM_step_14 (by decide) ?_
  refine lv_iadd hx hb d_FM_step_15 ?_
  have hPc := hP.sub (ws' := [(o, .inr (3, [.ref mm, .int a, .int x, .int sp, .int pc, .int (bI zf), .int (bI cf), .int st, .int dn])), (mm, .inl (cI, 256, .inl g))]) [0, 1] rfl
  refine vp_callSi (va_runU (As := [.int (pc + 1)]) (rest := []) ⟨hx, hb, hml, hown, hts⟩ (m_FM_peek l D cI cZ o mm a x sp pc zf cf st dn g (pc + 1)) (va_cwU 1 hts (gU k_523 k_524 k_526 k_296 k_58 k_300) rfl rfl rfl rfl hd_MA_peek ⟨Nat.le_of_ble_eq_true rfl, Nat.le_of_ble_eq_true rfl⟩) (PcR.preV (va_recv hK hP (q0 := 0) (ci := 3) rfl rfl) hPc hK hN) rfl rfl hl.1 rfl (lv_room (Nat.le_of_ble_eq_true rfl)) d_FM_step_16 ⟨Nat.le_of_ble_eq_true rfl, Nat.le_of_ble_eq_true rfl⟩).run (fun r16 e16 => ?_)
  replace e16 := e16.symm
  subst e16
  refine lv_istore_n hx hb d_FM_step_19 rfl hl (by decide) rfl (fun ls hl => ?_)
  have hl : lv_has ls 3 [(2, .int (rd g (pc + 1))), (1, .int (rd g pc)), (0, .ref o)] := hl
  refine lv_iload_n hx hb d_FM_step_20 rfl (lv_at hl 1 rfl) ?_
  have hPc := hP.sub (ws' := []) [] rfl
  refine vp_callSi (va_runS (As := [.int (rd g pc)]) (rest := []) ⟨hx, hb, hml, hown, hts⟩ (m_isUnk l D cI cZ (rd g pc)) ⟨cB 1 hts k_395 k_67 k_527 hd_FO_isUnknown ⟨Nat.le_of_ble_eq_true rfl, Nat.le_of_ble_eq_true rfl⟩ rfl rfl, hts _ k_394⟩ (PcR.preS hPc hK hN) rfl rfl hl.1 rfl (lv_room (Nat.le_of_ble_eq_true rfl)) d_FM_step_21 ⟨Nat.le_of_ble_eq_true rfl, Nat.le_of_ble_eq_true rfl⟩).run (fun r21 e21 => ?_)
  replace e21 := e21.symm
  subst e21
  refine lv_if_eq (tgt := 33) hx hb d_FM_step_24 rfl (fun h24 => ?_) (fun h24 => ?_)
  · have h24 : isUnkB (rd g pc) = false := bI_f h24
    refine lv_iload_n hx hb d_FM_step_33 rfl (lv_at hl 1 rfl) ?_
    refine lv_iconst (v := 1) hx hb d_FM_step_34 (by decide) ?_
    refine lv_icmp_ne (tgt := 44) hx hb d_FM_step_35 rfl (fun h35 => ?_) (fun h35 => ?_)
    · refine lv_aload_n hx hb d_FM_step_44 rfl (lv_at hl 2 rfl) ?_
      refine lv_aload_n hx hb d_FM_step_45 rfl (lv_at hl 2 rfl) ?_
      refine va_get (D := D) (ci := 3) (v := .int pc) (C := R_FM) (T := T_FM) (N := 9) hx hb hts iw_FM hown hK hP 0 rfl rfl 4 (by decide) (hts _ k_121) (fun x9 h9 => u_same (hts _ k_122) x9 h9) rfl d_FM_step_46 ?_
      refine lv_iload_n hx hb d_FM_step_49 rfl (lv_at hl 1 rfl) ?_
      have hPc := hP.sub (ws' := []) [] rfl
      refine vp_callSi (va_runS (As := [.int (rd g pc)]) (rest := [.int pc, .ref o]) ⟨hx, hb, hml, hown, hts⟩ (m_len l D cI cZ (rd g pc)) ⟨cB 1 hts k_401 k_67 k_528 hd_FO_length ⟨Nat.le_of_ble_eq_true rfl, Nat.le_of_ble_eq_true rfl⟩ rfl rfl, hts _ k_400⟩ (PcR.preS hPc hK hN) rfl rfl hl.1 rfl (lv_room (Nat.le_of_ble_eq_true rfl)) d_FM_step_50 ⟨Nat.le_of_ble_eq_true rfl, Nat.le_of_ble_eq_true rfl⟩).run (fun r50 e50 => ?_)
      replace e50 := e50.symm
      subst e50
      refine lv_iadd hx hb d_FM_step_53 ?_
      refine lv_sipush (v := 255) hx hb d_FM_step_54 (by decide) ?_
      refine lv_iand hx hb d_FM_step_57 ?_
      refine va_put (D := D) (ci := 3) (v := .int ((pc + (lenI (rd g pc))) &&& 255)) (ty := .int) (C := R_FM) (T := T_FM) (N := 9) hx hb hts iw_FM ty_FM ty_FM_ok nm_FM hown hK hP hD hS 0 rfl rfl 4 (by decide) (hts _ k_121) (fun x9 h9 => u_same (hts _ k_122) x9 h9) rfl (by decide +kernel) rfl rfl (Nat.le_of_ble_eq_true rfl) d_FM_step_58 (fun H locs hP hD hS => ?_)
      have hP : va_P D vwCl [(o, .inr (3, [.ref mm, .int a, .int x, .int sp, .int ((pc + (lenI (rd g pc))) &&& 255), .int (bI zf), .int (bI cf), .int st, .int dn])), (mm, .inl (cI, 256, .inl g))] H := hP
      have hD : va_D A [(o, .inr (3, [.ref mm, .int a, .int x, .int sp, .int ((pc + (lenI (rd g pc))) &&& 255), .int (bI zf), .int (bI cf), .int st, .int dn])), (mm, .inl (cI, 256, .inl g))] := hD
      refine lv_iload_n hx hb d_FM_step_61 rfl (lv_at hl 1 rfl) ?_
      refine lv_bipush (v := 9) hx hb d_FM_step_62 (by decide) ?_
      refine lv_icmp_gt (tgt := 76) hx hb d_FM_step_64 rfl (fun h64 => ?_) (fun h64 => ?_)
      · refine lv_iload_n hx hb d_FM_step_76 rfl (lv_at hl 1 rfl) ?_
        refine lv_bipush (v := 21) hx hb d_FM_step_77 (by decide) ?_
        refine lv_icmp_gt (tgt := 91) hx hb d_FM_step_79 rfl (fun h79 => ?_) (fun h79 => ?_)
        · refine lv_aload_n hx hb d_FM_step_91 rfl (lv_at hl 2 rfl) ?_
          refine lv_iload_n hx hb d_FM_step_92 rfl (lv_at hl 1 rfl) ?_
          refine lv_iload_n hx hb d_FM_step_93 rfl (lv_at hl 0 rfl) ?_
          have hPc := hP.sub (ws' := [(o, .inr (3, [.ref mm, .int a, .int x, .int sp, .int ((pc + (lenI (rd g pc))) &&& 255), .int (bI zf), .int (bI cf), .int st, .int dn])), (mm, .inl (cI, 256, .inl g))]) [0, 1] rfl
          have hDc := hD.sub (ws' := [(o, .inr (3, [.ref mm, .int a, .int x, .int sp, .int ((pc + (lenI (rd g pc))) &&& 255), .int (bI zf), .int (bI cf), .int st, .int dn])), (mm, .inl (cI, 256, .inl g))]) [0, 1] (by decide) rfl
          have hFc := va_free (wc := [(o, .inr (3, [.ref mm, .int a, .int x, .int sp, .int ((pc + (lenI (rd g pc))) &&& 255), .int (bI zf), .int (bI cf), .int st, .int dn])), (mm, .inl (cI, 256, .inl g))]) hD hS hA [0, 1] rfl
          refine va_callv (va_runV (As := [.int (rd g pc), .int (rd g (pc + 1))]) (rest := []) ⟨hx, hb, hml, hown, hts⟩ (m_FM_transfer l D cI cZ o mm a x sp ((pc + (lenI (rd g pc))) &&& 255) zf cf st dn g (rd g pc) (rd g (pc + 1)) H.size) ⟨cB 2 hts k_583 k_59 k_580 hd_FM_transfer ⟨Nat.le_of_ble_eq_true rfl, Nat.le_of_ble_eq_true rfl⟩ rfl rfl, hts _ k_582, hts _ k_19⟩ (PcW.preV (va_recv hK hP (q0 := 0) (ci := 3) rfl rfl) hPc hK hDc hN) rfl rfl hl.1 rfl (lv_room (Nat.le_of_ble_eq_true rfl)) d_FM_step_94 ⟨Nat.le_of_ble_eq_true rfl, Nat.le_of_ble_eq_true rfl⟩) hS (fun q _ h => hFc q h) hFc (fun u t H1 locs ht hvm e94 hB hz1 hk1 hS => ?_)
          obtain ⟨g194, a194, x194, sp194, pc194, z194, c194, st194⟩ := u
          obtain ⟨hP1, hK1, hD1⟩ := hB
          rw [ht] at hP1
          obtain ⟨hP, hD⟩ := va_join (wr := []) (w1 := [(o, .inr (3, [.ref mm, .int a194, .int x194, .int sp194, .int pc194, .int (bI z194), .int (bI c194), .int st194, .int dn])), (mm, .inl (cI, 256, .inl g194))]) hP hD [0, 1] [] rfl rfl (by decide) (by decide) hk1 hFc hP1 hD1
          generalize H1 = H at hP hS ⊢
          try dsimp only at e94
          have hP : va_P D vwCl [(o, .inr (3, [.ref mm, .int a194, .int x194, .int sp194, .int pc194, .int (bI z194), .int (bI c194), .int st194, .int dn])), (mm, .inl (cI, 256, .inl g194))] H := hP
          have hD : va_D A [(o, .inr (3, [.ref mm, .int a194, .int x194, .int sp194, .int pc194, .int (bI z194), .int (bI c194), .int st194, .int dn])), (mm, .inl (cI, 256, .inl g194))] := hD
          have hP9 : va_P D vwCl [(o, .inr (3, [.ref mm, .int a194, .int x194, .int sp194, .int pc194, .int (bI z194), .int (bI c194), .int st194, .int dn])), (mm, .inl (cI, 256, .inl g194))] H := hP.sub [0, 1] rfl
          have hD9 : va_D A [(o, .inr (3, [.ref mm, .int a194, .int x194, .int sp194, .int pc194, .int (bI z194), .int (bI c194), .int st194, .int dn])), (mm, .inl (cI, 256, .inl g194))] := hD.sub [0, 1] (by decide) rfl
          exact W.vret hx hb hr (fun t ht hW => ⟨⟨(g194, a194, x194, sp194, pc194, z194, c194, st194), rfl, e94.trans (by simp only [fStep, h24, h35, h64, h79, ↓reduceIte, not_true_eq_false, not_false_eq_true, and_true, true_and, and_false, false_and, and_self, or_true, true_or, or_false, false_or, decide_true, decide_false, Bool.false_eq_true, reduceCtorEq]), by rw [ht]; exact hP9, va_K.moved hW.alike hK, hD9⟩, hS.F ht⟩) hS.2.2 d_FM_step_97
        · refine lv_aload_n hx hb d_FM_step_82 rfl (lv_at hl 2 rfl) ?_
          refine lv_iload_n hx hb d_FM_step_83 rfl (lv_at hl 1 rfl) ?_
          refine lv_iload_n hx hb d_FM_step_84 rfl (lv_at hl 0 rfl) ?_
          have hPc := hP.sub (ws' := [(o, .inr (3, [.ref mm, .int a, .int x, .int sp, .int ((pc + (lenI (rd g pc))) &&& 255), .int (bI zf), .int (bI cf), .int st, .int dn])), (mm, .inl (cI, 256, .inl g))]) [0, 1] rfl
          have hDc := hD.sub (ws' := [(o, .inr (3, [.ref mm, .int a, .int x, .int sp, .int ((pc + (lenI (rd g pc))) &&& 255), .int (bI zf), .int (bI cf), .int st, .int dn])), (mm, .inl (cI, 256, .inl g))]) [0, 1] (by decide) rfl
          have hFc := va_free (wc := [(o, .inr (3, [.ref mm, .int a, .int x, .int sp, .int ((pc + (lenI (rd g pc))) &&& 255), .int (bI zf), .int (bI cf), .int st, .int dn])), (mm, .inl (cI, 256, .inl g))]) hD hS hA [0, 1] rfl
          refine va_callv (va_runV (As := [.int (rd g pc), .int (rd g (pc + 1))]) (rest := []) ⟨hx, hb, hml, hown, hts⟩ (m_FM_reckon l D cI cZ o mm a x sp ((pc + (lenI (rd g pc))) &&& 255) zf cf st dn g (rd g pc) (rd g (pc + 1)) H.size) ⟨cB 2 hts k_548 k_59 k_545 hd_FM_reckon ⟨Nat.le_of_ble_eq_true rfl, Nat.le_of_ble_eq_true rfl⟩ rfl rfl, hts _ k_547, hts _ k_18⟩ (PcW.preV (va_recv hK hP (q0 := 0) (ci := 3) rfl rfl) hPc hK hDc hN) rfl rfl hl.1 rfl (lv_room (Nat.le_of_ble_eq_true rfl)) d_FM_step_85 ⟨Nat.le_of_ble_eq_true rfl, Nat.le_of_ble_eq_true rfl⟩) hS (fun q _ h => hFc q h) hFc (fun u t H1 locs ht hvm e85 hB hz1 hk1 hS => ?_)
          obtain ⟨g185, a185, x185, sp185, pc185, z185, c185, st185⟩ := u
          obtain ⟨hP1, hK1, hD1⟩ := hB
          rw [ht] at hP1
          obtain ⟨hP, hD⟩ := va_join (wr := []) (w1 := [(o, .inr (3, [.ref mm, .int a185, .int x185, .int sp185, .int pc185, .int (bI z185), .int (bI c185), .int st185, .int dn])), (mm, .inl (cI, 256, .inl g185))]) hP hD [0, 1] [] rfl rfl (by decide) (by decide) hk1 hFc hP1 hD1
          generalize H1 = H at hP hS ⊢
          try dsimp only at e85
          have hP : va_P D vwCl [(o, .inr (3, [.ref mm, .int a185, .int x185, .int sp185, .int pc185, .int (bI z185), .int (bI c185), .int st185, .int dn])), (mm, .inl (cI, 256, .inl g185))] H := hP
          have hD : va_D A [(o, .inr (3, [.ref mm, .int a185, .int x185, .int sp185, .int pc185, .int (bI z185), .int (bI c185), .int st185, .int dn])), (mm, .inl (cI, 256, .inl g185))] := hD
          refine lv_goto (tgt := 97) hx hb d_FM_step_88 rfl ?_
          have hP9 : va_P D vwCl [(o, .inr (3, [.ref mm, .int a185, .int x185, .int sp185, .int pc185, .int (bI z185), .int (bI c185), .int st185, .int dn])), (mm, .inl (cI, 256, .inl g185))] H := hP.sub [0, 1] rfl
          have hD9 : va_D A [(o, .inr (3, [.ref mm, .int a185, .int x185, .int sp185, .int pc185, .int (bI z185), .int (bI c185), .int st185, .int dn])), (mm, .inl (cI, 256, .inl g185))] := hD.sub [0, 1] (by decide) rfl
          exact W.vret hx hb hr (fun t ht hW => ⟨⟨(g185, a185, x185, sp185, pc185, z185, c185, st185), rfl, e85.trans (by simp only [fStep, h24, h35, h64, h79, ↓reduceIte, not_true_eq_false, not_false_eq_true, and_true, true_and, and_false, false_and, and_self, or_true, true_or, or_false, false_or, decide_true, decide_false, Bool.false_eq_true, reduceCtorEq]), by rw [ht]; exact hP9, va_K.moved hW.alike hK, hD9⟩, hS.F ht⟩) hS.2.2 d_FM_step_97
      · refine lv_aload_n hx hb d_FM_step_67 rfl (lv_at hl 2 rfl) ?_
        refine lv_iload_n hx hb d_FM_step_68 rfl (lv_at hl 1 rfl) ?_
        refine lv_iload_n hx hb d_FM_step_69 rfl (lv_at hl 0 rfl) ?_
        have hPc := hP.sub (ws' := [(o, .inr (3, [.ref mm, .int a, .int x, .int sp, .int ((pc + (lenI (rd g pc))) &&& 255), .int (bI zf), .int (bI cf), .int st, .int dn])), (mm, .inl (cI, 256, .inl g))]) [0, 1] rfl
        have hDc := hD.sub (ws' := [(o, .inr (3, [.ref mm, .int a, .int x, .int sp, .int ((pc + (lenI (rd g pc))) &&& 255), .int (bI zf), .int (bI cf), .int st, .int dn])), (mm, .inl (cI, 256, .inl g))]) [0, 1] (by decide) rfl
        have hFc := va_free (wc := [(o, .inr (3, [.ref mm, .int a, .int x, .int sp, .int ((pc + (lenI (rd g pc))) &&& 255), .int (bI zf), .int (bI cf), .int st, .int dn])), (mm, .inl (cI, 256, .inl g))]) hD hS hA [0, 1] rfl
        refine va_callv (va_runV (As := [.int (rd g pc), .int (rd g (pc + 1))]) (rest := []) ⟨hx, hb, hml, hown, hts⟩ (m_FM_move l D cI cZ o mm a x sp ((pc + (lenI (rd g pc))) &&& 255) zf cf st dn g (rd g pc) (rd g (pc + 1)) H.size) ⟨cB 2 hts k_532 k_59 k_529 hd_FM_move ⟨Nat.le_of_ble_eq_true rfl, Nat.le_of_ble_eq_true rfl⟩ rfl rfl, hts _ k_531, hts _ k_17⟩ (PcW.preV (va_recv hK hP (q0 := 0) (ci := 3) rfl rfl) hPc hK hDc hN) rfl rfl hl.1 rfl (lv_room (Nat.le_of_ble_eq_true rfl)) d_FM_step_70 ⟨Nat.le_of_ble_eq_true rfl, Nat.le_of_ble_eq_true rfl⟩) hS (fun q _ h => hFc q h) hFc (fun u t H1 locs ht hvm e70 hB hz1 hk1 hS => ?_)
        obtain ⟨g170, a170, x170, sp170, pc170, z170, c170, st170⟩ := u
        obtain ⟨hP1, hK1, hD1⟩ := hB
        rw [ht] at hP1
        obtain ⟨hP, hD⟩ := va_join (wr := []) (w1 := [(o, .inr (3, [.ref mm, .int a170, .int x170, .int sp170, .int pc170, .int (bI z170), .int (bI c170), .int st170, .int dn])), (mm, .inl (cI, 256, .inl g170))]) hP hD [0, 1] [] rfl rfl (by decide) (by decide) hk1 hFc hP1 hD1
        generalize H1 = H at hP hS ⊢
        try dsimp only at e70
        have hP : va_P D vwCl [(o, .inr (3, [.ref mm, .int a170, .int x170, .int sp170, .int pc170, .int (bI z170), .int (bI c170), .int st170, .int dn])), (mm, .inl (cI, 256, .inl g170))] H := hP
        have hD : va_D A [(o, .inr (3, [.ref mm, .int a170, .int x170, .int sp170, .int pc170, .int (bI z170), .int (bI c170), .int st170, .int dn])), (mm, .inl (cI, 256, .inl g170))] := hD
        refine lv_goto (tgt := 97) hx hb d_FM_step_73 rfl ?_
        have hP9 : va_P D vwCl [(o, .inr (3, [.ref mm, .int a170, .int x170, .int sp170, .int pc170, .int (bI z170), .int (bI c170), .int st170, .int dn])), (mm, .inl (cI, 256, .inl g170))] H := hP.sub [0, 1] rfl
        have hD9 : va_D A [(o, .inr (3, [.ref mm, .int a170, .int x170, .int sp170, .int pc170, .int (bI z170), .int (bI c170), .int st170, .int dn])), (mm, .inl (cI, 256, .inl g170))] := hD.sub [0, 1] (by decide) rfl
        exact W.vret hx hb hr (fun t ht hW => ⟨⟨(g170, a170, x170, sp170, pc170, z170, c170, st170), rfl, e70.trans (by simp only [fStep, h24, h35, h64, ↓reduceIte, not_true_eq_false, not_false_eq_true, and_true, true_and, and_false, false_and, and_self, or_true, true_or, or_false, false_or, decide_true, decide_false, Bool.false_eq_true, reduceCtorEq]), by rw [ht]; exact hP9, va_K.moved hW.alike hK, hD9⟩, hS.F ht⟩) hS.2.2 d_FM_step_97
    · refine lv_aload_n hx hb d_FM_step_38 rfl (lv_at hl 2 rfl) ?_
      refine lv_iconst (v := 1) hx hb d_FM_step_39 (by decide) ?_
      refine va_put (D := D) (ci := 3) (v := .int 1) (ty := .int) (C := R_FM) (T := T_FM) (N := 9) hx hb hts iw_FM ty_FM ty_FM_ok nm_FM hown hK hP hD hS 0 rfl rfl 7 (by decide) (hts _ k_138) (fun x9 h9 => u_same (hts _ k_139) x9 h9) rfl (by decide +kernel) rfl rfl (Nat.le_of_ble_eq_true rfl) d_FM_step_40 (fun H locs hP hD hS => ?_)
      have hP : va_P D vwCl [(o, .inr (3, [.ref mm, .int a, .int x, .int sp, .int pc, .int (bI zf), .int (bI cf), .int 1, .int dn])), (mm, .inl (cI, 256, .inl g))] H := hP
      have hD : va_D A [(o, .inr (3, [.ref mm, .int a, .int x, .int sp, .int pc, .int (bI zf), .int (bI cf), .int 1, .int dn])), (mm, .inl (cI, 256, .inl g))] := hD
      have hP9 : va_P D vwCl [(o, .inr (3, [.ref mm, .int a, .int x, .int sp, .int pc, .int (bI zf), .int (bI cf), .int 1, .int dn])), (mm, .inl (cI, 256, .inl g))] H := hP.sub [0, 1] rfl
      have hD9 : va_D A [(o, .inr (3, [.ref mm, .int a, .int x, .int sp, .int pc, .int (bI zf), .int (bI cf), .int 1, .int dn])), (mm, .inl (cI, 256, .inl g))] := hD.sub [0, 1] (by decide) rfl
      exact W.vret hx hb hr (fun t ht hW => ⟨⟨(g, a, x, sp, pc, zf, cf, 1), rfl, by first | (simp only [fStep, h24, h35, ↓reduceIte, not_true_eq_false, not_false_eq_true, and_true, true_and, and_false, false_and, and_self, or_true, true_or, or_false, false_or, decide_true, decide_false, Bool.false_eq_true, reduceCtorEq]; done) | (rw [fStep, if_neg (by rw [h24]; decide), if_pos h35]), by rw [ht]; exact hP9, va_K.moved hW.alike hK, hD9⟩, hS.F ht⟩) hS.2.2 d_FM_step_43
  · have h24 : isUnkB (rd g pc) = true := bI_t h24
    refine lv_aload_n hx hb d_FM_step_27 rfl (lv_at hl 2 rfl) ?_
    refine lv_iconst (v := 2) hx hb d_FM_step_28 (by decide) ?_
    refine va_put (D := D) (ci := 3) (v := .int 2) (ty := .int) (C := R_FM) (T := T_FM) (N := 9) hx hb hts iw_FM ty_FM ty_FM_ok nm_FM hown hK hP hD hS 0 rfl rfl 7 (by decide) (hts _ k_138) (fun x9 h9 => u_same (hts _ k_139) x9 h9) rfl (by decide +kernel) rfl rfl (Nat.le_of_ble_eq_true rfl) d_FM_step_29 (fun H locs hP hD hS => ?_)
    have hP : va_P D vwCl [(o, .inr (3, [.ref mm, .int a, .int x, .int sp, .int pc, .int (bI zf), .int (bI cf), .int 2, .int dn])), (mm, .inl (cI, 256, .inl g))] H := hP
    have hD : va_D A [(o, .inr (3, [.ref mm, .int a, .int x, .int sp, .int pc, .int (bI zf), .int (bI cf), .int 2, .int dn])), (mm, .inl (cI, 256, .inl g))] := hD
    have hP9 : va_P D vwCl [(o, .inr (3, [.ref mm, .int a, .int x, .int sp, .int pc, .int (bI zf), .int (bI cf), .int 2, .int dn])), (mm, .inl (cI, 256, .inl g))] H := hP.sub [0, 1] rfl
    have hD9 : va_D A [(o, .inr (3, [.ref mm, .int a, .int x, .int sp, .int pc, .int (bI zf), .int (bI cf), .int 2, .int dn])), (mm, .inl (cI, 256, .inl g))] := hD.sub [0, 1] (by decide) rfl
    exact W.vret hx hb hr (fun t ht hW => ⟨⟨(g, a, x, sp, pc, zf, cf, 2), rfl, by first | (simp only [fStep, h24, ↓reduceIte, not_true_eq_false, not_false_eq_true, and_true, true_and, and_false, false_and, and_self, or_true, true_or, or_false, false_or, decide_true, decide_false, Bool.false_eq_true, reduceCtorEq]; done) | (rw [fStep, if_neg (by rw [h24]; decide), if_pos h35]), by rw [ht]; exact hP9, va_K.moved hW.alike hK, hD9⟩, hS.F ht⟩) hS.2.2 d_FM_step_32
