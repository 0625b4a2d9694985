set_option maxHeartbeats 4000000 in
set_option maxRecDepth 100000 in
theorem t_byteAt0 (l : Launch) (D : va_G) (cI cZ : ClassId) (o : Nat) (sr : Nat) (re : Nat) (pr : Nat) (fm : Nat) (sm : Nat) (m1 : Nat) (a : Int32) (x : Int32) (sp : Int32) (pc : Int32) (zf : Bool) (cf : Bool) (st : Int32) (dn : Int32) (g : Nat → Int32) (ad : Int32) : MetR l y_TM_byteAt w_TM_byteAt { frames := 1, cells := 0, slots := 0, locals := 21 } D cI cZ [.ref o, .int 0, .int ad] [(o, .inr (0, [.ref sr, .ref re, .ref pr, .ref fm, .ref sm])), (fm, .inr (3, [.ref m1, .int a, .int x, .int sp, .int pc, .int (bI zf), .int (bI cf), .int st, .int dn])), (m1, .inl (cI, 256, .inl g))] (fun r => r = begI g ad) := by
  refine ofR (cc := c_TM_byteAt) (maxL := 4) (ret := (some .int)) (by decide) rfl (Nat.le_of_ble_eq_true rfl) ?_
  intro p e s m args below meth c H hH0 hx hb hr hlocks hts hown hml ls hl hP hK hN
  have hown : s.vm.findClass R_TM = some m.cls := hown
  have hl : lv_has ls 4 [(0, .ref o), (1, .int 0), (2, .int ad)] := hl
  refine lv_aload_n hx hb d_TM_byteAt_0 rfl (lv_at hl 0 rfl) ?_
  refine lv_iload_n hx hb d_TM_byteAt_1 rfl (lv_at hl 1 rfl) ?_
  have hPc := hP.sub (ws' := [(o, .inr (0, [.ref sr, .ref re, .ref pr, .ref fm, .ref sm]))]) [0] rfl
  refine va_csr (va_runV (As := [.int 0]) (rest := []) ⟨hx, hb, hml, hown, hts⟩ (t_of0 l D cI cZ o sr re pr fm sm) ⟨cB 1 hts k_276 k_56 k_273 hd_TM_machineOf ⟨Nat.le_of_ble_eq_true rfl, Nat.le_of_ble_eq_true rfl⟩ rfl rfl, hts _ k_275, hts _ k_0⟩ (PcR.preV (va_recv hK hP (q0 := 0) (ci := 0) rfl rfl) hPc hK hN) rfl rfl hl.1 rfl (lv_room (Nat.le_of_ble_eq_true rfl)) d_TM_byteAt_2 ⟨Nat.le_of_ble_eq_true rfl, Nat.le_of_ble_eq_true rfl⟩).run (fun r2 e2 => ?_)
  refine lv_astore_n hx hb d_TM_byteAt_5 rfl hl (by decide) rfl (fun ls hl => ?_)
  have hl : lv_has ls 4 [(3, .ref fm), (0, .ref o), (1, .int 0), (2, .int ad)] := hl
  refine lv_aload_n hx hb d_TM_byteAt_6 rfl (lv_at hl 0 rfl) ?_
  refine lv_ifnull hx hb d_TM_byteAt_7 ?_
  refine lv_iload_n hx hb d_TM_byteAt_10 rfl (lv_at hl 3 rfl) ?_
  have hPc := hP.sub (ws' := []) [] rfl
  refine vp_callSi (va_runS (As := [.int ad]) (rest := []) ⟨hx, hb, hml, hown, hts⟩ (m_isByte l D cI cZ ad) ⟨cB 1 hts k_241 k_56 k_294 hd_TM_isByte ⟨Nat.le_of_ble_eq_true rfl, Nat.le_of_ble_eq_true rfl⟩ rfl rfl, hts _ k_240⟩ (PcR.preS hPc hK hN) rfl rfl hl.1 rfl (lv_room (Nat.le_of_ble_eq_true rfl)) d_TM_byteAt_11 ⟨Nat.le_of_ble_eq_true rfl, Nat.le_of_ble_eq_true rfl⟩).run (fun r11 e11 => ?_)
  replace e11 := e11.symm
  subst e11
  refine lv_if_ne (tgt := 21) hx hb d_TM_byteAt_14 rfl (fun h14 => ?_) (fun h14 => ?_)
  · have h14 : isByteB ad = true := bI_t h14
    refine lv_aload_n hx hb d_TM_byteAt_21 rfl (lv_at hl 0 rfl) ?_
    refine lv_iload_n hx hb d_TM_byteAt_22 rfl (lv_at hl 3 rfl) ?_
    have hPc := hP.sub (ws' := [(fm, .inr (3, [.ref m1, .int a, .int x, .int sp, .int pc, .int (bI zf), .int (bI cf), .int st, .int dn])), (m1, .inl (cI, 256, .inl g))]) [1, 2] rfl
    refine vp_callSi (va_runU (As := [.int ad]) (rest := []) ⟨hx, hb, hml, hown, hts⟩ (m_FM_peek l D cI cZ fm m1 a x sp pc zf cf st dn g ad) (va_cwU 1 hts (gU k_295 k_297 k_298 k_296 k_58 k_300) rfl rfl rfl rfl hd_MA_peek ⟨Nat.le_of_ble_eq_true rfl, Nat.le_of_ble_eq_true rfl⟩) (PcR.preV (va_recv hK hP (q0 := 1) (ci := 3) rfl rfl) hPc hK hN) rfl rfl hl.1 rfl (lv_room (Nat.le_of_ble_eq_true rfl)) d_TM_byteAt_23 ⟨Nat.le_of_ble_eq_true rfl, Nat.le_of_ble_eq_true rfl⟩).run (fun r23 e23 => ?_)
    replace e23 := e23.symm
    subst e23
    exact W.iret (v := (rd g ad)) hx hb hr (fun t ht hW => ⟨(rd g ad), rfl, by rw [begI, if_pos h14]; exact rd_byte h14, ht.trans hH0.symm⟩) (fun _ h9 => absurd h9 List.not_mem_nil) d_TM_byteAt_26
  · have h14 : isByteB ad = false := bI_f h14
    refine lv_iconst (v := (-1)) hx hb d_TM_byteAt_17 (by decide) ?_
    refine lv_goto (tgt := 26) hx hb d_TM_byteAt_18 rfl ?_
    exact W.iret (v := (-1)) hx hb hr (fun t ht hW => ⟨(-1), rfl, by rw [begI, if_neg (by rw [h14]; decide)], ht.trans hH0.symm⟩) (fun _ h9 => absurd h9 List.not_mem_nil) d_TM_byteAt_26
set_option maxHeartbeats 4000000 in
set_option maxRecDepth 100000 in
theorem t_byteAt1 (l : Launch) (D : va_G) (cI cZ : ClassId) (o : Nat) (sr : Nat) (re : Nat) (pr : Nat) (fm : Nat) (sm : Nat) (m2 : Nat) (b0 : Int32) (b1 : Int32) (sq : Int32) (pq : Int32) (zg : Bool) (cg : Bool) (su : Int32) (dm : Int32) (b2 : Int32) (kp : Bool) (g : Nat → Int32) (ad : Int32) : MetR l y_TM_byteAt w_TM_byteAt { frames := 1, cells := 0, slots := 0, locals := 21 } D cI cZ [.ref o, .int 1, .int ad] [(o, .inr (0, [.ref sr, .ref re, .ref pr, .ref fm, .ref sm])), (sm, .inr (4, [.ref m2, .int b0, .int b1, .int sq, .int pq, .int (bI zg), .int (bI cg), .int su, .int dm, .ref pr, .int b2, .int (bI kp)])), (m2, .inl (cI, 256, .inl g))] (fun r => r = begI g ad) := by
  refine ofR (cc := c_TM_byteAt) (maxL := 4) (ret := (some .int)) (by decide) rfl (Nat.le_of_ble_eq_true rfl) ?_
  intro p e s m args below meth c H hH0 hx hb hr hlocks hts hown hml ls hl hP hK hN
  have hown : s.vm.findClass R_TM = some m.cls := hown
  have hl : lv_has ls 4 [(0, .ref o), (1, .int 1), (2, .int ad)] := hl
  refine lv_aload_n hx hb d_TM_byteAt_0 rfl (lv_at hl 0 rfl) ?_
  refine lv_iload_n hx hb d_TM_byteAt_1 rfl (lv_at hl 1 rfl) ?_
  have hPc := hP.sub (ws' := [(o, .inr (0, [.ref sr, .ref re, .ref pr, .ref fm, .ref sm]))]) [0] rfl
  refine va_csr (va_runV (As := [.int 1]) (rest := []) ⟨hx, hb, hml, hown, hts⟩ (t_of1 l D cI cZ o sr re pr fm sm) ⟨cB 1 hts k_276 k_56 k_273 hd_TM_machineOf ⟨Nat.le_of_ble_eq_true rfl, Nat.le_of_ble_eq_true rfl⟩ rfl rfl, hts _ k_275, hts _ k_0⟩ (PcR.preV (va_recv hK hP (q0 := 0) (ci := 0) rfl rfl) hPc hK hN) rfl rfl hl.1 rfl (lv_room (Nat.le_of_ble_eq_true rfl)) d_TM_byteAt_2 ⟨Nat.le_of_ble_eq_true rfl, Nat.le_of_ble_eq_true rfl⟩).run (fun r2 e2 => ?_)
  refine lv_astore_n hx hb d_TM_byteAt_5 rfl hl (by decide) rfl (fun ls hl => ?_)
  have hl : lv_has ls 4 [(3, .ref sm), (0, .ref o), (1, .int 1), (2, .int ad)] := hl
  refine lv_aload_n hx hb d_TM_byteAt_6 rfl (lv_at hl 0 rfl) ?_
  refine lv_ifnull hx hb d_TM_byteAt_7 ?_
  refine lv_iload_n hx hb d_TM_byteAt_10 rfl (lv_at hl 3 rfl) ?_
  have hPc := hP.sub (ws' := []) [] rfl
  refine vp_callSi (va_runS (As := [.int ad]) (rest := []) ⟨hx, hb, hml, hown, hts⟩ (m_isByte l D cI cZ ad) ⟨cB 1 hts k_241 k_56 k_294 hd_TM_isByte ⟨Nat.le_of_ble_eq_true rfl, Nat.le_of_ble_eq_true rfl⟩ rfl rfl, hts _ k_240⟩ (PcR.preS hPc hK hN) rfl rfl hl.1 rfl (lv_room (Nat.le_of_ble_eq_true rfl)) d_TM_byteAt_11 ⟨Nat.le_of_ble_eq_true rfl, Nat.le_of_ble_eq_true rfl⟩).run (fun r11 e11 => ?_)
  replace e11 := e11.symm
  subst e11
  refine lv_if_ne (tgt := 21) hx hb d_TM_byteAt_14 rfl (fun h14 => ?_) (fun h14 => ?_)
  · have h14 : isByteB ad = true := bI_t h14
    refine lv_aload_n hx hb d_TM_byteAt_21 rfl (lv_at hl 0 rfl) ?_
    refine lv_iload_n hx hb d_TM_byteAt_22 rfl (lv_at hl 3 rfl) ?_
    have hPc := hP.sub (ws' := [(sm, .inr (4, [.ref m2, .int b0, .int b1, .int sq, .int pq, .int (bI zg), .int (bI cg), .int su, .int dm, .ref pr, .int b2, .int (bI kp)])), (m2, .inl (cI, 256, .inl g))]) [1, 2] rfl
    refine vp_callSi (va_runU (As := [.int ad]) (rest := []) ⟨hx, hb, hml, hown, hts⟩ (m_SM_peek l D cI cZ sm m2 b0 b1 sq pq zg cg su dm pr b2 kp g ad) (va_cwU 1 hts (gU k_295 k_297 k_299 k_296 k_58 k_300) rfl rfl rfl rfl hd_MA_peek ⟨Nat.le_of_ble_eq_true rfl, Nat.le_of_ble_eq_true rfl⟩) (PcR.preV (va_recv hK hP (q0 := 1) (ci := 4) rfl rfl) hPc hK hN) rfl rfl hl.1 rfl (lv_room (Nat.le_of_ble_eq_true rfl)) d_TM_byteAt_23 ⟨Nat.le_of_ble_eq_true rfl, Nat.le_of_ble_eq_true rfl⟩).run (fun r23 e23 => ?_)
    replace e23 := e23.symm
    subst e23
    exact W.iret (v := (rd g ad)) hx hb hr (fun t ht hW => ⟨(rd g ad), rfl, by rw [begI, if_pos h14]; exact rd_byte h14, ht.trans hH0.symm⟩) (fun _ h9 => absurd h9 List.not_mem_nil) d_TM_byteAt_26
  · have h14 : isByteB ad = false := bI_f h14
    refine lv_iconst (v := (-1)) hx hb d_TM_byteAt_17 (by decide) ?_
    refine lv_goto (tgt := 26) hx hb d_TM_byteAt_18 rfl ?_
    exact W.iret (v := (-1)) hx hb hr (fun t ht hW => ⟨(-1), rfl, by rw [begI, if_neg (by rw [h14]; decide)], ht.trans hH0.symm⟩) (fun _ h9 => absurd h9 List.not_mem_nil) d_TM_byteAt_26
set_option maxHeartbeats 4000000 in
set_option maxRecDepth 100000 in
theorem t_byteAtN (l : Launch) (D : va_G) (cI cZ : ClassId) (o : Nat) (sr : Nat) (re : Nat) (pr : Nat) (fm : Nat) (sm : Nat) (m9 : Int32) (ad : Int32) (hm0 : ¬ m9 = 0) (hm1 : ¬ m9 = 1) : MetR l y_TM_byteAt w_TM_byteAt { frames := 1, cells := 0, slots := 0, locals := 21 } D cI cZ [.ref o, .int m9, .int ad] [(o, .inr (0, [.ref sr, .ref re, .ref pr, .ref fm, .ref sm]))] (fun r => r = (-1)) := by
  refine ofR (cc := c_TM_byteAt) (maxL := 4) (ret := (some .int)) (by decide) rfl (Nat.le_of_ble_eq_true rfl) ?_
  intro p e s m args below meth c H hH0 hx hb hr hlocks hts hown hml ls hl hP hK hN
  have hown : s.vm.findClass R_TM = some m.cls := hown
  have hl : lv_has ls 4 [(0, .ref o), (1, .int m9), (2, .int ad)] := hl
  refine lv_aload_n hx hb d_TM_byteAt_0 rfl (lv_at hl 0 rfl) ?_
  refine lv_iload_n hx hb d_TM_byteAt_1 rfl (lv_at hl 1 rfl) ?_
  have hPc := hP.sub (ws' := [(o, .inr (0, [.ref sr, .ref re, .ref pr, .ref fm, .ref sm]))]) [0] rfl
  refine va_csr (va_runV (As := [.int m9]) (rest := []) ⟨hx, hb, hml, hown, hts⟩ (t_ofN l D cI cZ o sr re pr fm sm m9 hm0 hm1) ⟨cB 1 hts k_276 k_56 k_273 hd_TM_machineOf ⟨Nat.le_of_ble_eq_true rfl, Nat.le_of_ble_eq_true rfl⟩ rfl rfl, hts _ k_275, hts _ k_0⟩ (PcR.preV (va_recv hK hP (q0 := 0) (ci := 0) rfl rfl) hPc hK hN) rfl rfl hl.1 rfl (lv_room (Nat.le_of_ble_eq_true rfl)) d_TM_byteAt_2 ⟨Nat.le_of_ble_eq_true rfl, Nat.le_of_ble_eq_true rfl⟩).run (fun r2 e2 => ?_)
  refine lv_astore_nN hx hb d_TM_byteAt_5 rfl hl (by decide) rfl (fun ls hl => ?_)
  have hl : lv_has ls 4 [(3, .null), (0, .ref o), (1, .int m9), (2, .int ad)] := hl
  refine lv_aload_nN hx hb d_TM_byteAt_6 rfl (lv_at hl 0 rfl) ?_
  refine lv_ifnullN (tgt := 17) hx hb d_TM_byteAt_7 rfl ?_
  refine lv_iconst (v := (-1)) hx hb d_TM_byteAt_17 (by decide) ?_
  refine lv_goto (tgt := 26) hx hb d_TM_byteAt_18 rfl ?_
  exact W.iret (v := (-1)) hx hb hr (fun t ht hW => ⟨(-1), rfl, rfl, ht.trans hH0.symm⟩) (fun _ h9 => absurd h9 List.not_mem_nil) d_TM_byteAt_26
set_option maxHeartbeats 4000000 in
set_option maxRecDepth 100000 in
theorem t_alike (l : Launch) (D : va_G) (cI cZ : ClassId) (o : Nat) (sr : Nat) (re : Nat) (pr : Nat) (fm : Nat) (sm : Nat) (m1 : Nat) (a : Int32) (x : Int32) (sp : Int32) (pc : Int32) (zf : Bool) (cf : Bool) (st : Int32) (dn : Int32) (m2 : Nat) (b0 : Int32) (b1 : Int32) (sq : Int32) (pq : Int32) (zg : Bool) (cg : Bool) (su : Int32) (dm : Int32) (b2 : Int32) (kp : Bool) (nu : Nat) (xs : Nat) (ys : Nat) (be : Nat) (wh : Nat) (n : Int32) (g : Nat → Int32) (h : Nat → Int32) (fw : Nat → Int32) : MetR l y_TM_alike w_TM_alike { frames := 2, cells := 0, slots := 0, locals := 41 } D cI cZ [.ref o] [(o, .inr (0, [.ref sr, .ref re, .ref pr, .ref fm, .ref sm])), (fm, .inr (3, [.ref m1, .int a, .int x, .int sp, .int pc, .int (bI zf), .int (bI cf), .int st, .int dn])), (m1, .inl (cI, 256, .inl g)), (sm, .inr (4, [.ref m2, .int b0, .int b1, .int sq, .int pq, .int (bI zg), .int (bI cg), .int su, .int dm, .ref pr, .int b2, .int (bI kp)])), (m2, .inl (cI, 256, .inl h)), (pr, .inr (2, [.ref nu, .ref xs, .ref ys, .ref be, .ref wh, .int n])), (wh, .inl (cI, 256, .inl fw))] (fun r => r = bI (alkC (decide (a = b0 ∧ x = b1 ∧ sp = sq ∧ zf = zg ∧ cf = cg ∧ ∀ j : Nat, j < 256 → g j = h j)) (begI fw pc) pq st su)) := by
  refine ofR (cc := c_TM_alike) (maxL := 2) (ret := (some .boolean)) (by decide) rfl (Nat.le_of_ble_eq_true rfl) ?_
  intro p e s m args below meth c H hH0 hx hb hr hlocks hts hown hml ls hl hP hK hN
  have hown : s.vm.findClass R_TM = some m.cls := hown
  have hl : lv_has ls 2 [(0, .ref o)] := hl
  refine lv_aload_n hx hb d_TM_alike_0 rfl (lv_at hl 0 rfl) ?_
  refine va_get (D := D) (ci := 0) (v := .ref pr) (C := R_TM) (T := T_TM) (N := 5) hx hb hts iw_TM hown hK hP 0 rfl rfl 2 (by decide) (hts _ k_217) (fun _ h9 => h9) rfl d_TM_alike_1 ?_
  refine lv_aload_n hx hb d_TM_alike_4 rfl (lv_at hl 0 rfl) ?_
  refine va_get (D := D) (ci := 0) (v := .ref fm) (C := R_TM) (T := T_TM) (N := 5) hx hb hts iw_TM hown hK hP 0 rfl rfl 3 (by decide) (hts _ k_218) (fun _ h9 => h9) rfl d_TM_alike_5 ?_
  refine va_get (D := D) (ci := 3) (v := .int pc) (C := R_FM) (T := T_FM) (N := 9) hx hb hts iw_FM hown hK hP 1 rfl rfl 4 (by decide) (hts _ k_126) (fun x9 h9 => u_same (hts _ k_122) x9 h9) rfl d_TM_alike_8 ?_
  have hPc := hP.sub (ws' := [(pr, .inr (2, [.ref nu, .ref xs, .ref ys, .ref be, .ref wh, .int n])), (wh, .inl (cI, 256, .inl fw))]) [5, 6] rfl
  refine vp_callSi (va_runV (As := [.int pc]) (rest := []) ⟨hx, hb, hml, hown, hts⟩ (m_PR_beginOf l D cI cZ pr nu xs ys be wh n fw pc) ⟨cB 1 hts k_238 k_61 k_235 hd_PR_beginOf ⟨Nat.le_of_ble_eq_true rfl, Nat.le_of_ble_eq_true rfl⟩ rfl rfl, hts _ k_236, hts _ k_237⟩ (PcR.preV (va_recv hK hP (q0 := 5) (ci := 2) rfl rfl) hPc hK hN) rfl rfl hl.1 rfl (lv_room (Nat.le_of_ble_eq_true rfl)) d_TM_alike_11 ⟨Nat.le_of_ble_eq_true rfl, Nat.le_of_ble_eq_true rfl⟩).run (fun r11 e11 => ?_)
  replace e11 := e11.symm
  subst e11
  refine lv_istore_n hx hb d_TM_alike_14 rfl hl (by decide) rfl (fun ls hl => ?_)
  have hl : lv_has ls 2 [(1, .int (begI fw pc)), (0, .ref o)] := hl
  refine lv_iload_n hx hb d_TM_alike_15 rfl (lv_at hl 0 rfl) ?_
  refine lv_iconst (v := (-1)) hx hb d_TM_alike_16 (by decide) ?_
  refine lv_icmp_eq (tgt := 66) hx hb d_TM_alike_17 rfl (fun h17 => ?_) (fun h17 => ?_)
  · refine lv_iconst (v := 0) hx hb d_TM_alike_66 (by decide) ?_
    exact W.zret (v := (bI false)) hx hb hr (nb_n _) (fun t ht hW => ⟨(bI false), rfl, by rw [alkC, if_pos h17], ht.trans hH0.symm⟩) (fun _ h9 => absurd h9 List.not_mem_nil) d_TM_alike_67
  · refine lv_iload_n hx hb d_TM_alike_20 rfl (lv_at hl 0 rfl) ?_
    refine lv_aload_n hx hb d_TM_alike_21 rfl (lv_at hl 1 rfl) ?_
    refine va_get (D := D) (ci := 0) (v := .ref sm) (C := R_TM) (T := T_TM) (N := 5) hx hb hts iw_TM hown hK hP 0 rfl rfl 4 (by decide) (hts _ k_219) (fun _ h9 => h9) rfl d_TM_alike_22 ?_
    refine va_get (D := D) (ci := 4) (v := .int pq) (C := R_SM) (T := T_SM) (N := 12) hx hb hts iw_SM hown hK hP 3 rfl rfl 4 (by decide) (hts _ k_127) (fun x9 h9 => u_same (hts _ k_124) x9 h9) rfl d_TM_alike_25 ?_
    refine lv_icmp_ne (tgt := 66) hx hb d_TM_alike_28 rfl (fun h28 => ?_) (fun h28 => ?_)
    · refine lv_iconst (v := 0) hx hb d_TM_alike_66 (by decide) ?_
      exact W.zret (v := (bI false)) hx hb hr (nb_n _) (fun t ht hW => ⟨(bI false), rfl, by rw [alkC, if_neg h17, if_neg h28], ht.trans hH0.symm⟩) (fun _ h9 => absurd h9 List.not_mem_nil) d_TM_alike_67
    · refine lv_aload_n hx hb d_TM_alike_31 rfl (lv_at hl 1 rfl) ?_
      refine va_get (D := D) (ci := 0) (v := .ref fm) (C := R_TM) (T := T_TM) (N := 5) hx hb hts iw_TM hown hK hP 0 rfl rfl 3 (by decide) (hts _ k_218) (fun _ h9 => h9) rfl d_TM_alike_32 ?_
      have hPc := hP.sub (ws' := [(fm, .inr (3, [.ref m1, .int a, .int x, .int sp, .int pc, .int (bI zf), .int (bI cf), .int st, .int dn]))]) [1] rfl
      refine vp_callSi (va_runU (As := []) (rest := []) ⟨hx, hb, hml, hown, hts⟩ (m_FM_hasHalted l D cI cZ fm m1 a x sp pc zf cf st dn) (va_cwU 0 hts (gU k_242 k_243 k_245 k_246 k_58 k_247) rfl rfl rfl rfl hd_MA_hasHalted ⟨Nat.le_of_ble_eq_true rfl, Nat.le_of_ble_eq_true rfl⟩) (PcR.preV (va_recv hK hP (q0 := 1) (ci := 3) rfl rfl) hPc hK hN) rfl rfl hl.1 rfl (lv_room (Nat.le_of_ble_eq_true rfl)) d_TM_alike_35 ⟨Nat.le_of_ble_eq_true rfl, Nat.le_of_ble_eq_true rfl⟩).run (fun r35 e35 => ?_)
      replace e35 := e35.symm
      subst e35
      refine lv_aload_n hx hb d_TM_alike_38 rfl (lv_at hl 1 rfl) ?_
      refine va_get (D := D) (ci := 0) (v := .ref sm) (C := R_TM) (T := T_TM) (N := 5) hx hb hts iw_TM hown hK hP 0 rfl rfl 4 (by decide) (hts _ k_219) (fun _ h9 => h9) rfl d_TM_alike_39 ?_
      have hPc := hP.sub (ws' := [(sm, .inr (4, [.ref m2, .int b0, .int b1, .int sq, .int pq, .int (bI zg), .int (bI cg), .int su, .int dm, .ref pr, .int b2, .int (bI kp)]))]) [3] rfl
      refine vp_callSi (va_runU (As := []) (rest := [.int (bI (decide (st = 1)))]) ⟨hx, hb, hml, hown, hts⟩ (m_SM_hasHalted l D cI cZ sm m2 b0 b1 sq pq zg cg su dm pr b2 kp) (va_cwU 0 hts (gU k_248 k_249 k_250 k_246 k_58 k_247) rfl rfl rfl rfl hd_MA_hasHalted ⟨Nat.le_of_ble_eq_true rfl, Nat.le_of_ble_eq_true rfl⟩) (PcR.preV (va_recv hK hP (q0 := 3) (ci := 4) rfl rfl) hPc hK hN) rfl rfl hl.1 rfl (lv_room (Nat.le_of_ble_eq_true rfl)) d_TM_alike_42 ⟨Nat.le_of_ble_eq_true rfl, Nat.le_of_ble_eq_true rfl⟩).run (fun r42 e42 => ?_)
      replace e42 := e42.symm
      subst e42
      refine lv_icmp_ne (tgt := 66) hx hb d_TM_alike_45 rfl (fun h45 => ?_) (fun h45 => ?_)
      · refine lv_iconst (v := 0) hx hb d_TM_alike_66 (by decide) ?_
        exact W.zret (v := (bI false)) hx hb hr (nb_n _) (fun t ht hW => ⟨(bI false), rfl, by rw [alkC, if_neg h17, if_pos h28, if_neg (fun q => h45 (by rw [q]))], ht.trans hH0.symm⟩) (fun _ h9 => absurd h9 List.not_mem_nil) d_TM_alike_67
      · refine lv_aload_n hx hb d_TM_alike_48 rfl (lv_at hl 1 rfl) ?_
        refine va_get (D := D) (ci := 0) (v := .ref fm) (C := R_TM) (T := T_TM) (N := 5) hx hb hts iw_TM hown hK hP 0 rfl rfl 3 (by decide) (hts _ k_218) (fun _ h9 => h9) rfl d_TM_alike_49 ?_
        refine lv_aload_n hx hb d_TM_alike_52 rfl (lv_at hl 1 rfl) ?_
        refine va_get (D := D) (ci := 0) (v := .ref sm) (C := R_TM) (T := T_TM) (N := 5) hx hb hts iw_TM hown hK hP 0 rfl rfl 4 (by decide) (hts _ k_219) (fun _ h9 => h9) rfl d_TM_alike_53 ?_
        have hPc := hP.sub (ws' := [(fm, .inr (3, [.ref m1, .int a, .int x, .int sp, .int pc, .int (bI zf), .int (bI cf), .int st, .int dn])), (m1, .inl (cI, 256, .inl g)), (sm, .inr (4, [.ref m2, .int b0, .int b1, .int sq, .int pq, .int (bI zg), .int (bI cg), .int su, .int dm, .ref pr, .int b2, .int (bI kp)])), (m2, .inl (cI, 256, .inl h))]) [1, 2, 3, 4] rfl
        refine vp_callSi (va_runU (As := [.ref sm]) (rest := []) ⟨hx, hb, hml, hown, hts⟩ (m_looks l D cI cZ fm m1 a x sp pc zf cf st dn sm m2 b0 b1 sq pq zg cg su dm pr b2 kp g h) (va_cwU 1 hts (gU k_251 k_252 k_254 k_255 k_58 k_256) rfl rfl rfl rfl hd_MA_looksLike ⟨Nat.le_of_ble_eq_true rfl, Nat.le_of_ble_eq_true rfl⟩) (PcR.preV (va_recv hK hP (q0 := 1) (ci := 3) rfl rfl) hPc hK hN) rfl rfl hl.1 rfl (lv_room (Nat.le_of_ble_eq_true rfl)) d_TM_alike_56 ⟨Nat.le_of_ble_eq_true rfl, Nat.le_of_ble_eq_true rfl⟩).run (fun r56 e56 => ?_)
        replace e56 := e56.symm
        subst e56
        refine lv_if_eq (tgt := 66) hx hb d_TM_alike_59 rfl (fun h59 => ?_) (fun h59 => ?_)
        · have h59 : decide (a = b0 ∧ x = b1 ∧ sp = sq ∧ zf = zg ∧ cf = cg ∧ ∀ j : Nat, j < 256 → g j = h j) = false := bI_f h59
          refine lv_iconst (v := 0) hx hb d_TM_alike_66 (by decide) ?_
          exact W.zret (v := (bI false)) hx hb hr (nb_n _) (fun t ht hW => ⟨(bI false), rfl, by rw [alkC, if_neg h17, if_pos h28, if_pos (bI_inj h45), h59], ht.trans hH0.symm⟩) (fun _ h9 => absurd h9 List.not_mem_nil) d_TM_alike_67
        · have h59 : decide (a = b0 ∧ x = b1 ∧ sp = sq ∧ zf = zg ∧ cf = cg ∧ ∀ j : Nat, j < 256 → g j = h j) = true := bI_t h59
          refine lv_iconst (v := 1) hx hb d_TM_alike_62 (by decide) ?_
          refine lv_goto (tgt := 67) hx hb d_TM_alike_63 rfl ?_
          exact W.zret (v := (bI true)) hx hb hr (nb_n _) (fun t ht hW => ⟨(bI true), rfl, by rw [alkC, if_neg h17, if_pos h28, if_pos (bI_inj h45), h59], ht.trans hH0.symm⟩) (fun _ h9 => absurd h9 List.not_mem_nil) d_TM_alike_67
