set_option maxHeartbeats 4000000 in
set_option maxRecDepth 100000 in
theorem m_SM_register (l : Launch) (D : va_G) (cI cZ : ClassId) (o : Nat) (mm : Nat) (a : Int32) (x : Int32) (sp : Int32) (pc : Int32) (zf : Bool) (cf : Bool) (st : Int32) (dn : Int32) (pr : Nat) (r2 : Int32) (kp : Bool) (i : Int32) : MetR l y_SM_register w_SM_register { frames := 0, cells := 0, slots := 0, locals := 0 } D cI cZ [.ref o, .int i] [(o, .inr (4, [.ref mm, .int a, .int x, .int sp, .int pc, .int (bI zf), .int (bI cf), .int st, .int dn, .ref pr, .int r2, .int (bI kp)]))] (fun r => r = regI i a x r2) := by
  refine ofR (cc := c_SM_register) (maxL := 2) (ret := (some .int)) (by decide) rfl (Nat.le_of_ble_eq_true rfl) ?_
  intro p e s m args below meth c H hH0 hx hb hr hlocks hts hown hml ls hl hP hK hN
  have hown : s.vm.findClass R_SM = some m.cls := hown
  have hl : lv_has ls 2 [(0, .ref o), (1, .int i)] := hl
  refine lv_iload_n hx hb d_SM_register_0 rfl (lv_at hl 1 rfl) ?_
  refine lv_if_ne (tgt := 9) hx hb d_SM_register_1 rfl (fun h1 => ?_) (fun h1 => ?_)
  · refine lv_iload_n hx hb d_SM_register_9 rfl (lv_at hl 1 rfl) ?_
    refine lv_iconst (v := 1) hx hb d_SM_register_10 (by decide) ?_
    refine lv_icmp_ne (tgt := 21) hx hb d_SM_register_11 rfl (fun h11 => ?_) (fun h11 => ?_)
    · refine lv_aload_n hx hb d_SM_register_21 rfl (lv_at hl 0 rfl) ?_
      refine va_get (D := D) (ci := 4) (v := .int r2) (C := R_SM) (T := T_SM) (N := 12) hx hb hts iw_SM hown hK hP 0 rfl rfl 10 (by decide) (hts _ k_197) (fun _ h9 => h9) rfl d_SM_register_22 ?_
      exact W.iret (v := r2) hx hb hr (fun t ht hW => ⟨r2, rfl, by first | (simp only [regI, h1, h11, ↓reduceIte, not_true_eq_false, not_false_eq_true, and_true, true_and, and_false, false_and, and_self, or_true, true_or, or_false, false_or, decide_true, decide_false, Bool.false_eq_true, reduceCtorEq]; done) | (simp_all [regI]; done), ht.trans hH0.symm⟩) (fun _ h9 => absurd h9 List.not_mem_nil) d_SM_register_25
    · refine lv_aload_n hx hb d_SM_register_14 rfl (lv_at hl 0 rfl) ?_
      refine va_get (D := D) (ci := 4) (v := .int x) (C := R_SM) (T := T_SM) (N := 12) hx hb hts iw_SM hown hK hP 0 rfl rfl 2 (by decide) (hts _ k_118) (fun x9 h9 => u_same (hts _ k_119) x9 h9) rfl d_SM_register_15 ?_
      refine lv_goto (tgt := 25) hx hb d_SM_register_18 rfl ?_
      exact W.iret (v := x) hx hb hr (fun t ht hW => ⟨x, rfl, by first | (simp only [regI, h1, h11, ↓reduceIte, not_true_eq_false, not_false_eq_true, and_true, true_and, and_false, false_and, and_self, or_true, true_or, or_false, false_or, decide_true, decide_false, Bool.false_eq_true, reduceCtorEq]; done) | (simp_all [regI]; done), ht.trans hH0.symm⟩) (fun _ h9 => absurd h9 List.not_mem_nil) d_SM_register_25
  · refine lv_aload_n hx hb d_SM_register_4 rfl (lv_at hl 0 rfl) ?_
    refine va_get (D := D) (ci := 4) (v := .int a) (C := R_SM) (T := T_SM) (N := 12) hx hb hts iw_SM hown hK hP 0 rfl rfl 1 (by decide) (hts _ k_113) (fun x9 h9 => u_same (hts _ k_114) x9 h9) rfl d_SM_register_5 ?_
    exact W.iret (v := a) hx hb hr (fun t ht hW => ⟨a, rfl, by first | (simp only [regI, h1, ↓reduceIte, not_true_eq_false, not_false_eq_true, and_true, true_and, and_false, false_and, and_self, or_true, true_or, or_false, false_or, decide_true, decide_false, Bool.false_eq_true, reduceCtorEq]; done) | (simp_all [regI]; done), ht.trans hH0.symm⟩) (fun _ h9 => absurd h9 List.not_mem_nil) d_SM_register_8
set_option maxHeartbeats 4000000 in
set_option maxRecDepth 100000 in
theorem m_SM_setRegister (l : Launch) (D : va_G) (cI cZ : ClassId) (o : Nat) (mm : Nat) (a : Int32) (x : Int32) (sp : Int32) (pc : Int32) (zf : Bool) (cf : Bool) (st : Int32) (dn : Int32) (pr : Nat) (r2 : Int32) (kp : Bool) (i : Int32) (v : Int32) (sz : Nat) : MetV l y_SM_setRegister w_SM_setRegister { frames := 0, cells := 0, slots := 0, locals := 0 } D cI cZ [.ref o, .int i, .int v] [(o, .inr (4, [.ref mm, .int a, .int x, .int sp, .int pc, .int (bI zf), .int (bI cf), .int st, .int dn, .ref pr, .int r2, .int (bI kp)]))] sz (fun (u : Int32 × Int32 × Int32) => match u with | (a1, x1, r21) => a1 = setA i v a ∧ x1 = setX i v x ∧ r21 = setR i v r2) (fun (u : Int32 × Int32 × Int32) => match u with | (a1, x1, r21) => [(o, .inr (4, [.ref mm, .int a1, .int x1, .int sp, .int pc, .int (bI zf), .int (bI cf), .int st, .int dn, .ref pr, .int r21, .int (bI kp)]))]) 0 0 := by
  refine ofV (cc := c_SM_setRegister) (maxL := 3) (ret := none) (by decide) rfl (Nat.le_of_ble_eq_true rfl) ?_
  intro p e s m args below meth c A H hH0 hx hb hr hlocks hts hown hnm hml ls hl hP hK hD hA hS hN
  have hown : s.vm.findClass R_SM = some m.cls := hown
  have hl : lv_has ls 3 [(0, .ref o), (1, .int i), (2, .int v)] := hl
  refine lv_iload_n hx hb d_SM_setRegister_0 rfl (lv_at hl 1 rfl) ?_
  refine lv_if_ne (tgt := 12) hx hb d_SM_setRegister_1 rfl (fun h1 => ?_) (fun h1 => ?_)
  · refine lv_iload_n hx hb d_SM_setRegister_12 rfl (lv_at hl 1 rfl) ?_
    refine lv_iconst (v := 1) hx hb d_SM_setRegister_13 (by decide) ?_
    refine lv_icmp_ne (tgt := 25) hx hb d_SM_setRegister_14 rfl (fun h14 => ?_) (fun h14 => ?_)
    · refine lv_aload_n hx hb d_SM_setRegister_25 rfl (lv_at hl 0 rfl) ?_
      refine lv_iload_n hx hb d_SM_setRegister_26 rfl (lv_at hl 2 rfl) ?_
      refine va_put (D := D) (ci := 4) (v := .int v) (ty := .int) (C := R_SM) (T := T_SM) (N := 12) hx hb hts iw_SM ty_SM ty_SM_ok nm_SM hown hK hP hD hS 0 rfl rfl 10 (by decide) (hts _ k_197) (fun _ h9 => h9) rfl (by decide +kernel) rfl rfl (Nat.le_of_ble_eq_true rfl) d_SM_setRegister_27 (fun H locs hP hD hS => ?_)
      have hP : va_P D vwCl [(o, .inr (4, [.ref mm, .int a, .int x, .int sp, .int pc, .int (bI zf), .int (bI cf), .int st, .int dn, .ref pr, .int v, .int (bI kp)]))] H := hP
      have hD : va_D A [(o, .inr (4, [.ref mm, .int a, .int x, .int sp, .int pc, .int (bI zf), .int (bI cf), .int st, .int dn, .ref pr, .int v, .int (bI kp)]))] := hD
      have hP9 : va_P D vwCl [(o, .inr (4, [.ref mm, .int a, .int x, .int sp, .int pc, .int (bI zf), .int (bI cf), .int st, .int dn, .ref pr, .int v, .int (bI kp)]))] H := hP.sub [0] rfl
      have hD9 : va_D A [(o, .inr (4, [.ref mm, .int a, .int x, .int sp, .int pc, .int (bI zf), .int (bI cf), .int st, .int dn, .ref pr, .int v, .int (bI kp)]))] := hD.sub [0] (by decide) rfl
      exact W.vret hx hb hr (fun t ht hW => ⟨⟨(a, x, v), rfl, by first | (simp only [setA, setX, setR, h1, h14, ↓reduceIte, not_true_eq_false, not_false_eq_true, and_true, true_and, and_false, false_and, and_self, or_true, true_or, or_false, false_or, decide_true, decide_false, Bool.false_eq_true, reduceCtorEq]; done) | (simp_all [setA, setX, setR]; done), by rw [ht]; exact hP9, va_K.moved hW.alike hK, hD9⟩, hS.F ht⟩) hS.2.2 d_SM_setRegister_30
    · refine lv_aload_n hx hb d_SM_setRegister_17 rfl (lv_at hl 0 rfl) ?_
      refine lv_iload_n hx hb d_SM_setRegister_18 rfl (lv_at hl 2 rfl) ?_
      refine va_put (D := D) (ci := 4) (v := .int v) (ty := .int) (C := R_SM) (T := T_SM) (N := 12) hx hb hts iw_SM ty_SM ty_SM_ok nm_SM hown hK hP hD hS 0 rfl rfl 2 (by decide) (hts _ k_118) (fun x9 h9 => u_same (hts _ k_119) x9 h9) rfl (by decide +kernel) rfl rfl (Nat.le_of_ble_eq_true rfl) d_SM_setRegister_19 (fun H locs hP hD hS => ?_)
      have hP : va_P D vwCl [(o, .inr (4, [.ref mm, .int a, .int v, .int sp, .int pc, .int (bI zf), .int (bI cf), .int st, .int dn, .ref pr, .int r2, .int (bI kp)]))] H := hP
      have hD : va_D A [(o, .inr (4, [.ref mm, .int a, .int v, .int sp, .int pc, .int (bI zf), .int (bI cf), .int st, .int dn, .ref pr, .int r2, .int (bI kp)]))] := hD
      refine lv_goto (tgt := 30) hx hb d_SM_setRegister_22 rfl ?_
      have hP9 : va_P D vwCl [(o, .inr (4, [.ref mm, .int a, .int v, .int sp, .int pc, .int (bI zf), .int (bI cf), .int st, .int dn, .ref pr, .int r2, .int (bI kp)]))] H := hP.sub [0] rfl
      have hD9 : va_D A [(o, .inr (4, [.ref mm, .int a, .int v, .int sp, .int pc, .int (bI zf), .int (bI cf), .int st, .int dn, .ref pr, .int r2, .int (bI kp)]))] := hD.sub [0] (by decide) rfl
      exact W.vret hx hb hr (fun t ht hW => ⟨⟨(a, v, r2), rfl, by first | (simp only [setA, setX, setR, h1, h14, ↓reduceIte, not_true_eq_false, not_false_eq_true, and_true, true_and, and_false, false_and, and_self, or_true, true_or, or_false, false_or, decide_true, decide_false, Bool.false_eq_true, reduceCtorEq]; done) | (simp_all [setA, setX, setR]; done), by rw [ht]; exact hP9, va_K.moved hW.alike hK, hD9⟩, hS.F ht⟩) hS.2.2 d_SM_setRegister_30
  · refine lv_aload_n hx hb d_SM_setRegister_4 rfl (lv_at hl 0 rfl) ?_
    refine lv_iload_n hx hb d_SM_setRegister_5 rfl (lv_at hl 2 rfl) ?_
    refine va_put (D := D) (ci := 4) (v := .int v) (ty := .int) (C := R_SM) (T := T_SM) (N := 12) hx hb hts iw_SM ty_SM ty_SM_ok nm_SM hown hK hP hD hS 0 rfl rfl 1 (by decide) (hts _ k_113) (fun x9 h9 => u_same (hts _ k_114) x9 h9) rfl (by decide +kernel) rfl rfl (Nat.le_of_ble_eq_true rfl) d_SM_setRegister_6 (fun H locs hP hD hS => ?_)
    have hP : va_P D vwCl [(o, .inr (4, [.ref mm, .int v, .int x, .int sp, .int pc, .int (bI zf), .int (bI cf), .int st, .int dn, .ref pr, .int r2, .int (bI kp)]))] H := hP
    have hD : va_D A [(o, .inr (4, [.ref mm, .int v, .int x, .int sp, .int pc, .int (bI zf), .int (bI cf), .int st, .int dn, .ref pr, .int r2, .int (bI kp)]))] := hD
    refine lv_goto (tgt := 30) hx hb d_SM_setRegister_9 rfl ?_
    have hP9 : va_P D vwCl [(o, .inr (4, [.ref mm, .int v, .int x, .int sp, .int pc, .int (bI zf), .int (bI cf), .int st, .int dn, .ref pr, .int r2, .int (bI kp)]))] H := hP.sub [0] rfl
    have hD9 : va_D A [(o, .inr (4, [.ref mm, .int v, .int x, .int sp, .int pc, .int (bI zf), .int (bI cf), .int st, .int dn, .ref pr, .int r2, .int (bI kp)]))] := hD.sub [0] (by decide) rfl
    exact W.vret hx hb hr (fun t ht hW => ⟨⟨(v, x, r2), rfl, by first | (simp only [setA, setX, setR, h1, ↓reduceIte, not_true_eq_false, not_false_eq_true, and_true, true_and, and_false, false_and, and_self, or_true, true_or, or_false, false_or, decide_true, decide_false, Bool.false_eq_true, reduceCtorEq]; done) | (simp_all [setA, setX, setR]; done), by rw [ht]; exact hP9, va_K.moved hW.alike hK, hD9⟩, hS.F ht⟩) hS.2.2 d_SM_setRegister_30
set_option maxHeartbeats 4000000 in
set_option maxRecDepth 100000 in
theorem m_SM_goMapped (l : Launch) (D : va_G) (cI cZ : ClassId) (o : Nat) (mm : Nat) (a : Int32) (x : Int32) (sp : Int32) (pc : Int32) (zf : Bool) (cf : Bool) (st : Int32) (dn : Int32) (r2 : Int32) (kp : Bool) (pr : Nat) (nu : Nat) (xs : Nat) (ys : Nat) (be : Nat) (wh : Nat) (n : Int32) (fw : Nat → Int32) (ad : Int32) (sz : Nat) : MetV l y_SM_goMapped w_SM_goMapped { frames := 2, cells := 0, slots := 0, locals := 41 } D cI cZ [.ref o, .int ad] [(o, .inr (4, [.ref mm, .int a, .int x, .int sp, .int pc, .int (bI zf), .int (bI cf), .int st, .int dn, .ref pr, .int r2, .int (bI kp)])), (pr, .inr (2, [.ref nu, .ref xs, .ref ys, .ref be, .ref wh, .int n])), (wh, .inl (cI, 256, .inl fw))] sz (fun (u : Int32 × Int32) => match u with | (pc1, st1) => pc1 = (if begI fw ad = -1 then pc else begI fw ad) ∧ st1 = (if begI fw ad = -1 then 2 else st)) (fun (u : Int32 × Int32) => match u with | (pc1, st1) => [(o, .inr (4, [.ref mm, .int a, .int x, .int sp, .int pc1, .int (bI zf), .int (bI cf), .int st1, .int dn, .ref pr, .int r2, .int (bI kp)])), (pr, .inr (2, [.ref nu, .ref xs, .ref ys, .ref be, .ref wh, .int n])), (wh, .inl (cI, 256, .inl fw))]) 0 0 := by
  refine ofV (cc := c_SM_goMapped) (maxL := 3) (ret := none) (by decide) rfl (Nat.le_of_ble_eq_true rfl) ?_
  intro p e s m args below meth c A H hH0 hx hb hr hlocks hts hown hnm hml ls hl hP hK hD hA hS hN
  have hown : s.vm.findClass R_SM = some m.cls := hown
  have hl : lv_has ls 3 [(0, .ref o), (1, .int ad)] := hl
  refine lv_aload_n hx hb d_SM_goMapped_0 rfl (lv_at hl 0 rfl) ?_
  refine va_get (D := D) (ci := 4) (v := .ref pr) (C := R_SM) (T := T_SM) (N := 12) hx hb hts iw_SM hown hK hP 0 rfl rfl 9 (by decide) (hts _ k_195) (fun _ h9 => h9) rfl d_SM_goMapped_1 ?_
  refine lv_iload_n hx hb d_SM_goMapped_4 rfl (lv_at hl 1 rfl) ?_
  have hPc := hP.sub (ws' := [(pr, .inr (2, [.ref nu, .ref xs, .ref ys, .ref be, .ref wh, .int n])), (wh, .inl (cI, 256, .inl fw))]) [1, 2] rfl
  refine vp_callSi (va_runV (As := [.int ad]) (rest := []) ⟨hx, hb, hml, hown, hts⟩ (m_PR_beginOf l D cI cZ pr nu xs ys be wh n fw ad) ⟨cB 1 hts k_238 k_61 k_616 hd_PR_beginOf ⟨Nat.le_of_ble_eq_true rfl, Nat.le_of_ble_eq_true rfl⟩ rfl rfl, hts _ k_236, hts _ k_237⟩ (PcR.preV (va_recv hK hP (q0 := 1) (ci := 2) rfl rfl) hPc hK hN) rfl rfl hl.1 rfl (lv_room (Nat.le_of_ble_eq_true rfl)) d_SM_goMapped_5 ⟨Nat.le_of_ble_eq_true rfl, Nat.le_of_ble_eq_true rfl⟩).run (fun r5 e5 => ?_)
  replace e5 := e5.symm
  subst e5
  refine lv_istore_n hx hb d_SM_goMapped_8 rfl hl (by decide) rfl (fun ls hl => ?_)
  have hl : lv_has ls 3 [(2, .int (begI fw ad)), (0, .ref o), (1, .int ad)] := hl
  refine lv_iload_n hx hb d_SM_goMapped_9 rfl (lv_at hl 0 rfl) ?_
  refine lv_iconst (v := (-1)) hx hb d_SM_goMapped_10 (by decide) ?_
  refine lv_icmp_ne (tgt := 22) hx hb d_SM_goMapped_11 rfl (fun h11 => ?_) (fun h11 => ?_)
  · refine lv_aload_n hx hb d_SM_goMapped_22 rfl (lv_at hl 1 rfl) ?_
    refine lv_iload_n hx hb d_SM_goMapped_23 rfl (lv_at hl 0 rfl) ?_
    refine va_put (D := D) (ci := 4) (v := .int (begI fw ad)) (ty := .int) (C := R_SM) (T := T_SM) (N := 12) hx hb hts iw_SM ty_SM ty_SM_ok nm_SM hown hK hP hD hS 0 rfl rfl 4 (by decide) (hts _ k_123) (fun x9 h9 => u_same (hts _ k_124) x9 h9) rfl (by decide +kernel) rfl rfl (Nat.le_of_ble_eq_true rfl) d_SM_goMapped_24 (fun H locs hP hD hS => ?_)
    have hP : va_P D vwCl [(o, .inr (4, [.ref mm, .int a, .int x, .int sp, .int (begI fw ad), .int (bI zf), .int (bI cf), .int st, .int dn, .ref pr, .int r2, .int (bI kp)])), (pr, .inr (2, [.ref nu, .ref xs, .ref ys, .ref be, .ref wh, .int n])), (wh, .inl (cI, 256, .inl fw))] H := hP
    have hD : va_D A [(o, .inr (4, [.ref mm, .int a, .int x, .int sp, .int (begI fw ad), .int (bI zf), .int (bI cf), .int st, .int dn, .ref pr, .int r2, .int (bI kp)])), (pr, .inr (2, [.ref nu, .ref xs, .ref ys, .ref be, .ref wh, .int n])), (wh, .inl (cI, 256, .inl fw))] := hD
    have hP9 : va_P D vwCl [(o, .inr (4, [.ref mm, .int a, .int x, .int sp, .int (begI fw ad), .int (bI zf), .int (bI cf), .int st, .int dn, .ref pr, .int r2, .int (bI kp)])), (pr, .inr (2, [.ref nu, .ref xs, .ref ys, .ref be, .ref wh, .int n])), (wh, .inl (cI, 256, .inl fw))] H := hP.sub [0, 1, 2] rfl
    have hD9 : va_D A [(o, .inr (4, [.ref mm, .int a, .int x, .int sp, .int (begI fw ad), .int (bI zf), .int (bI cf), .int st, .int dn, .ref pr, .int r2, .int (bI kp)])), (pr, .inr (2, [.ref nu, .ref xs, .ref ys, .ref be, .ref wh, .int n])), (wh, .inl (cI, 256, .inl fw))] := hD.sub [0, 1, 2] (by decide) rfl
    exact W.vret hx hb hr (fun t ht hW => ⟨⟨(begI fw ad, st), rfl, by first | (simp only [h11, ↓reduceIte, not_true_eq_false, not_false_eq_true, and_true, true_and, and_false, false_and, and_self, or_true, true_or, or_false, false_or, decide_true, decide_false, Bool.false_eq_true, reduceCtorEq]; done) | (simp_all []; done), by rw [ht]; exact hP9, va_K.moved hW.alike hK, hD9⟩, hS.F ht⟩) hS.2.2 d_SM_goMapped_27
  · refine lv_aload_n hx hb d_SM_goMapped_14 rfl (lv_at hl 1 rfl) ?_
    refine lv_iconst (v := 2) hx hb d_SM_goMapped_15 (by decide) ?_
    refine va_put (D := D) (ci := 4) (v := .int 2) (ty := .int) (C := R_SM) (T := T_SM) (N := 12) hx hb hts iw_SM ty_SM ty_SM_ok nm_SM hown hK hP hD hS 0 rfl rfl 7 (by decide) (hts _ k_140) (fun x9 h9 => u_same (hts _ k_141) x9 h9) rfl (by decide +kernel) rfl rfl (Nat.le_of_ble_eq_true rfl) d_SM_goMapped_16 (fun H locs hP hD hS => ?_)
    have hP : va_P D vwCl [(o, .inr (4, [.ref mm, .int a, .int x, .int sp, .int pc, .int (bI zf), .int (bI cf), .int 2, .int dn, .ref pr, .int r2, .int (bI kp)])), (pr, .inr (2, [.ref nu, .ref xs, .ref ys, .ref be, .ref wh, .int n])), (wh, .inl (cI, 256, .inl fw))] H := hP
    have hD : va_D A [(o, .inr (4, [.ref mm, .int a, .int x, .int sp, .int pc, .int (bI zf), .int (bI cf), .int 2, .int dn, .ref pr, .int r2, .int (bI kp)])), (pr, .inr (2, [.ref nu, .ref xs, .ref ys, .ref be, .ref wh, .int n])), (wh, .inl (cI, 256, .inl fw))] := hD
    refine lv_goto (tgt := 27) hx hb d_SM_goMapped_19 rfl ?_
    have hP9 : va_P D vwCl [(o, .inr (4, [.ref mm, .int a, .int x, .int sp, .int pc, .int (bI zf), .int (bI cf), .int 2, .int dn, .ref pr, .int r2, .int (bI kp)])), (pr, .inr (2, [.ref nu, .ref xs, .ref ys, .ref be, .ref wh, .int n])), (wh, .inl (cI, 256, .inl fw))] H := hP.sub [0, 1, 2] rfl
    have hD9 : va_D A [(o, .inr (4, [.ref mm, .int a, .int x, .int sp, .int pc, .int (bI zf), .int (bI cf), .int 2, .int dn, .ref pr, .int r2, .int (bI kp)])), (pr, .inr (2, [.ref nu, .ref xs, .ref ys, .ref be, .ref wh, .int n])), (wh, .inl (cI, 256, .inl fw))] := hD.sub [0, 1, 2] (by decide) rfl
    exact W.vret hx hb hr (fun t ht hW => ⟨⟨(pc, 2), rfl, by first | (simp only [h11, ↓reduceIte, not_true_eq_false, not_false_eq_true, and_true, true_and, and_false, false_and, and_self, or_true, true_or, or_false, false_or, decide_true, decide_false, Bool.false_eq_true, reduceCtorEq]; done) | (simp_all []; done), by rw [ht]; exact hP9, va_K.moved hW.alike hK, hD9⟩, hS.F ht⟩) hS.2.2 d_SM_goMapped_27
