set_option maxHeartbeats 4000000 in
set_option maxRecDepth 100000 in
theorem m_FM_begin0 (l : Launch) (D : va_G) (cI cZ : ClassId) (o : Nat) (mm : Nat) (a : Int32) (x : Int32) (sp : Int32) (pc : Int32) (zf : Bool) (cf : Bool) (st : Int32) (dn : Int32) (sr : Nat) (g : Nat → Int32) (fs : Nat → Int32) (s0 : Int32) (sz : Nat) : MetV l y_MA_begin w_MA_begin { frames := 0, cells := 0, slots := 0, locals := 0 } D cI cZ [.ref o, .ref sr, .int s0] [(o, .inr (3, [.ref mm, .int a, .int x, .int sp, .int pc, .int (bI zf), .int (bI cf), .int st, .int dn])), (mm, .inl (cI, 256, .inl g)), (sr, .inl (cI, 256, .inl fs))] sz (fun (g1 : (Nat → Int32)) => g1 = cpyI fs g 256) (fun (g1 : (Nat → Int32)) => [(o, .inr (3, [.ref mm, .int 0, .int 0, .int 255, .int s0, .int (bI false), .int (bI false), .int 0, .int 0])), (mm, .inl (cI, 256, .inl g1)), (sr, .inl (cI, 256, .inl fs))]) 0 0 := by
  refine ofV (cc := c_MA_begin) (maxL := 4) (ret := none) (by decide) rfl (Nat.le_of_ble_eq_true rfl) ?_
  intro p e s m args below meth c A H hH0 hx hb hr hlocks hts hown hnm hml ls hl hP hK hD hA hS hN
  have hown : s.vm.findClass R_MA = some m.cls := hown
  have hl : lv_has ls 4 [(0, .ref o), (1, .ref sr), (2, .int s0)] := hl
  refine lv_iconst (v := 0) hx hb d_MA_begin_0 (by decide) ?_
  refine lv_istore_n hx hb d_MA_begin_1 rfl hl (by decide) rfl (fun ls hl => ?_)
  have hl : lv_has ls 4 [(3, .int 0), (0, .ref o), (1, .ref sr), (2, .int s0)] := hl
  rw [← cpyI_0 fs g] at hP hD
  have loop : ∀ (k : Nat) (i : Nat), (i + k = 256) → ∀ (H : Heap) (locs : List Loc) (ls : Array Slot), lv_has ls 4 [(3, .int (nI i)), (0, .ref o), (1, .ref sr), (2, .int s0)] → va_P D vwCl [(o, .inr (3, [.ref mm, .int a, .int x, .int sp, .int pc, .int (bI zf), .int (bI cf), .int st, .int dn])), (mm, .inl (cI, 256, .inl (cpyI fs g i))), (sr, .inl (cI, 256, .inl fs))] H → va_D A [(o, .inr (3, [.ref mm, .int a, .int x, .int sp, .int pc, .int (bI zf), .int (bI cf), .int st, .int dn])), (mm, .inl (cI, 256, .inl (cpyI fs g i))), (sr, .inl (cI, 256, .inl fs))] → va_S A s.heap H locs → W p l e { frames := 0, cells := 0, slots := 0, locals := 0 } s m args below meth c H locs 0 0 (MQ below (QV D cI cZ (fun (g1 : (Nat → Int32)) => g1 = cpyI fs g 256) (fun (g1 : (Nat → Int32)) => [(o, .inr (3, [.ref mm, .int 0, .int 0, .int 255, .int s0, .int (bI false), .int (bI false), .int 0, .int 0])), (mm, .inl (cI, 256, .inl g1)), (sr, .inl (cI, 256, .inl fs))]) A) args s 0 0 A) (F0 m 2 ls []) := by
    intro k
    induction k with
    | zero =>
      intro i hk H locs ls hl hP hD hS
      refine lv_iload_n hx hb d_MA_begin_2 rfl (lv_at hl 0 rfl) ?_
      refine lv_sipush (v := 256) hx hb d_MA_begin_3 (by decide) ?_
      refine lv_icmp_ge (tgt := 30) hx hb d_MA_begin_6 rfl (fun _ => ?_) (fun h9 => absurd (by rw [show i = 256 from hk]; decide) h9)
      refine lv_aload_n hx hb d_MA_begin_30 rfl (lv_at hl 1 rfl) ?_
      refine lv_iconst (v := 0) hx hb d_MA_begin_31 (by decide) ?_
      refine va_put (D := D) (ci := 3) (v := .int 0) (ty := .int) (C := R_FM) (T := T_FM) (N := 9) hx hb hts iw_FM ty_FM ty_FM_ok nm_FM hown hK hP hD hS 0 rfl rfl 1 (by decide) (hts _ k_110) (fun _ h9 => h9) rfl (by decide +kernel) rfl rfl (Nat.le_of_ble_eq_true rfl) d_MA_begin_32 (fun H locs hP hD hS => ?_)
      have hP : va_P D vwCl [(o, .inr (3, [.ref mm, .int 0, .int x, .int sp, .int pc, .int (bI zf), .int (bI cf), .int st, .int dn])), (mm, .inl (cI, 256, .inl (cpyI fs g i))), (sr, .inl (cI, 256, .inl fs))] H := hP
      have hD : va_D A [(o, .inr (3, [.ref mm, .int 0, .int x, .int sp, .int pc, .int (bI zf), .int (bI cf), .int st, .int dn])), (mm, .inl (cI, 256, .inl (cpyI fs g i))), (sr, .inl (cI, 256, .inl fs))] := hD
      refine lv_aload_n hx hb d_MA_begin_35 rfl (lv_at hl 1 rfl) ?_
      refine lv_iconst (v := 0) hx hb d_MA_begin_36 (by decide) ?_
      refine va_put (D := D) (ci := 3) (v := .int 0) (ty := .int) (C := R_FM) (T := T_FM) (N := 9) hx hb hts iw_FM ty_FM ty_FM_ok nm_FM hown hK hP hD hS 0 rfl rfl 2 (by decide) (hts _ k_115) (fun _ h9 => h9) rfl (by decide +kernel) rfl rfl (Nat.le_of_ble_eq_true rfl) d_MA_begin_37 (fun H locs hP hD hS => ?_)
      have hP : va_P D vwCl [(o, .inr (3, [.ref mm, .int 0, .int 0, .int sp, .int pc, .int (bI zf), .int (bI cf), .int st, .int dn])), (mm, .inl (cI, 256, .inl (cpyI fs g i))), (sr, .inl (cI, 256, .inl fs))] H := hP
      have hD : va_D A [(o, .inr (3, [.ref mm, .int 0, .int 0, .int sp, .int pc, .int (bI zf), .int (bI cf), .int st, .int dn])), (mm, .inl (cI, 256, .inl (cpyI fs g i))), (sr, .inl (cI, 256, .inl fs))] := hD
      refine lv_aload_n hx hb d_MA_begin_40 rfl (lv_at hl 1 rfl) ?_
      refine lv_sipush (v := 255) hx hb d_MA_begin_41 (by decide) ?_
      refine va_put (D := D) (ci := 3) (v := .int 255) (ty := .int) (C := R_FM) (T := T_FM) (N := 9) hx hb hts iw_FM ty_FM ty_FM_ok nm_FM hown hK hP hD hS 0 rfl rfl 3 (by decide) (hts _ k_120) (fun _ h9 => h9) rfl (by decide +kernel) rfl rfl (Nat.le_of_ble_eq_true rfl) d_MA_begin_44 (fun H locs hP hD hS => ?_)
      have hP : va_P D vwCl [(o, .inr (3, [.ref mm, .int 0, .int 0, .int 255, .int pc, .int (bI zf), .int (bI cf), .int st, .int dn])), (mm, .inl (cI, 256, .inl (cpyI fs g i))), (sr, .inl (cI, 256, .inl fs))] H := hP
      have hD : va_D A [(o, .inr (3, [.ref mm, .int 0, .int 0, .int 255, .int pc, .int (bI zf), .int (bI cf), .int st, .int dn])), (mm, .inl (cI, 256, .inl (cpyI fs g i))), (sr, .inl (cI, 256, .inl fs))] := hD
      refine lv_aload_n hx hb d_MA_begin_47 rfl (lv_at hl 1 rfl) ?_
      refine lv_iload_n hx hb d_MA_begin_48 rfl (lv_at hl 3 rfl) ?_
      refine va_put (D := D) (ci := 3) (v := .int s0) (ty := .int) (C := R_FM) (T := T_FM) (N := 9) hx hb hts iw_FM ty_FM ty_FM_ok nm_FM hown hK hP hD hS 0 rfl rfl 4 (by decide) (hts _ k_125) (fun _ h9 => h9) rfl (by decide +kernel) rfl rfl (Nat.le_of_ble_eq_true rfl) d_MA_begin_49 (fun H locs hP hD hS => ?_)
      have hP : va_P D vwCl [(o, .inr (3, [.ref mm, .int 0, .int 0, .int 255, .int s0, .int (bI zf), .int (bI cf), .int st, .int dn])), (mm, .inl (cI, 256, .inl (cpyI fs g i))), (sr, .inl (cI, 256, .inl fs))] H := hP
      have hD : va_D A [(o, .inr (3, [.ref mm, .int 0, .int 0, .int 255, .int s0, .int (bI zf), .int (bI cf), .int st, .int dn])), (mm, .inl (cI, 256, .inl (cpyI fs g i))), (sr, .inl (cI, 256, .inl fs))] := hD
      refine lv_aload_n hx hb d_MA_begin_52 rfl (lv_at hl 1 rfl) ?_
      refine lv_iconst (v := 0) hx hb d_MA_begin_53 (by decide) ?_
      refine va_put (D := D) (ci := 3) (v := .int (bI false)) (ty := .boolean) (C := R_FM) (T := T_FM) (N := 9) hx hb hts iw_FM ty_FM ty_FM_ok nm_FM hown hK hP hD hS 0 rfl rfl 5 (by decide) (hts _ k_128) (fun _ h9 => h9) rfl (by decide +kernel) (nb_n _) (nb_f _) (Nat.le_of_ble_eq_true rfl) d_MA_begin_54 (fun H locs hP hD hS => ?_)
      have hP : va_P D vwCl [(o, .inr (3, [.ref mm, .int 0, .int 0, .int 255, .int s0, .int (bI false), .int (bI cf), .int st, .int dn])), (mm, .inl (cI, 256, .inl (cpyI fs g i))), (sr, .inl (cI, 256, .inl fs))] H := hP
      have hD : va_D A [(o, .inr (3, [.ref mm, .int 0, .int 0, .int 255, .int s0, .int (bI false), .int (bI cf), .int st, .int dn])), (mm, .inl (cI, 256, .inl (cpyI fs g i))), (sr, .inl (cI, 256, .inl fs))] := hD
      refine lv_aload_n hx hb d_MA_begin_57 rfl (lv_at hl 1 rfl) ?_
      refine lv_iconst (v := 0) hx hb d_MA_begin_58 (by decide) ?_
      refine va_put (D := D) (ci := 3) (v := .int (bI false)) (ty := .boolean) (C := R_FM) (T := T_FM) (N := 9) hx hb hts iw_FM ty_FM ty_FM_ok nm_FM hown hK hP hD hS 0 rfl rfl 6 (by decide) (hts _ k_133) (fun _ h9 => h9) rfl (by decide +kernel) (nb_n _) (nb_f _) (Nat.le_of_ble_eq_true rfl) d_MA_begin_59 (fun H locs hP hD hS => ?_)
      have hP : va_P D vwCl [(o, .inr (3, [.ref mm, .int 0, .int 0, .int 255, .int s0, .int (bI false), .int (bI false), .int st, .int dn])), (mm, .inl (cI, 256, .inl (cpyI fs g i))), (sr, .inl (cI, 256, .inl fs))] H := hP
      have hD : va_D A [(o, .inr (3, [.ref mm, .int 0, .int 0, .int 255, .int s0, .int (bI false), .int (bI false), .int st, .int dn])), (mm, .inl (cI, 256, .inl (cpyI fs g i))), (sr, .inl (cI, 256, .inl fs))] := hD
      refine lv_aload_n hx hb d_MA_begin_62 rfl (lv_at hl 1 rfl) ?_
      refine lv_iconst (v := 0) hx hb d_MA_begin_63 (by decide) ?_
      refine va_put (D := D) (ci := 3) (v := .int 0) (ty := .int) (C := R_FM) (T := T_FM) (N := 9) hx hb hts iw_FM ty_FM ty_FM_ok nm_FM hown hK hP hD hS 0 rfl rfl 7 (by decide) (hts _ k_142) (fun _ h9 => h9) rfl (by decide +kernel) rfl rfl (Nat.le_of_ble_eq_true rfl) d_MA_begin_64 (fun H locs hP hD hS => ?_)
      have hP : va_P D vwCl [(o, .inr (3, [.ref mm, .int 0, .int 0, .int 255, .int s0, .int (bI false), .int (bI false), .int 0, .int dn])), (mm, .inl (cI, 256, .inl (cpyI fs g i))), (sr, .inl (cI, 256, .inl fs))] H := hP
      have hD : va_D A [(o, .inr (3, [.ref mm, .int 0, .int 0, .int 255, .int s0, .int (bI false), .int (bI false), .int 0, .int dn])), (mm, .inl (cI, 256, .inl (cpyI fs g i))), (sr, .inl (cI, 256, .inl fs))] := hD
      refine lv_aload_n hx hb d_MA_begin_67 rfl (lv_at hl 1 rfl) ?_
      refine lv_iconst (v := 0) hx hb d_MA_begin_68 (by decide) ?_
      refine va_put (D := D) (ci := 3) (v := .int 0) (ty := .int) (C := R_FM) (T := T_FM) (N := 9) hx hb hts iw_FM ty_FM ty_FM_ok nm_FM hown hK hP hD hS 0 rfl rfl 8 (by decide) (hts _ k_143) (fun _ h9 => h9) rfl (by decide +kernel) rfl rfl (Nat.le_of_ble_eq_true rfl) d_MA_begin_69 (fun H locs hP hD hS => ?_)
      have hP : va_P D vwCl [(o, .inr (3, [.ref mm, .int 0, .int 0, .int 255, .int s0, .int (bI false), .int (bI false), .int 0, .int 0])), (mm, .inl (cI, 256, .inl (cpyI fs g i))), (sr, .inl (cI, 256, .inl fs))] H := hP
      have hD : va_D A [(o, .inr (3, [.ref mm, .int 0, .int 0, .int 255, .int s0, .int (bI false), .int (bI false), .int 0, .int 0])), (mm, .inl (cI, 256, .inl (cpyI fs g i))), (sr, .inl (cI, 256, .inl fs))] := hD
      have hP9 : va_P D vwCl [(o, .inr (3, [.ref mm, .int 0, .int 0, .int 255, .int s0, .int (bI false), .int (bI false), .int 0, .int 0])), (mm, .inl (cI, 256, .inl (cpyI fs g i))), (sr, .inl (cI, 256, .inl fs))] H := hP.sub [0, 1, 2] rfl
      have hD9 : va_D A [(o, .inr (3, [.ref mm, .int 0, .int 0, .int 255, .int s0, .int (bI false), .int (bI false), .int 0, .int 0])), (mm, .inl (cI, 256, .inl (cpyI fs g i))), (sr, .inl (cI, 256, .inl fs))] := hD.sub [0, 1, 2] (by decide) rfl
      exact W.vret hx hb hr (fun t ht hW => ⟨⟨(cpyI fs g i), rfl, by rw [show i = 256 from hk], by rw [ht]; exact hP9, va_K.moved hW.alike hK, hD9⟩, hS.F ht⟩) hS.2.2 d_MA_begin_72
    | succ k ih =>
      intro i hk H locs ls hl hP hD hS
      refine lv_iload_n hx hb d_MA_begin_2 rfl (lv_at hl 0 rfl) ?_
      refine lv_sipush (v := 256) hx hb d_MA_begin_3 (by decide) ?_
      refine lv_icmp_ge (tgt := 30) hx hb d_MA_begin_6 rfl (fun h9 => absurd h9 (nI_ge (b := 256) (by omega) (by decide))) (fun _ => ?_)
      refine lv_iload_n hx hb d_MA_begin_9 rfl (lv_at hl 0 rfl) ?_
      refine lv_aload_n hx hb d_MA_begin_10 rfl (lv_at hl 2 rfl) ?_
      refine va_alen (v := 256) hx hb hK hP 2 0 rfl rfl rfl d_MA_begin_11 ?_
      refine lv_icmp_ge (tgt := 30) hx hb d_MA_begin_12 rfl (fun h9 => absurd h9 (nI_ge (b := 256) (by omega) (by decide))) (fun _ => ?_)
      refine lv_aload_n hx hb d_MA_begin_15 rfl (lv_at hl 1 rfl) ?_
      refine va_get (D := D) (ci := 3) (v := .ref mm) (C := R_FM) (T := T_FM) (N := 9) hx hb hts iw_FM hown hK hP 0 rfl rfl 0 (by decide) (hts _ k_109) (fun _ h9 => h9) rfl d_MA_begin_16 ?_
      refine lv_iload_n hx hb d_MA_begin_19 rfl (lv_at hl 0 rfl) ?_
      refine lv_aload_n hx hb d_MA_begin_20 rfl (lv_at hl 2 rfl) ?_
      refine lv_iload_n hx hb d_MA_begin_21 rfl (lv_at hl 0 rfl) ?_
      refine va_iald hx hb hK hP 2 0 rfl rfl (vp_in_nI (by omega) (by decide)) d_MA_begin_22 ?_
      refine va_iast hx hb hK hP hD hS 1 0 rfl rfl (vp_in_nI (by omega) (by decide)) d_MA_begin_23 (fun H locs hP hD hS => ?_)
      have hP : va_P D vwCl [(o, .inr (3, [.ref mm, .int a, .int x, .int sp, .int pc, .int (bI zf), .int (bI cf), .int st, .int dn])), (mm, .inl (cI, 256, .inl (upd (cpyI fs g i) (nI i).toNatClampNeg (fs (nI i).toNatClampNeg)))), (sr, .inl (cI, 256, .inl fs))] H := hP
      have hD : va_D A [(o, .inr (3, [.ref mm, .int a, .int x, .int sp, .int pc, .int (bI zf), .int (bI cf), .int st, .int dn])), (mm, .inl (cI, 256, .inl (upd (cpyI fs g i) (nI i).toNatClampNeg (fs (nI i).toNatClampNeg)))), (sr, .inl (cI, 256, .inl fs))] := hD
      refine lv_iinc (k := 0) (v := nI (i + 1)) hx hb d_MA_begin_24 hl rfl (nI_inc _) (by decide) rfl (fun ls hl => ?_)
      have hl : lv_has ls 4 [(3, .int (nI (i + 1))), (0, .ref o), (1, .ref sr), (2, .int s0)] := hl
      refine lv_goto (tgt := 2) hx hb d_MA_begin_27 rfl ?_
      rw [cpyI_step (show i < 2 ^ 31 by omega)] at hP hD
      exact ih (i + 1) (by omega) H locs ls hl hP hD hS
  exact loop 256 0 rfl H [] ls hl hP hD hS
set_option maxHeartbeats 4000000 in
set_option maxRecDepth 100000 in
theorem m_SM_begin0 (l : Launch) (D : va_G) (cI cZ : ClassId) (o : Nat) (mm : Nat) (a : Int32) (x : Int32) (sp : Int32) (pc : Int32) (zf : Bool) (cf : Bool) (st : Int32) (dn : Int32) (pr : Nat) (r2 : Int32) (kp : Bool) (sr : Nat) (g : Nat → Int32) (fs : Nat → Int32) (s0 : Int32) (sz : Nat) : MetV l y_MA_begin w_MA_begin { frames := 0, cells := 0, slots := 0, locals := 0 } D cI cZ [.ref o, .ref sr, .int s0] [(o, .inr (4, [.ref mm, .int a, .int x, .int sp, .int pc, .int (bI zf), .int (bI cf), .int st, .int dn, .ref pr, .int r2, .int (bI kp)])), (mm, .inl (cI, 256, .inl g)), (sr, .inl (cI, 256, .inl fs))] sz (fun (g1 : (Nat → Int32)) => g1 = cpyI fs g 256) (fun (g1 : (Nat → Int32)) => [(o, .inr (4, [.ref mm, .int 0, .int 0, .int 255, .int s0, .int (bI false), .int (bI false), .int 0, .int 0, .ref pr, .int r2, .int (bI kp)])), (mm, .inl (cI, 256, .inl g1)), (sr, .inl (cI, 256, .inl fs))]) 0 0 := by
  refine ofV (cc := c_MA_begin) (maxL := 4) (ret := none) (by decide) rfl (Nat.le_of_ble_eq_true rfl) ?_
  intro p e s m args below meth c A H hH0 hx hb hr hlocks hts hown hnm hml ls hl hP hK hD hA hS hN
  have hown : s.vm.findClass R_MA = some m.cls := hown
  have hl : lv_has ls 4 [(0, .ref o), (1, .ref sr), (2, .int s0)] := hl
  refine lv_iconst (v := 0) hx hb d_MA_begin_0 (by decide) ?_
  refine lv_istore_n hx hb d_MA_begin_1 rfl hl (by decide) rfl (fun ls hl => ?_)
  have hl : lv_has ls 4 [(3, .int 0), (0, .ref o), (1, .ref sr), (2, .int s0)] := hl
  rw [← cpyI_0 fs g] at hP hD
  have loop : ∀ (k : Nat) (i : Nat), (i + k = 256) → ∀ (H : Heap) (locs : List Loc) (ls : Array Slot), lv_has ls 4 [(3, .int (nI i)), (0, .ref o), (1, .ref sr), (2, .int s0)] → va_P D vwCl [(o, .inr (4, [.ref mm, .int a, .int x, .int sp, .int pc, .int (bI zf), .int (bI cf), .int st, .int dn, .ref pr, .int r2, .int (bI kp)])), (mm, .inl (cI, 256, .inl (cpyI fs g i))), (sr, .inl (cI, 256, .inl fs))] H → va_D A [(o, .inr (4, [.ref mm, .int a, .int x, .int sp, .int pc, .int (bI zf), .int (bI cf), .int st, .int dn, .ref pr, .int r2, .int (bI kp)])), (mm, .inl (cI, 256, .inl (cpyI fs g i))), (sr, .inl (cI, 256, .inl fs))] → va_S A s.heap H locs → W p l e { frames := 0, cells := 0, slots := 0, locals := 0 } s m args below meth c H locs 0 0 (MQ below (QV D cI cZ (fun (g1 : (Nat → Int32)) => g1 = cpyI fs g 256) (fun (g1 : (Nat → Int32)) => [(o, .inr (4, [.ref mm, .int 0, .int 0, .int 255, .int s0, .int (bI false), .int (bI false), .int 0, .int 0, .ref pr, .int r2, .int (bI kp)])), (mm, .inl (cI, 256, .inl g1)), (sr, .inl (cI, 256, .inl fs))]) A) args s 0 0 A) (F0 m 2 ls []) := by
    intro k
    induction k with
    | zero =>
      intro i hk H locs ls hl hP hD hS
      refine lv_iload_n hx hb d_MA_begin_2 rfl (lv_at hl 0 rfl) ?_
      refine lv_sipush (v := 256) hx hb d_MA_begin_3 (by decide) ?_
      refine lv_icmp_ge (tgt := 30) hx hb d_MA_begin_6 rfl (fun _ => ?_) (fun h9 => absurd (by rw [show i = 256 from hk]; decide) h9)
      refine lv_aload_n hx hb d_MA_begin_30 rfl (lv_at hl 1 rfl) ?_
      refine lv_iconst (v := 0) hx hb d_MA_begin_31 (by decide) ?_
      refine va_put (D := D) (ci := 4) (v := .int 0) (ty := .int) (C := R_SM) (T := T_SM) (N := 12) hx hb hts iw_SM ty_SM ty_SM_ok nm_SM hown hK hP hD hS 0 rfl rfl 1 (by decide) (hts _ k_110) (fun _ h9 => h9) rfl (by decide +kernel) rfl rfl (Nat.le_of_ble_eq_true rfl) d_MA_begin_32 (fun H locs hP hD hS => ?_)
      have hP : va_P D vwCl [(o, .inr (4, [.ref mm, .int 0, .int x, .int sp, .int pc, .int (bI zf), .int (bI cf), .int st, .int dn, .ref pr, .int r2, .int (bI kp)])), (mm, .inl (cI, 256, .inl (cpyI fs g i))), (sr, .inl (cI, 256, .inl fs))] H := hP
      have hD : va_D A [(o, .inr (4, [.ref mm, .int 0, .int x, .int sp, .int pc, .int (bI zf), .int (bI cf), .int st, .int dn, .ref pr, .int r2, .int (bI kp)])), (mm, .inl (cI, 256, .inl (cpyI fs g i))), (sr, .inl (cI, 256, .inl fs))] := hD
      refine lv_aload_n hx hb d_MA_begin_35 rfl (lv_at hl 1 rfl) ?_
      refine lv_iconst (v := 0) hx hb d_MA_begin_36 (by decide) ?_
      refine va_put (D := D) (ci := 4) (v := .int 0) (ty := .int) (C := R_SM) (T := T_SM) (N := 12) hx hb hts iw_SM ty_SM ty_SM_ok nm_SM hown hK hP hD hS 0 rfl rfl 2 (by decide) (hts _ k_115) (fun _ h9 => h9) rfl (by decide +kernel) rfl rfl (Nat.le_of_ble_eq_true rfl) d_MA_begin_37 (fun H locs hP hD hS => ?_)
      have hP : va_P D vwCl [(o, .inr (4, [.ref mm, .int 0, .int 0, .int sp, .int pc, .int (bI zf), .int (bI cf), .int st, .int dn, .ref pr, .int r2, .int (bI kp)])), (mm, .inl (cI, 256, .inl (cpyI fs g i))), (sr, .inl (cI, 256, .inl fs))] H := hP
      have hD : va_D A [(o, .inr (4, [.ref mm, .int 0, .int 0, .int sp, .int pc, .int (bI zf), .int (bI cf), .int st, .int dn, .ref pr, .int r2, .int (bI kp)])), (mm, .inl (cI, 256, .inl (cpyI fs g i))), (sr, .inl (cI, 256, .inl fs))] := hD
      refine lv_aload_n hx hb d_MA_begin_40 rfl (lv_at hl 1 rfl) ?_
      refine lv_sipush (v := 255) hx hb d_MA_begin_41 (by decide) ?_
      refine va_put (D := D) (ci := 4) (v := .int 255) (ty := .int) (C := R_SM) (T := T_SM) (N := 12) hx hb hts iw_SM ty_SM ty_SM_ok nm_SM hown hK hP hD hS 0 rfl rfl 3 (by decide) (hts _ k_120) (fun _ h9 => h9) rfl (by decide +kernel) rfl rfl (Nat.le_of_ble_eq_true rfl) d_MA_begin_44 (fun H locs hP hD hS => ?_)
      have hP : va_P D vwCl [(o, .inr (4, [.ref mm, .int 0, .int 0, .int 255, .int pc, .int (bI zf), .int (bI cf), .int st, .int dn, .ref pr, .int r2, .int (bI kp)])), (mm, .inl (cI, 256, .inl (cpyI fs g i))), (sr, .inl (cI, 256, .inl fs))] H := hP
      have hD : va_D A [(o, .inr (4, [.ref mm, .int 0, .int 0, .int 255, .int pc, .int (bI zf), .int (bI cf), .int st, .int dn, .ref pr, .int r2, .int (bI kp)])), (mm, .inl (cI, 256, .inl (cpyI fs g i))), (sr, .inl (cI, 256, .inl fs))] := hD
      refine lv_aload_n hx hb d_MA_begin_47 rfl (lv_at hl 1 rfl) ?_
      refine lv_iload_n hx hb d_MA_begin_48 rfl (lv_at hl 3 rfl) ?_
      refine va_put (D := D) (ci := 4) (v := .int s0) (ty := .int) (C := R_SM) (T := T_SM) (N := 12) hx hb hts iw_SM ty_SM ty_SM_ok nm_SM hown hK hP hD hS 0 rfl rfl 4 (by decide) (hts _ k_125) (fun _ h9 => h9) rfl (by decide +kernel) rfl rfl (Nat.le_of_ble_eq_true rfl) d_MA_begin_49 (fun H locs hP hD hS => ?_)
      have hP : va_P D vwCl [(o, .inr (4, [.ref mm, .int 0, .int 0, .int 255, .int s0, .int (bI zf), .int (bI cf), .int st, .int dn, .ref pr, .int r2, .int (bI kp)])), (mm, .inl (cI, 256, .inl (cpyI fs g i))), (sr, .inl (cI, 256, .inl fs))] H := hP
      have hD : va_D A [(o, .inr (4, [.ref mm, .int 0, .int 0, .int 255, .int s0, .int (bI zf), .int (bI cf), .int st, .int dn, .ref pr, .int r2, .int (bI kp)])), (mm, .inl (cI, 256, .inl (cpyI fs g i))), (sr, .inl (cI, 256, .inl fs))] := hD
      refine lv_aload_n hx hb d_MA_begin_52 rfl (lv_at hl 1 rfl) ?_
      refine lv_iconst (v := 0) hx hb d_MA_begin_53 (by decide) ?_
      refine va_put (D := D) (ci := 4) (v := .int (bI false)) (ty := .boolean) (C := R_SM) (T := T_SM) (N := 12) hx hb hts iw_SM ty_SM ty_SM_ok nm_SM hown hK hP hD hS 0 rfl rfl 5 (by decide) (hts _ k_128) (fun _ h9 => h9) rfl (by decide +kernel) (nb_n _) (nb_f _) (Nat.le_of_ble_eq_true rfl) d_MA_begin_54 (fun H locs hP hD hS => ?_)
      have hP : va_P D vwCl [(o, .inr (4, [.ref mm, .int 0, .int 0, .int 255, .int s0, .int (bI false), .int (bI cf), .int st, .int dn, .ref pr, .int r2, .int (bI kp)])), (mm, .inl (cI, 256, .inl (cpyI fs g i))), (sr, .inl (cI, 256, .inl fs))] H := hP
      have hD : va_D A [(o, .inr (4, [.ref mm, .int 0, .int 0, .int 255, .int s0, .int (bI false), .int (bI cf), .int st, .int dn, .ref pr, .int r2, .int (bI kp)])), (mm, .inl (cI, 256, .inl (cpyI fs g i))), (sr, .inl (cI, 256, .inl fs))] := hD
      refine lv_aload_n hx hb d_MA_begin_57 rfl (lv_at hl 1 rfl) ?_
      refine lv_iconst (v := 0) hx hb d_MA_begin_58 (by decide) ?_
      refine va_put (D := D) (ci := 4) (v := .int (bI false)) (ty := .boolean) (C := R_SM) (T := T_SM) (N := 12) hx hb hts iw_SM ty_SM ty_SM_ok nm_SM hown hK hP hD hS 0 rfl rfl 6 (by decide) (hts _ k_133) (fun _ h9 => h9) rfl (by decide +kernel) (nb_n _) (nb_f _) (Nat.le_of_ble_eq_true rfl) d_MA_begin_59 (fun H locs hP hD hS => ?_)
      have hP : va_P D vwCl [(o, .inr (4, [.ref mm, .int 0, .int 0, .int 255, .int s0, .int (bI false), .int (bI false), .int st, .int dn, .ref pr, .int r2, .int (bI kp)])), (mm, .inl (cI, 256, .inl (cpyI fs g i))), (sr, .inl (cI, 256, .inl fs))] H := hP
      have hD : va_D A [(o, .inr (4, [.ref mm, .int 0, .int 0, .int 255, .int s0, .int (bI false), .int (bI false), .int st, .int dn, .ref pr, .int r2, .int (bI kp)])), (mm, .inl (cI, 256, .inl (cpyI fs g i))), (sr, .inl (cI, 256, .inl fs))] := hD
      refine lv_aload_n hx hb d_MA_begin_62 rfl (lv_at hl 1 rfl) ?_
      refine lv_iconst (v := 0) hx hb d_MA_begin_63 (by decide) ?_
      refine va_put (D := D) (ci := 4) (v := .int 0) (ty := .int) (C := R_SM) (T := T_SM) (N := 12) hx hb hts iw_SM ty_SM ty_SM_ok nm_SM hown hK hP hD hS 0 rfl rfl 7 (by decide) (hts _ k_142) (fun _ h9 => h9) rfl (by decide +kernel) rfl rfl (Nat.le_of_ble_eq_true rfl) d_MA_begin_64 (fun H locs hP hD hS => ?_)
      have hP : va_P D vwCl [(o, .inr (4, [.ref mm, .int 0, .int 0, .int 255, .int s0, .int (bI false), .int (bI false), .int 0, .int dn, .ref pr, .int r2, .int (bI kp)])), (mm, .inl (cI, 256, .inl (cpyI fs g i))), (sr, .inl (cI, 256, .inl fs))] H := hP
      have hD : va_D A [(o, .inr (4, [.ref mm, .int 0, .int 0, .int 255, .int s0, .int (bI false), .int (bI false), .int 0, .int dn, .ref pr, .int r2, .int (bI kp)])), (mm, .inl (cI, 256, .inl (cpyI fs g i))), (sr, .inl (cI, 256, .inl fs))] := hD
      refine lv_aload_n hx hb d_MA_begin_67 rfl (lv_at hl 1 rfl) ?_
      refine lv_iconst (v := 0) hx hb d_MA_begin_68 (by decide) ?_
      refine va_put (D := D) (ci := 4) (v := .int 0) (ty := .int) (C := R_SM) (T := T_SM) (N := 12) hx hb hts iw_SM ty_SM ty_SM_ok nm_SM hown hK hP hD hS 0 rfl rfl 8 (by decide) (hts _ k_143) (fun _ h9 => h9) rfl (by decide +kernel) rfl rfl (Nat.le_of_ble_eq_true rfl) d_MA_begin_69 (fun H locs hP hD hS => ?_)
      have hP : va_P D vwCl [(o, .inr (4, [.ref mm, .int 0, .int 0, .int 255, .int s0, .int (bI false), .int (bI false), .int 0, .int 0, .ref pr, .int r2, .int (bI kp)])), (mm, .inl (cI, 256, .inl (cpyI fs g i))), (sr, .inl (cI, 256, .inl fs))] H := hP
      have hD : va_D A [(o, .inr (4, [.ref mm, .int 0, .int 0, .int 255, .int s0, .int (bI false), .int (bI false), .int 0, .int 0, .ref pr, .int r2, .int (bI kp)])), (mm, .inl (cI, 256, .inl (cpyI fs g i))), (sr, .inl (cI, 256, .inl fs))] := hD
      have hP9 : va_P D vwCl [(o, .inr (4, [.ref mm, .int 0, .int 0, .int 255, .int s0, .int (bI false), .int (bI false), .int 0, .int 0, .ref pr, .int r2, .int (bI kp)])), (mm, .inl (cI, 256, .inl (cpyI fs g i))), (sr, .inl (cI, 256, .inl fs))] H := hP.sub [0, 1, 2] rfl
      have hD9 : va_D A [(o, .inr (4, [.ref mm, .int 0, .int 0, .int 255, .int s0, .int (bI false), .int (bI false), .int 0, .int 0, .ref pr, .int r2, .int (bI kp)])), (mm, .inl (cI, 256, .inl (cpyI fs g i))), (sr, .inl (cI, 256, .inl fs))] := hD.sub [0, 1, 2] (by decide) rfl
      exact W.vret hx hb hr (fun t ht hW => ⟨⟨(cpyI fs g i), rfl, by rw [show i = 256 from hk], by rw [ht]; exact hP9, va_K.moved hW.alike hK, hD9⟩, hS.F ht⟩) hS.2.2 d_MA_begin_72
    | succ k ih =>
      intro i hk H locs ls hl hP hD hS
      refine lv_iload_n hx hb d_MA_begin_2 rfl (lv_at hl 0 rfl) ?_
      refine lv_sipush (v := 256) hx hb d_MA_begin_3 (by decide) ?_
      refine lv_icmp_ge (tgt := 30) hx hb d_MA_begin_6 rfl (fun h9 => absurd h9 (nI_ge (b := 256) (by omega) (by decide))) (fun _ => ?_)
      refine lv_iload_n hx hb d_MA_begin_9 rfl (lv_at hl 0 rfl) ?_
      refine lv_aload_n hx hb d_MA_begin_10 rfl (lv_at hl 2 rfl) ?_
      refine va_alen (v := 256) hx hb hK hP 2 0 rfl rfl rfl d_MA_begin_11 ?_
      refine lv_icmp_ge (tgt := 30) hx hb d_MA_begin_12 rfl (fun h9 => absurd h9 (nI_ge (b := 256) (by omega) (by decide))) (fun _ => ?_)
      refine lv_aload_n hx hb d_MA_begin_15 rfl (lv_at hl 1 rfl) ?_
      refine va_get (D := D) (ci := 4) (v := .ref mm) (C := R_SM) (T := T_SM) (N := 12) hx hb hts iw_SM hown hK hP 0 rfl rfl 0 (by decide) (hts _ k_109) (fun _ h9 => h9) rfl d_MA_begin_16 ?_
      refine lv_iload_n hx hb d_MA_begin_19 rfl (lv_at hl 0 rfl) ?_
      refine lv_aload_n hx hb d_MA_begin_20 rfl (lv_at hl 2 rfl) ?_
      refine lv_iload_n hx hb d_MA_begin_21 rfl (lv_at hl 0 rfl) ?_
      refine va_iald hx hb hK hP 2 0 rfl rfl (vp_in_nI (by omega) (by decide)) d_MA_begin_22 ?_
      refine va_iast hx hb hK hP hD hS 1 0 rfl rfl (vp_in_nI (by omega) (by decide)) d_MA_begin_23 (fun H locs hP hD hS => ?_)
      have hP : va_P D vwCl [(o, .inr (4, [.ref mm, .int a, .int x, .int sp, .int pc, .int (bI zf), .int (bI cf), .int st, .int dn, .ref pr, .int r2, .int (bI kp)])), (mm, .inl (cI, 256, .inl (upd (cpyI fs g i) (nI i).toNatClampNeg (fs (nI i).toNatClampNeg)))), (sr, .inl (cI, 256, .inl fs))] H := hP
      have hD : va_D A [(o, .inr (4, [.ref mm, .int a, .int x, .int sp, .int pc, .int (bI zf), .int (bI cf), .int st, .int dn, .ref pr, .int r2, .int (bI kp)])), (mm, .inl (cI, 256, .inl (upd (cpyI fs g i) (nI i).toNatClampNeg (fs (nI i).toNatClampNeg)))), (sr, .inl (cI, 256, .inl fs))] := hD
      refine lv_iinc (k := 0) (v := nI (i + 1)) hx hb d_MA_begin_24 hl rfl (nI_inc _) (by decide) rfl (fun ls hl => ?_)
      have hl : lv_has ls 4 [(3, .int (nI (i + 1))), (0, .ref o), (1, .ref sr), (2, .int s0)] := hl
      refine lv_goto (tgt := 2) hx hb d_MA_begin_27 rfl ?_
      rw [cpyI_step (show i < 2 ^ 31 by omega)] at hP hD
      exact ih (i + 1) (by omega) H locs ls hl hP hD hS
  exact loop 256 0 rfl H [] ls hl hP hD hS
set_option maxHeartbeats 4000000 in
set_option maxRecDepth 100000 in
theorem m_SM_begin (l : Launch) (D : va_G) (cI cZ : ClassId) (o : Nat) (mm : Nat) (a : Int32) (x : Int32) (sp : Int32) (pc : Int32) (zf : Bool) (cf : Bool) (st : Int32) (dn : Int32) (pr : Nat) (r2 : Int32) (kp : Bool) (sr : Nat) (g : Nat → Int32) (fs : Nat → Int32) (s0 : Int32) (sz : Nat) : MetV l y_SM_begin w_SM_begin { frames := 1, cells := 0, slots := 0, locals := 23 } D cI cZ [.ref o, .ref sr, .int s0] [(o, .inr (4, [.ref mm, .int a, .int x, .int sp, .int pc, .int (bI zf), .int (bI cf), .int st, .int dn, .ref pr, .int r2, .int (bI kp)])), (mm, .inl (cI, 256, .inl g)), (sr, .inl (cI, 256, .inl fs))] sz (fun (g1 : (Nat → Int32)) => g1 = cpyI fs g 256) (fun (g1 : (Nat → Int32)) => [(o, .inr (4, [.ref mm, .int 0, .int 0, .int 255, .int s0, .int (bI false), .int (bI false), .int 0, .int 0, .ref pr, .int 0, .int (bI false)])), (mm, .inl (cI, 256, .inl g1)), (sr, .inl (cI, 256, .inl fs))]) 0 0 := by
  refine ofV (cc := c_SM_begin) (maxL := 3) (ret := none) (by decide) rfl (Nat.le_of_ble_eq_true rfl) ?_
  intro p e s m args below meth c A H hH0 hx hb hr hlocks hts hown hnm hml ls hl hP hK hD hA hS hN
  have hown : s.vm.findClass R_SM = some m.cls := hown
  have hl : lv_has ls 3 [(0, .ref o), (1, .ref sr), (2, .int s0)] := hl
  refine lv_aload_n hx hb d_SM_begin_0 rfl (lv_at hl 0 rfl) ?_
  refine lv_aload_n hx hb d_SM_begin_1 rfl (lv_at hl 1 rfl) ?_
  refine lv_iload_n hx hb d_SM_begin_2 rfl (lv_at hl 2 rfl) ?_
  have hPc := hP.sub (ws' := [(o, .inr (4, [.ref mm, .int a, .int x, .int sp, .int pc, .int (bI zf), .int (bI cf), .int st, .int dn, .ref pr, .int r2, .int (bI kp)])), (mm, .inl (cI, 256, .inl g)), (sr, .inl (cI, 256, .inl fs))]) [0, 1, 2] rfl
  have hDc := hD.sub (ws' := [(o, .inr (4, [.ref mm, .int a, .int x, .int sp, .int pc, .int (bI zf), .int (bI cf), .int st, .int dn, .ref pr, .int r2, .int (bI kp)])), (mm, .inl (cI, 256, .inl g)), (sr, .inl (cI, 256, .inl fs))]) [0, 1, 2] (by decide) rfl
  have hFc := va_free (wc := [(o, .inr (4, [.ref mm, .int a, .int x, .int sp, .int pc, .int (bI zf), .int (bI cf), .int st, .int dn, .ref pr, .int r2, .int (bI kp)])), (mm, .inl (cI, 256, .inl g)), (sr, .inl (cI, 256, .inl fs))]) hD hS hA [0, 1, 2] rfl
  refine va_callv (va_runSU (hK.1 4 _ rfl).2 (As := [.ref sr, .int s0]) (rest := []) ⟨hx, hb, hml, hown, hts⟩ (m_SM_begin0 l D cI cZ o mm a x sp pc zf cf st dn pr r2 kp sr g fs s0 H.size) (va_cwSU 2 hts (gSU k_480 k_924 k_214 k_474 k_58 k_475) rfl rfl rfl ⟨by decide, hd_MA_begin.2.2⟩ ⟨Nat.le_of_ble_eq_true rfl, Nat.le_of_ble_eq_true rfl⟩) (PcW.preV (va_recv hK hP (q0 := 0) (ci := 4) rfl rfl) hPc hK hDc hN) rfl rfl hl.1 rfl (lv_room (Nat.le_of_ble_eq_true rfl)) d_SM_begin_3 ⟨Nat.le_of_ble_eq_true rfl, Nat.le_of_ble_eq_true rfl⟩) hS (fun q _ h => hFc q h) hFc (fun u t H1 locs ht hvm e3 hB hz1 hk1 hS => ?_)
  obtain ⟨g13, rfl⟩ : ∃ z, z = u := ⟨_, rfl⟩
  obtain ⟨hP1, hK1, hD1⟩ := hB
  rw [ht] at hP1
  obtain ⟨hP, hD⟩ := va_join (wr := []) (w1 := [(o, .inr (4, [.ref mm, .int 0, .int 0, .int 255, .int s0, .int (bI false), .int (bI false), .int 0, .int 0, .ref pr, .int r2, .int (bI kp)])), (mm, .inl (cI, 256, .inl g13)), (sr, .inl (cI, 256, .inl fs))]) hP hD [0, 1, 2] [] rfl rfl (by decide) (by decide) hk1 hFc hP1 hD1
  generalize H1 = H at hP hS ⊢
  try dsimp only at e3
  have e3_0 := e3
  replace e3_0 := e3_0.symm
  subst e3_0
  have hP : va_P D vwCl [(o, .inr (4, [.ref mm, .int 0, .int 0, .int 255, .int s0, .int (bI false), .int (bI false), .int 0, .int 0, .ref pr, .int r2, .int (bI kp)])), (mm, .inl (cI, 256, .inl (cpyI fs g 256))), (sr, .inl (cI, 256, .inl fs))] H := hP
  have hD : va_D A [(o, .inr (4, [.ref mm, .int 0, .int 0, .int 255, .int s0, .int (bI false), .int (bI false), .int 0, .int 0, .ref pr, .int r2, .int (bI kp)])), (mm, .inl (cI, 256, .inl (cpyI fs g 256))), (sr, .inl (cI, 256, .inl fs))] := hD
  refine lv_aload_n hx hb d_SM_begin_6 rfl (lv_at hl 0 rfl) ?_
  refine lv_iconst (v := 0) hx hb d_SM_begin_7 (by decide) ?_
  refine va_put (D := D) (ci := 4) (v := .int 0) (ty := .int) (C := R_SM) (T := T_SM) (N := 12) hx hb hts iw_SM ty_SM ty_SM_ok nm_SM hown hK hP hD hS 0 rfl rfl 10 (by decide) (hts _ k_197) (fun _ h9 => h9) rfl (by decide +kernel) rfl rfl (Nat.le_of_ble_eq_true rfl) d_SM_begin_8 (fun H locs hP hD hS => ?_)
  have hP : va_P D vwCl [(o, .inr (4, [.ref mm, .int 0, .int 0, .int 255, .int s0, .int (bI false), .int (bI false), .int 0, .int 0, .ref pr, .int 0, .int (bI kp)])), (mm, .inl (cI, 256, .inl (cpyI fs g 256))), (sr, .inl (cI, 256, .inl fs))] H := hP
  have hD : va_D A [(o, .inr (4, [.ref mm, .int 0, .int 0, .int 255, .int s0, .int (bI false), .int (bI false), .int 0, .int 0, .ref pr, .int 0, .int (bI kp)])), (mm, .inl (cI, 256, .inl (cpyI fs g 256))), (sr, .inl (cI, 256, .inl fs))] := hD
  refine lv_aload_n hx hb d_SM_begin_11 rfl (lv_at hl 0 rfl) ?_
  refine lv_iconst (v := 0) hx hb d_SM_begin_12 (by decide) ?_
  refine va_put (D := D) (ci := 4) (v := .int (bI false)) (ty := .boolean) (C := R_SM) (T := T_SM) (N := 12) hx hb hts iw_SM ty_SM ty_SM_ok nm_SM hown hK hP hD hS 0 rfl rfl 11 (by decide) (hts _ k_198) (fun _ h9 => h9) rfl (by decide +kernel) (nb_n _) (nb_f _) (Nat.le_of_ble_eq_true rfl) d_SM_begin_13 (fun H locs hP hD hS => ?_)
  have hP : va_P D vwCl [(o, .inr (4, [.ref mm, .int 0, .int 0, .int 255, .int s0, .int (bI false), .int (bI false), .int 0, .int 0, .ref pr, .int 0, .int (bI false)])), (mm, .inl (cI, 256, .inl (cpyI fs g 256))), (sr, .inl (cI, 256, .inl fs))] H := hP
  have hD : va_D A [(o, .inr (4, [.ref mm, .int 0, .int 0, .int 255, .int s0, .int (bI false), .int (bI false), .int 0, .int 0, .ref pr, .int 0, .int (bI false)])), (mm, .inl (cI, 256, .inl (cpyI fs g 256))), (sr, .inl (cI, 256, .inl fs))] := hD
  have hP9 : va_P D vwCl [(o, .inr (4, [.ref mm, .int 0, .int 0, .int 255, .int s0, .int (bI false), .int (bI false), .int 0, .int 0, .ref pr, .int 0, .int (bI false)])), (mm, .inl (cI, 256, .inl (cpyI fs g 256))), (sr, .inl (cI, 256, .inl fs))] H := hP.sub [0, 1, 2] rfl
  have hD9 : va_D A [(o, .inr (4, [.ref mm, .int 0, .int 0, .int 255, .int s0, .int (bI false), .int (bI false), .int 0, .int 0, .ref pr, .int 0, .int (bI false)])), (mm, .inl (cI, 256, .inl (cpyI fs g 256))), (sr, .inl (cI, 256, .inl fs))] := hD.sub [0, 1, 2] (by decide) rfl
  exact W.vret hx hb hr (fun t ht hW => ⟨⟨(cpyI fs g 256), rfl, rfl, by rw [ht]; exact hP9, va_K.moved hW.alike hK, hD9⟩, hS.F ht⟩) hS.2.2 d_SM_begin_16
