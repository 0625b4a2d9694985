set_option maxHeartbeats 4000000 in
set_option maxRecDepth 100000 in
theorem n_FM_MA (l : Launch) (D : va_G) (cI cZ : ClassId) (o : Nat) (sz : Nat) : MetV l y_MA_init w_MA_init { frames := 1, cells := 1, slots := 256, locals := 12 } D cI cZ [.ref o] [(o, .inr (3, [.null, .int 0, .int 0, .int 0, .int 0, .int (bI false), .int (bI false), .int 0, .int 0]))] sz (fun (mm : Nat) => True) (fun (mm : Nat) => [(o, .inr (3, [.ref mm, .int 0, .int 0, .int 255, .int 0, .int (bI false), .int (bI false), .int 0, .int 0])), (mm, .inl (cI, 256, .inl (fun _ => 0)))]) 1 256 := by
  refine ofV (cc := c_MA_init) (maxL := 1) (ret := none) (by decide) rfl (Nat.le_of_ble_eq_true rfl) ?_
  intro p e s m args below meth c A H hH0 hx hb hr hlocks hts hown hnm hml ls hl hP hK hD hA hS hN
  have hown : s.vm.findClass R_MA = some m.cls := hown
  have hl : lv_has ls 1 [(0, .ref o)] := hl
  refine lv_aload_n hx hb d_MA_init_0 rfl (lv_at hl 0 rfl) ?_
  refine W.objInit hx hb hown (hts _ k_108) (hts _ k_76) (hts _ k_77) rfl (by rw [hml]; exact hl.1) rfl d_MA_init_1 (Nat.le_of_ble_eq_true rfl) (Nat.le_of_ble_eq_true rfl) ?_
  refine W.eq (g2 := F0 m 4 ls []) rfl ?_
  refine lv_aload_n hx hb d_MA_init_4 rfl (lv_at hl 0 rfl) ?_
  refine lv_sipush (v := 256) hx hb d_MA_init_5 (by decide) ?_
  refine va_newa (atype := .int) (a0 := (256, .inl (fun _ => 0))) hx hb (hts _ k_98) (ty := .int) rfl hK hP hD hS hA (fun _ => rfl) (by decide) (by decide) (by decide) (Nat.le_of_ble_eq_true rfl) (Nat.le_of_ble_eq_true rfl) d_MA_init_8 (fun q8 cN H hKn hP hD hS => ?_)
  obtain rfl := (newa_int hKn).symm
  have hP : va_P D vwCl [(o, .inr (3, [.null, .int 0, .int 0, .int 0, .int 0, .int (bI false), .int (bI false), .int 0, .int 0])), (q8, .inl (cI, 256, .inl (fun _ => 0)))] H := hP
  have hD : va_D A [(o, .inr (3, [.null, .int 0, .int 0, .int 0, .int 0, .int (bI false), .int (bI false), .int 0, .int 0])), (q8, .inl (cI, 256, .inl (fun _ => 0)))] := hD
  refine va_putF (D := D) (ci := 3) (v := .ref q8) (ty := .array .int) (C := R_FM) (T := T_FM) (N := 9) hx hb hts iw_FM ty_FM ty_FM_ok nm_FM hown hK hP hD hS 0 rfl rfl 0 (by decide) (hts _ k_109) (fun _ h9 => h9) rfl hnm rfl (by decide +kernel) rfl rfl (Nat.le_of_ble_eq_true rfl) d_MA_init_10 (fun H locs hP hD hS => ?_)
  have hP : va_P D vwCl [(o, .inr (3, [.ref q8, .int 0, .int 0, .int 0, .int 0, .int (bI false), .int (bI false), .int 0, .int 0])), (q8, .inl (cI, 256, .inl (fun _ => 0)))] H := hP
  have hD : va_D A [(o, .inr (3, [.ref q8, .int 0, .int 0, .int 0, .int 0, .int (bI false), .int (bI false), .int 0, .int 0])), (q8, .inl (cI, 256, .inl (fun _ => 0)))] := hD
  refine lv_aload_n hx hb d_MA_init_13 rfl (lv_at hl 0 rfl) ?_
  refine lv_sipush (v := 255) hx hb d_MA_init_14 (by decide) ?_
  refine va_put (D := D) (ci := 3) (v := .int 255) (ty := .int) (C := R_FM) (T := T_FM) (N := 9) hx hb hts iw_FM ty_FM ty_FM_ok nm_FM hown hK hP hD hS 0 rfl rfl 3 (by decide) (hts _ k_120) (fun _ h9 => h9) rfl (by decide +kernel) rfl rfl (Nat.le_of_ble_eq_true rfl) d_MA_init_17 (fun H locs hP hD hS => ?_)
  have hP : va_P D vwCl [(o, .inr (3, [.ref q8, .int 0, .int 0, .int 255, .int 0, .int (bI false), .int (bI false), .int 0, .int 0])), (q8, .inl (cI, 256, .inl (fun _ => 0)))] H := hP
  have hD : va_D A [(o, .inr (3, [.ref q8, .int 0, .int 0, .int 255, .int 0, .int (bI false), .int (bI false), .int 0, .int 0])), (q8, .inl (cI, 256, .inl (fun _ => 0)))] := hD
  have hP9 : va_P D vwCl [(o, .inr (3, [.ref q8, .int 0, .int 0, .int 255, .int 0, .int (bI false), .int (bI false), .int 0, .int 0])), (q8, .inl (cI, 256, .inl (fun _ => 0)))] H := hP.sub [0, 1] rfl
  have hD9 : va_D A [(o, .inr (3, [.ref q8, .int 0, .int 0, .int 255, .int 0, .int (bI false), .int (bI false), .int 0, .int 0])), (q8, .inl (cI, 256, .inl (fun _ => 0)))] := hD.sub [0, 1] (by decide) rfl
  exact W.vret hx hb hr (fun t ht hW => ⟨⟨q8, rfl, trivial, by rw [ht]; exact hP9, va_K.moved hW.alike hK, hD9⟩, hS.F ht⟩) hS.2.2 d_MA_init_20
set_option maxHeartbeats 4000000 in
set_option maxRecDepth 100000 in
theorem n_SM_MA (l : Launch) (D : va_G) (cI cZ : ClassId) (o : Nat) (sz : Nat) : MetV l y_MA_init w_MA_init { frames := 1, cells := 1, slots := 256, locals := 12 } D cI cZ [.ref o] [(o, .inr (4, [.null, .int 0, .int 0, .int 0, .int 0, .int (bI false), .int (bI false), .int 0, .int 0, .null, .int 0, .int (bI false)]))] sz (fun (mm : Nat) => True) (fun (mm : Nat) => [(o, .inr (4, [.ref mm, .int 0, .int 0, .int 255, .int 0, .int (bI false), .int (bI false), .int 0, .int 0, .null, .int 0, .int (bI false)])), (mm, .inl (cI, 256, .inl (fun _ => 0)))]) 1 256 := by
  refine ofV (cc := c_MA_init) (maxL := 1) (ret := none) (by decide) rfl (Nat.le_of_ble_eq_true rfl) ?_
  intro p e s m args below meth c A H hH0 hx hb hr hlocks hts hown hnm hml ls hl hP hK hD hA hS hN
  have hown : s.vm.findClass R_MA = some m.cls := hown
  have hl : lv_has ls 1 [(0, .ref o)] := hl
  refine lv_aload_n hx hb d_MA_init_0 rfl (lv_at hl 0 rfl) ?_
  refine W.objInit hx hb hown (hts _ k_108) (hts _ k_76) (hts _ k_77) rfl (by rw [hml]; exact hl.1) rfl d_MA_init_1 (Nat.le_of_ble_eq_true rfl) (Nat.le_of_ble_eq_true rfl) ?_
  refine W.eq (g2 := F0 m 4 ls []) rfl ?_
  refine lv_aload_n hx hb d_MA_init_4 rfl (lv_at hl 0 rfl) ?_
  refine lv_sipush (v := 256) hx hb d_MA_init_5 (by decide) ?_
  refine va_newa (atype := .int) (a0 := (256, .inl (fun _ => 0))) hx hb (hts _ k_98) (ty := .int) rfl hK hP hD hS hA (fun _ => rfl) (by decide) (by decide) (by decide) (Nat.le_of_ble_eq_true rfl) (Nat.le_of_ble_eq_true rfl) d_MA_init_8 (fun q8 cN H hKn hP hD hS => ?_)
  obtain rfl := (newa_int hKn).symm
  have hP : va_P D vwCl [(o, .inr (4, [.null, .int 0, .int 0, .int 0, .int 0, .int (bI false), .int (bI false), .int 0, .int 0, .null, .int 0, .int (bI false)])), (q8, .inl (cI, 256, .inl (fun _ => 0)))] H := hP
  have hD : va_D A [(o, .inr (4, [.null, .int 0, .int 0, .int 0, .int 0, .int (bI false), .int (bI false), .int 0, .int 0, .null, .int 0, .int (bI false)])), (q8, .inl (cI, 256, .inl (fun _ => 0)))] := hD
  refine va_putF (D := D) (ci := 4) (v := .ref q8) (ty := .array .int) (C := R_SM) (T := T_SM) (N := 12) hx hb hts iw_SM ty_SM ty_SM_ok nm_SM hown hK hP hD hS 0 rfl rfl 0 (by decide) (hts _ k_109) (fun _ h9 => h9) rfl hnm rfl (by decide +kernel) rfl rfl (Nat.le_of_ble_eq_true rfl) d_MA_init_10 (fun H locs hP hD hS => ?_)
  have hP : va_P D vwCl [(o, .inr (4, [.ref q8, .int 0, .int 0, .int 0, .int 0, .int (bI false), .int (bI false), .int 0, .int 0, .null, .int 0, .int (bI false)])), (q8, .inl (cI, 256, .inl (fun _ => 0)))] H := hP
  have hD : va_D A [(o, .inr (4, [.ref q8, .int 0, .int 0, .int 0, .int 0, .int (bI false), .int (bI false), .int 0, .int 0, .null, .int 0, .int (bI false)])), (q8, .inl (cI, 256, .inl (fun _ => 0)))] := hD
  refine lv_aload_n hx hb d_MA_init_13 rfl (lv_at hl 0 rfl) ?_
  refine lv_sipush (v := 255) hx hb d_MA_init_14 (by decide) ?_
  refine va_put (D := D) (ci := 4) (v := .int 255) (ty := .int) (C := R_SM) (T := T_SM) (N := 12) hx hb hts iw_SM ty_SM ty_SM_ok nm_SM hown hK hP hD hS 0 rfl rfl 3 (by decide) (hts _ k_120) (fun _ h9 => h9) rfl (by decide +kernel) rfl rfl (Nat.le_of_ble_eq_true rfl) d_MA_init_17 (fun H locs hP hD hS => ?_)
  have hP : va_P D vwCl [(o, .inr (4, [.ref q8, .int 0, .int 0, .int 255, .int 0, .int (bI false), .int (bI false), .int 0, .int 0, .null, .int 0, .int (bI false)])), (q8, .inl (cI, 256, .inl (fun _ => 0)))] H := hP
  have hD : va_D A [(o, .inr (4, [.ref q8, .int 0, .int 0, .int 255, .int 0, .int (bI false), .int (bI false), .int 0, .int 0, .null, .int 0, .int (bI false)])), (q8, .inl (cI, 256, .inl (fun _ => 0)))] := hD
  have hP9 : va_P D vwCl [(o, .inr (4, [.ref q8, .int 0, .int 0, .int 255, .int 0, .int (bI false), .int (bI false), .int 0, .int 0, .null, .int 0, .int (bI false)])), (q8, .inl (cI, 256, .inl (fun _ => 0)))] H := hP.sub [0, 1] rfl
  have hD9 : va_D A [(o, .inr (4, [.ref q8, .int 0, .int 0, .int 255, .int 0, .int (bI false), .int (bI false), .int 0, .int 0, .null, .int 0, .int (bI false)])), (q8, .inl (cI, 256, .inl (fun _ => 0)))] := hD.sub [0, 1] (by decide) rfl
  exact W.vret hx hb hr (fun t ht hW => ⟨⟨q8, rfl, trivial, by rw [ht]; exact hP9, va_K.moved hW.alike hK, hD9⟩, hS.F ht⟩) hS.2.2 d_MA_init_20
set_option maxHeartbeats 4000000 in
set_option maxRecDepth 100000 in
theorem n_FM (l : Launch) (D : va_G) (cI cZ : ClassId) (o : Nat) (sz : Nat) : MetV l y_FM_init w_FM_init { frames := 2, cells := 1, slots := 256, locals := 32 } D cI cZ [.ref o] [(o, .inr (3, [.null, .int 0, .int 0, .int 0, .int 0, .int (bI false), .int (bI false), .int 0, .int 0]))] sz (fun (mm : Nat) => True) (fun (mm : Nat) => [(o, .inr (3, [.ref mm, .int 0, .int 0, .int 255, .int 0, .int (bI false), .int (bI false), .int 0, .int 0])), (mm, .inl (cI, 256, .inl (fun _ => 0)))]) 1 256 := by
  refine ofV (cc := c_FM_init) (maxL := 1) (ret := none) (by decide) rfl (Nat.le_of_ble_eq_true rfl) ?_
  intro p e s m args below meth c A H hH0 hx hb hr hlocks hts hown hnm hml ls hl hP hK hD hA hS hN
  have hown : s.vm.findClass R_FM = some m.cls := hown
  have hl : lv_has ls 1 [(0, .ref o)] := hl
  refine lv_aload_n hx hb d_FM_init_0 rfl (lv_at hl 0 rfl) ?_
  have hPc := hP.sub (ws' := [(o, .inr (3, [.null, .int 0, .int 0, .int 0, .int 0, .int (bI false), .int (bI false), .int 0, .int 0]))]) [0] rfl
  have hDc := hD.sub (ws' := [(o, .inr (3, [.null, .int 0, .int 0, .int 0, .int 0, .int (bI false), .int (bI false), .int 0, .int 0]))]) [0] (by decide) rfl
  have hFc := va_free (wc := [(o, .inr (3, [.null, .int 0, .int 0, .int 0, .int 0, .int (bI false), .int (bI false), .int 0, .int 0]))]) hD hS hA [0] rfl
  refine va_callv (va_runI (As := []) (rest := []) ⟨hx, hb, hml, hown, hts⟩ (n_FM_MA l D cI cZ o H.size) ⟨cB 0 hts k_107 k_58 k_105 hd_MA_init ⟨Nat.le_of_ble_eq_true rfl, Nat.le_of_ble_eq_true rfl⟩ rfl rfl, rfl, hts _ k_106⟩ (PcW.preS hPc hK hDc hN) rfl rfl hl.1 rfl (lv_room (Nat.le_of_ble_eq_true rfl)) d_FM_init_1 ⟨Nat.le_of_ble_eq_true rfl, Nat.le_of_ble_eq_true rfl⟩) hS (fun q _ h => hFc q h) hFc (fun u t H1 locs ht hvm e1 hB hz1 hk1 hS => ?_)
  obtain ⟨mm1, rfl⟩ : ∃ z, z = u := ⟨_, rfl⟩
  obtain ⟨hP1, hK1, hD1⟩ := hB
  rw [ht] at hP1
  obtain ⟨hP, hD⟩ := va_join (wr := []) (w1 := [(o, .inr (3, [.ref mm1, .int 0, .int 0, .int 255, .int 0, .int (bI false), .int (bI false), .int 0, .int 0])), (mm1, .inl (cI, 256, .inl (fun _ => 0)))]) hP hD [0] [] rfl rfl (by decide) (by decide) hk1 hFc hP1 hD1
  generalize H1 = H at hP hS ⊢
  try dsimp only at e1
  have hP : va_P D vwCl [(o, .inr (3, [.ref mm1, .int 0, .int 0, .int 255, .int 0, .int (bI false), .int (bI false), .int 0, .int 0])), (mm1, .inl (cI, 256, .inl (fun _ => 0)))] H := hP
  have hD : va_D A [(o, .inr (3, [.ref mm1, .int 0, .int 0, .int 255, .int 0, .int (bI false), .int (bI false), .int 0, .int 0])), (mm1, .inl (cI, 256, .inl (fun _ => 0)))] := hD
  have hP9 : va_P D vwCl [(o, .inr (3, [.ref mm1, .int 0, .int 0, .int 255, .int 0, .int (bI false), .int (bI false), .int 0, .int 0])), (mm1, .inl (cI, 256, .inl (fun _ => 0)))] H := hP.sub [0, 1] rfl
  have hD9 : va_D A [(o, .inr (3, [.ref mm1, .int 0, .int 0, .int 255, .int 0, .int (bI false), .int (bI false), .int 0, .int 0])), (mm1, .inl (cI, 256, .inl (fun _ => 0)))] := hD.sub [0, 1] (by decide) rfl
  exact W.vret hx hb hr (fun t ht hW => ⟨⟨mm1, rfl, trivial, by rw [ht]; exact hP9, va_K.moved hW.alike hK, hD9⟩, hS.F ht⟩) hS.2.2 d_FM_init_4
set_option maxHeartbeats 4000000 in
set_option maxRecDepth 100000 in
theorem n_PR (l : Launch) (D : va_G) (cI cZ : ClassId) (o : Nat) (sz : Nat) : MetV l y_PR_init w_PR_init { frames := 1, cells := 5, slots := 4352, locals := 12 } D cI cZ [.ref o] [(o, .inr (2, [.null, .null, .null, .null, .null, .int 0]))] sz (fun (u : Nat × Nat × Nat × Nat × Nat × (Nat → Int32)) => match u with | (nu, xs, ys, be, wh, f1) => f1 = filI (-1) (fun _ => 0) 256) (fun (u : Nat × Nat × Nat × Nat × Nat × (Nat → Int32)) => match u with | (nu, xs, ys, be, wh, f1) => [(o, .inr (2, [.ref nu, .ref xs, .ref ys, .ref be, .ref wh, .int 0])), (nu, .inl (cI, 1024, .inl (fun _ => 0))), (xs, .inl (cI, 1024, .inl (fun _ => 0))), (ys, .inl (cI, 1024, .inl (fun _ => 0))), (be, .inl (cZ, 1024, .inl (fun _ => 0))), (wh, .inl (cI, 256, .inl f1))]) 5 4352 := by
  refine ofV (cc := c_PR_init) (maxL := 2) (ret := none) (by decide) rfl (Nat.le_of_ble_eq_true rfl) ?_
  intro p e s m args below meth c A H hH0 hx hb hr hlocks hts hown hnm hml ls hl hP hK hD hA hS hN
  have hown : s.vm.findClass R_PR = some m.cls := hown
  have hl : lv_has ls 2 [(0, .ref o)] := hl
  refine lv_aload_n hx hb d_PR_init_0 rfl (lv_at hl 0 rfl) ?_
  refine W.objInit hx hb hown (hts _ k_174) (hts _ k_76) (hts _ k_77) rfl (by rw [hml]; exact hl.1) rfl d_PR_init_1 (Nat.le_of_ble_eq_true rfl) (Nat.le_of_ble_eq_true rfl) ?_
  refine W.eq (g2 := F0 m 4 ls []) rfl ?_
  refine lv_aload_n hx hb d_PR_init_4 rfl (lv_at hl 0 rfl) ?_
  refine lv_sipush (v := 1024) hx hb d_PR_init_5 (by decide) ?_
  refine va_newa (atype := .int) (a0 := (1024, .inl (fun _ => 0))) hx hb (hts _ k_98) (ty := .int) rfl hK hP hD hS hA (fun _ => rfl) (by decide) (by decide) (by decide) (Nat.le_of_ble_eq_true rfl) (Nat.le_of_ble_eq_true rfl) d_PR_init_8 (fun q8 cN H hKn hP hD hS => ?_)
  obtain rfl := (newa_int hKn).symm
  have hP : va_P D vwCl [(o, .inr (2, [.null, .null, .null, .null, .null, .int 0])), (q8, .inl (cI, 1024, .inl (fun _ => 0)))] H := hP
  have hD : va_D A [(o, .inr (2, [.null, .null, .null, .null, .null, .int 0])), (q8, .inl (cI, 1024, .inl (fun _ => 0)))] := hD
  refine va_putF (D := D) (ci := 2) (v := .ref q8) (ty := .array .int) (C := R_PR) (T := T_PR) (N := 6) hx hb hts iw_PR ty_PR ty_PR_ok nm_PR hown hK hP hD hS 0 rfl rfl 0 (by decide) (hts _ k_175) (fun _ h9 => h9) rfl hnm rfl (by decide +kernel) rfl rfl (Nat.le_of_ble_eq_true rfl) d_PR_init_10 (fun H locs hP hD hS => ?_)
  have hP : va_P D vwCl [(o, .inr (2, [.ref q8, .null, .null, .null, .null, .int 0])), (q8, .inl (cI, 1024, .inl (fun _ => 0)))] H := hP
  have hD : va_D A [(o, .inr (2, [.ref q8, .null, .null, .null, .null, .int 0])), (q8, .inl (cI, 1024, .inl (fun _ => 0)))] := hD
  refine lv_aload_n hx hb d_PR_init_13 rfl (lv_at hl 0 rfl) ?_
  refine lv_sipush (v := 1024) hx hb d_PR_init_14 (by decide) ?_
  refine va_newa (atype := .int) (a0 := (1024, .inl (fun _ => 0))) hx hb (hts _ k_98) (ty := .int) rfl hK hP hD hS hA (fun _ => rfl) (by decide) (by decide) (by decide) (Nat.le_of_ble_eq_true rfl) (Nat.le_of_ble_eq_true rfl) d_PR_init_17 (fun q17 cN H hKn hP hD hS => ?_)
  obtain rfl := (newa_int hKn).symm
  have hP : va_P D vwCl [(o, .inr (2, [.ref q8, .null, .null, .null, .null, .int 0])), (q8, .inl (cI, 1024, .inl (fun _ => 0))), (q17, .inl (cI, 1024, .inl (fun _ => 0)))] H := hP
  have hD : va_D A [(o, .inr (2, [.ref q8, .null, .null, .null, .null, .int 0])), (q8, .inl (cI, 1024, .inl (fun _ => 0))), (q17, .inl (cI, 1024, .inl (fun _ => 0)))] := hD
  refine va_putF (D := D) (ci := 2) (v := .ref q17) (ty := .array .int) (C := R_PR) (T := T_PR) (N := 6) hx hb hts iw_PR ty_PR ty_PR_ok nm_PR hown hK hP hD hS 0 rfl rfl 1 (by decide) (hts _ k_176) (fun _ h9 => h9) rfl hnm rfl (by decide +kernel) rfl rfl (Nat.le_of_ble_eq_true rfl) d_PR_init_19 (fun H locs hP hD hS => ?_)
  have hP : va_P D vwCl [(o, .inr (2, [.ref q8, .ref q17, .null, .null, .null, .int 0])), (q8, .inl (cI, 1024, .inl (fun _ => 0))), (q17, .inl (cI, 1024, .inl (fun _ => 0)))] H := hP
  have hD : va_D A [(o, .inr (2, [.ref q8, .ref q17, .null, .null, .null, .int 0])), (q8, .inl (cI, 1024, .inl (fun _ => 0))), (q17, .inl (cI, 1024, .inl (fun _ => 0)))] := hD
  refine lv_aload_n hx hb d_PR_init_22 rfl (lv_at hl 0 rfl) ?_
  refine lv_sipush (v := 1024) hx hb d_PR_init_23 (by decide) ?_
  refine va_newa (atype := .int) (a0 := (1024, .inl (fun _ => 0))) hx hb (hts _ k_98) (ty := .int) rfl hK hP hD hS hA (fun _ => rfl) (by decide) (by decide) (by decide) (Nat.le_of_ble_eq_true rfl) (Nat.le_of_ble_eq_true rfl) d_PR_init_26 (fun q26 cN H hKn hP hD hS => ?_)
  obtain rfl := (newa_int hKn).symm
  have hP : va_P D vwCl [(o, .inr (2, [.ref q8, .ref q17, .null, .null, .null, .int 0])), (q8, .inl (cI, 1024, .inl (fun _ => 0))), (q17, .inl (cI, 1024, .inl (fun _ => 0))), (q26, .inl (cI, 1024, .inl (fun _ => 0)))] H := hP
  have hD : va_D A [(o, .inr (2, [.ref q8, .ref q17, .null, .null, .null, .int 0])), (q8, .inl (cI, 1024, .inl (fun _ => 0))), (q17, .inl (cI, 1024, .inl (fun _ => 0))), (q26, .inl (cI, 1024, .inl (fun _ => 0)))] := hD
  refine va_putF (D := D) (ci := 2) (v := .ref q26) (ty := .array .int) (C := R_PR) (T := T_PR) (N := 6) hx hb hts iw_PR ty_PR ty_PR_ok nm_PR hown hK hP hD hS 0 rfl rfl 2 (by decide) (hts _ k_177) (fun _ h9 => h9) rfl hnm rfl (by decide +kernel) rfl rfl (Nat.le_of_ble_eq_true rfl) d_PR_init_28 (fun H locs hP hD hS => ?_)
  have hP : va_P D vwCl [(o, .inr (2, [.ref q8, .ref q17, .ref q26, .null, .null, .int 0])), (q8, .inl (cI, 1024, .inl (fun _ => 0))), (q17, .inl (cI, 1024, .inl (fun _ => 0))), (q26, .inl (cI, 1024, .inl (fun _ => 0)))] H := hP
  have hD : va_D A [(o, .inr (2, [.ref q8, .ref q17, .ref q26, .null, .null, .int 0])), (q8, .inl (cI, 1024, .inl (fun _ => 0))), (q17, .inl (cI, 1024, .inl (fun _ => 0))), (q26, .inl (cI, 1024, .inl (fun _ => 0)))] := hD
  refine lv_aload_n hx hb d_PR_init_31 rfl (lv_at hl 0 rfl) ?_
  refine lv_sipush (v := 1024) hx hb d_PR_init_32 (by decide) ?_
  refine va_newa (atype := .boolean) (a0 := (1024, .inl (fun _ => 0))) hx hb (hts _ k_99) (ty := .boolean) rfl hK hP hD hS hA (fun _ => rfl) (by decide) (by decide) (by decide) (Nat.le_of_ble_eq_true rfl) (Nat.le_of_ble_eq_true rfl) d_PR_init_35 (fun q35 cN H hKn hP hD hS => ?_)
  obtain rfl := (newa_boolean hKn).symm
  have hP : va_P D vwCl [(o, .inr (2, [.ref q8, .ref q17, .ref q26, .null, .null, .int 0])), (q8, .inl (cI, 1024, .inl (fun _ => 0))), (q17, .inl (cI, 1024, .inl (fun _ => 0))), (q26, .inl (cI, 1024, .inl (fun _ => 0))), (q35, .inl (cZ, 1024, .inl (fun _ => 0)))] H := hP
  have hD : va_D A [(o, .inr (2, [.ref q8, .ref q17, .ref q26, .null, .null, .int 0])), (q8, .inl (cI, 1024, .inl (fun _ => 0))), (q17, .inl (cI, 1024, .inl (fun _ => 0))), (q26, .inl (cI, 1024, .inl (fun _ => 0))), (q35, .inl (cZ, 1024, .inl (fun _ => 0)))] := hD
  refine va_putF (D := D) (ci := 2) (v := .ref q35) (ty := .array .boolean) (C := R_PR) (T := T_PR) (N := 6) hx hb hts iw_PR ty_PR ty_PR_ok nm_PR hown hK hP hD hS 0 rfl rfl 3 (by decide) (hts _ k_178) (fun _ h9 => h9) rfl hnm rfl (by decide +kernel) rfl rfl (Nat.le_of_ble_eq_true rfl) d_PR_init_37 (fun H locs hP hD hS => ?_)
  have hP : va_P D vwCl [(o, .inr (2, [.ref q8, .ref q17, .ref q26, .ref q35, .null, .int 0])), (q8, .inl (cI, 1024, .inl (fun _ => 0))), (q17, .inl (cI, 1024, .inl (fun _ => 0))), (q26, .inl (cI, 1024, .inl (fun _ => 0))), (q35, .inl (cZ, 1024, .inl (fun _ => 0)))] H := hP
  have hD : va_D A [(o, .inr (2, [.ref q8, .ref q17, .ref q26, .ref q35, .null, .int 0])), (q8, .inl (cI, 1024, .inl (fun _ => 0))), (q17, .inl (cI, 1024, .inl (fun _ => 0))), (q26, .inl (cI, 1024, .inl (fun _ => 0))), (q35, .inl (cZ, 1024, .inl (fun _ => 0)))] := hD
  refine lv_aload_n hx hb d_PR_init_40 rfl (lv_at hl 0 rfl) ?_
  refine lv_sipush (v := 256) hx hb d_PR_init_41 (by decide) ?_
  refine va_newa (atype := .int) (a0 := (256, .inl (fun _ => 0))) hx hb (hts _ k_98) (ty := .int) rfl hK hP hD hS hA (fun _ => rfl) (by decide) (by decide) (by decide) (Nat.le_of_ble_eq_true rfl) (Nat.le_of_ble_eq_true rfl) d_PR_init_44 (fun q44 cN H hKn hP hD hS => ?_)
  obtain rfl := (newa_int hKn).symm
  have hP : va_P D vwCl [(o, .inr (2, [.ref q8, .ref q17, .ref q26, .ref q35, .null, .int 0])), (q8, .inl (cI, 1024, .inl (fun _ => 0))), (q17, .inl (cI, 1024, .inl (fun _ => 0))), (q26, .inl (cI, 1024, .inl (fun _ => 0))), (q35, .inl (cZ, 1024, .inl (fun _ => 0))), (q44, .inl (cI, 256, .inl (fun _ => 0)))] H := hP
  have hD : va_D A [(o, .inr (2, [.ref q8, .ref q17, .ref q26, .ref q35, .null, .int 0])), (q8, .inl (cI, 1024, .inl (fun _ => 0))), (q17, .inl (cI, 1024, .inl (fun _ => 0))), (q26, .inl (cI, 1024, .inl (fun _ => 0))), (q35, .inl (cZ, 1024, .inl (fun _ => 0))), (q44, .inl (cI, 256, .inl (fun _ => 0)))] := hD
  refine va_putF (D := D) (ci := 2) (v := .ref q44) (ty := .array .int) (C := R_PR) (T := T_PR) (N := 6) hx hb hts iw_PR ty_PR ty_PR_ok nm_PR hown hK hP hD hS 0 rfl rfl 4 (by decide) (hts _ k_179) (fun _ h9 => h9) rfl hnm rfl (by decide +kernel) rfl rfl (Nat.le_of_ble_eq_true rfl) d_PR_init_46 (fun H locs hP hD hS => ?_)
  have hP : va_P D vwCl [(o, .inr (2, [.ref q8, .ref q17, .ref q26, .ref q35, .ref q44, .int 0])), (q8, .inl (cI, 1024, .inl (fun _ => 0))), (q17, .inl (cI, 1024, .inl (fun _ => 0))), (q26, .inl (cI, 1024, .inl (fun _ => 0))), (q35, .inl (cZ, 1024, .inl (fun _ => 0))), (q44, .inl (cI, 256, .inl (fun _ => 0)))] H := hP
  have hD : va_D A [(o, .inr (2, [.ref q8, .ref q17, .ref q26, .ref q35, .ref q44, .int 0])), (q8, .inl (cI, 1024, .inl (fun _ => 0))), (q17, .inl (cI, 1024, .inl (fun _ => 0))), (q26, .inl (cI, 1024, .inl (fun _ => 0))), (q35, .inl (cZ, 1024, .inl (fun _ => 0))), (q44, .inl (cI, 256, .inl (fun _ => 0)))] := hD
  refine lv_iconst (v := 0) hx hb d_PR_init_49 (by decide) ?_
  refine lv_istore_n hx hb d_PR_init_50 rfl hl (by decide) rfl (fun ls hl => ?_)
  have hl : lv_has ls 2 [(1, .int 0), (0, .ref o)] := hl
  have hP : va_P D vwCl [(o, .inr (2, [.ref q8, .ref q17, .ref q26, .ref q35, .ref q44, .int 0])), (q8, .inl (cI, 1024, .inl (fun _ => 0))), (q17, .inl (cI, 1024, .inl (fun _ => 0))), (q26, .inl (cI, 1024, .inl (fun _ => 0))), (q35, .inl (cZ, 1024, .inl (fun _ => 0))), (q44, .inl (cI, 256, .inl (filI (-1) (fun _ => 0) 0)))] H := by rw [filI_0]; exact hP
  have hD : va_D A [(o, .inr (2, [.ref q8, .ref q17, .ref q26, .ref q35, .ref q44, .int 0])), (q8, .inl (cI, 1024, .inl (fun _ => 0))), (q17, .inl (cI, 1024, .inl (fun _ => 0))), (q26, .inl (cI, 1024, .inl (fun _ => 0))), (q35, .inl (cZ, 1024, .inl (fun _ => 0))), (q44, .inl (cI, 256, .inl (filI (-1) (fun _ => 0) 0)))] := by rw [filI_0]; exact hD
  have loop : ∀ (k : Nat) (i : Nat), (i + k = 256) → ∀ (H : Heap) (locs : List Loc) (ls : Array Slot), lv_has ls 2 [(1, .int (nI i)), (0, .ref o)] → va_P D vwCl [(o, .inr (2, [.ref q8, .ref q17, .ref q26, .ref q35, .ref q44, .int 0])), (q8, .inl (cI, 1024, .inl (fun _ => 0))), (q17, .inl (cI, 1024, .inl (fun _ => 0))), (q26, .inl (cI, 1024, .inl (fun _ => 0))), (q35, .inl (cZ, 1024, .inl (fun _ => 0))), (q44, .inl (cI, 256, .inl (filI (-1) (fun _ => 0) i)))] H → va_D A [(o, .inr (2, [.ref q8, .ref q17, .ref q26, .ref q35, .ref q44, .int 0])), (q8, .inl (cI, 1024, .inl (fun _ => 0))), (q17, .inl (cI, 1024, .inl (fun _ => 0))), (q26, .inl (cI, 1024, .inl (fun _ => 0))), (q35, .inl (cZ, 1024, .inl (fun _ => 0))), (q44, .inl (cI, 256, .inl (filI (-1) (fun _ => 0) i)))] → va_S A s.heap H locs → W p l e { frames := 1, cells := 5, slots := 4352, locals := 12 } s m args below meth c H locs 5 4352 (MQ below (QV D cI cZ (fun (u : Nat × Nat × Nat × Nat × Nat × (Nat → Int32)) => match u with | (nu, xs, ys, be, wh, f1) => f1 = filI (-1) (fun _ => 0) 256) (fun (u : Nat × Nat × Nat × Nat × Nat × (Nat → Int32)) => match u with | (nu, xs, ys, be, wh, f1) => [(o, .inr (2, [.ref nu, .ref xs, .ref ys, .ref be, .ref wh, .int 0])), (nu, .inl (cI, 1024, .inl (fun _ => 0))), (xs, .inl (cI, 1024, .inl (fun _ => 0))), (ys, .inl (cI, 1024, .inl (fun _ => 0))), (be, .inl (cZ, 1024, .inl (fun _ => 0))), (wh, .inl (cI, 256, .inl f1))]) A) args s 5 4352 A) (F0 m 51 ls []) := by
    intro k
    induction k with
    | zero =>
      intro i hk H locs ls hl hP hD hS
      refine lv_iload_n hx hb d_PR_init_51 rfl (lv_at hl 0 rfl) ?_
      refine lv_sipush (v := 256) hx hb d_PR_init_52 (by decide) ?_
      refine lv_icmp_ge (tgt := 71) hx hb d_PR_init_55 rfl (fun _ => ?_) (fun h9 => absurd (by rw [show i = 256 from hk]; decide) h9)
      have hP9 : va_P D vwCl [(o, .inr (2, [.ref q8, .ref q17, .ref q26, .ref q35, .ref q44, .int 0])), (q8, .inl (cI, 1024, .inl (fun _ => 0))), (q17, .inl (cI, 1024, .inl (fun _ => 0))), (q26, .inl (cI, 1024, .inl (fun _ => 0))), (q35, .inl (cZ, 1024, .inl (fun _ => 0))), (q44, .inl (cI, 256, .inl (filI (-1) (fun _ => 0) i)))] H := hP.sub [0, 1, 2, 3, 4, 5] rfl
      have hD9 : va_D A [(o, .inr (2, [.ref q8, .ref q17, .ref q26, .ref q35, .ref q44, .int 0])), (q8, .inl (cI, 1024, .inl (fun _ => 0))), (q17, .inl (cI, 1024, .inl (fun _ => 0))), (q26, .inl (cI, 1024, .inl (fun _ => 0))), (q35, .inl (cZ, 1024, .inl (fun _ => 0))), (q44, .inl (cI, 256, .inl (filI (-1) (fun _ => 0) i)))] := hD.sub [0, 1, 2, 3, 4, 5] (by decide) rfl
      exact W.vret hx hb hr (fun t ht hW => ⟨⟨(q8, q17, q26, q35, q44, filI (-1) (fun _ => 0) i), rfl, by rw [show i = 256 from hk], by rw [ht]; exact hP9, va_K.moved hW.alike hK, hD9⟩, hS.F ht⟩) hS.2.2 d_PR_init_71
    | succ k ih =>
      intro i hk H locs ls hl hP hD hS
      refine lv_iload_n hx hb d_PR_init_51 rfl (lv_at hl 0 rfl) ?_
      refine lv_sipush (v := 256) hx hb d_PR_init_52 (by decide) ?_
      refine lv_icmp_ge (tgt := 71) hx hb d_PR_init_55 rfl (fun h9 => absurd h9 (nI_ge (b := 256) (by omega) (by decide))) (fun _ => ?_)
      refine lv_aload_n hx hb d_PR_init_58 rfl (lv_at hl 1 rfl) ?_
      refine va_get (D := D) (ci := 2) (v := .ref q44) (C := R_PR) (T := T_PR) (N := 6) hx hb hts iw_PR hown hK hP 0 rfl rfl 4 (by decide) (hts _ k_179) (fun _ h9 => h9) rfl d_PR_init_59 ?_
      refine lv_iload_n hx hb d_PR_init_62 rfl (lv_at hl 0 rfl) ?_
      refine lv_iconst (v := (-1)) hx hb d_PR_init_63 (by decide) ?_
      refine va_iast hx hb hK hP hD hS 5 0 rfl rfl (vp_in_nI (by omega) (by decide)) d_PR_init_64 (fun H locs hP hD hS => ?_)
      have hP : va_P D vwCl [(o, .inr (2, [.ref q8, .ref q17, .ref q26, .ref q35, .ref q44, .int 0])), (q8, .inl (cI, 1024, .inl (fun _ => 0))), (q17, .inl (cI, 1024, .inl (fun _ => 0))), (q26, .inl (cI, 1024, .inl (fun _ => 0))), (q35, .inl (cZ, 1024, .inl (fun _ => 0))), (q44, .inl (cI, 256, .inl (upd (filI (-1) (fun _ => 0) i) (nI i).toNatClampNeg (-1))))] H := hP
      have hD : va_D A [(o, .inr (2, [.ref q8, .ref q17, .ref q26, .ref q35, .ref q44, .int 0])), (q8, .inl (cI, 1024, .inl (fun _ => 0))), (q17, .inl (cI, 1024, .inl (fun _ => 0))), (q26, .inl (cI, 1024, .inl (fun _ => 0))), (q35, .inl (cZ, 1024, .inl (fun _ => 0))), (q44, .inl (cI, 256, .inl (upd (filI (-1) (fun _ => 0) i) (nI i).toNatClampNeg (-1))))] := hD
      refine lv_iinc (k := 0) (v := nI (i + 1)) hx hb d_PR_init_65 hl rfl (nI_inc _) (by decide) rfl (fun ls hl => ?_)
      have hl : lv_has ls 2 [(1, .int (nI (i + 1))), (0, .ref o)] := hl
      refine lv_goto (tgt := 51) hx hb d_PR_init_68 rfl ?_
      rw [filI_step (show i < 2 ^ 31 by omega)] at hP hD
      exact ih (i + 1) (by omega) H locs ls hl hP hD hS
  exact loop 256 0 rfl H locs ls hl hP hD hS
set_option maxHeartbeats 4000000 in
set_option maxRecDepth 100000 in
theorem n_RE (l : Launch) (D : va_G) (cI cZ : ClassId) (o : Nat) (sz : Nat) : MetV l y_RE_init w_RE_init { frames := 1, cells := 3, slots := 768, locals := 12 } D cI cZ [.ref o] [(o, .inr (1, [.null, .null, .null, .int 0]))] sz (fun (u : Nat × Nat × Nat) => match u with | (sr, rc, pe) => True) (fun (u : Nat × Nat × Nat) => match u with | (sr, rc, pe) => [(o, .inr (1, [.ref sr, .ref rc, .ref pe, .int 0])), (sr, .inl (cI, 256, .inl (fun _ => 0))), (rc, .inl (cZ, 256, .inl (fun _ => 0))), (pe, .inl (cI, 256, .inl (fun _ => 0)))]) 3 768 := by
  refine ofV (cc := c_RE_init) (maxL := 1) (ret := none) (by decide) rfl (Nat.le_of_ble_eq_true rfl) ?_
  intro p e s m args below meth c A H hH0 hx hb hr hlocks hts hown hnm hml ls hl hP hK hD hA hS hN
  have hown : s.vm.findClass R_RE = some m.cls := hown
  have hl : lv_has ls 1 [(0, .ref o)] := hl
  refine lv_aload_n hx hb d_RE_init_0 rfl (lv_at hl 0 rfl) ?_
  refine W.objInit hx hb hown (hts _ k_83) (hts _ k_76) (hts _ k_77) rfl (by rw [hml]; exact hl.1) rfl d_RE_init_1 (Nat.le_of_ble_eq_true rfl) (Nat.le_of_ble_eq_true rfl) ?_
  refine W.eq (g2 := F0 m 4 ls []) rfl ?_
  refine lv_aload_n hx hb d_RE_init_4 rfl (lv_at hl 0 rfl) ?_
  refine lv_sipush (v := 256) hx hb d_RE_init_5 (by decide) ?_
  refine va_newa (atype := .int) (a0 := (256, .inl (fun _ => 0))) hx hb (hts _ k_98) (ty := .int) rfl hK hP hD hS hA (fun _ => rfl) (by decide) (by decide) (by decide) (Nat.le_of_ble_eq_true rfl) (Nat.le_of_ble_eq_true rfl) d_RE_init_8 (fun q8 cN H hKn hP hD hS => ?_)
  obtain rfl := (newa_int hKn).symm
  have hP : va_P D vwCl [(o, .inr (1, [.null, .null, .null, .int 0])), (q8, .inl (cI, 256, .inl (fun _ => 0)))] H := hP
  have hD : va_D A [(o, .inr (1, [.null, .null, .null, .int 0])), (q8, .inl (cI, 256, .inl (fun _ => 0)))] := hD
  refine va_putF (D := D) (ci := 1) (v := .ref q8) (ty := .array .int) (C := R_RE) (T := T_RE) (N := 4) hx hb hts iw_RE ty_RE ty_RE_ok nm_RE hown hK hP hD hS 0 rfl rfl 0 (by decide) (hts _ k_84) (fun _ h9 => h9) rfl hnm rfl (by decide +kernel) rfl rfl (Nat.le_of_ble_eq_true rfl) d_RE_init_10 (fun H locs hP hD hS => ?_)
  have hP : va_P D vwCl [(o, .inr (1, [.ref q8, .null, .null, .int 0])), (q8, .inl (cI, 256, .inl (fun _ => 0)))] H := hP
  have hD : va_D A [(o, .inr (1, [.ref q8, .null, .null, .int 0])), (q8, .inl (cI, 256, .inl (fun _ => 0)))] := hD
  refine lv_aload_n hx hb d_RE_init_13 rfl (lv_at hl 0 rfl) ?_
  refine lv_sipush (v := 256) hx hb d_RE_init_14 (by decide) ?_
  refine va_newa (atype := .boolean) (a0 := (256, .inl (fun _ => 0))) hx hb (hts _ k_99) (ty := .boolean) rfl hK hP hD hS hA (fun _ => rfl) (by decide) (by decide) (by decide) (Nat.le_of_ble_eq_true rfl) (Nat.le_of_ble_eq_true rfl) d_RE_init_17 (fun q17 cN H hKn hP hD hS => ?_)
  obtain rfl := (newa_boolean hKn).symm
  have hP : va_P D vwCl [(o, .inr (1, [.ref q8, .null, .null, .int 0])), (q8, .inl (cI, 256, .inl (fun _ => 0))), (q17, .inl (cZ, 256, .inl (fun _ => 0)))] H := hP
  have hD : va_D A [(o, .inr (1, [.ref q8, .null, .null, .int 0])), (q8, .inl (cI, 256, .inl (fun _ => 0))), (q17, .inl (cZ, 256, .inl (fun _ => 0)))] := hD
  refine va_putF (D := D) (ci := 1) (v := .ref q17) (ty := .array .boolean) (C := R_RE) (T := T_RE) (N := 4) hx hb hts iw_RE ty_RE ty_RE_ok nm_RE hown hK hP hD hS 0 rfl rfl 1 (by decide) (hts _ k_86) (fun _ h9 => h9) rfl hnm rfl (by decide +kernel) rfl rfl (Nat.le_of_ble_eq_true rfl) d_RE_init_19 (fun H locs hP hD hS => ?_)
  have hP : va_P D vwCl [(o, .inr (1, [.ref q8, .ref q17, .null, .int 0])), (q8, .inl (cI, 256, .inl (fun _ => 0))), (q17, .inl (cZ, 256, .inl (fun _ => 0)))] H := hP
  have hD : va_D A [(o, .inr (1, [.ref q8, .ref q17, .null, .int 0])), (q8, .inl (cI, 256, .inl (fun _ => 0))), (q17, .inl (cZ, 256, .inl (fun _ => 0)))] := hD
  refine lv_aload_n hx hb d_RE_init_22 rfl (lv_at hl 0 rfl) ?_
  refine lv_sipush (v := 256) hx hb d_RE_init_23 (by decide) ?_
  refine va_newa (atype := .int) (a0 := (256, .inl (fun _ => 0))) hx hb (hts _ k_98) (ty := .int) rfl hK hP hD hS hA (fun _ => rfl) (by decide) (by decide) (by decide) (Nat.le_of_ble_eq_true rfl) (Nat.le_of_ble_eq_true rfl) d_RE_init_26 (fun q26 cN H hKn hP hD hS => ?_)
  obtain rfl := (newa_int hKn).symm
  have hP : va_P D vwCl [(o, .inr (1, [.ref q8, .ref q17, .null, .int 0])), (q8, .inl (cI, 256, .inl (fun _ => 0))), (q17, .inl (cZ, 256, .inl (fun _ => 0))), (q26, .inl (cI, 256, .inl (fun _ => 0)))] H := hP
  have hD : va_D A [(o, .inr (1, [.ref q8, .ref q17, .null, .int 0])), (q8, .inl (cI, 256, .inl (fun _ => 0))), (q17, .inl (cZ, 256, .inl (fun _ => 0))), (q26, .inl (cI, 256, .inl (fun _ => 0)))] := hD
  refine va_putF (D := D) (ci := 1) (v := .ref q26) (ty := .array .int) (C := R_RE) (T := T_RE) (N := 4) hx hb hts iw_RE ty_RE ty_RE_ok nm_RE hown hK hP hD hS 0 rfl rfl 2 (by decide) (hts _ k_87) (fun _ h9 => h9) rfl hnm rfl (by decide +kernel) rfl rfl (Nat.le_of_ble_eq_true rfl) d_RE_init_28 (fun H locs hP hD hS => ?_)
  have hP : va_P D vwCl [(o, .inr (1, [.ref q8, .ref q17, .ref q26, .int 0])), (q8, .inl (cI, 256, .inl (fun _ => 0))), (q17, .inl (cZ, 256, .inl (fun _ => 0))), (q26, .inl (cI, 256, .inl (fun _ => 0)))] H := hP
  have hD : va_D A [(o, .inr (1, [.ref q8, .ref q17, .ref q26, .int 0])), (q8, .inl (cI, 256, .inl (fun _ => 0))), (q17, .inl (cZ, 256, .inl (fun _ => 0))), (q26, .inl (cI, 256, .inl (fun _ => 0)))] := hD
  have hP9 : va_P D vwCl [(o, .inr (1, [.ref q8, .ref q17, .ref q26, .int 0])), (q8, .inl (cI, 256, .inl (fun _ => 0))), (q17, .inl (cZ, 256, .inl (fun _ => 0))), (q26, .inl (cI, 256, .inl (fun _ => 0)))] H := hP.sub [0, 1, 2, 3] rfl
  have hD9 : va_D A [(o, .inr (1, [.ref q8, .ref q17, .ref q26, .int 0])), (q8, .inl (cI, 256, .inl (fun _ => 0))), (q17, .inl (cZ, 256, .inl (fun _ => 0))), (q26, .inl (cI, 256, .inl (fun _ => 0)))] := hD.sub [0, 1, 2, 3] (by decide) rfl
  exact W.vret hx hb hr (fun t ht hW => ⟨⟨(q8, q17, q26), rfl, trivial, by rw [ht]; exact hP9, va_K.moved hW.alike hK, hD9⟩, hS.F ht⟩) hS.2.2 d_RE_init_31
