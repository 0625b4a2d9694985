set_option maxHeartbeats 4000000 in
set_option maxRecDepth 100000 in
theorem q_push0 (l : Launch) (D : va_G) (cI cZ : ClassId) (o : Nat) (th : Int32) (im : Nat) (tr : Bool) (rc : Nat) (bg : Nat) (ro : Int32) (oa : Nat) (xa : Nat) (ya : Nat) (rg : Nat) (me : Nat) (sa : Nat) (pa : Nat) (za : Nat) (ca : Nat) (kp : Bool) (ta : Nat) (na : Nat) (g : Nat → Int32) (h : Nat → Int32) (s0 : Int32) (s1 : Int32) (v : Int32) (sz : Nat) : MetV l y_MO_push w_MO_push { frames := 1, cells := 0, slots := 0, locals := 23 } D cI cZ [.ref o, .int 0, .int v] [(o, .inr (5, [.int th, .ref im, .int (bI tr), .ref rc, .ref bg, .int ro, .ref oa, .ref xa, .ref ya, .ref rg, .ref me, .ref sa, .ref pa, .ref za, .ref ca, .int (bI kp), .ref ta, .ref na])), (me, .inl (cI, 512, .inl (mm2 g h))), (sa, .inl (cI, 2, .inl (p2 s0 s1)))] sz (fun (u : (Nat → Int32) × Int32) => match u with | (g1, s9) => g1 = wr g s0 v ∧ s9 = (s0 - 1) &&& 255) (fun (u : (Nat → Int32) × Int32) => match u with | (g1, s9) => [(o, .inr (5, [.int th, .ref im, .int (bI tr), .ref rc, .ref bg, .int ro, .ref oa, .ref xa, .ref ya, .ref rg, .ref me, .ref sa, .ref pa, .ref za, .ref ca, .int (bI kp), .ref ta, .ref na])), (me, .inl (cI, 512, .inl (mm2 g1 h))), (sa, .inl (cI, 2, .inl (p2 s9 s1)))]) 0 0 := by
  refine ofV (cc := c_MO_push) (maxL := 3) (ret := none) (by decide) rfl (Nat.le_of_ble_eq_true rfl) ?_
  intro p e s m args below meth c A H hH0 hx hb hr hlocks hts hown hnm hml ls hl hP hK hD hA hS hN
  have hown : s.vm.findClass R_MO = some m.cls := hown
  have hl : lv_has ls 3 [(0, .ref o), (1, .int 0), (2, .int v)] := hl
  refine lv_aload_n hx hb d_MO_push_0 rfl (lv_at hl 0 rfl) ?_
  refine lv_iload_n hx hb d_MO_push_1 rfl (lv_at hl 1 rfl) ?_
  refine lv_aload_n hx hb d_MO_push_2 rfl (lv_at hl 0 rfl) ?_
  refine va_get (D := D) (ci := 5) (v := .ref sa) (C := R_MO) (T := T_MO) (N := 18) hx hb hts iw_MO hown hK hP 0 rfl rfl 11 (by decide) (hts _ k_706) (fun _ h9 => h9) rfl d_MO_push_3 ?_
  refine lv_iload_n hx hb d_MO_push_6 rfl (lv_at hl 1 rfl) ?_
  refine va_iald hx hb hK hP 2 0 rfl rfl (vp_in_nI (n := 0) (by decide) (by decide)) d_MO_push_7 ?_
  refine lv_iload_n hx hb d_MO_push_8 rfl (lv_at hl 2 rfl) ?_
  have hPc := hP.sub (ws' := [(o, .inr (5, [.int th, .ref im, .int (bI tr), .ref rc, .ref bg, .int ro, .ref oa, .ref xa, .ref ya, .ref rg, .ref me, .ref sa, .ref pa, .ref za, .ref ca, .int (bI kp), .ref ta, .ref na])), (me, .inl (cI, 512, .inl (mm2 g h)))]) [0, 1] rfl
  have hDc := hD.sub (ws' := [(o, .inr (5, [.int th, .ref im, .int (bI tr), .ref rc, .ref bg, .int ro, .ref oa, .ref xa, .ref ya, .ref rg, .ref me, .ref sa, .ref pa, .ref za, .ref ca, .int (bI kp), .ref ta, .ref na])), (me, .inl (cI, 512, .inl (mm2 g h)))]) [0, 1] (by decide) rfl
  have hFc := va_free (wc := [(o, .inr (5, [.int th, .ref im, .int (bI tr), .ref rc, .ref bg, .int ro, .ref oa, .ref xa, .ref ya, .ref rg, .ref me, .ref sa, .ref pa, .ref za, .ref ca, .int (bI kp), .ref ta, .ref na])), (me, .inl (cI, 512, .inl (mm2 g h)))]) hD hS hA [0, 1] rfl
  refine va_callv (va_runV (As := [.int 0, .int s0, .int v]) (rest := []) ⟨hx, hb, hml, hown, hts⟩ (q_put0 l D cI cZ o th im tr rc bg ro oa xa ya rg me sa pa za ca kp ta na g h s0 v H.size) ⟨cB 3 hts k_837 k_62 k_834 hd_MO_put ⟨Nat.le_of_ble_eq_true rfl, Nat.le_of_ble_eq_true rfl⟩ rfl rfl, hts _ k_836, hts _ k_40⟩ (PcW.preV (va_recv hK hP (q0 := 0) (ci := 5) rfl rfl) hPc hK hDc hN) rfl rfl hl.1 rfl (lv_room (Nat.le_of_ble_eq_true rfl)) d_MO_push_9 ⟨Nat.le_of_ble_eq_true rfl, Nat.le_of_ble_eq_true rfl⟩) hS (fun q _ h => hFc q h) hFc (fun u t H1 locs ht hvm e9 hB hz1 hk1 hS => ?_)
  obtain ⟨f19, rfl⟩ : ∃ z, z = u := ⟨_, rfl⟩
  obtain ⟨hP1, hK1, hD1⟩ := hB
  rw [ht] at hP1
  obtain ⟨hP, hD⟩ := va_join (wr := [(sa, .inl (cI, 2, .inl (p2 s0 s1)))]) (w1 := [(o, .inr (5, [.int th, .ref im, .int (bI tr), .ref rc, .ref bg, .int ro, .ref oa, .ref xa, .ref ya, .ref rg, .ref me, .ref sa, .ref pa, .ref za, .ref ca, .int (bI kp), .ref ta, .ref na])), (me, .inl (cI, 512, .inl f19))]) hP hD [0, 1] [2] rfl rfl (by decide) (by decide) hk1 hFc hP1 hD1
  generalize H1 = H at hP hS ⊢
  try dsimp only at e9
  have e9_0 := e9
  replace e9_0 := e9_0.symm
  subst e9_0
  have hP : va_P D vwCl [(sa, .inl (cI, 2, .inl (p2 s0 s1))), (o, .inr (5, [.int th, .ref im, .int (bI tr), .ref rc, .ref bg, .int ro, .ref oa, .ref xa, .ref ya, .ref rg, .ref me, .ref sa, .ref pa, .ref za, .ref ca, .int (bI kp), .ref ta, .ref na])), (me, .inl (cI, 512, .inl (mm2 (wr g s0 v) h)))] H := hP
  have hD : va_D A [(sa, .inl (cI, 2, .inl (p2 s0 s1))), (o, .inr (5, [.int th, .ref im, .int (bI tr), .ref rc, .ref bg, .int ro, .ref oa, .ref xa, .ref ya, .ref rg, .ref me, .ref sa, .ref pa, .ref za, .ref ca, .int (bI kp), .ref ta, .ref na])), (me, .inl (cI, 512, .inl (mm2 (wr g s0 v) h)))] := hD
  refine lv_aload_n hx hb d_MO_push_12 rfl (lv_at hl 0 rfl) ?_
  refine va_get (D := D) (ci := 5) (v := .ref sa) (C := R_MO) (T := T_MO) (N := 18) hx hb hts iw_MO hown hK hP 1 rfl rfl 11 (by decide) (hts _ k_706) (fun _ h9 => h9) rfl d_MO_push_13 ?_
  refine lv_iload_n hx hb d_MO_push_16 rfl (lv_at hl 1 rfl) ?_
  refine lv_aload_n hx hb d_MO_push_17 rfl (lv_at hl 0 rfl) ?_
  refine va_get (D := D) (ci := 5) (v := .ref sa) (C := R_MO) (T := T_MO) (N := 18) hx hb hts iw_MO hown hK hP 1 rfl rfl 11 (by decide) (hts _ k_706) (fun _ h9 => h9) rfl d_MO_push_18 ?_
  refine lv_iload_n hx hb d_MO_push_21 rfl (lv_at hl 1 rfl) ?_
  refine va_iald hx hb hK hP 0 0 rfl rfl (vp_in_nI (n := 0) (by decide) (by decide)) d_MO_push_22 ?_
  refine lv_iconst (v := 1) hx hb d_MO_push_23 (by decide) ?_
  refine lv_isub hx hb d_MO_push_24 ?_
  refine lv_sipush (v := 255) hx hb d_MO_push_25 (by decide) ?_
  refine lv_iand hx hb d_MO_push_28 ?_
  refine va_iast hx hb hK hP hD hS 0 0 rfl rfl (vp_in_nI (n := 0) (by decide) (by decide)) d_MO_push_29 (fun H locs hP hD hS => ?_)
  have hP : va_P D vwCl [(sa, .inl (cI, 2, .inl (upd (p2 s0 s1) 0 ((s0 - 1) &&& 255)))), (o, .inr (5, [.int th, .ref im, .int (bI tr), .ref rc, .ref bg, .int ro, .ref oa, .ref xa, .ref ya, .ref rg, .ref me, .ref sa, .ref pa, .ref za, .ref ca, .int (bI kp), .ref ta, .ref na])), (me, .inl (cI, 512, .inl (mm2 (wr g s0 v) h)))] H := hP
  have hD : va_D A [(sa, .inl (cI, 2, .inl (upd (p2 s0 s1) 0 ((s0 - 1) &&& 255)))), (o, .inr (5, [.int th, .ref im, .int (bI tr), .ref rc, .ref bg, .int ro, .ref oa, .ref xa, .ref ya, .ref rg, .ref me, .ref sa, .ref pa, .ref za, .ref ca, .int (bI kp), .ref ta, .ref na])), (me, .inl (cI, 512, .inl (mm2 (wr g s0 v) h)))] := hD
  rw [show upd (p2 s0 s1) 0 ((s0 - 1) &&& 255) = p2 ((s0 - 1) &&& 255) s1 from p2_0] at hP hD
  have hP : va_P D vwCl [(sa, .inl (cI, 2, .inl (p2 ((s0 - 1) &&& 255) s1))), (o, .inr (5, [.int th, .ref im, .int (bI tr), .ref rc, .ref bg, .int ro, .ref oa, .ref xa, .ref ya, .ref rg, .ref me, .ref sa, .ref pa, .ref za, .ref ca, .int (bI kp), .ref ta, .ref na])), (me, .inl (cI, 512, .inl (mm2 (wr g s0 v) h)))] H := hP
  have hD : va_D A [(sa, .inl (cI, 2, .inl (p2 ((s0 - 1) &&& 255) s1))), (o, .inr (5, [.int th, .ref im, .int (bI tr), .ref rc, .ref bg, .int ro, .ref oa, .ref xa, .ref ya, .ref rg, .ref me, .ref sa, .ref pa, .ref za, .ref ca, .int (bI kp), .ref ta, .ref na])), (me, .inl (cI, 512, .inl (mm2 (wr g s0 v) h)))] := hD
  have hP9 : va_P D vwCl [(o, .inr (5, [.int th, .ref im, .int (bI tr), .ref rc, .ref bg, .int ro, .ref oa, .ref xa, .ref ya, .ref rg, .ref me, .ref sa, .ref pa, .ref za, .ref ca, .int (bI kp), .ref ta, .ref na])), (me, .inl (cI, 512, .inl (mm2 (wr g s0 v) h))), (sa, .inl (cI, 2, .inl (p2 ((s0 - 1) &&& 255) s1)))] H := hP.sub [1, 2, 0] rfl
  have hD9 : va_D A [(o, .inr (5, [.int th, .ref im, .int (bI tr), .ref rc, .ref bg, .int ro, .ref oa, .ref xa, .ref ya, .ref rg, .ref me, .ref sa, .ref pa, .ref za, .ref ca, .int (bI kp), .ref ta, .ref na])), (me, .inl (cI, 512, .inl (mm2 (wr g s0 v) h))), (sa, .inl (cI, 2, .inl (p2 ((s0 - 1) &&& 255) s1)))] := hD.sub [1, 2, 0] (by decide) rfl
  exact W.vret hx hb hr (fun t ht hW => ⟨⟨(wr g s0 v, (s0 - 1) &&& 255), rfl, ⟨rfl, rfl⟩, by rw [ht]; exact hP9, va_K.moved hW.alike hK, hD9⟩, hS.F ht⟩) hS.2.2 d_MO_push_30
set_option maxHeartbeats 4000000 in
set_option maxRecDepth 100000 in
theorem q_pop0 (l : Launch) (D : va_G) (cI cZ : ClassId) (o : Nat) (th : Int32) (im : Nat) (tr : Bool) (rc : Nat) (bg : Nat) (ro : Int32) (oa : Nat) (xa : Nat) (ya : Nat) (rg : Nat) (me : Nat) (sa : Nat) (pa : Nat) (za : Nat) (ca : Nat) (kp : Bool) (ta : Nat) (na : Nat) (g : Nat → Int32) (h : Nat → Int32) (s0 : Int32) (s1 : Int32) (sz : Nat) : MetI l y_MO_pop w_MO_pop { frames := 1, cells := 0, slots := 0, locals := 22 } D cI cZ [.ref o, .int 0] [(o, .inr (5, [.int th, .ref im, .int (bI tr), .ref rc, .ref bg, .int ro, .ref oa, .ref xa, .ref ya, .ref rg, .ref me, .ref sa, .ref pa, .ref za, .ref ca, .int (bI kp), .ref ta, .ref na])), (me, .inl (cI, 512, .inl (mm2 g h))), (sa, .inl (cI, 2, .inl (p2 s0 s1)))] sz (fun r (s9 : Int32) => r = rd g ((s0 + 1) &&& 255) ∧ s9 = (s0 + 1) &&& 255) (fun (s9 : Int32) => [(o, .inr (5, [.int th, .ref im, .int (bI tr), .ref rc, .ref bg, .int ro, .ref oa, .ref xa, .ref ya, .ref rg, .ref me, .ref sa, .ref pa, .ref za, .ref ca, .int (bI kp), .ref ta, .ref na])), (me, .inl (cI, 512, .inl (mm2 g h))), (sa, .inl (cI, 2, .inl (p2 s9 s1)))]) 0 0 := by
  refine ofI (cc := c_MO_pop) (maxL := 2) (ret := (some .int)) (by decide) rfl (Nat.le_of_ble_eq_true rfl) ?_
  intro p e s m args below meth c A H hH0 hx hb hr hlocks hts hown hnm hml ls hl hP hK hD hA hS hN
  have hown : s.vm.findClass R_MO = some m.cls := hown
  have hl : lv_has ls 2 [(0, .ref o), (1, .int 0)] := hl
  refine lv_aload_n hx hb d_MO_pop_0 rfl (lv_at hl 0 rfl) ?_
  refine va_get (D := D) (ci := 5) (v := .ref sa) (C := R_MO) (T := T_MO) (N := 18) hx hb hts iw_MO hown hK hP 0 rfl rfl 11 (by decide) (hts _ k_706) (fun _ h9 => h9) rfl d_MO_pop_1 ?_
  refine lv_iload_n hx hb d_MO_pop_4 rfl (lv_at hl 1 rfl) ?_
  refine lv_aload_n hx hb d_MO_pop_5 rfl (lv_at hl 0 rfl) ?_
  refine va_get (D := D) (ci := 5) (v := .ref sa) (C := R_MO) (T := T_MO) (N := 18) hx hb hts iw_MO hown hK hP 0 rfl rfl 11 (by decide) (hts _ k_706) (fun _ h9 => h9) rfl d_MO_pop_6 ?_
  refine lv_iload_n hx hb d_MO_pop_9 rfl (lv_at hl 1 rfl) ?_
  refine va_iald hx hb hK hP 2 0 rfl rfl (vp_in_nI (n := 0) (by decide) (by decide)) d_MO_pop_10 ?_
  refine lv_iconst (v := 1) hx hb d_MO_pop_11 (by decide) ?_
  refine lv_iadd hx hb d_MO_pop_12 ?_
  refine lv_sipush (v := 255) hx hb d_MO_pop_13 (by decide) ?_
  refine lv_iand hx hb d_MO_pop_16 ?_
  refine va_iast hx hb hK hP hD hS 2 0 rfl rfl (vp_in_nI (n := 0) (by decide) (by decide)) d_MO_pop_17 (fun H locs hP hD hS => ?_)
  have hP : va_P D vwCl [(o, .inr (5, [.int th, .ref im, .int (bI tr), .ref rc, .ref bg, .int ro, .ref oa, .ref xa, .ref ya, .ref rg, .ref me, .ref sa, .ref pa, .ref za, .ref ca, .int (bI kp), .ref ta, .ref na])), (me, .inl (cI, 512, .inl (mm2 g h))), (sa, .inl (cI, 2, .inl (upd (p2 s0 s1) 0 ((s0 + 1) &&& 255))))] H := hP
  have hD : va_D A [(o, .inr (5, [.int th, .ref im, .int (bI tr), .ref rc, .ref bg, .int ro, .ref oa, .ref xa, .ref ya, .ref rg, .ref me, .ref sa, .ref pa, .ref za, .ref ca, .int (bI kp), .ref ta, .ref na])), (me, .inl (cI, 512, .inl (mm2 g h))), (sa, .inl (cI, 2, .inl (upd (p2 s0 s1) 0 ((s0 + 1) &&& 255))))] := hD
  rw [show upd (p2 s0 s1) 0 ((s0 + 1) &&& 255) = p2 ((s0 + 1) &&& 255) s1 from p2_0] at hP hD
  have hP : va_P D vwCl [(o, .inr (5, [.int th, .ref im, .int (bI tr), .ref rc, .ref bg, .int ro, .ref oa, .ref xa, .ref ya, .ref rg, .ref me, .ref sa, .ref pa, .ref za, .ref ca, .int (bI kp), .ref ta, .ref na])), (me, .inl (cI, 512, .inl (mm2 g h))), (sa, .inl (cI, 2, .inl (p2 ((s0 + 1) &&& 255) s1)))] H := hP
  have hD : va_D A [(o, .inr (5, [.int th, .ref im, .int (bI tr), .ref rc, .ref bg, .int ro, .ref oa, .ref xa, .ref ya, .ref rg, .ref me, .ref sa, .ref pa, .ref za, .ref ca, .int (bI kp), .ref ta, .ref na])), (me, .inl (cI, 512, .inl (mm2 g h))), (sa, .inl (cI, 2, .inl (p2 ((s0 + 1) &&& 255) s1)))] := hD
  refine lv_aload_n hx hb d_MO_pop_18 rfl (lv_at hl 0 rfl) ?_
  refine lv_iload_n hx hb d_MO_pop_19 rfl (lv_at hl 1 rfl) ?_
  refine lv_aload_n hx hb d_MO_pop_20 rfl (lv_at hl 0 rfl) ?_
  refine va_get (D := D) (ci := 5) (v := .ref sa) (C := R_MO) (T := T_MO) (N := 18) hx hb hts iw_MO hown hK hP 0 rfl rfl 11 (by decide) (hts _ k_706) (fun _ h9 => h9) rfl d_MO_pop_21 ?_
  refine lv_iload_n hx hb d_MO_pop_24 rfl (lv_at hl 1 rfl) ?_
  refine va_iald hx hb hK hP 2 0 rfl rfl (vp_in_nI (n := 0) (by decide) (by decide)) d_MO_pop_25 ?_
  have hPc := hP.sub (ws' := [(o, .inr (5, [.int th, .ref im, .int (bI tr), .ref rc, .ref bg, .int ro, .ref oa, .ref xa, .ref ya, .ref rg, .ref me, .ref sa, .ref pa, .ref za, .ref ca, .int (bI kp), .ref ta, .ref na])), (me, .inl (cI, 512, .inl (mm2 g h)))]) [0, 1] rfl
  refine vp_callSi (va_runV (As := [.int 0, .int ((s0 + 1) &&& 255)]) (rest := []) ⟨hx, hb, hml, hown, hts⟩ (q_get0 l D cI cZ o th im tr rc bg ro oa xa ya rg me sa pa za ca kp ta na g h ((s0 + 1) &&& 255)) ⟨cB 2 hts k_825 k_62 k_822 hd_MO_get ⟨Nat.le_of_ble_eq_true rfl, Nat.le_of_ble_eq_true rfl⟩ rfl rfl, hts _ k_824, hts _ k_37⟩ (PcR.preV (va_recv hK hP (q0 := 0) (ci := 5) rfl rfl) hPc hK hN) rfl rfl hl.1 rfl (lv_room (Nat.le_of_ble_eq_true rfl)) d_MO_pop_26 ⟨Nat.le_of_ble_eq_true rfl, Nat.le_of_ble_eq_true rfl⟩).run (fun r26 e26 => ?_)
  replace e26 := e26.symm
  subst e26
  have hP9 : va_P D vwCl [(o, .inr (5, [.int th, .ref im, .int (bI tr), .ref rc, .ref bg, .int ro, .ref oa, .ref xa, .ref ya, .ref rg, .ref me, .ref sa, .ref pa, .ref za, .ref ca, .int (bI kp), .ref ta, .ref na])), (me, .inl (cI, 512, .inl (mm2 g h))), (sa, .inl (cI, 2, .inl (p2 ((s0 + 1) &&& 255) s1)))] H := hP.sub [0, 1, 2] rfl
  have hD9 : va_D A [(o, .inr (5, [.int th, .ref im, .int (bI tr), .ref rc, .ref bg, .int ro, .ref oa, .ref xa, .ref ya, .ref rg, .ref me, .ref sa, .ref pa, .ref za, .ref ca, .int (bI kp), .ref ta, .ref na])), (me, .inl (cI, 512, .inl (mm2 g h))), (sa, .inl (cI, 2, .inl (p2 ((s0 + 1) &&& 255) s1)))] := hD.sub [0, 1, 2] (by decide) rfl
  exact W.iret (v := (rd g ((s0 + 1) &&& 255))) hx hb hr (fun t ht hW => ⟨⟨(rd g ((s0 + 1) &&& 255)), ((s0 + 1) &&& 255), rfl, ⟨rfl, rfl⟩, by rw [ht]; exact hP9, va_K.moved hW.alike hK, hD9⟩, hS.F ht⟩) hS.2.2 d_MO_pop_29
set_option maxHeartbeats 4000000 in
set_option maxRecDepth 100000 in
theorem q_push1 (l : Launch) (D : va_G) (cI cZ : ClassId) (o : Nat) (th : Int32) (im : Nat) (tr : Bool) (rc : Nat) (bg : Nat) (ro : Int32) (oa : Nat) (xa : Nat) (ya : Nat) (rg : Nat) (me : Nat) (sa : Nat) (pa : Nat) (za : Nat) (ca : Nat) (kp : Bool) (ta : Nat) (na : Nat) (g : Nat → Int32) (h : Nat → Int32) (s0 : Int32) (s1 : Int32) (v : Int32) (sz : Nat) : MetV l y_MO_push w_MO_push { frames := 1, cells := 0, slots := 0, locals := 23 } D cI cZ [.ref o, .int 1, .int v] [(o, .inr (5, [.int th, .ref im, .int (bI tr), .ref rc, .ref bg, .int ro, .ref oa, .ref xa, .ref ya, .ref rg, .ref me, .ref sa, .ref pa, .ref za, .ref ca, .int (bI kp), .ref ta, .ref na])), (me, .inl (cI, 512, .inl (mm2 g h))), (sa, .inl (cI, 2, .inl (p2 s0 s1)))] sz (fun (u : (Nat → Int32) × Int32) => match u with | (g1, s9) => g1 = wr h s1 v ∧ s9 = (s1 - 1) &&& 255) (fun (u : (Nat → Int32) × Int32) => match u with | (g1, s9) => [(o, .inr (5, [.int th, .ref im, .int (bI tr), .ref rc, .ref bg, .int ro, .ref oa, .ref xa, .ref ya, .ref rg, .ref me, .ref sa, .ref pa, .ref za, .ref ca, .int (bI kp), .ref ta, .ref na])), (me, .inl (cI, 512, .inl (mm2 g g1))), (sa, .inl (cI, 2, .inl (p2 s0 s9)))]) 0 0 := by
  refine ofV (cc := c_MO_push) (maxL := 3) (ret := none) (by decide) rfl (Nat.le_of_ble_eq_true rfl) ?_
  intro p e s m args below meth c A H hH0 hx hb hr hlocks hts hown hnm hml ls hl hP hK hD hA hS hN
  have hown : s.vm.findClass R_MO = some m.cls := hown
  have hl : lv_has ls 3 [(0, .ref o), (1, .int 1), (2, .int v)] := hl
  refine lv_aload_n hx hb d_MO_push_0 rfl (lv_at hl 0 rfl) ?_
  refine lv_iload_n hx hb d_MO_push_1 rfl (lv_at hl 1 rfl) ?_
  refine lv_aload_n hx hb d_MO_push_2 rfl (lv_at hl 0 rfl) ?_
  refine va_get (D := D) (ci := 5) (v := .ref sa) (C := R_MO) (T := T_MO) (N := 18) hx hb hts iw_MO hown hK hP 0 rfl rfl 11 (by decide) (hts _ k_706) (fun _ h9 => h9) rfl d_MO_push_3 ?_
  refine lv_iload_n hx hb d_MO_push_6 rfl (lv_at hl 1 rfl) ?_
  refine va_iald hx hb hK hP 2 0 rfl rfl (vp_in_nI (n := 1) (by decide) (by decide)) d_MO_push_7 ?_
  refine lv_iload_n hx hb d_MO_push_8 rfl (lv_at hl 2 rfl) ?_
  have hPc := hP.sub (ws' := [(o, .inr (5, [.int th, .ref im, .int (bI tr), .ref rc, .ref bg, .int ro, .ref oa, .ref xa, .ref ya, .ref rg, .ref me, .ref sa, .ref pa, .ref za, .ref ca, .int (bI kp), .ref ta, .ref na])), (me, .inl (cI, 512, .inl (mm2 g h)))]) [0, 1] rfl
  have hDc := hD.sub (ws' := [(o, .inr (5, [.int th, .ref im, .int (bI tr), .ref rc, .ref bg, .int ro, .ref oa, .ref xa, .ref ya, .ref rg, .ref me, .ref sa, .ref pa, .ref za, .ref ca, .int (bI kp), .ref ta, .ref na])), (me, .inl (cI, 512, .inl (mm2 g h)))]) [0, 1] (by decide) rfl
  have hFc := va_free (wc := [(o, .inr (5, [.int th, .ref im, .int (bI tr), .ref rc, .ref bg, .int ro, .ref oa, .ref xa, .ref ya, .ref rg, .ref me, .ref sa, .ref pa, .ref za, .ref ca, .int (bI kp), .ref ta, .ref na])), (me, .inl (cI, 512, .inl (mm2 g h)))]) hD hS hA [0, 1] rfl
  refine va_callv (va_runV (As := [.int 1, .int s1, .int v]) (rest := []) ⟨hx, hb, hml, hown, hts⟩ (q_put1 l D cI cZ o th im tr rc bg ro oa xa ya rg me sa pa za ca kp ta na g h s1 v H.size) ⟨cB 3 hts k_837 k_62 k_834 hd_MO_put ⟨Nat.le_of_ble_eq_true rfl, Nat.le_of_ble_eq_true rfl⟩ rfl rfl, hts _ k_836, hts _ k_40⟩ (PcW.preV (va_recv hK hP (q0 := 0) (ci := 5) rfl rfl) hPc hK hDc hN) rfl rfl hl.1 rfl (lv_room (Nat.le_of_ble_eq_true rfl)) d_MO_push_9 ⟨Nat.le_of_ble_eq_true rfl, Nat.le_of_ble_eq_true rfl⟩) hS (fun q _ h => hFc q h) hFc (fun u t H1 locs ht hvm e9 hB hz1 hk1 hS => ?_)
  obtain ⟨f19, rfl⟩ : ∃ z, z = u := ⟨_, rfl⟩
  obtain ⟨hP1, hK1, hD1⟩ := hB
  rw [ht] at hP1
  obtain ⟨hP, hD⟩ := va_join (wr := [(sa, .inl (cI, 2, .inl (p2 s0 s1)))]) (w1 := [(o, .inr (5, [.int th, .ref im, .int (bI tr), .ref rc, .ref bg, .int ro, .ref oa, .ref xa, .ref ya, .ref rg, .ref me, .ref sa, .ref pa, .ref za, .ref ca, .int (bI kp), .ref ta, .ref na])), (me, .inl (cI, 512, .inl f19))]) hP hD [0, 1] [2] rfl rfl (by decide) (by decide) hk1 hFc hP1 hD1
  generalize H1 = H at hP hS ⊢
  try dsimp only at e9
  have e9_0 := e9
  replace e9_0 := e9_0.symm
  subst e9_0
  have hP : va_P D vwCl [(sa, .inl (cI, 2, .inl (p2 s0 s1))), (o, .inr (5, [.int th, .ref im, .int (bI tr), .ref rc, .ref bg, .int ro, .ref oa, .ref xa, .ref ya, .ref rg, .ref me, .ref sa, .ref pa, .ref za, .ref ca, .int (bI kp), .ref ta, .ref na])), (me, .inl (cI, 512, .inl (mm2 g (wr h s1 v))))] H := hP
  have hD : va_D A [(sa, .inl (cI, 2, .inl (p2 s0 s1))), (o, .inr (5, [.int th, .ref im, .int (bI tr), .ref rc, .ref bg, .int ro, .ref oa, .ref xa, .ref ya, .ref rg, .ref me, .ref sa, .ref pa, .ref za, .ref ca, .int (bI kp), .ref ta, .ref na])), (me, .inl (cI, 512, .inl (mm2 g (wr h s1 v))))] := hD
  refine lv_aload_n hx hb d_MO_push_12 rfl (lv_at hl 0 rfl) ?_
  refine va_get (D := D) (ci := 5) (v := .ref sa) (C := R_MO) (T := T_MO) (N := 18) hx hb hts iw_MO hown hK hP 1 rfl rfl 11 (by decide) (hts _ k_706) (fun _ h9 => h9) rfl d_MO_push_13 ?_
  refine lv_iload_n hx hb d_MO_push_16 rfl (lv_at hl 1 rfl) ?_
  refine lv_aload_n hx hb d_MO_push_17 rfl (lv_at hl 0 rfl) ?_
  refine va_get (D := D) (ci := 5) (v := .ref sa) (C := R_MO) (T := T_MO) (N := 18) hx hb hts iw_MO hown hK hP 1 rfl rfl 11 (by decide) (hts _ k_706) (fun _ h9 => h9) rfl d_MO_push_18 ?_
  refine lv_iload_n hx hb d_MO_push_21 rfl (lv_at hl 1 rfl) ?_
  refine va_iald hx hb hK hP 0 0 rfl rfl (vp_in_nI (n := 1) (by decide) (by decide)) d_MO_push_22 ?_
  refine lv_iconst (v := 1) hx hb d_MO_push_23 (by decide) ?_
  refine lv_isub hx hb d_MO_push_24 ?_
  refine lv_sipush (v := 255) hx hb d_MO_push_25 (by decide) ?_
  refine lv_iand hx hb d_MO_push_28 ?_
  refine va_iast hx hb hK hP hD hS 0 0 rfl rfl (vp_in_nI (n := 1) (by decide) (by decide)) d_MO_push_29 (fun H locs hP hD hS => ?_)
  have hP : va_P D vwCl [(sa, .inl (cI, 2, .inl (upd (p2 s0 s1) 1 ((s1 - 1) &&& 255)))), (o, .inr (5, [.int th, .ref im, .int (bI tr), .ref rc, .ref bg, .int ro, .ref oa, .ref xa, .ref ya, .ref rg, .ref me, .ref sa, .ref pa, .ref za, .ref ca, .int (bI kp), .ref ta, .ref na])), (me, .inl (cI, 512, .inl (mm2 g (wr h s1 v))))] H := hP
  have hD : va_D A [(sa, .inl (cI, 2, .inl (upd (p2 s0 s1) 1 ((s1 - 1) &&& 255)))), (o, .inr (5, [.int th, .ref im, .int (bI tr), .ref rc, .ref bg, .int ro, .ref oa, .ref xa, .ref ya, .ref rg, .ref me, .ref sa, .ref pa, .ref za, .ref ca, .int (bI kp), .ref ta, .ref na])), (me, .inl (cI, 512, .inl (mm2 g (wr h s1 v))))] := hD
  rw [show upd (p2 s0 s1) 1 ((s1 - 1) &&& 255) = p2 s0 ((s1 - 1) &&& 255) from p2_1] at hP hD
  have hP : va_P D vwCl [(sa, .inl (cI, 2, .inl (p2 s0 ((s1 - 1) &&& 255)))), (o, .inr (5, [.int th, .ref im, .int (bI tr), .ref rc, .ref bg, .int ro, .ref oa, .ref xa, .ref ya, .ref rg, .ref me, .ref sa, .ref pa, .ref za, .ref ca, .int (bI kp), .ref ta, .ref na])), (me, .inl (cI, 512, .inl (mm2 g (wr h s1 v))))] H := hP
  have hD : va_D A [(sa, .inl (cI, 2, .inl (p2 s0 ((s1 - 1) &&& 255)))), (o, .inr (5, [.int th, .ref im, .int (bI tr), .ref rc, .ref bg, .int ro, .ref oa, .ref xa, .ref ya, .ref rg, .ref me, .ref sa, .ref pa, .ref za, .ref ca, .int (bI kp), .ref ta, .ref na])), (me, .inl (cI, 512, .inl (mm2 g (wr h s1 v))))] := hD
  have hP9 : va_P D vwCl [(o, .inr (5, [.int th, .ref im, .int (bI tr), .ref rc, .ref bg, .int ro, .ref oa, .ref xa, .ref ya, .ref rg, .ref me, .ref sa, .ref pa, .ref za, .ref ca, .int (bI kp), .ref ta, .ref na])), (me, .inl (cI, 512, .inl (mm2 g (wr h s1 v)))), (sa, .inl (cI, 2, .inl (p2 s0 ((s1 - 1) &&& 255))))] H := hP.sub [1, 2, 0] rfl
  have hD9 : va_D A [(o, .inr (5, [.int th, .ref im, .int (bI tr), .ref rc, .ref bg, .int ro, .ref oa, .ref xa, .ref ya, .ref rg, .ref me, .ref sa, .ref pa, .ref za, .ref ca, .int (bI kp), .ref ta, .ref na])), (me, .inl (cI, 512, .inl (mm2 g (wr h s1 v)))), (sa, .inl (cI, 2, .inl (p2 s0 ((s1 - 1) &&& 255))))] := hD.sub [1, 2, 0] (by decide) rfl
  exact W.vret hx hb hr (fun t ht hW => ⟨⟨(wr h s1 v, (s1 - 1) &&& 255), rfl, ⟨rfl, rfl⟩, by rw [ht]; exact hP9, va_K.moved hW.alike hK, hD9⟩, hS.F ht⟩) hS.2.2 d_MO_push_30
set_option maxHeartbeats 4000000 in
set_option maxRecDepth 100000 in
theorem q_pop1 (l : Launch) (D : va_G) (cI cZ : ClassId) (o : Nat) (th : Int32) (im : Nat) (tr : Bool) (rc : Nat) (bg : Nat) (ro : Int32) (oa : Nat) (xa : Nat) (ya : Nat) (rg : Nat) (me : Nat) (sa : Nat) (pa : Nat) (za : Nat) (ca : Nat) (kp : Bool) (ta : Nat) (na : Nat) (g : Nat → Int32) (h : Nat → Int32) (s0 : Int32) (s1 : Int32) (sz : Nat) : MetI l y_MO_pop w_MO_pop { frames := 1, cells := 0, slots := 0, locals := 22 } D cI cZ [.ref o, .int 1] [(o, .inr (5, [.int th, .ref im, .int (bI tr), .ref rc, .ref bg, .int ro, .ref oa, .ref xa, .ref ya, .ref rg, .ref me, .ref sa, .ref pa, .ref za, .ref ca, .int (bI kp), .ref ta, .ref na])), (me, .inl (cI, 512, .inl (mm2 g h))), (sa, .inl (cI, 2, .inl (p2 s0 s1)))] sz (fun r (s9 : Int32) => r = rd h ((s1 + 1) &&& 255) ∧ s9 = (s1 + 1) &&& 255) (fun (s9 : Int32) => [(o, .inr (5, [.int th, .ref im, .int (bI tr), .ref rc, .ref bg, .int ro, .ref oa, .ref xa, .ref ya, .ref rg, .ref me, .ref sa, .ref pa, .ref za, .ref ca, .int (bI kp), .ref ta, .ref na])), (me, .inl (cI, 512, .inl (mm2 g h))), (sa, .inl (cI, 2, .inl (p2 s0 s9)))]) 0 0 := by
  refine ofI (cc := c_MO_pop) (maxL := 2) (ret := (some .int)) (by decide) rfl (Nat.le_of_ble_eq_true rfl) ?_
  intro p e s m args below meth c A H hH0 hx hb hr hlocks hts hown hnm hml ls hl hP hK hD hA hS hN
  have hown : s.vm.findClass R_MO = some m.cls := hown
  have hl : lv_has ls 2 [(0, .ref o), (1, .int 1)] := hl
  refine lv_aload_n hx hb d_MO_pop_0 rfl (lv_at hl 0 rfl) ?_
  refine va_get (D := D) (ci := 5) (v := .ref sa) (C := R_MO) (T := T_MO) (N := 18) hx hb hts iw_MO hown hK hP 0 rfl rfl 11 (by decide) (hts _ k_706) (fun _ h9 => h9) rfl d_MO_pop_1 ?_
  refine lv_iload_n hx hb d_MO_pop_4 rfl (lv_at hl 1 rfl) ?_
  refine lv_aload_n hx hb d_MO_pop_5 rfl (lv_at hl 0 rfl) ?_
  refine va_get (D := D) (ci := 5) (v := .ref sa) (C := R_MO) (T := T_MO) (N := 18) hx hb hts iw_MO hown hK hP 0 rfl rfl 11 (by decide) (hts _ k_706) (fun _ h9 => h9) rfl d_MO_pop_6 ?_
  refine lv_iload_n hx hb d_MO_pop_9 rfl (lv_at hl 1 rfl) ?_
  refine va_iald hx hb hK hP 2 0 rfl rfl (vp_in_nI (n := 1) (by decide) (by decide)) d_MO_pop_10 ?_
  refine lv_iconst (v := 1) hx hb d_MO_pop_11 (by decide) ?_
  refine lv_iadd hx hb d_MO_pop_12 ?_
  refine lv_sipush (v := 255) hx hb d_MO_pop_13 (by decide) ?_
  refine lv_iand hx hb d_MO_pop_16 ?_
  refine va_iast hx hb hK hP hD hS 2 0 rfl rfl (vp_in_nI (n := 1) (by decide) (by decide)) d_MO_pop_17 (fun H locs hP hD hS => ?_)
  have hP : va_P D vwCl [(o, .inr (5, [.int th, .ref im, .int (bI tr), .ref rc, .ref bg, .int ro, .ref oa, .ref xa, .ref ya, .ref rg, .ref me, .ref sa, .ref pa, .ref za, .ref ca, .int (bI kp), .ref ta, .ref na])), (me, .inl (cI, 512, .inl (mm2 g h))), (sa, .inl (cI, 2, .inl (upd (p2 s0 s1) 1 ((s1 + 1) &&& 255))))] H := hP
  have hD : va_D A [(o, .inr (5, [.int th, .ref im, .int (bI tr), .ref rc, .ref bg, .int ro, .ref oa, .ref xa, .ref ya, .ref rg, .ref me, .ref sa, .ref pa, .ref za, .ref ca, .int (bI kp), .ref ta, .ref na])), (me, .inl (cI, 512, .inl (mm2 g h))), (sa, .inl (cI, 2, .inl (upd (p2 s0 s1) 1 ((s1 + 1) &&& 255))))] := hD
  rw [show upd (p2 s0 s1) 1 ((s1 + 1) &&& 255) = p2 s0 ((s1 + 1) &&& 255) from p2_1] at hP hD
  have hP : va_P D vwCl [(o, .inr (5, [.int th, .ref im, .int (bI tr), .ref rc, .ref bg, .int ro, .ref oa, .ref xa, .ref ya, .ref rg, .ref me, .ref sa, .ref pa, .ref za, .ref ca, .int (bI kp), .ref ta, .ref na])), (me, .inl (cI, 512, .inl (mm2 g h))), (sa, .inl (cI, 2, .inl (p2 s0 ((s1 + 1) &&& 255))))] H := hP
  have hD : va_D A [(o, .inr (5, [.int th, .ref im, .int (bI tr), .ref rc, .ref bg, .int ro, .ref oa, .ref xa, .ref ya, .ref rg, .ref me, .ref sa, .ref pa, .ref za, .ref ca, .int (bI kp), .ref ta, .ref na])), (me, .inl (cI, 512, .inl (mm2 g h))), (sa, .inl (cI, 2, .inl (p2 s0 ((s1 + 1) &&& 255))))] := hD
  refine lv_aload_n hx hb d_MO_pop_18 rfl (lv_at hl 0 rfl) ?_
  refine lv_iload_n hx hb d_MO_pop_19 rfl (lv_at hl 1 rfl) ?_
  refine lv_aload_n hx hb d_MO_pop_20 rfl (lv_at hl 0 rfl) ?_
  refine va_get (D := D) (ci := 5) (v := .ref sa) (C := R_MO) (T := T_MO) (N := 18) hx hb hts iw_MO hown hK hP 0 rfl rfl 11 (by decide) (hts _ k_706) (fun _ h9 => h9) rfl d_MO_pop_21 ?_
  refine lv_iload_n hx hb d_MO_pop_24 rfl (lv_at hl 1 rfl) ?_
  refine va_iald hx hb hK hP 2 0 rfl rfl (vp_in_nI (n := 1) (by decide) (by decide)) d_MO_pop_25 ?_
  have hPc := hP.sub (ws' := [(o, .inr (5, [.int th, .ref im, .int (bI tr), .ref rc, .ref bg, .int ro, .ref oa, .ref xa, .ref ya, .ref rg, .ref me, .ref sa, .ref pa, .ref za, .ref ca, .int (bI kp), .ref ta, .ref na])), (me, .inl (cI, 512, .inl (mm2 g h)))]) [0, 1] rfl
  refine vp_callSi (va_runV (As := [.int 1, .int ((s1 + 1) &&& 255)]) (rest := []) ⟨hx, hb, hml, hown, hts⟩ (q_get1 l D cI cZ o th im tr rc bg ro oa xa ya rg me sa pa za ca kp ta na g h ((s1 + 1) &&& 255)) ⟨cB 2 hts k_825 k_62 k_822 hd_MO_get ⟨Nat.le_of_ble_eq_true rfl, Nat.le_of_ble_eq_true rfl⟩ rfl rfl, hts _ k_824, hts _ k_37⟩ (PcR.preV (va_recv hK hP (q0 := 0) (ci := 5) rfl rfl) hPc hK hN) rfl rfl hl.1 rfl (lv_room (Nat.le_of_ble_eq_true rfl)) d_MO_pop_26 ⟨Nat.le_of_ble_eq_true rfl, Nat.le_of_ble_eq_true rfl⟩).run (fun r26 e26 => ?_)
  replace e26 := e26.symm
  subst e26
  have hP9 : va_P D vwCl [(o, .inr (5, [.int th, .ref im, .int (bI tr), .ref rc, .ref bg, .int ro, .ref oa, .ref xa, .ref ya, .ref rg, .ref me, .ref sa, .ref pa, .ref za, .ref ca, .int (bI kp), .ref ta, .ref na])), (me, .inl (cI, 512, .inl (mm2 g h))), (sa, .inl (cI, 2, .inl (p2 s0 ((s1 + 1) &&& 255))))] H := hP.sub [0, 1, 2] rfl
  have hD9 : va_D A [(o, .inr (5, [.int th, .ref im, .int (bI tr), .ref rc, .ref bg, .int ro, .ref oa, .ref xa, .ref ya, .ref rg, .ref me, .ref sa, .ref pa, .ref za, .ref ca, .int (bI kp), .ref ta, .ref na])), (me, .inl (cI, 512, .inl (mm2 g h))), (sa, .inl (cI, 2, .inl (p2 s0 ((s1 + 1) &&& 255))))] := hD.sub [0, 1, 2] (by decide) rfl
  exact W.iret (v := (rd h ((s1 + 1) &&& 255))) hx hb hr (fun t ht hW => ⟨⟨(rd h ((s1 + 1) &&& 255)), ((s1 + 1) &&& 255), rfl, ⟨rfl, rfl⟩, by rw [ht]; exact hP9, va_K.moved hW.alike hK, hD9⟩, hS.F ht⟩) hS.2.2 d_MO_pop_29
