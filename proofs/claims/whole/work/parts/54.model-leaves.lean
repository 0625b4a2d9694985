set_option maxHeartbeats 4000000 in
set_option maxRecDepth 100000 in
theorem q_set00 (l : Launch) (D : va_G) (cI cZ : ClassId) (o : Nat) (th : Int32) (im : Nat) (tr : Bool) (rc : Nat) (bg : Nat) (ro : Int32) (oa : Nat) (xa : Nat) (ya : Nat) (rg : Nat) (me : Nat) (sa : Nat) (pa : Nat) (za : Nat) (ca : Nat) (kp : Bool) (ta : Nat) (na : Nat) (a : Int32) (x : Int32) (d : Int32) (b0 : Int32) (b1 : Int32) (b2 : Int32) (v : Int32) (sz : Nat) : MetV l y_MO_set w_MO_set { frames := 0, cells := 0, slots := 0, locals := 0 } D cI cZ [.ref o, .int 0, .int 0, .int v] [(o, .inr (5, [.int th, .ref im, .int (bI tr), .ref rc, .ref bg, .int ro, .ref oa, .ref xa, .ref ya, .ref rg, .ref me, .ref sa, .ref pa, .ref za, .ref ca, .int (bI kp), .ref ta, .ref na])), (rg, .inl (cI, 6, .inl (rg6 a x d b0 b1 b2)))] sz (fun (v1 : Int32) => v1 = v &&& 255) (fun (v1 : Int32) => [(o, .inr (5, [.int th, .ref im, .int (bI tr), .ref rc, .ref bg, .int ro, .ref oa, .ref xa, .ref ya, .ref rg, .ref me, .ref sa, .ref pa, .ref za, .ref ca, .int (bI kp), .ref ta, .ref na])), (rg, .inl (cI, 6, .inl (rg6 v1 x d b0 b1 b2)))]) 0 0 := by
  refine ofV (cc := c_MO_set) (maxL := 4) (ret := none) (by decide) rfl (Nat.le_of_ble_eq_true rfl) ?_
  intro p e s m args below meth c A H hH0 hx hb hr hlocks hts hown hnm hml ls hl hP hK hD hA hS hN
  have hown : s.vm.findClass R_MO = some m.cls := hown
  have hl : lv_has ls 4 [(0, .ref o), (1, .int 0), (2, .int 0), (3, .int v)] := hl
  refine lv_aload_n hx hb d_MO_set_0 rfl (lv_at hl 0 rfl) ?_
  refine va_get (D := D) (ci := 5) (v := .ref rg) (C := R_MO) (T := T_MO) (N := 18) hx hb hts iw_MO hown hK hP 0 rfl rfl 9 (by decide) (hts _ k_704) (fun _ h9 => h9) rfl d_MO_set_1 ?_
  refine lv_iconst (v := 3) hx hb d_MO_set_4 (by decide) ?_
  refine lv_iload_n hx hb d_MO_set_5 rfl (lv_at hl 1 rfl) ?_
  refine lv_imul hx hb d_MO_set_6 ?_
  refine lv_iload_n hx hb d_MO_set_7 rfl (lv_at hl 2 rfl) ?_
  refine lv_iadd hx hb d_MO_set_8 ?_
  refine lv_iload_n hx hb d_MO_set_9 rfl (lv_at hl 3 rfl) ?_
  refine lv_sipush (v := 255) hx hb d_MO_set_10 (by decide) ?_
  refine lv_iand hx hb d_MO_set_13 ?_
  refine va_iast hx hb hK hP hD hS 1 0 rfl rfl (vp_in_nI (n := 0) (by decide) (by decide)) d_MO_set_14 (fun H locs hP hD hS => ?_)
  have hP : va_P D vwCl [(o, .inr (5, [.int th, .ref im, .int (bI tr), .ref rc, .ref bg, .int ro, .ref oa, .ref xa, .ref ya, .ref rg, .ref me, .ref sa, .ref pa, .ref za, .ref ca, .int (bI kp), .ref ta, .ref na])), (rg, .inl (cI, 6, .inl (upd (rg6 a x d b0 b1 b2) 0 (v &&& 255))))] H := hP
  have hD : va_D A [(o, .inr (5, [.int th, .ref im, .int (bI tr), .ref rc, .ref bg, .int ro, .ref oa, .ref xa, .ref ya, .ref rg, .ref me, .ref sa, .ref pa, .ref za, .ref ca, .int (bI kp), .ref ta, .ref na])), (rg, .inl (cI, 6, .inl (upd (rg6 a x d b0 b1 b2) 0 (v &&& 255))))] := hD
  rw [show upd (rg6 a x d b0 b1 b2) 0 (v &&& 255) = rg6 (v &&& 255) x d b0 b1 b2 from rg_0] at hP hD
  have hP : va_P D vwCl [(o, .inr (5, [.int th, .ref im, .int (bI tr), .ref rc, .ref bg, .int ro, .ref oa, .ref xa, .ref ya, .ref rg, .ref me, .ref sa, .ref pa, .ref za, .ref ca, .int (bI kp), .ref ta, .ref na])), (rg, .inl (cI, 6, .inl (rg6 (v &&& 255) x d b0 b1 b2)))] H := hP
  have hD : va_D A [(o, .inr (5, [.int th, .ref im, .int (bI tr), .ref rc, .ref bg, .int ro, .ref oa, .ref xa, .ref ya, .ref rg, .ref me, .ref sa, .ref pa, .ref za, .ref ca, .int (bI kp), .ref ta, .ref na])), (rg, .inl (cI, 6, .inl (rg6 (v &&& 255) x d b0 b1 b2)))] := hD
  have hP9 : va_P D vwCl [(o, .inr (5, [.int th, .ref im, .int (bI tr), .ref rc, .ref bg, .int ro, .ref oa, .ref xa, .ref ya, .ref rg, .ref me, .ref sa, .ref pa, .ref za, .ref ca, .int (bI kp), .ref ta, .ref na])), (rg, .inl (cI, 6, .inl (rg6 (v &&& 255) x d b0 b1 b2)))] H := hP.sub [0, 1] rfl
  have hD9 : va_D A [(o, .inr (5, [.int th, .ref im, .int (bI tr), .ref rc, .ref bg, .int ro, .ref oa, .ref xa, .ref ya, .ref rg, .ref me, .ref sa, .ref pa, .ref za, .ref ca, .int (bI kp), .ref ta, .ref na])), (rg, .inl (cI, 6, .inl (rg6 (v &&& 255) x d b0 b1 b2)))] := hD.sub [0, 1] (by decide) rfl
  exact W.vret hx hb hr (fun t ht hW => ⟨⟨(v &&& 255), rfl, rfl, by rw [ht]; exact hP9, va_K.moved hW.alike hK, hD9⟩, hS.F ht⟩) hS.2.2 d_MO_set_15
set_option maxHeartbeats 4000000 in
set_option maxRecDepth 100000 in
theorem q_setZ00 (l : Launch) (D : va_G) (cI cZ : ClassId) (o : Nat) (th : Int32) (im : Nat) (tr : Bool) (rc : Nat) (bg : Nat) (ro : Int32) (oa : Nat) (xa : Nat) (ya : Nat) (rg : Nat) (me : Nat) (sa : Nat) (pa : Nat) (za : Nat) (ca : Nat) (kp : Bool) (ta : Nat) (na : Nat) (a : Int32) (x : Int32) (d : Int32) (b0 : Int32) (b1 : Int32) (b2 : Int32) (z0 : Bool) (z1 : Bool) (v : Int32) (sz : Nat) : MetV l y_MO_setZ w_MO_setZ { frames := 1, cells := 0, slots := 0, locals := 23 } D cI cZ [.ref o, .int 0, .int 0, .int v] [(o, .inr (5, [.int th, .ref im, .int (bI tr), .ref rc, .ref bg, .int ro, .ref oa, .ref xa, .ref ya, .ref rg, .ref me, .ref sa, .ref pa, .ref za, .ref ca, .int (bI kp), .ref ta, .ref na])), (rg, .inl (cI, 6, .inl (rg6 a x d b0 b1 b2))), (za, .inl (cZ, 2, .inl (p2 (bI z0) (bI z1))))] sz (fun (u : Int32 × Bool) => match u with | (v1, zz) => v1 = v &&& 255 ∧ zz = decide (v &&& 255 = 0)) (fun (u : Int32 × Bool) => match u with | (v1, zz) => [(o, .inr (5, [.int th, .ref im, .int (bI tr), .ref rc, .ref bg, .int ro, .ref oa, .ref xa, .ref ya, .ref rg, .ref me, .ref sa, .ref pa, .ref za, .ref ca, .int (bI kp), .ref ta, .ref na])), (rg, .inl (cI, 6, .inl (rg6 v1 x d b0 b1 b2))), (za, .inl (cZ, 2, .inl (p2 (bI zz) (bI z1))))]) 0 0 := by
  refine ofV (cc := c_MO_setZ) (maxL := 4) (ret := none) (by decide) rfl (Nat.le_of_ble_eq_true rfl) ?_
  intro p e s m args below meth c A H hH0 hx hb hr hlocks hts hown hnm hml ls hl hP hK hD hA hS hN
  have hown : s.vm.findClass R_MO = some m.cls := hown
  have hl : lv_has ls 4 [(0, .ref o), (1, .int 0), (2, .int 0), (3, .int v)] := hl
  refine lv_aload_n hx hb d_MO_setZ_0 rfl (lv_at hl 0 rfl) ?_
  refine lv_iload_n hx hb d_MO_setZ_1 rfl (lv_at hl 1 rfl) ?_
  refine lv_iload_n hx hb d_MO_setZ_2 rfl (lv_at hl 2 rfl) ?_
  refine lv_iload_n hx hb d_MO_setZ_3 rfl (lv_at hl 3 rfl) ?_
  have hPc := hP.sub (ws' := [(o, .inr (5, [.int th, .ref im, .int (bI tr), .ref rc, .ref bg, .int ro, .ref oa, .ref xa, .ref ya, .ref rg, .ref me, .ref sa, .ref pa, .ref za, .ref ca, .int (bI kp), .ref ta, .ref na])), (rg, .inl (cI, 6, .inl (rg6 a x d b0 b1 b2)))]) [0, 1] rfl
  have hDc := hD.sub (ws' := [(o, .inr (5, [.int th, .ref im, .int (bI tr), .ref rc, .ref bg, .int ro, .ref oa, .ref xa, .ref ya, .ref rg, .ref me, .ref sa, .ref pa, .ref za, .ref ca, .int (bI kp), .ref ta, .ref na])), (rg, .inl (cI, 6, .inl (rg6 a x d b0 b1 b2)))]) [0, 1] (by decide) rfl
  have hFc := va_free (wc := [(o, .inr (5, [.int th, .ref im, .int (bI tr), .ref rc, .ref bg, .int ro, .ref oa, .ref xa, .ref ya, .ref rg, .ref me, .ref sa, .ref pa, .ref za, .ref ca, .int (bI kp), .ref ta, .ref na])), (rg, .inl (cI, 6, .inl (rg6 a x d b0 b1 b2)))]) hD hS hA [0, 1] rfl
  refine va_callv (va_runV (As := [.int 0, .int 0, .int v]) (rest := []) ⟨hx, hb, hml, hown, hts⟩ (q_set00 l D cI cZ o th im tr rc bg ro oa xa ya rg me sa pa za ca kp ta na a x d b0 b1 b2 v H.size) ⟨cB 3 hts k_849 k_62 k_846 hd_MO_set ⟨Nat.le_of_ble_eq_true rfl, Nat.le_of_ble_eq_true rfl⟩ rfl rfl, hts _ k_848, hts _ k_43⟩ (PcW.preV (va_recv hK hP (q0 := 0) (ci := 5) rfl rfl) hPc hK hDc hN) rfl rfl hl.1 rfl (lv_room (Nat.le_of_ble_eq_true rfl)) d_MO_setZ_4 ⟨Nat.le_of_ble_eq_true rfl, Nat.le_of_ble_eq_true rfl⟩) hS (fun q _ h => hFc q h) hFc (fun u t H1 locs ht hvm e4 hB hz1 hk1 hS => ?_)
  obtain ⟨v14, rfl⟩ : ∃ z, z = u := ⟨_, rfl⟩
  obtain ⟨hP1, hK1, hD1⟩ := hB
  rw [ht] at hP1
  obtain ⟨hP, hD⟩ := va_join (wr := [(za, .inl (cZ, 2, .inl (p2 (bI z0) (bI z1))))]) (w1 := [(o, .inr (5, [.int th, .ref im, .int (bI tr), .ref rc, .ref bg, .int ro, .ref oa, .ref xa, .ref ya, .ref rg, .ref me, .ref sa, .ref pa, .ref za, .ref ca, .int (bI kp), .ref ta, .ref na])), (rg, .inl (cI, 6, .inl (rg6 v14 x d b0 b1 b2)))]) hP hD [0, 1] [2] rfl rfl (by decide) (by decide) hk1 hFc hP1 hD1
  generalize H1 = H at hP hS ⊢
  try dsimp only at e4
  have e4_0 := e4
  replace e4_0 := e4_0.symm
  subst e4_0
  have hP : va_P D vwCl [(za, .inl (cZ, 2, .inl (p2 (bI z0) (bI z1)))), (o, .inr (5, [.int th, .ref im, .int (bI tr), .ref rc, .ref bg, .int ro, .ref oa, .ref xa, .ref ya, .ref rg, .ref me, .ref sa, .ref pa, .ref za, .ref ca, .int (bI kp), .ref ta, .ref na])), (rg, .inl (cI, 6, .inl (rg6 (v &&& 255) x d b0 b1 b2)))] H := hP
  have hD : va_D A [(za, .inl (cZ, 2, .inl (p2 (bI z0) (bI z1)))), (o, .inr (5, [.int th, .ref im, .int (bI tr), .ref rc, .ref bg, .int ro, .ref oa, .ref xa, .ref ya, .ref rg, .ref me, .ref sa, .ref pa, .ref za, .ref ca, .int (bI kp), .ref ta, .ref na])), (rg, .inl (cI, 6, .inl (rg6 (v &&& 255) x d b0 b1 b2)))] := hD
  refine lv_aload_n hx hb d_MO_setZ_7 rfl (lv_at hl 0 rfl) ?_
  refine va_get (D := D) (ci := 5) (v := .ref za) (C := R_MO) (T := T_MO) (N := 18) hx hb hts iw_MO hown hK hP 1 rfl rfl 13 (by decide) (hts _ k_708) (fun _ h9 => h9) rfl d_MO_setZ_8 ?_
  refine lv_iload_n hx hb d_MO_setZ_11 rfl (lv_at hl 1 rfl) ?_
  refine lv_iload_n hx hb d_MO_setZ_12 rfl (lv_at hl 3 rfl) ?_
  refine lv_sipush (v := 255) hx hb d_MO_setZ_13 (by decide) ?_
  refine lv_iand hx hb d_MO_setZ_16 ?_
  refine lv_if_ne (tgt := 24) hx hb d_MO_setZ_17 rfl (fun h17 => ?_) (fun h17 => ?_)
  · refine lv_iconst (v := 0) hx hb d_MO_setZ_24 (by decide) ?_
    refine va_zast hx hb hK hP hD hS 0 1 rfl rfl (vp_in_nI (n := 0) (by decide) (by decide)) d_MO_setZ_25 (fun H locs hP hD hS => ?_)
    have hP : va_P D vwCl [(za, .inl (cZ, 2, .inl (upd (p2 (bI z0) (bI z1)) 0 (bI false)))), (o, .inr (5, [.int th, .ref im, .int (bI tr), .ref rc, .ref bg, .int ro, .ref oa, .ref xa, .ref ya, .ref rg, .ref me, .ref sa, .ref pa, .ref za, .ref ca, .int (bI kp), .ref ta, .ref na])), (rg, .inl (cI, 6, .inl (rg6 (v &&& 255) x d b0 b1 b2)))] H := hP
    have hD : va_D A [(za, .inl (cZ, 2, .inl (upd (p2 (bI z0) (bI z1)) 0 (bI false)))), (o, .inr (5, [.int th, .ref im, .int (bI tr), .ref rc, .ref bg, .int ro, .ref oa, .ref xa, .ref ya, .ref rg, .ref me, .ref sa, .ref pa, .ref za, .ref ca, .int (bI kp), .ref ta, .ref na])), (rg, .inl (cI, 6, .inl (rg6 (v &&& 255) x d b0 b1 b2)))] := hD
    rw [show upd (p2 (bI z0) (bI z1)) 0 (bI false) = p2 (bI false) (bI z1) from p2_0] at hP hD
    have hP : va_P D vwCl [(za, .inl (cZ, 2, .inl (p2 (bI false) (bI z1)))), (o, .inr (5, [.int th, .ref im, .int (bI tr), .ref rc, .ref bg, .int ro, .ref oa, .ref xa, .ref ya, .ref rg, .ref me, .ref sa, .ref pa, .ref za, .ref ca, .int (bI kp), .ref ta, .ref na])), (rg, .inl (cI, 6, .inl (rg6 (v &&& 255) x d b0 b1 b2)))] H := hP
    have hD : va_D A [(za, .inl (cZ, 2, .inl (p2 (bI false) (bI z1)))), (o, .inr (5, [.int th, .ref im, .int (bI tr), .ref rc, .ref bg, .int ro, .ref oa, .ref xa, .ref ya, .ref rg, .ref me, .ref sa, .ref pa, .ref za, .ref ca, .int (bI kp), .ref ta, .ref na])), (rg, .inl (cI, 6, .inl (rg6 (v &&& 255) x d b0 b1 b2)))] := hD
    have hP9 : va_P D vwCl [(o, .inr (5, [.int th, .ref im, .int (bI tr), .ref rc, .ref bg, .int ro, .ref oa, .ref xa, .ref ya, .ref rg, .ref me, .ref sa, .ref pa, .ref za, .ref ca, .int (bI kp), .ref ta, .ref na])), (rg, .inl (cI, 6, .inl (rg6 (v &&& 255) x d b0 b1 b2))), (za, .inl (cZ, 2, .inl (p2 (bI false) (bI z1))))] H := hP.sub [1, 2, 0] rfl
    have hD9 : va_D A [(o, .inr (5, [.int th, .ref im, .int (bI tr), .ref rc, .ref bg, .int ro, .ref oa, .ref xa, .ref ya, .ref rg, .ref me, .ref sa, .ref pa, .ref za, .ref ca, .int (bI kp), .ref ta, .ref na])), (rg, .inl (cI, 6, .inl (rg6 (v &&& 255) x d b0 b1 b2))), (za, .inl (cZ, 2, .inl (p2 (bI false) (bI z1))))] := hD.sub [1, 2, 0] (by decide) rfl
    exact W.vret hx hb hr (fun t ht hW => ⟨⟨(v &&& 255, false), rfl, by first | (simp only [h17, ↓reduceIte, not_true_eq_false, not_false_eq_true, and_true, true_and, and_false, false_and, and_self, or_true, true_or, or_false, false_or, decide_true, decide_false, Bool.false_eq_true, reduceCtorEq]; done) | (simp_all []; done), by rw [ht]; exact hP9, va_K.moved hW.alike hK, hD9⟩, hS.F ht⟩) hS.2.2 d_MO_setZ_26
  · refine lv_iconst (v := 1) hx hb d_MO_setZ_20 (by decide) ?_
    refine lv_goto (tgt := 25) hx hb d_MO_setZ_21 rfl ?_
    refine va_zast hx hb hK hP hD hS 0 1 rfl rfl (vp_in_nI (n := 0) (by decide) (by decide)) d_MO_setZ_25 (fun H locs hP hD hS => ?_)
    have hP : va_P D vwCl [(za, .inl (cZ, 2, .inl (upd (p2 (bI z0) (bI z1)) 0 (bI true)))), (o, .inr (5, [.int th, .ref im, .int (bI tr), .ref rc, .ref bg, .int ro, .ref oa, .ref xa, .ref ya, .ref rg, .ref me, .ref sa, .ref pa, .ref za, .ref ca, .int (bI kp), .ref ta, .ref na])), (rg, .inl (cI, 6, .inl (rg6 (v &&& 255) x d b0 b1 b2)))] H := hP
    have hD : va_D A [(za, .inl (cZ, 2, .inl (upd (p2 (bI z0) (bI z1)) 0 (bI true)))), (o, .inr (5, [.int th, .ref im, .int (bI tr), .ref rc, .ref bg, .int ro, .ref oa, .ref xa, .ref ya, .ref rg, .ref me, .ref sa, .ref pa, .ref za, .ref ca, .int (bI kp), .ref ta, .ref na])), (rg, .inl (cI, 6, .inl (rg6 (v &&& 255) x d b0 b1 b2)))] := hD
    rw [show upd (p2 (bI z0) (bI z1)) 0 (bI true) = p2 (bI true) (bI z1) from p2_0] at hP hD
    have hP : va_P D vwCl [(za, .inl (cZ, 2, .inl (p2 (bI true) (bI z1)))), (o, .inr (5, [.int th, .ref im, .int (bI tr), .ref rc, .ref bg, .int ro, .ref oa, .ref xa, .ref ya, .ref rg, .ref me, .ref sa, .ref pa, .ref za, .ref ca, .int (bI kp), .ref ta, .ref na])), (rg, .inl (cI, 6, .inl (rg6 (v &&& 255) x d b0 b1 b2)))] H := hP
    have hD : va_D A [(za, .inl (cZ, 2, .inl (p2 (bI true) (bI z1)))), (o, .inr (5, [.int th, .ref im, .int (bI tr), .ref rc, .ref bg, .int ro, .ref oa, .ref xa, .ref ya, .ref rg, .ref me, .ref sa, .ref pa, .ref za, .ref ca, .int (bI kp), .ref ta, .ref na])), (rg, .inl (cI, 6, .inl (rg6 (v &&& 255) x d b0 b1 b2)))] := hD
    have hP9 : va_P D vwCl [(o, .inr (5, [.int th, .ref im, .int (bI tr), .ref rc, .ref bg, .int ro, .ref oa, .ref xa, .ref ya, .ref rg, .ref me, .ref sa, .ref pa, .ref za, .ref ca, .int (bI kp), .ref ta, .ref na])), (rg, .inl (cI, 6, .inl (rg6 (v &&& 255) x d b0 b1 b2))), (za, .inl (cZ, 2, .inl (p2 (bI true) (bI z1))))] H := hP.sub [1, 2, 0] rfl
    have hD9 : va_D A [(o, .inr (5, [.int th, .ref im, .int (bI tr), .ref rc, .ref bg, .int ro, .ref oa, .ref xa, .ref ya, .ref rg, .ref me, .ref sa, .ref pa, .ref za, .ref ca, .int (bI kp), .ref ta, .ref na])), (rg, .inl (cI, 6, .inl (rg6 (v &&& 255) x d b0 b1 b2))), (za, .inl (cZ, 2, .inl (p2 (bI true) (bI z1))))] := hD.sub [1, 2, 0] (by decide) rfl
    exact W.vret hx hb hr (fun t ht hW => ⟨⟨(v &&& 255, true), rfl, by first | (simp only [h17, ↓reduceIte, not_true_eq_false, not_false_eq_true, and_true, true_and, and_false, false_and, and_self, or_true, true_or, or_false, false_or, decide_true, decide_false, Bool.false_eq_true, reduceCtorEq]; done) | (simp_all []; done), by rw [ht]; exact hP9, va_K.moved hW.alike hK, hD9⟩, hS.F ht⟩) hS.2.2 d_MO_setZ_26
set_option maxHeartbeats 4000000 in
set_option maxRecDepth 100000 in
theorem q_set01 (l : Launch) (D : va_G) (cI cZ : ClassId) (o : Nat) (th : Int32) (im : Nat) (tr : Bool) (rc : Nat) (bg : Nat) (ro : Int32) (oa : Nat) (xa : Nat) (ya : Nat) (rg : Nat) (me : Nat) (sa : Nat) (pa : Nat) (za : Nat) (ca : Nat) (kp : Bool) (ta : Nat) (na : Nat) (a : Int32) (x : Int32) (d : Int32) (b0 : Int32) (b1 : Int32) (b2 : Int32) (v : Int32) (sz : Nat) : MetV l y_MO_set w_MO_set { frames := 0, cells := 0, slots := 0, locals := 0 } D cI cZ [.ref o, .int 0, .int 1, .int v] [(o, .inr (5, [.int th, .ref im, .int (bI tr), .ref rc, .ref bg, .int ro, .ref oa, .ref xa, .ref ya, .ref rg, .ref me, .ref sa, .ref pa, .ref za, .ref ca, .int (bI kp), .ref ta, .ref na])), (rg, .inl (cI, 6, .inl (rg6 a x d b0 b1 b2)))] sz (fun (v1 : Int32) => v1 = v &&& 255) (fun (v1 : Int32) => [(o, .inr (5, [.int th, .ref im, .int (bI tr), .ref rc, .ref bg, .int ro, .ref oa, .ref xa, .ref ya, .ref rg, .ref me, .ref sa, .ref pa, .ref za, .ref ca, .int (bI kp), .ref ta, .ref na])), (rg, .inl (cI, 6, .inl (rg6 a v1 d b0 b1 b2)))]) 0 0 := by
  refine ofV (cc := c_MO_set) (maxL := 4) (ret := none) (by decide) rfl (Nat.le_of_ble_eq_true rfl) ?_
  intro p e s m args below meth c A H hH0 hx hb hr hlocks hts hown hnm hml ls hl hP hK hD hA hS hN
  have hown : s.vm.findClass R_MO = some m.cls := hown
  have hl : lv_has ls 4 [(0, .ref o), (1, .int 0), (2, .int 1), (3, .int v)] := hl
  refine lv_aload_n hx hb d_MO_set_0 rfl (lv_at hl 0 rfl) ?_
  refine va_get (D := D) (ci := 5) (v := .ref rg) (C := R_MO) (T := T_MO) (N := 18) hx hb hts iw_MO hown hK hP 0 rfl rfl 9 (by decide) (hts _ k_704) (fun _ h9 => h9) rfl d_MO_set_1 ?_
  refine lv_iconst (v := 3) hx hb d_MO_set_4 (by decide) ?_
  refine lv_iload_n hx hb d_MO_set_5 rfl (lv_at hl 1 rfl) ?_
  refine lv_imul hx hb d_MO_set_6 ?_
  refine lv_iload_n hx hb d_MO_set_7 rfl (lv_at hl 2 rfl) ?_
  refine lv_iadd hx hb d_MO_set_8 ?_
  refine lv_iload_n hx hb d_MO_set_9 rfl (lv_at hl 3 rfl) ?_
  refine lv_sipush (v := 255) hx hb d_MO_set_10 (by decide) ?_
  refine lv_iand hx hb d_MO_set_13 ?_
  refine va_iast hx hb hK hP hD hS 1 0 rfl rfl (vp_in_nI (n := 1) (by decide) (by decide)) d_MO_set_14 (fun H locs hP hD hS => ?_)
  have hP : va_P D vwCl [(o, .inr (5, [.int th, .ref im, .int (bI tr), .ref rc, .ref bg, .int ro, .ref oa, .ref xa, .ref ya, .ref rg, .ref me, .ref sa, .ref pa, .ref za, .ref ca, .int (bI kp), .ref ta, .ref na])), (rg, .inl (cI, 6, .inl (upd (rg6 a x d b0 b1 b2) 1 (v &&& 255))))] H := hP
  have hD : va_D A [(o, .inr (5, [.int th, .ref im, .int (bI tr), .ref rc, .ref bg, .int ro, .ref oa, .ref xa, .ref ya, .ref rg, .ref me, .ref sa, .ref pa, .ref za, .ref ca, .int (bI kp), .ref ta, .ref na])), (rg, .inl (cI, 6, .inl (upd (rg6 a x d b0 b1 b2) 1 (v &&& 255))))] := hD
  rw [show upd (rg6 a x d b0 b1 b2) 1 (v &&& 255) = rg6 a (v &&& 255) d b0 b1 b2 from rg_1] at hP hD
  have hP : va_P D vwCl [(o, .inr (5, [.int th, .ref im, .int (bI tr), .ref rc, .ref bg, .int ro, .ref oa, .ref xa, .ref ya, .ref rg, .ref me, .ref sa, .ref pa, .ref za, .ref ca, .int (bI kp), .ref ta, .ref na])), (rg, .inl (cI, 6, .inl (rg6 a (v &&& 255) d b0 b1 b2)))] H := hP
  have hD : va_D A [(o, .inr (5, [.int th, .ref im, .int (bI tr), .ref rc, .ref bg, .int ro, .ref oa, .ref xa, .ref ya, .ref rg, .ref me, .ref sa, .ref pa, .ref za, .ref ca, .int (bI kp), .ref ta, .ref na])), (rg, .inl (cI, 6, .inl (rg6 a (v &&& 255) d b0 b1 b2)))] := hD
  have hP9 : va_P D vwCl [(o, .inr (5, [.int th, .ref im, .int (bI tr), .ref rc, .ref bg, .int ro, .ref oa, .ref xa, .ref ya, .ref rg, .ref me, .ref sa, .ref pa, .ref za, .ref ca, .int (bI kp), .ref ta, .ref na])), (rg, .inl (cI, 6, .inl (rg6 a (v &&& 255) d b0 b1 b2)))] H := hP.sub [0, 1] rfl
  have hD9 : va_D A [(o, .inr (5, [.int th, .ref im, .int (bI tr), .ref rc, .ref bg, .int ro, .ref oa, .ref xa, .ref ya, .ref rg, .ref me, .ref sa, .ref pa, .ref za, .ref ca, .int (bI kp), .ref ta, .ref na])), (rg, .inl (cI, 6, .inl (rg6 a (v &&& 255) d b0 b1 b2)))] := hD.sub [0, 1] (by decide) rfl
  exact W.vret hx hb hr (fun t ht hW => ⟨⟨(v &&& 255), rfl, rfl, by rw [ht]; exact hP9, va_K.moved hW.alike hK, hD9⟩, hS.F ht⟩) hS.2.2 d_MO_set_15
set_option maxHeartbeats 4000000 in
set_option maxRecDepth 100000 in
theorem q_setZ01 (l : Launch) (D : va_G) (cI cZ : ClassId) (o : Nat) (th : Int32) (im : Nat) (tr : Bool) (rc : Nat) (bg : Nat) (ro : Int32) (oa : Nat) (xa : Nat) (ya : Nat) (rg : Nat) (me : Nat) (sa : Nat) (pa : Nat) (za : Nat) (ca : Nat) (kp : Bool) (ta : Nat) (na : Nat) (a : Int32) (x : Int32) (d : Int32) (b0 : Int32) (b1 : Int32) (b2 : Int32) (z0 : Bool) (z1 : Bool) (v : Int32) (sz : Nat) : MetV l y_MO_setZ w_MO_setZ { frames := 1, cells := 0, slots := 0, locals := 23 } D cI cZ [.ref o, .int 0, .int 1, .int v] [(o, .inr (5, [.int th, .ref im, .int (bI tr), .ref rc, .ref bg, .int ro, .ref oa, .ref xa, .ref ya, .ref rg, .ref me, .ref sa, .ref pa, .ref za, .ref ca, .int (bI kp), .ref ta, .ref na])), (rg, .inl (cI, 6, .inl (rg6 a x d b0 b1 b2))), (za, .inl (cZ, 2, .inl (p2 (bI z0) (bI z1))))] sz (fun (u : Int32 × Bool) => match u with | (v1, zz) => v1 = v &&& 255 ∧ zz = decide (v &&& 255 = 0)) (fun (u : Int32 × Bool) => match u with | (v1, zz) => [(o, .inr (5, [.int th, .ref im, .int (bI tr), .ref rc, .ref bg, .int ro, .ref oa, .ref xa, .ref ya, .ref rg, .ref me, .ref sa, .ref pa, .ref za, .ref ca, .int (bI kp), .ref ta, .ref na])), (rg, .inl (cI, 6, .inl (rg6 a v1 d b0 b1 b2))), (za, .inl (cZ, 2, .inl (p2 (bI zz) (bI z1))))]) 0 0 := by
  refine ofV (cc := c_MO_setZ) (maxL := 4) (ret := none) (by decide) rfl (Nat.le_of_ble_eq_true rfl) ?_
  intro p e s m args below meth c A H hH0 hx hb hr hlocks hts hown hnm hml ls hl hP hK hD hA hS hN
  have hown : s.vm.findClass R_MO = some m.cls := hown
  have hl : lv_has ls 4 [(0, .ref o), (1, .int 0), (2, .int 1), (3, .int v)] := hl
  refine lv_aload_n hx hb d_MO_setZ_0 rfl (lv_at hl 0 rfl) ?_
  refine lv_iload_n hx hb d_MO_setZ_1 rfl (lv_at hl 1 rfl) ?_
  refine lv_iload_n hx hb d_MO_setZ_2 rfl (lv_at hl 2 rfl) ?_
  refine lv_iload_n hx hb d_MO_setZ_3 rfl (lv_at hl 3 rfl) ?_
  have hPc := hP.sub (ws' := [(o, .inr (5, [.int th, .ref im, .int (bI tr), .ref rc, .ref bg, .int ro, .ref oa, .ref xa, .ref ya, .ref rg, .ref me, .ref sa, .ref pa, .ref za, .ref ca, .int (bI kp), .ref ta, .ref na])), (rg, .inl (cI, 6, .inl (rg6 a x d b0 b1 b2)))]) [0, 1] rfl
  have hDc := hD.sub (ws' := [(o, .inr (5, [.int th, .ref im, .int (bI tr), .ref rc, .ref bg, .int ro, .ref oa, .ref xa, .ref ya, .ref rg, .ref me, .ref sa, .ref pa, .ref za, .ref ca, .int (bI kp), .ref ta, .ref na])), (rg, .inl (cI, 6, .inl (rg6 a x d b0 b1 b2)))]) [0, 1] (by decide) rfl
  have hFc := va_free (wc := [(o, .inr (5, [.int th, .ref im, .int (bI tr), .ref rc, .ref bg, .int ro, .ref oa, .ref xa, .ref ya, .ref rg, .ref me, .ref sa, .ref pa, .ref za, .ref ca, .int (bI kp), .ref ta, .ref na])), (rg, .inl (cI, 6, .inl (rg6 a x d b0 b1 b2)))]) hD hS hA [0, 1] rfl
  refine va_callv (va_runV (As := [.int 0, .int 1, .int v]) (rest := []) ⟨hx, hb, hml, hown, hts⟩ (q_set01 l D cI cZ o th im tr rc bg ro oa xa ya rg me sa pa za ca kp ta na a x d b0 b1 b2 v H.size) ⟨cB 3 hts k_849 k_62 k_846 hd_MO_set ⟨Nat.le_of_ble_eq_true rfl, Nat.le_of_ble_eq_true rfl⟩ rfl rfl, hts _ k_848, hts _ k_43⟩ (PcW.preV (va_recv hK hP (q0 := 0) (ci := 5) rfl rfl) hPc hK hDc hN) rfl rfl hl.1 rfl (lv_room (Nat.le_of_ble_eq_true rfl)) d_MO_setZ_4 ⟨Nat.le_of_ble_eq_true rfl, Nat.le_of_ble_eq_true rfl⟩) hS (fun q _ h => hFc q h) hFc (fun u t H1 locs ht hvm e4 hB hz1 hk1 hS => ?_)
  obtain ⟨v14, rfl⟩ : ∃ z, z = u := ⟨_, rfl⟩
  obtain ⟨hP1, hK1, hD1⟩ := hB
  rw [ht] at hP1
  obtain ⟨hP, hD⟩ := va_join (wr := [(za, .inl (cZ, 2, .inl (p2 (bI z0) (bI z1))))]) (w1 := [(o, .inr (5, [.int th, .ref im, .int (bI tr), .ref rc, .ref bg, .int ro, .ref oa, .ref xa, .ref ya, .ref rg, .ref me, .ref sa, .ref pa, .ref za, .ref ca, .int (bI kp), .ref ta, .ref na])), (rg, .inl (cI, 6, .inl (rg6 a v14 d b0 b1 b2)))]) hP hD [0, 1] [2] rfl rfl (by decide) (by decide) hk1 hFc hP1 hD1
  generalize H1 = H at hP hS ⊢
  try dsimp only at e4
  have e4_0 := e4
  replace e4_0 := e4_0.symm
  subst e4_0
  have hP : va_P D vwCl [(za, .inl (cZ, 2, .inl (p2 (bI z0) (bI z1)))), (o, .inr (5, [.int th, .ref im, .int (bI tr), .ref rc, .ref bg, .int ro, .ref oa, .ref xa, .ref ya, .ref rg, .ref me, .ref sa, .ref pa, .ref za, .ref ca, .int (bI kp), .ref ta, .ref na])), (rg, .inl (cI, 6, .inl (rg6 a (v &&& 255) d b0 b1 b2)))] H := hP
  have hD : va_D A [(za, .inl (cZ, 2, .inl (p2 (bI z0) (bI z1)))), (o, .inr (5, [.int th, .ref im, .int (bI tr), .ref rc, .ref bg, .int ro, .ref oa, .ref xa, .ref ya, .ref rg, .ref me, .ref sa, .ref pa, .ref za, .ref ca, .int (bI kp), .ref ta, .ref na])), (rg, .inl (cI, 6, .inl (rg6 a (v &&& 255) d b0 b1 b2)))] := hD
  refine lv_aload_n hx hb d_MO_setZ_7 rfl (lv_at hl 0 rfl) ?_
  refine va_get (D := D) (ci := 5) (v := .ref za) (C := R_MO) (T := T_MO) (N := 18) hx hb hts iw_MO hown hK hP 1 rfl rfl 13 (by decide) (hts _ k_708) (fun _ h9 => h9) rfl d_MO_setZ_8 ?_
  refine lv_iload_n hx hb d_MO_setZ_11 rfl (lv_at hl 1 rfl) ?_
  refine lv_iload_n hx hb d_MO_setZ_12 rfl (lv_at hl 3 rfl) ?_
  refine lv_sipush (v := 255) hx hb d_MO_setZ_13 (by decide) ?_
  refine lv_iand hx hb d_MO_setZ_16 ?_
  refine lv_if_ne (tgt := 24) hx hb d_MO_setZ_17 rfl (fun h17 => ?_) (fun h17 => ?_)
  · refine lv_iconst (v := 0) hx hb d_MO_setZ_24 (by decide) ?_
    refine va_zast hx hb hK hP hD hS 0 1 rfl rfl (vp_in_nI (n := 0) (by decide) (by decide)) d_MO_setZ_25 (fun H locs hP hD hS => ?_)
    have hP : va_P D vwCl [(za, .inl (cZ, 2, .inl (upd (p2 (bI z0) (bI z1)) 0 (bI false)))), (o, .inr (5, [.int th, .ref im, .int (bI tr), .ref rc, .ref bg, .int ro, .ref oa, .ref xa, .ref ya, .ref rg, .ref me, .ref sa, .ref pa, .ref za, .ref ca, .int (bI kp), .ref ta, .ref na])), (rg, .inl (cI, 6, .inl (rg6 a (v &&& 255) d b0 b1 b2)))] H := hP
    have hD : va_D A [(za, .inl (cZ, 2, .inl (upd (p2 (bI z0) (bI z1)) 0 (bI false)))), (o, .inr (5, [.int th, .ref im, .int (bI tr), .ref rc, .ref bg, .int ro, .ref oa, .ref xa, .ref ya, .ref rg, .ref me, .ref sa, .ref pa, .ref za, .ref ca, .int (bI kp), .ref ta, .ref na])), (rg, .inl (cI, 6, .inl (rg6 a (v &&& 255) d b0 b1 b2)))] := hD
    rw [show upd (p2 (bI z0) (bI z1)) 0 (bI false) = p2 (bI false) (bI z1) from p2_0] at hP hD
    have hP : va_P D vwCl [(za, .inl (cZ, 2, .inl (p2 (bI false) (bI z1)))), (o, .inr (5, [.int th, .ref im, .int (bI tr), .ref rc, .ref bg, .int ro, .ref oa, .ref xa, .ref ya, .ref rg, .ref me, .ref sa, .ref pa, .ref za, .ref ca, .int (bI kp), .ref ta, .ref na])), (rg, .inl (cI, 6, .inl (rg6 a (v &&& 255) d b0 b1 b2)))] H := hP
    have hD : va_D A [(za, .inl (cZ, 2, .inl (p2 (bI false) (bI z1)))), (o, .inr (5, [.int th, .ref im, .int (bI tr), .ref rc, .ref bg, .int ro, .ref oa, .ref xa, .ref ya, .ref rg, .ref me, .ref sa, .ref pa, .ref za, .ref ca, .int (bI kp), .ref ta, .ref na])), (rg, .inl (cI, 6, .inl (rg6 a (v &&& 255) d b0 b1 b2)))] := hD
    have hP9 : va_P D vwCl [(o, .inr (5, [.int th, .ref im, .int (bI tr), .ref rc, .ref bg, .int ro, .ref oa, .ref xa, .ref ya, .ref rg, .ref me, .ref sa, .ref pa, .ref za, .ref ca, .int (bI kp), .ref ta, .ref na])), (rg, .inl (cI, 6, .inl (rg6 a (v &&& 255) d b0 b1 b2))), (za, .inl (cZ, 2, .inl (p2 (bI false) (bI z1))))] H := hP.sub [1, 2, 0] rfl
    have hD9 : va_D A [(o, .inr (5, [.int th, .ref im, .int (bI tr), .ref rc, .ref bg, .int ro, .ref oa, .ref xa, .ref ya, .ref rg, .ref me, .ref sa, .ref pa, .ref za, .ref ca, .int (bI kp), .ref ta, .ref na])), (rg, .inl (cI, 6, .inl (rg6 a (v &&& 255) d b0 b1 b2))), (za, .inl (cZ, 2, .inl (p2 (bI false) (bI z1))))] := hD.sub [1, 2, 0] (by decide) rfl
    exact W.vret hx hb hr (fun t ht hW => ⟨⟨(v &&& 255, false), rfl, by first | (simp only [h17, ↓reduceIte, not_true_eq_false, not_false_eq_true, and_true, true_and, and_false, false_and, and_self, or_true, true_or, or_false, false_or, decide_true, decide_false, Bool.false_eq_true, reduceCtorEq]; done) | (simp_all []; done), by rw [ht]; exact hP9, va_K.moved hW.alike hK, hD9⟩, hS.F ht⟩) hS.2.2 d_MO_setZ_26
  · refine lv_iconst (v := 1) hx hb d_MO_setZ_20 (by decide) ?_
    refine lv_goto (tgt := 25) hx hb d_MO_setZ_21 rfl ?_
    refine va_zast hx hb hK hP hD hS 0 1 rfl rfl (vp_in_nI (n := 0) (by decide) (by decide)) d_MO_setZ_25 (fun H locs hP hD hS => ?_)
    have hP : va_P D vwCl [(za, .inl (cZ, 2, .inl (upd (p2 (bI z0) (bI z1)) 0 (bI true)))), (o, .inr (5, [.int th, .ref im, .int (bI tr), .ref rc, .ref bg, .int ro, .ref oa, .ref xa, .ref ya, .ref rg, .ref me, .ref sa, .ref pa, .ref za, .ref ca, .int (bI kp), .ref ta, .ref na])), (rg, .inl (cI, 6, .inl (rg6 a (v &&& 255) d b0 b1 b2)))] H := hP
    have hD : va_D A [(za, .inl (cZ, 2, .inl (upd (p2 (bI z0) (bI z1)) 0 (bI true)))), (o, .inr (5, [.int th, .ref im, .int (bI tr), .ref rc, .ref bg, .int ro, .ref oa, .ref xa, .ref ya, .ref rg, .ref me, .ref sa, .ref pa, .ref za, .ref ca, .int (bI kp), .ref ta, .ref na])), (rg, .inl (cI, 6, .inl (rg6 a (v &&& 255) d b0 b1 b2)))] := hD
    rw [show upd (p2 (bI z0) (bI z1)) 0 (bI true) = p2 (bI true) (bI z1) from p2_0] at hP hD
    have hP : va_P D vwCl [(za, .inl (cZ, 2, .inl (p2 (bI true) (bI z1)))), (o, .inr (5, [.int th, .ref im, .int (bI tr), .ref rc, .ref bg, .int ro, .ref oa, .ref xa, .ref ya, .ref rg, .ref me, .ref sa, .ref pa, .ref za, .ref ca, .int (bI kp), .ref ta, .ref na])), (rg, .inl (cI, 6, .inl (rg6 a (v &&& 255) d b0 b1 b2)))] H := hP
    have hD : va_D A [(za, .inl (cZ, 2, .inl (p2 (bI true) (bI z1)))), (o, .inr (5, [.int th, .ref im, .int (bI tr), .ref rc, .ref bg, .int ro, .ref oa, .ref xa, .ref ya, .ref rg, .ref me, .ref sa, .ref pa, .ref za, .ref ca, .int (bI kp), .ref ta, .ref na])), (rg, .inl (cI, 6, .inl (rg6 a (v &&& 255) d b0 b1 b2)))] := hD
    have hP9 : va_P D vwCl [(o, .inr (5, [.int th, .ref im, .int (bI tr), .ref rc, .ref bg, .int ro, .ref oa, .ref xa, .ref ya, .ref rg, .ref me, .ref sa, .ref pa, .ref za, .ref ca, .int (bI kp), .ref ta, .ref na])), (rg, .inl (cI, 6, .inl (rg6 a (v &&& 255) d b0 b1 b2))), (za, .inl (cZ, 2, .inl (p2 (bI true) (bI z1))))] H := hP.sub [1, 2, 0] rfl
    have hD9 : va_D A [(o, .inr (5, [.int th, .ref im, .int (bI tr), .ref rc, .ref bg, .int ro, .ref oa, .ref xa, .ref ya, .ref rg, .ref me, .ref sa, .ref pa, .ref za, .ref ca, .int (bI kp), .ref ta, .ref na])), (rg, .inl (cI, 6, .inl (rg6 a (v &&& 255) d b0 b1 b2))), (za, .inl (cZ, 2, .inl (p2 (bI true) (bI z1))))] := hD.sub [1, 2, 0] (by decide) rfl
    exact W.vret hx hb hr (fun t ht hW => ⟨⟨(v &&& 255, true), rfl, by first | (simp only [h17, ↓reduceIte, not_true_eq_false, not_false_eq_true, and_true, true_and, and_false, false_and, and_self, or_true, true_or, or_false, false_or, decide_true, decide_false, Bool.false_eq_true, reduceCtorEq]; done) | (simp_all []; done), by rw [ht]; exact hP9, va_K.moved hW.alike hK, hD9⟩, hS.F ht⟩) hS.2.2 d_MO_setZ_26
set_option maxHeartbeats 4000000 in
set_option maxRecDepth 100000 in
theorem q_set10 (l : Launch) (D : va_G) (cI cZ : ClassId) (o : Nat) (th : Int32) (im : Nat) (tr : Bool) (rc : Nat) (bg : Nat) (ro : Int32) (oa : Nat) (xa : Nat) (ya : Nat) (rg : Nat) (me : Nat) (sa : Nat) (pa : Nat) (za : Nat) (ca : Nat) (kp : Bool) (ta : Nat) (na : Nat) (a : Int32) (x : Int32) (d : Int32) (b0 : Int32) (b1 : Int32) (b2 : Int32) (v : Int32) (sz : Nat) : MetV l y_MO_set w_MO_set { frames := 0, cells := 0, slots := 0, locals := 0 } D cI cZ [.ref o, .int 1, .int 0, .int v] [(o, .inr (5, [.int th, .ref im, .int (bI tr), .ref rc, .ref bg, .int ro, .ref oa, .ref xa, .ref ya, .ref rg, .ref me, .ref sa, .ref pa, .ref za, .ref ca, .int (bI kp), .ref ta, .ref na])), (rg, .inl (cI, 6, .inl (rg6 a x d b0 b1 b2)))] sz (fun (v1 : Int32) => v1 = v &&& 255) (fun (v1 : Int32) => [(o, .inr (5, [.int th, .ref im, .int (bI tr), .ref rc, .ref bg, .int ro, .ref oa, .ref xa, .ref ya, .ref rg, .ref me, .ref sa, .ref pa, .ref za, .ref ca, .int (bI kp), .ref ta, .ref na])), (rg, .inl (cI, 6, .inl (rg6 a x d v1 b1 b2)))]) 0 0 := by
  refine ofV (cc := c_MO_set) (maxL := 4) (ret := none) (by decide) rfl (Nat.le_of_ble_eq_true rfl) ?_
  intro p e s m args below meth c A H hH0 hx hb hr hlocks hts hown hnm hml ls hl hP hK hD hA hS hN
  have hown : s.vm.findClass R_MO = some m.cls := hown
  have hl : lv_has ls 4 [(0, .ref o), (1, .int 1), (2, .int 0), (3, .int v)] := hl
  refine lv_aload_n hx hb d_MO_set_0 rfl (lv_at hl 0 rfl) ?_
  refine va_get (D := D) (ci := 5) (v := .ref rg) (C := R_MO) (T := T_MO) (N := 18) hx hb hts iw_MO hown hK hP 0 rfl rfl 9 (by decide) (hts _ k_704) (fun _ h9 => h9) rfl d_MO_set_1 ?_
  refine lv_iconst (v := 3) hx hb d_MO_set_4 (by decide) ?_
  refine lv_iload_n hx hb d_MO_set_5 rfl (lv_at hl 1 rfl) ?_
  refine lv_imul hx hb d_MO_set_6 ?_
  refine lv_iload_n hx hb d_MO_set_7 rfl (lv_at hl 2 rfl) ?_
  refine lv_iadd hx hb d_MO_set_8 ?_
  refine lv_iload_n hx hb d_MO_set_9 rfl (lv_at hl 3 rfl) ?_
  refine lv_sipush (v := 255) hx hb d_MO_set_10 (by decide) ?_
  refine lv_iand hx hb d_MO_set_13 ?_
  refine va_iast hx hb hK hP hD hS 1 0 rfl rfl (vp_in_nI (n := 3) (by decide) (by decide)) d_MO_set_14 (fun H locs hP hD hS => ?_)
  have hP : va_P D vwCl [(o, .inr (5, [.int th, .ref im, .int (bI tr), .ref rc, .ref bg, .int ro, .ref oa, .ref xa, .ref ya, .ref rg, .ref me, .ref sa, .ref pa, .ref za, .ref ca, .int (bI kp), .ref ta, .ref na])), (rg, .inl (cI, 6, .inl (upd (rg6 a x d b0 b1 b2) 3 (v &&& 255))))] H := hP
  have hD : va_D A [(o, .inr (5, [.int th, .ref im, .int (bI tr), .ref rc, .ref bg, .int ro, .ref oa, .ref xa, .ref ya, .ref rg, .ref me, .ref sa, .ref pa, .ref za, .ref ca, .int (bI kp), .ref ta, .ref na])), (rg, .inl (cI, 6, .inl (upd (rg6 a x d b0 b1 b2) 3 (v &&& 255))))] := hD
  rw [show upd (rg6 a x d b0 b1 b2) 3 (v &&& 255) = rg6 a x d (v &&& 255) b1 b2 from rg_3] at hP hD
  have hP : va_P D vwCl [(o, .inr (5, [.int th, .ref im, .int (bI tr), .ref rc, .ref bg, .int ro, .ref oa, .ref xa, .ref ya, .ref rg, .ref me, .ref sa, .ref pa, .ref za, .ref ca, .int (bI kp), .ref ta, .ref na])), (rg, .inl (cI, 6, .inl (rg6 a x d (v &&& 255) b1 b2)))] H := hP
  have hD : va_D A [(o, .inr (5, [.int th, .ref im, .int (bI tr), .ref rc, .ref bg, .int ro, .ref oa, .ref xa, .ref ya, .ref rg, .ref me, .ref sa, .ref pa, .ref za, .ref ca, .int (bI kp), .ref ta, .ref na])), (rg, .inl (cI, 6, .inl (rg6 a x d (v &&& 255) b1 b2)))] := hD
  have hP9 : va_P D vwCl [(o, .inr (5, [.int th, .ref im, .int (bI tr), .ref rc, .ref bg, .int ro, .ref oa, .ref xa, .ref ya, .ref rg, .ref me, .ref sa, .ref pa, .ref za, .ref ca, .int (bI kp), .ref ta, .ref na])), (rg, .inl (cI, 6, .inl (rg6 a x d (v &&& 255) b1 b2)))] H := hP.sub [0, 1] rfl
  have hD9 : va_D A [(o, .inr (5, [.int th, .ref im, .int (bI tr), .ref rc, .ref bg, .int ro, .ref oa, .ref xa, .ref ya, .ref rg, .ref me, .ref sa, .ref pa, .ref za, .ref ca, .int (bI kp), .ref ta, .ref na])), (rg, .inl (cI, 6, .inl (rg6 a x d (v &&& 255) b1 b2)))] := hD.sub [0, 1] (by decide) rfl
  exact W.vret hx hb hr (fun t ht hW => ⟨⟨(v &&& 255), rfl, rfl, by rw [ht]; exact hP9, va_K.moved hW.alike hK, hD9⟩, hS.F ht⟩) hS.2.2 d_MO_set_15
set_option maxHeartbeats 4000000 in
set_option maxRecDepth 100000 in
theorem q_setZ10 (l : Launch) (D : va_G) (cI cZ : ClassId) (o : Nat) (th : Int32) (im : Nat) (tr : Bool) (rc : Nat) (bg : Nat) (ro : Int32) (oa : Nat) (xa : Nat) (ya : Nat) (rg : Nat) (me : Nat) (sa : Nat) (pa : Nat) (za : Nat) (ca : Nat) (kp : Bool) (ta : Nat) (na : Nat) (a : Int32) (x : Int32) (d : Int32) (b0 : Int32) (b1 : Int32) (b2 : Int32) (z0 : Bool) (z1 : Bool) (v : Int32) (sz : Nat) : MetV l y_MO_setZ w_MO_setZ { frames := 1, cells := 0, slots := 0, locals := 23 } D cI cZ [.ref o, .int 1, .int 0, .int v] [(o, .inr (5, [.int th, .ref im, .int (bI tr), .ref rc, .ref bg, .int ro, .ref oa, .ref xa, .ref ya, .ref rg, .ref me, .ref sa, .ref pa, .ref za, .ref ca, .int (bI kp), .ref ta, .ref na])), (rg, .inl (cI, 6, .inl (rg6 a x d b0 b1 b2))), (za, .inl (cZ, 2, .inl (p2 (bI z0) (bI z1))))] sz (fun (u : Int32 × Bool) => match u with | (v1, zz) => v1 = v &&& 255 ∧ zz = decide (v &&& 255 = 0)) (fun (u : Int32 × Bool) => match u with | (v1, zz) => [(o, .inr (5, [.int th, .ref im, .int (bI tr), .ref rc, .ref bg, .int ro, .ref oa, .ref xa, .ref ya, .ref rg, .ref me, .ref sa, .ref pa, .ref za, .ref ca, .int (bI kp), .ref ta, .ref na])), (rg, .inl (cI, 6, .inl (rg6 a x d v1 b1 b2))), (za, .inl (cZ, 2, .inl (p2 (bI z0) (bI zz))))]) 0 0 := by
  refine ofV (cc := c_MO_setZ) (maxL := 4) (ret := none) (by decide) rfl (Nat.le_of_ble_eq_true rfl) ?_
  intro p e s m args below meth c A H hH0 hx hb hr hlocks hts hown hnm hml ls hl hP hK hD hA hS hN
  have hown : s.vm.findClass R_MO = some m.cls := hown
  have hl : lv_has ls 4 [(0, .ref o), (1, .int 1), (2, .int 0), (3, .int v)] := hl
  refine lv_aload_n hx hb d_MO_setZ_0 rfl (lv_at hl 0 rfl) ?_
  refine lv_iload_n hx hb d_MO_setZ_1 rfl (lv_at hl 1 rfl) ?_
  refine lv_iload_n hx hb d_MO_setZ_2 rfl (lv_at hl 2 rfl) ?_
  refine lv_iload_n hx hb d_MO_setZ_3 rfl (lv_at hl 3 rfl) ?_
  have hPc := hP.sub (ws' := [(o, .inr (5, [.int th, .ref im, .int (bI tr), .ref rc, .ref bg, .int ro, .ref oa, .ref xa, .ref ya, .ref rg, .ref me, .ref sa, .ref pa, .ref za, .ref ca, .int (bI kp), .ref ta, .ref na])), (rg, .inl (cI, 6, .inl (rg6 a x d b0 b1 b2)))]) [0, 1] rfl
  have hDc := hD.sub (ws' := [(o, .inr (5, [.int th, .ref im, .int (bI tr), .ref rc, .ref bg, .int ro, .ref oa, .ref xa, .ref ya, .ref rg, .ref me, .ref sa, .ref pa, .ref za, .ref ca, .int (bI kp), .ref ta, .ref na])), (rg, .inl (cI, 6, .inl (rg6 a x d b0 b1 b2)))]) [0, 1] (by decide) rfl
  have hFc := va_free (wc := [(o, .inr (5, [.int th, .ref im, .int (bI tr), .ref rc, .ref bg, .int ro, .ref oa, .ref xa, .ref ya, .ref rg, .ref me, .ref sa, .ref pa, .ref za, .ref ca, .int (bI kp), .ref ta, .ref na])), (rg, .inl (cI, 6, .inl (rg6 a x d b0 b1 b2)))]) hD hS hA [0, 1] rfl
  refine va_callv (va_runV (As := [.int 1, .int 0, .int v]) (rest := []) ⟨hx, hb, hml, hown, hts⟩ (q_set10 l D cI cZ o th im tr rc bg ro oa xa ya rg me sa pa za ca kp ta na a x d b0 b1 b2 v H.size) ⟨cB 3 hts k_849 k_62 k_846 hd_MO_set ⟨Nat.le_of_ble_eq_true rfl, Nat.le_of_ble_eq_true rfl⟩ rfl rfl, hts _ k_848, hts _ k_43⟩ (PcW.preV (va_recv hK hP (q0 := 0) (ci := 5) rfl rfl) hPc hK hDc hN) rfl rfl hl.1 rfl (lv_room (Nat.le_of_ble_eq_true rfl)) d_MO_setZ_4 ⟨Nat.le_of_ble_eq_true rfl, Nat.le_of_ble_eq_true rfl⟩) hS (fun q _ h => hFc q h) hFc (fun u t H1 locs ht hvm e4 hB hz1 hk1 hS => ?_)
  obtain ⟨v14, rfl⟩ : ∃ z, z = u := ⟨_, rfl⟩
  obtain ⟨hP1, hK1, hD1⟩ := hB
  rw [ht] at hP1
  obtain ⟨hP, hD⟩ := va_join (wr := [(za, .inl (cZ, 2, .inl (p2 (bI z0) (bI z1))))]) (w1 := [(o, .inr (5, [.int th, .ref im, .int (bI tr), .ref rc, .ref bg, .int ro, .ref oa, .ref xa, .ref ya, .ref rg, .ref me, .ref sa, .ref pa, .ref za, .ref ca, .int (bI kp), .ref ta, .ref na])), (rg, .inl (cI, 6, .inl (rg6 a x d v14 b1 b2)))]) hP hD [0, 1] [2] rfl rfl (by decide) (by decide) hk1 hFc hP1 hD1
  generalize H1 = H at hP hS ⊢
  try dsimp only at e4
  have e4_0 := e4
  replace e4_0 := e4_0.symm
  subst e4_0
  have hP : va_P D vwCl [(za, .inl (cZ, 2, .inl (p2 (bI z0) (bI z1)))), (o, .inr (5, [.int th, .ref im, .int (bI tr), .ref rc, .ref bg, .int ro, .ref oa, .ref xa, .ref ya, .ref rg, .ref me, .ref sa, .ref pa, .ref za, .ref ca, .int (bI kp), .ref ta, .ref na])), (rg, .inl (cI, 6, .inl (rg6 a x d (v &&& 255) b1 b2)))] H := hP
  have hD : va_D A [(za, .inl (cZ, 2, .inl (p2 (bI z0) (bI z1)))), (o, .inr (5, [.int th, .ref im, .int (bI tr), .ref rc, .ref bg, .int ro, .ref oa, .ref xa, .ref ya, .ref rg, .ref me, .ref sa, .ref pa, .ref za, .ref ca, .int (bI kp), .ref ta, .ref na])), (rg, .inl (cI, 6, .inl (rg6 a x d (v &&& 255) b1 b2)))] := hD
  refine lv_aload_n hx hb d_MO_setZ_7 rfl (lv_at hl 0 rfl) ?_
  refine va_get (D := D) (ci := 5) (v := .ref za) (C := R_MO) (T := T_MO) (N := 18) hx hb hts iw_MO hown hK hP 1 rfl rfl 13 (by decide) (hts _ k_708) (fun _ h9 => h9) rfl d_MO_setZ_8 ?_
  refine lv_iload_n hx hb d_MO_setZ_11 rfl (lv_at hl 1 rfl) ?_
  refine lv_iload_n hx hb d_MO_setZ_12 rfl (lv_at hl 3 rfl) ?_
  refine lv_sipush (v := 255) hx hb d_MO_setZ_13 (by decide) ?_
  refine lv_iand hx hb d_MO_setZ_16 ?_
  refine lv_if_ne (tgt := 24) hx hb d_MO_setZ_17 rfl (fun h17 => ?_) (fun h17 => ?_)
  · refine lv_iconst (v := 0) hx hb d_MO_setZ_24 (by decide) ?_
    refine va_zast hx hb hK hP hD hS 0 1 rfl rfl (vp_in_nI (n := 1) (by decide) (by decide)) d_MO_setZ_25 (fun H locs hP hD hS => ?_)
    have hP : va_P D vwCl [(za, .inl (cZ, 2, .inl (upd (p2 (bI z0) (bI z1)) 1 (bI false)))), (o, .inr (5, [.int th, .ref im, .int (bI tr), .ref rc, .ref bg, .int ro, .ref oa, .ref xa, .ref ya, .ref rg, .ref me, .ref sa, .ref pa, .ref za, .ref ca, .int (bI kp), .ref ta, .ref na])), (rg, .inl (cI, 6, .inl (rg6 a x d (v &&& 255) b1 b2)))] H := hP
    have hD : va_D A [(za, .inl (cZ, 2, .inl (upd (p2 (bI z0) (bI z1)) 1 (bI false)))), (o, .inr (5, [.int th, .ref im, .int (bI tr), .ref rc, .ref bg, .int ro, .ref oa, .ref xa, .ref ya, .ref rg, .ref me, .ref sa, .ref pa, .ref za, .ref ca, .int (bI kp), .ref ta, .ref na])), (rg, .inl (cI, 6, .inl (rg6 a x d (v &&& 255) b1 b2)))] := hD
    rw [show upd (p2 (bI z0) (bI z1)) 1 (bI false) = p2 (bI z0) (bI false) from p2_1] at hP hD
    have hP : va_P D vwCl [(za, .inl (cZ, 2, .inl (p2 (bI z0) (bI false)))), (o, .inr (5, [.int th, .ref im, .int (bI tr), .ref rc, .ref bg, .int ro, .ref oa, .ref xa, .ref ya, .ref rg, .ref me, .ref sa, .ref pa, .ref za, .ref ca, .int (bI kp), .ref ta, .ref na])), (rg, .inl (cI, 6, .inl (rg6 a x d (v &&& 255) b1 b2)))] H := hP
    have hD : va_D A [(za, .inl (cZ, 2, .inl (p2 (bI z0) (bI false)))), (o, .inr (5, [.int th, .ref im, .int (bI tr), .ref rc, .ref bg, .int ro, .ref oa, .ref xa, .ref ya, .ref rg, .ref me, .ref sa, .ref pa, .ref za, .ref ca, .int (bI kp), .ref ta, .ref na])), (rg, .inl (cI, 6, .inl (rg6 a x d (v &&& 255) b1 b2)))] := hD
    have hP9 : va_P D vwCl [(o, .inr (5, [.int th, .ref im, .int (bI tr), .ref rc, .ref bg, .int ro, .ref oa, .ref xa, .ref ya, .ref rg, .ref me, .ref sa, .ref pa, .ref za, .ref ca, .int (bI kp), .ref ta, .ref na])), (rg, .inl (cI, 6, .inl (rg6 a x d (v &&& 255) b1 b2))), (za, .inl (cZ, 2, .inl (p2 (bI z0) (bI false))))] H := hP.sub [1, 2, 0] rfl
    have hD9 : va_D A [(o, .inr (5, [.int th, .ref im, .int (bI tr), .ref rc, .ref bg, .int ro, .ref oa, .ref xa, .ref ya, .ref rg, .ref me, .ref sa, .ref pa, .ref za, .ref ca, .int (bI kp), .ref ta, .ref na])), (rg, .inl (cI, 6, .inl (rg6 a x d (v &&& 255) b1 b2))), (za, .inl (cZ, 2, .inl (p2 (bI z0) (bI false))))] := hD.sub [1, 2, 0] (by decide) rfl
    exact W.vret hx hb hr (fun t ht hW => ⟨⟨(v &&& 255, false), rfl, by first | (simp only [h17, ↓reduceIte, not_true_eq_false, not_false_eq_true, and_true, true_and, and_false, false_and, and_self, or_true, true_or, or_false, false_or, decide_true, decide_false, Bool.false_eq_true, reduceCtorEq]; done) | (simp_all []; done), by rw [ht]; exact hP9, va_K.moved hW.alike hK, hD9⟩, hS.F ht⟩) hS.2.2 d_MO_setZ_26
  · refine lv_iconst (v := 1) hx hb d_MO_setZ_20 (by decide) ?_
    refine lv_goto (tgt := 25) hx hb d_MO_setZ_21 rfl ?_
    refine va_zast hx hb hK hP hD hS 0 1 rfl rfl (vp_in_nI (n := 1) (by decide) (by decide)) d_MO_setZ_25 (fun H locs hP hD hS => ?_)
    have hP : va_P D vwCl [(za, .inl (cZ, 2, .inl (upd (p2 (bI z0) (bI z1)) 1 (bI true)))), (o, .inr (5, [.int th, .ref im, .int (bI tr), .ref rc, .ref bg, .int ro, .ref oa, .ref xa, .ref ya, .ref rg, .ref me, .ref sa, .ref pa, .ref za, .ref ca, .int (bI kp), .ref ta, .ref na])), (rg, .inl (cI, 6, .inl (rg6 a x d (v &&& 255) b1 b2)))] H := hP
    have hD : va_D A [(za, .inl (cZ, 2, .inl (upd (p2 (bI z0) (bI z1)) 1 (bI true)))), (o, .inr (5, [.int th, .ref im, .int (bI tr), .ref rc, .ref bg, .int ro, .ref oa, .ref xa, .ref ya, .ref rg, .ref me, .ref sa, .ref pa, .ref za, .ref ca, .int (bI kp), .ref ta, .ref na])), (rg, .inl (cI, 6, .inl (rg6 a x d (v &&& 255) b1 b2)))] := hD
    rw [show upd (p2 (bI z0) (bI z1)) 1 (bI true) = p2 (bI z0) (bI true) from p2_1] at hP hD
    have hP : va_P D vwCl [(za, .inl (cZ, 2, .inl (p2 (bI z0) (bI true)))), (o, .inr (5, [.int th, .ref im, .int (bI tr), .ref rc, .ref bg, .int ro, .ref oa, .ref xa, .ref ya, .ref rg, .ref me, .ref sa, .ref pa, .ref za, .ref ca, .int (bI kp), .ref ta, .ref na])), (rg, .inl (cI, 6, .inl (rg6 a x d (v &&& 255) b1 b2)))] H := hP
    have hD : va_D A [(za, .inl (cZ, 2, .inl (p2 (bI z0) (bI true)))), (o, .inr (5, [.int th, .ref im, .int (bI tr), .ref rc, .ref bg, .int ro, .ref oa, .ref xa, .ref ya, .ref rg, .ref me, .ref sa, .ref pa, .ref za, .ref ca, .int (bI kp), .ref ta, .ref na])), (rg, .inl (cI, 6, .inl (rg6 a x d (v &&& 255) b1 b2)))] := hD
    have hP9 : va_P D vwCl [(o, .inr (5, [.int th, .ref im, .int (bI tr), .ref rc, .ref bg, .int ro, .ref oa, .ref xa, .ref ya, .ref rg, .ref me, .ref sa, .ref pa, .ref za, .ref ca, .int (bI kp), .ref ta, .ref na])), (rg, .inl (cI, 6, .inl (rg6 a x d (v &&& 255) b1 b2))), (za, .inl (cZ, 2, .inl (p2 (bI z0) (bI true))))] H := hP.sub [1, 2, 0] rfl
    have hD9 : va_D A [(o, .inr (5, [.int th, .ref im, .int (bI tr), .ref rc, .ref bg, .int ro, .ref oa, .ref xa, .ref ya, .ref rg, .ref me, .ref sa, .ref pa, .ref za, .ref ca, .int (bI kp), .ref ta, .ref na])), (rg, .inl (cI, 6, .inl (rg6 a x d (v &&& 255) b1 b2))), (za, .inl (cZ, 2, .inl (p2 (bI z0) (bI true))))] := hD.sub [1, 2, 0] (by decide) rfl
    exact W.vret hx hb hr (fun t ht hW => ⟨⟨(v &&& 255, true), rfl, by first | (simp only [h17, ↓reduceIte, not_true_eq_false, not_false_eq_true, and_true, true_and, and_false, false_and, and_self, or_true, true_or, or_false, false_or, decide_true, decide_false, Bool.false_eq_true, reduceCtorEq]; done) | (simp_all []; done), by rw [ht]; exact hP9, va_K.moved hW.alike hK, hD9⟩, hS.F ht⟩) hS.2.2 d_MO_setZ_26
set_option maxHeartbeats 4000000 in
set_option maxRecDepth 100000 in
theorem q_set11 (l : Launch) (D : va_G) (cI cZ : ClassId) (o : Nat) (th : Int32) (im : Nat) (tr : Bool) (rc : Nat) (bg : Nat) (ro : Int32) (oa : Nat) (xa : Nat) (ya : Nat) (rg : Nat) (me : Nat) (sa : Nat) (pa : Nat) (za : Nat) (ca : Nat) (kp : Bool) (ta : Nat) (na : Nat) (a : Int32) (x : Int32) (d : Int32) (b0 : Int32) (b1 : Int32) (b2 : Int32) (v : Int32) (sz : Nat) : MetV l y_MO_set w_MO_set { frames := 0, cells := 0, slots := 0, locals := 0 } D cI cZ [.ref o, .int 1, .int 1, .int v] [(o, .inr (5, [.int th, .ref im, .int (bI tr), .ref rc, .ref bg, .int ro, .ref oa, .ref xa, .ref ya, .ref rg, .ref me, .ref sa, .ref pa, .ref za, .ref ca, .int (bI kp), .ref ta, .ref na])), (rg, .inl (cI, 6, .inl (rg6 a x d b0 b1 b2)))] sz (fun (v1 : Int32) => v1 = v &&& 255) (fun (v1 : Int32) => [(o, .inr (5, [.int th, .ref im, .int (bI tr), .ref rc, .ref bg, .int ro, .ref oa, .ref xa, .ref ya, .ref rg, .ref me, .ref sa, .ref pa, .ref za, .ref ca, .int (bI kp), .ref ta, .ref na])), (rg, .inl (cI, 6, .inl (rg6 a x d b0 v1 b2)))]) 0 0 := by
  refine ofV (cc := c_MO_set) (maxL := 4) (ret := none) (by decide) rfl (Nat.le_of_ble_eq_true rfl) ?_
  intro p e s m args below meth c A H hH0 hx hb hr hlocks hts hown hnm hml ls hl hP hK hD hA hS hN
  have hown : s.vm.findClass R_MO = some m.cls := hown
  have hl : lv_has ls 4 [(0, .ref o), (1, .int 1), (2, .int 1), (3, .int v)] := hl
  refine lv_aload_n hx hb d_MO_set_0 rfl (lv_at hl 0 rfl) ?_
  refine va_get (D := D) (ci := 5) (v := .ref rg) (C := R_MO) (T := T_MO) (N := 18) hx hb hts iw_MO hown hK hP 0 rfl rfl 9 (by decide) (hts _ k_704) (fun _ h9 => h9) rfl d_MO_set_1 ?_
  refine lv_iconst (v := 3) hx hb d_MO_set_4 (by decide) ?_
  refine lv_iload_n hx hb d_MO_set_5 rfl (lv_at hl 1 rfl) ?_
  refine lv_imul hx hb d_MO_set_6 ?_
  refine lv_iload_n hx hb d_MO_set_7 rfl (lv_at hl 2 rfl) ?_
  refine lv_iadd hx hb d_MO_set_8 ?_
  refine lv_iload_n hx hb d_MO_set_9 rfl (lv_at hl 3 rfl) ?_
  refine lv_sipush (v := 255) hx hb d_MO_set_10 (by decide) ?_
  refine lv_iand hx hb d_MO_set_13 ?_
  refine va_iast hx hb hK hP hD hS 1 0 rfl rfl (vp_in_nI (n := 4) (by decide) (by decide)) d_MO_set_14 (fun H locs hP hD hS => ?_)
  have hP : va_P D vwCl [(o, .inr (5, [.int th, .ref im, .int (bI tr), .ref rc, .ref bg, .int ro, .ref oa, .ref xa, .ref ya, .ref rg, .ref me, .ref sa, .ref pa, .ref za, .ref ca, .int (bI kp), .ref ta, .ref na])), (rg, .inl (cI, 6, .inl (upd (rg6 a x d b0 b1 b2) 4 (v &&& 255))))] H := hP
  have hD : va_D A [(o, .inr (5, [.int th, .ref im, .int (bI tr), .ref rc, .ref bg, .int ro, .ref oa, .ref xa, .ref ya, .ref rg, .ref me, .ref sa, .ref pa, .ref za, .ref ca, .int (bI kp), .ref ta, .ref na])), (rg, .inl (cI, 6, .inl (upd (rg6 a x d b0 b1 b2) 4 (v &&& 255))))] := hD
  rw [show upd (rg6 a x d b0 b1 b2) 4 (v &&& 255) = rg6 a x d b0 (v &&& 255) b2 from rg_4] at hP hD
  have hP : va_P D vwCl [(o, .inr (5, [.int th, .ref im, .int (bI tr), .ref rc, .ref bg, .int ro, .ref oa, .ref xa, .ref ya, .ref rg, .ref me, .ref sa, .ref pa, .ref za, .ref ca, .int (bI kp), .ref ta, .ref na])), (rg, .inl (cI, 6, .inl (rg6 a x d b0 (v &&& 255) b2)))] H := hP
  have hD : va_D A [(o, .inr (5, [.int th, .ref im, .int (bI tr), .ref rc, .ref bg, .int ro, .ref oa, .ref xa, .ref ya, .ref rg, .ref me, .ref sa, .ref pa, .ref za, .ref ca, .int (bI kp), .ref ta, .ref na])), (rg, .inl (cI, 6, .inl (rg6 a x d b0 (v &&& 255) b2)))] := hD
  have hP9 : va_P D vwCl [(o, .inr (5, [.int th, .ref im, .int (bI tr), .ref rc, .ref bg, .int ro, .ref oa, .ref xa, .ref ya, .ref rg, .ref me, .ref sa, .ref pa, .ref za, .ref ca, .int (bI kp), .ref ta, .ref na])), (rg, .inl (cI, 6, .inl (rg6 a x d b0 (v &&& 255) b2)))] H := hP.sub [0, 1] rfl
  have hD9 : va_D A [(o, .inr (5, [.int th, .ref im, .int (bI tr), .ref rc, .ref bg, .int ro, .ref oa, .ref xa, .ref ya, .ref rg, .ref me, .ref sa, .ref pa, .ref za, .ref ca, .int (bI kp), .ref ta, .ref na])), (rg, .inl (cI, 6, .inl (rg6 a x d b0 (v &&& 255) b2)))] := hD.sub [0, 1] (by decide) rfl
  exact W.vret hx hb hr (fun t ht hW => ⟨⟨(v &&& 255), rfl, rfl, by rw [ht]; exact hP9, va_K.moved hW.alike hK, hD9⟩, hS.F ht⟩) hS.2.2 d_MO_set_15
set_option maxHeartbeats 4000000 in
set_option maxRecDepth 100000 in
theorem q_setZ11 (l : Launch) (D : va_G) (cI cZ : ClassId) (o : Nat) (th : Int32) (im : Nat) (tr : Bool) (rc : Nat) (bg : Nat) (ro : Int32) (oa : Nat) (xa : Nat) (ya : Nat) (rg : Nat) (me : Nat) (sa : Nat) (pa : Nat) (za : Nat) (ca : Nat) (kp : Bool) (ta : Nat) (na : Nat) (a : Int32) (x : Int32) (d : Int32) (b0 : Int32) (b1 : Int32) (b2 : Int32) (z0 : Bool) (z1 : Bool) (v : Int32) (sz : Nat) : MetV l y_MO_setZ w_MO_setZ { frames := 1, cells := 0, slots := 0, locals := 23 } D cI cZ [.ref o, .int 1, .int 1, .int v] [(o, .inr (5, [.int th, .ref im, .int (bI tr), .ref rc, .ref bg, .int ro, .ref oa, .ref xa, .ref ya, .ref rg, .ref me, .ref sa, .ref pa, .ref za, .ref ca, .int (bI kp), .ref ta, .ref na])), (rg, .inl (cI, 6, .inl (rg6 a x d b0 b1 b2))), (za, .inl (cZ, 2, .inl (p2 (bI z0) (bI z1))))] sz (fun (u : Int32 × Bool) => match u with | (v1, zz) => v1 = v &&& 255 ∧ zz = decide (v &&& 255 = 0)) (fun (u : Int32 × Bool) => match u with | (v1, zz) => [(o, .inr (5, [.int th, .ref im, .int (bI tr), .ref rc, .ref bg, .int ro, .ref oa, .ref xa, .ref ya, .ref rg, .ref me, .ref sa, .ref pa, .ref za, .ref ca, .int (bI kp), .ref ta, .ref na])), (rg, .inl (cI, 6, .inl (rg6 a x d b0 v1 b2))), (za, .inl (cZ, 2, .inl (p2 (bI z0) (bI zz))))]) 0 0 := by
  refine ofV (cc := c_MO_setZ) (maxL := 4) (ret := none) (by decide) rfl (Nat.le_of_ble_eq_true rfl) ?_
  intro p e s m args below meth c A H hH0 hx hb hr hlocks hts hown hnm hml ls hl hP hK hD hA hS hN
  have hown : s.vm.findClass R_MO = some m.cls := hown
  have hl : lv_has ls 4 [(0, .ref o), (1, .int 1), (2, .int 1), (3, .int v)] := hl
  refine lv_aload_n hx hb d_MO_setZ_0 rfl (lv_at hl 0 rfl) ?_
  refine lv_iload_n hx hb d_MO_setZ_1 rfl (lv_at hl 1 rfl) ?_
  refine lv_iload_n hx hb d_MO_setZ_2 rfl (lv_at hl 2 rfl) ?_
  refine lv_iload_n hx hb d_MO_setZ_3 rfl (lv_at hl 3 rfl) ?_
  have hPc := hP.sub (ws' := [(o, .inr (5, [.int th, .ref im, .int (bI tr), .ref rc, .ref bg, .int ro, .ref oa, .ref xa, .ref ya, .ref rg, .ref me, .ref sa, .ref pa, .ref za, .ref ca, .int (bI kp), .ref ta, .ref na])), (rg, .inl (cI, 6, .inl (rg6 a x d b0 b1 b2)))]) [0, 1] rfl
  have hDc := hD.sub (ws' := [(o, .inr (5, [.int th, .ref im, .int (bI tr), .ref rc, .ref bg, .int ro, .ref oa, .ref xa, .ref ya, .ref rg, .ref me, .ref sa, .ref pa, .ref za, .ref ca, .int (bI kp), .ref ta, .ref na])), (rg, .inl (cI, 6, .inl (rg6 a x d b0 b1 b2)))]) [0, 1] (by decide) rfl
  have hFc := va_free (wc := [(o, .inr (5, [.int th, .ref im, .int (bI tr), .ref rc, .ref bg, .int ro, .ref oa, .ref xa, .ref ya, .ref rg, .ref me, .ref sa, .ref pa, .ref za, .ref ca, .int (bI kp), .ref ta, .ref na])), (rg, .inl (cI, 6, .inl (rg6 a x d b0 b1 b2)))]) hD hS hA [0, 1] rfl
  refine va_callv (va_runV (As := [.int 1, .int 1, .int v]) (rest := []) ⟨hx, hb, hml, hown, hts⟩ (q_set11 l D cI cZ o th im tr rc bg ro oa xa ya rg me sa pa za ca kp ta na a x d b0 b1 b2 v H.size) ⟨cB 3 hts k_849 k_62 k_846 hd_MO_set ⟨Nat.le_of_ble_eq_true rfl, Nat.le_of_ble_eq_true rfl⟩ rfl rfl, hts _ k_848, hts _ k_43⟩ (PcW.preV (va_recv hK hP (q0 := 0) (ci := 5) rfl rfl) hPc hK hDc hN) rfl rfl hl.1 rfl (lv_room (Nat.le_of_ble_eq_true rfl)) d_MO_setZ_4 ⟨Nat.le_of_ble_eq_true rfl, Nat.le_of_ble_eq_true rfl⟩) hS (fun q _ h => hFc q h) hFc (fun u t H1 locs ht hvm e4 hB hz1 hk1 hS => ?_)
  obtain ⟨v14, rfl⟩ : ∃ z, z = u := ⟨_, rfl⟩
  obtain ⟨hP1, hK1, hD1⟩ := hB
  rw [ht] at hP1
  obtain ⟨hP, hD⟩ := va_join (wr := [(za, .inl (cZ, 2, .inl (p2 (bI z0) (bI z1))))]) (w1 := [(o, .inr (5, [.int th, .ref im, .int (bI tr), .ref rc, .ref bg, .int ro, .ref oa, .ref xa, .ref ya, .ref rg, .ref me, .ref sa, .ref pa, .ref za, .ref ca, .int (bI kp), .ref ta, .ref na])), (rg, .inl (cI, 6, .inl (rg6 a x d b0 v14 b2)))]) hP hD [0, 1] [2] rfl rfl (by decide) (by decide) hk1 hFc hP1 hD1
  generalize H1 = H at hP hS ⊢
  try dsimp only at e4
  have e4_0 := e4
  replace e4_0 := e4_0.symm
  subst e4_0
  have hP : va_P D vwCl [(za, .inl (cZ, 2, .inl (p2 (bI z0) (bI z1)))), (o, .inr (5, [.int th, .ref im, .int (bI tr), .ref rc, .ref bg, .int ro, .ref oa, .ref xa, .ref ya, .ref rg, .ref me, .ref sa, .ref pa, .ref za, .ref ca, .int (bI kp), .ref ta, .ref na])), (rg, .inl (cI, 6, .inl (rg6 a x d b0 (v &&& 255) b2)))] H := hP
  have hD : va_D A [(za, .inl (cZ, 2, .inl (p2 (bI z0) (bI z1)))), (o, .inr (5, [.int th, .ref im, .int (bI tr), .ref rc, .ref bg, .int ro, .ref oa, .ref xa, .ref ya, .ref rg, .ref me, .ref sa, .ref pa, .ref za, .ref ca, .int (bI kp), .ref ta, .ref na])), (rg, .inl (cI, 6, .inl (rg6 a x d b0 (v &&& 255) b2)))] := hD
  refine lv_aload_n hx hb d_MO_setZ_7 rfl (lv_at hl 0 rfl) ?_
  refine va_get (D := D) (ci := 5) (v := .ref za) (C := R_MO) (T := T_MO) (N := 18) hx hb hts iw_MO hown hK hP 1 rfl rfl 13 (by decide) (hts _ k_708) (fun _ h9 => h9) rfl d_MO_setZ_8 ?_
  refine lv_iload_n hx hb d_MO_setZ_11 rfl (lv_at hl 1 rfl) ?_
  refine lv_iload_n hx hb d_MO_setZ_12 rfl (lv_at hl 3 rfl) ?_
  refine lv_sipush (v := 255) hx hb d_MO_setZ_13 (by decide) ?_
  refine lv_iand hx hb d_MO_setZ_16 ?_
  refine lv_if_ne (tgt := 24) hx hb d_MO_setZ_17 rfl (fun h17 => ?_) (fun h17 => ?_)
  · refine lv_iconst (v := 0) hx hb d_MO_setZ_24 (by decide) ?_
    refine va_zast hx hb hK hP hD hS 0 1 rfl rfl (vp_in_nI (n := 1) (by decide) (by decide)) d_MO_setZ_25 (fun H locs hP hD hS => ?_)
    have hP : va_P D vwCl [(za, .inl (cZ, 2, .inl (upd (p2 (bI z0) (bI z1)) 1 (bI false)))), (o, .inr (5, [.int th, .ref im, .int (bI tr), .ref rc, .ref bg, .int ro, .ref oa, .ref xa, .ref ya, .ref rg, .ref me, .ref sa, .ref pa, .ref za, .ref ca, .int (bI kp), .ref ta, .ref na])), (rg, .inl (cI, 6, .inl (rg6 a x d b0 (v &&& 255) b2)))] H := hP
    have hD : va_D A [(za, .inl (cZ, 2, .inl (upd (p2 (bI z0) (bI z1)) 1 (bI false)))), (o, .inr (5, [.int th, .ref im, .int (bI tr), .ref rc, .ref bg, .int ro, .ref oa, .ref xa, .ref ya, .ref rg, .ref me, .ref sa, .ref pa, .ref za, .ref ca, .int (bI kp), .ref ta, .ref na])), (rg, .inl (cI, 6, .inl (rg6 a x d b0 (v &&& 255) b2)))] := hD
    rw [show upd (p2 (bI z0) (bI z1)) 1 (bI false) = p2 (bI z0) (bI false) from p2_1] at hP hD
    have hP : va_P D vwCl [(za, .inl (cZ, 2, .inl (p2 (bI z0) (bI false)))), (o, .inr (5, [.int th, .ref im, .int (bI tr), .ref rc, .ref bg, .int ro, .ref oa, .ref xa, .ref ya, .ref rg, .ref me, .ref sa, .ref pa, .ref za, .ref ca, .int (bI kp), .ref ta, .ref na])), (rg, .inl (cI, 6, .inl (rg6 a x d b0 (v &&& 255) b2)))] H := hP
    have hD : va_D A [(za, .inl (cZ, 2, .inl (p2 (bI z0) (bI false)))), (o, .inr (5, [.int th, .ref im, .int (bI tr), .ref rc, .ref bg, .int ro, .ref oa, .ref xa, .ref ya, .ref rg, .ref me, .ref sa, .ref pa, .ref za, .ref ca, .int (bI kp), .ref ta, .ref na])), (rg, .inl (cI, 6, .inl (rg6 a x d b0 (v &&& 255) b2)))] := hD
    have hP9 : va_P D vwCl [(o, .inr (5, [.int th, .ref im, .int (bI tr), .ref rc, .ref bg, .int ro, .ref oa, .ref xa, .ref ya, .ref rg, .ref me, .ref sa, .ref pa, .ref za, .ref ca, .int (bI kp), .ref ta, .ref na])), (rg, .inl (cI, 6, .inl (rg6 a x d b0 (v &&& 255) b2))), (za, .inl (cZ, 2, .inl (p2 (bI z0) (bI false))))] H := hP.sub [1, 2, 0] rfl
    have hD9 : va_D A [(o, .inr (5, [.int th, .ref im, .int (bI tr), .ref rc, .ref bg, .int ro, .ref oa, .ref xa, .ref ya, .ref rg, .ref me, .ref sa, .ref pa, .ref za, .ref ca, .int (bI kp), .ref ta, .ref na])), (rg, .inl (cI, 6, .inl (rg6 a x d b0 (v &&& 255) b2))), (za, .inl (cZ, 2, .inl (p2 (bI z0) (bI false))))] := hD.sub [1, 2, 0] (by decide) rfl
    exact W.vret hx hb hr (fun t ht hW => ⟨⟨(v &&& 255, false), rfl, by first | (simp only [h17, ↓reduceIte, not_true_eq_false, not_false_eq_true, and_true, true_and, and_false, false_and, and_self, or_true, true_or, or_false, false_or, decide_true, decide_false, Bool.false_eq_true, reduceCtorEq]; done) | (simp_all []; done), by rw [ht]; exact hP9, va_K.moved hW.alike hK, hD9⟩, hS.F ht⟩) hS.2.2 d_MO_setZ_26
  · refine lv_iconst (v := 1) hx hb d_MO_setZ_20 (by decide) ?_
    refine lv_goto (tgt := 25) hx hb d_MO_setZ_21 rfl ?_
    refine va_zast hx hb hK hP hD hS 0 1 rfl rfl (vp_in_nI (n := 1) (by decide) (by decide)) d_MO_setZ_25 (fun H locs hP hD hS => ?_)
    have hP : va_P D vwCl [(za, .inl (cZ, 2, .inl (upd (p2 (bI z0) (bI z1)) 1 (bI true)))), (o, .inr (5, [.int th, .ref im, .int (bI tr), .ref rc, .ref bg, .int ro, .ref oa, .ref xa, .ref ya, .ref rg, .ref me, .ref sa, .ref pa, .ref za, .ref ca, .int (bI kp), .ref ta, .ref na])), (rg, .inl (cI, 6, .inl (rg6 a x d b0 (v &&& 255) b2)))] H := hP
    have hD : va_D A [(za, .inl (cZ, 2, .inl (upd (p2 (bI z0) (bI z1)) 1 (bI true)))), (o, .inr (5, [.int th, .ref im, .int (bI tr), .ref rc, .ref bg, .int ro, .ref oa, .ref xa, .ref ya, .ref rg, .ref me, .ref sa, .ref pa, .ref za, .ref ca, .int (bI kp), .ref ta, .ref na])), (rg, .inl (cI, 6, .inl (rg6 a x d b0 (v &&& 255) b2)))] := hD
    rw [show upd (p2 (bI z0) (bI z1)) 1 (bI true) = p2 (bI z0) (bI true) from p2_1] at hP hD
    have hP : va_P D vwCl [(za, .inl (cZ, 2, .inl (p2 (bI z0) (bI true)))), (o, .inr (5, [.int th, .ref im, .int (bI tr), .ref rc, .ref bg, .int ro, .ref oa, .ref xa, .ref ya, .ref rg, .ref me, .ref sa, .ref pa, .ref za, .ref ca, .int (bI kp), .ref ta, .ref na])), (rg, .inl (cI, 6, .inl (rg6 a x d b0 (v &&& 255) b2)))] H := hP
    have hD : va_D A [(za, .inl (cZ, 2, .inl (p2 (bI z0) (bI true)))), (o, .inr (5, [.int th, .ref im, .int (bI tr), .ref rc, .ref bg, .int ro, .ref oa, .ref xa, .ref ya, .ref rg, .ref me, .ref sa, .ref pa, .ref za, .ref ca, .int (bI kp), .ref ta, .ref na])), (rg, .inl (cI, 6, .inl (rg6 a x d b0 (v &&& 255) b2)))] := hD
    have hP9 : va_P D vwCl [(o, .inr (5, [.int th, .ref im, .int (bI tr), .ref rc, .ref bg, .int ro, .ref oa, .ref xa, .ref ya, .ref rg, .ref me, .ref sa, .ref pa, .ref za, .ref ca, .int (bI kp), .ref ta, .ref na])), (rg, .inl (cI, 6, .inl (rg6 a x d b0 (v &&& 255) b2))), (za, .inl (cZ, 2, .inl (p2 (bI z0) (bI true))))] H := hP.sub [1, 2, 0] rfl
    have hD9 : va_D A [(o, .inr (5, [.int th, .ref im, .int (bI tr), .ref rc, .ref bg, .int ro, .ref oa, .ref xa, .ref ya, .ref rg, .ref me, .ref sa, .ref pa, .ref za, .ref ca, .int (bI kp), .ref ta, .ref na])), (rg, .inl (cI, 6, .inl (rg6 a x d b0 (v &&& 255) b2))), (za, .inl (cZ, 2, .inl (p2 (bI z0) (bI true))))] := hD.sub [1, 2, 0] (by decide) rfl
    exact W.vret hx hb hr (fun t ht hW => ⟨⟨(v &&& 255, true), rfl, by first | (simp only [h17, ↓reduceIte, not_true_eq_false, not_false_eq_true, and_true, true_and, and_false, false_and, and_self, or_true, true_or, or_false, false_or, decide_true, decide_false, Bool.false_eq_true, reduceCtorEq]; done) | (simp_all []; done), by rw [ht]; exact hP9, va_K.moved hW.alike hK, hD9⟩, hS.F ht⟩) hS.2.2 d_MO_setZ_26
set_option maxHeartbeats 4000000 in
set_option maxRecDepth 100000 in
theorem q_set12 (l : Launch) (D : va_G) (cI cZ : ClassId) (o : Nat) (th : Int32) (im : Nat) (tr : Bool) (rc : Nat) (bg : Nat) (ro : Int32) (oa : Nat) (xa : Nat) (ya : Nat) (rg : Nat) (me : Nat) (sa : Nat) (pa : Nat) (za : Nat) (ca : Nat) (kp : Bool) (ta : Nat) (na : Nat) (a : Int32) (x : Int32) (d : Int32) (b0 : Int32) (b1 : Int32) (b2 : Int32) (v : Int32) (sz : Nat) : MetV l y_MO_set w_MO_set { frames := 0, cells := 0, slots := 0, locals := 0 } D cI cZ [.ref o, .int 1, .int 2, .int v] [(o, .inr (5, [.int th, .ref im, .int (bI tr), .ref rc, .ref bg, .int ro, .ref oa, .ref xa, .ref ya, .ref rg, .ref me, .ref sa, .ref pa, .ref za, .ref ca, .int (bI kp), .ref ta, .ref na])), (rg, .inl (cI, 6, .inl (rg6 a x d b0 b1 b2)))] sz (fun (v1 : Int32) => v1 = v &&& 255) (fun (v1 : Int32) => [(o, .inr (5, [.int th, .ref im, .int (bI tr), .ref rc, .ref bg, .int ro, .ref oa, .ref xa, .ref ya, .ref rg, .ref me, .ref sa, .ref pa, .ref za, .ref ca, .int (bI kp), .ref ta, .ref na])), (rg, .inl (cI, 6, .inl (rg6 a x d b0 b1 v1)))]) 0 0 := by
  refine ofV (cc := c_MO_set) (maxL := 4) (ret := none) (by decide) rfl (Nat.le_of_ble_eq_true rfl) ?_
  intro p e s m args below meth c A H hH0 hx hb hr hlocks hts hown hnm hml ls hl hP hK hD hA hS hN
  have hown : s.vm.findClass R_MO = some m.cls := hown
  have hl : lv_has ls 4 [(0, .ref o), (1, .int 1), (2, .int 2), (3, .int v)] := hl
  refine lv_aload_n hx hb d_MO_set_0 rfl (lv_at hl 0 rfl) ?_
  refine va_get (D := D) (ci := 5) (v := .ref rg) (C := R_MO) (T := T_MO) (N := 18) hx hb hts iw_MO hown hK hP 0 rfl rfl 9 (by decide) (hts _ k_704) (fun _ h9 => h9) rfl d_MO_set_1 ?_
  refine lv_iconst (v := 3) hx hb d_MO_set_4 (by decide) ?_
  refine lv_iload_n hx hb d_MO_set_5 rfl (lv_at hl 1 rfl) ?_
  refine lv_imul hx hb d_MO_set_6 ?_
  refine lv_iload_n hx hb d_MO_set_7 rfl (lv_at hl 2 rfl) ?_
  refine lv_iadd hx hb d_MO_set_8 ?_
  refine lv_iload_n hx hb d_MO_set_9 rfl (lv_at hl 3 rfl) ?_
  refine lv_sipush (v := 255) hx hb d_MO_set_10 (by decide) ?_
  refine lv_iand hx hb d_MO_set_13 ?_
  refine va_iast hx hb hK hP hD hS 1 0 rfl rfl (vp_in_nI (n := 5) (by decide) (by decide)) d_MO_set_14 (fun H locs hP hD hS => ?_)
  have hP : va_P D vwCl [(o, .inr (5, [.int th, .ref im, .int (bI tr), .ref rc, .ref bg, .int ro, .ref oa, .ref xa, .ref ya, .ref rg, .ref me, .ref sa, .ref pa, .ref za, .ref ca, .int (bI kp), .ref ta, .ref na])), (rg, .inl (cI, 6, .inl (upd (rg6 a x d b0 b1 b2) 5 (v &&& 255))))] H := hP
  have hD : va_D A [(o, .inr (5, [.int th, .ref im, .int (bI tr), .ref rc, .ref bg, .int ro, .ref oa, .ref xa, .ref ya, .ref rg, .ref me, .ref sa, .ref pa, .ref za, .ref ca, .int (bI kp), .ref ta, .ref na])), (rg, .inl (cI, 6, .inl (upd (rg6 a x d b0 b1 b2) 5 (v &&& 255))))] := hD
  rw [show upd (rg6 a x d b0 b1 b2) 5 (v &&& 255) = rg6 a x d b0 b1 (v &&& 255) from rg_5] at hP hD
  have hP : va_P D vwCl [(o, .inr (5, [.int th, .ref im, .int (bI tr), .ref rc, .ref bg, .int ro, .ref oa, .ref xa, .ref ya, .ref rg, .ref me, .ref sa, .ref pa, .ref za, .ref ca, .int (bI kp), .ref ta, .ref na])), (rg, .inl (cI, 6, .inl (rg6 a x d b0 b1 (v &&& 255))))] H := hP
  have hD : va_D A [(o, .inr (5, [.int th, .ref im, .int (bI tr), .ref rc, .ref bg, .int ro, .ref oa, .ref xa, .ref ya, .ref rg, .ref me, .ref sa, .ref pa, .ref za, .ref ca, .int (bI kp), .ref ta, .ref na])), (rg, .inl (cI, 6, .inl (rg6 a x d b0 b1 (v &&& 255))))] := hD
  have hP9 : va_P D vwCl [(o, .inr (5, [.int th, .ref im, .int (bI tr), .ref rc, .ref bg, .int ro, .ref oa, .ref xa, .ref ya, .ref rg, .ref me, .ref sa, .ref pa, .ref za, .ref ca, .int (bI kp), .ref ta, .ref na])), (rg, .inl (cI, 6, .inl (rg6 a x d b0 b1 (v &&& 255))))] H := hP.sub [0, 1] rfl
  have hD9 : va_D A [(o, .inr (5, [.int th, .ref im, .int (bI tr), .ref rc, .ref bg, .int ro, .ref oa, .ref xa, .ref ya, .ref rg, .ref me, .ref sa, .ref pa, .ref za, .ref ca, .int (bI kp), .ref ta, .ref na])), (rg, .inl (cI, 6, .inl (rg6 a x d b0 b1 (v &&& 255))))] := hD.sub [0, 1] (by decide) rfl
  exact W.vret hx hb hr (fun t ht hW => ⟨⟨(v &&& 255), rfl, rfl, by rw [ht]; exact hP9, va_K.moved hW.alike hK, hD9⟩, hS.F ht⟩) hS.2.2 d_MO_set_15
set_option maxHeartbeats 4000000 in
set_option maxRecDepth 100000 in
theorem q_setZ12 (l : Launch) (D : va_G) (cI cZ : ClassId) (o : Nat) (th : Int32) (im : Nat) (tr : Bool) (rc : Nat) (bg : Nat) (ro : Int32) (oa : Nat) (xa : Nat) (ya : Nat) (rg : Nat) (me : Nat) (sa : Nat) (pa : Nat) (za : Nat) (ca : Nat) (kp : Bool) (ta : Nat) (na : Nat) (a : Int32) (x : Int32) (d : Int32) (b0 : Int32) (b1 : Int32) (b2 : Int32) (z0 : Bool) (z1 : Bool) (v : Int32) (sz : Nat) : MetV l y_MO_setZ w_MO_setZ { frames := 1, cells := 0, slots := 0, locals := 23 } D cI cZ [.ref o, .int 1, .int 2, .int v] [(o, .inr (5, [.int th, .ref im, .int (bI tr), .ref rc, .ref bg, .int ro, .ref oa, .ref xa, .ref ya, .ref rg, .ref me, .ref sa, .ref pa, .ref za, .ref ca, .int (bI kp), .ref ta, .ref na])), (rg, .inl (cI, 6, .inl (rg6 a x d b0 b1 b2))), (za, .inl (cZ, 2, .inl (p2 (bI z0) (bI z1))))] sz (fun (u : Int32 × Bool) => match u with | (v1, zz) => v1 = v &&& 255 ∧ zz = decide (v &&& 255 = 0)) (fun (u : Int32 × Bool) => match u with | (v1, zz) => [(o, .inr (5, [.int th, .ref im, .int (bI tr), .ref rc, .ref bg, .int ro, .ref oa, .ref xa, .ref ya, .ref rg, .ref me, .ref sa, .ref pa, .ref za, .ref ca, .int (bI kp), .ref ta, .ref na])), (rg, .inl (cI, 6, .inl (rg6 a x d b0 b1 v1))), (za, .inl (cZ, 2, .inl (p2 (bI z0) (bI zz))))]) 0 0 := by
  refine ofV (cc := c_MO_setZ) (maxL := 4) (ret := none) (by decide) rfl (Nat.le_of_ble_eq_true rfl) ?_
  intro p e s m args below meth c A H hH0 hx hb hr hlocks hts hown hnm hml ls hl hP hK hD hA hS hN
  have hown : s.vm.findClass R_MO = some m.cls := hown
  have hl : lv_has ls 4 [(0, .ref o), (1, .int 1), (2, .int 2), (3, .int v)] := hl
  refine lv_aload_n hx hb d_MO_setZ_0 rfl (lv_at hl 0 rfl) ?_
  refine lv_iload_n hx hb d_MO_setZ_1 rfl (lv_at hl 1 rfl) ?_
  refine lv_iload_n hx hb d_MO_setZ_2 rfl (lv_at hl 2 rfl) ?_
  refine lv_iload_n hx hb d_MO_setZ_3 rfl (lv_at hl 3 rfl) ?_
  have hPc := hP.sub (ws' := [(o, .inr (5, [.int th, .ref im, .int (bI tr), .ref rc, .ref bg, .int ro, .ref oa, .ref xa, .ref ya, .ref rg, .ref me, .ref sa, .ref pa, .ref za, .ref ca, .int (bI kp), .ref ta, .ref na])), (rg, .inl (cI, 6, .inl (rg6 a x d b0 b1 b2)))]) [0, 1] rfl
  have hDc := hD.sub (ws' := [(o, .inr (5, [.int th, .ref im, .int (bI tr), .ref rc, .ref bg, .int ro, .ref oa, .ref xa, .ref ya, .ref rg, .ref me, .ref sa, .ref pa, .ref za, .ref ca, .int (bI kp), .ref ta, .ref na])), (rg, .inl (cI, 6, .inl (rg6 a x d b0 b1 b2)))]) [0, 1] (by decide) rfl
  have hFc := va_free (wc := [(o, .inr (5, [.int th, .ref im, .int (bI tr), .ref rc, .ref bg, .int ro, .ref oa, .ref xa, .ref ya, .ref rg, .ref me, .ref sa, .ref pa, .ref za, .ref ca, .int (bI kp), .ref ta, .ref na])), (rg, .inl (cI, 6, .inl (rg6 a x d b0 b1 b2)))]) hD hS hA [0, 1] rfl
  refine va_callv (va_runV (As := [.int 1, .int 2, .int v]) (rest := []) ⟨hx, hb, hml, hown, hts⟩ (q_set12 l D cI cZ o th im tr rc bg ro oa xa ya rg me sa pa za ca kp ta na a x d b0 b1 b2 v H.size) ⟨cB 3 hts k_849 k_62 k_846 hd_MO_set ⟨Nat.le_of_ble_eq_true rfl, Nat.le_of_ble_eq_true rfl⟩ rfl rfl, hts _ k_848, hts _ k_43⟩ (PcW.preV (va_recv hK hP (q0 := 0) (ci := 5) rfl rfl) hPc hK hDc hN) rfl rfl hl.1 rfl (lv_room (Nat.le_of_ble_eq_true rfl)) d_MO_setZ_4 ⟨Nat.le_of_ble_eq_true rfl, Nat.le_of_ble_eq_true rfl⟩) hS (fun q _ h => hFc q h) hFc (fun u t H1 locs ht hvm e4 hB hz1 hk1 hS => ?_)
  obtain ⟨v14, rfl⟩ : ∃ z, z = u := ⟨_, rfl⟩
  obtain ⟨hP1, hK1, hD1⟩ := hB
  rw [ht] at hP1
  obtain ⟨hP, hD⟩ := va_join (wr := [(za, .inl (cZ, 2, .inl (p2 (bI z0) (bI z1))))]) (w1 := [(o, .inr (5, [.int th, .ref im, .int (bI tr), .ref rc, .ref bg, .int ro, .ref oa, .ref xa, .ref ya, .ref rg, .ref me, .ref sa, .ref pa, .ref za, .ref ca, .int (bI kp), .ref ta, .ref na])), (rg, .inl (cI, 6, .inl (rg6 a x d b0 b1 v14)))]) hP hD [0, 1] [2] rfl rfl (by decide) (by decide) hk1 hFc hP1 hD1
  generalize H1 = H at hP hS ⊢
  try dsimp only at e4
  have e4_0 := e4
  replace e4_0 := e4_0.symm
  subst e4_0
  have hP : va_P D vwCl [(za, .inl (cZ, 2, .inl (p2 (bI z0) (bI z1)))), (o, .inr (5, [.int th, .ref im, .int (bI tr), .ref rc, .ref bg, .int ro, .ref oa, .ref xa, .ref ya, .ref rg, .ref me, .ref sa, .ref pa, .ref za, .ref ca, .int (bI kp), .ref ta, .ref na])), (rg, .inl (cI, 6, .inl (rg6 a x d b0 b1 (v &&& 255))))] H := hP
  have hD : va_D A [(za, .inl (cZ, 2, .inl (p2 (bI z0) (bI z1)))), (o, .inr (5, [.int th, .ref im, .int (bI tr), .ref rc, .ref bg, .int ro, .ref oa, .ref xa, .ref ya, .ref rg, .ref me, .ref sa, .ref pa, .ref za, .ref ca, .int (bI kp), .ref ta, .ref na])), (rg, .inl (cI, 6, .inl (rg6 a x d b0 b1 (v &&& 255))))] := hD
  refine lv_aload_n hx hb d_MO_setZ_7 rfl (lv_at hl 0 rfl) ?_
  refine va_get (D := D) (ci := 5) (v := .ref za) (C := R_MO) (T := T_MO) (N := 18) hx hb hts iw_MO hown hK hP 1 rfl rfl 13 (by decide) (hts _ k_708) (fun _ h9 => h9) rfl d_MO_setZ_8 ?_
  refine lv_iload_n hx hb d_MO_setZ_11 rfl (lv_at hl 1 rfl) ?_
  refine lv_iload_n hx hb d_MO_setZ_12 rfl (lv_at hl 3 rfl) ?_
  refine lv_sipush (v := 255) hx hb d_MO_setZ_13 (by decide) ?_
  refine lv_iand hx hb d_MO_setZ_16 ?_
  refine lv_if_ne (tgt := 24) hx hb d_MO_setZ_17 rfl (fun h17 => ?_) (fun h17 => ?_)
  · refine lv_iconst (v := 0) hx hb d_MO_setZ_24 (by decide) ?_
    refine va_zast hx hb hK hP hD hS 0 1 rfl rfl (vp_in_nI (n := 1) (by decide) (by decide)) d_MO_setZ_25 (fun H locs hP hD hS => ?_)
    have hP : va_P D vwCl [(za, .inl (cZ, 2, .inl (upd (p2 (bI z0) (bI z1)) 1 (bI false)))), (o, .inr (5, [.int th, .ref im, .int (bI tr), .ref rc, .ref bg, .int ro, .ref oa, .ref xa, .ref ya, .ref rg, .ref me, .ref sa, .ref pa, .ref za, .ref ca, .int (bI kp), .ref ta, .ref na])), (rg, .inl (cI, 6, .inl (rg6 a x d b0 b1 (v &&& 255))))] H := hP
    have hD : va_D A [(za, .inl (cZ, 2, .inl (upd (p2 (bI z0) (bI z1)) 1 (bI false)))), (o, .inr (5, [.int th, .ref im, .int (bI tr), .ref rc, .ref bg, .int ro, .ref oa, .ref xa, .ref ya, .ref rg, .ref me, .ref sa, .ref pa, .ref za, .ref ca, .int (bI kp), .ref ta, .ref na])), (rg, .inl (cI, 6, .inl (rg6 a x d b0 b1 (v &&& 255))))] := hD
    rw [show upd (p2 (bI z0) (bI z1)) 1 (bI false) = p2 (bI z0) (bI false) from p2_1] at hP hD
    have hP : va_P D vwCl [(za, .inl (cZ, 2, .inl (p2 (bI z0) (bI false)))), (o, .inr (5, [.int th, .ref im, .int (bI tr), .ref rc, .ref bg, .int ro, .ref oa, .ref xa, .ref ya, .ref rg, .ref me, .ref sa, .ref pa, .ref za, .ref ca, .int (bI kp), .ref ta, .ref na])), (rg, .inl (cI, 6, .inl (rg6 a x d b0 b1 (v &&& 255))))] H := hP
    have hD : va_D A [(za, .inl (cZ, 2, .inl (p2 (bI z0) (bI false)))), (o, .inr (5, [.int th, .ref im, .int (bI tr), .ref rc, .ref bg, .int ro, .ref oa, .ref xa, .ref ya, .ref rg, .ref me, .ref sa, .ref pa, .ref za, .ref ca, .int (bI kp), .ref ta, .ref na])), (rg, .inl (cI, 6, .inl (rg6 a x d b0 b1 (v &&& 255))))] := hD
    have hP9 : va_P D vwCl [(o, .inr (5, [.int th, .ref im, .int (bI tr), .ref rc, .ref bg, .int ro, .ref oa, .ref xa, .ref ya, .ref rg, .ref me, .ref sa, .ref pa, .ref za, .ref ca, .int (bI kp), .ref ta, .ref na])), (rg, .inl (cI, 6, .inl (rg6 a x d b0 b1 (v &&& 255)))), (za, .inl (cZ, 2, .inl (p2 (bI z0) (bI false))))] H := hP.sub [1, 2, 0] rfl
    have hD9 : va_D A [(o, .inr (5, [.int th, .ref im, .int (bI tr), .ref rc, .ref bg, .int ro, .ref oa, .ref xa, .ref ya, .ref rg, .ref me, .ref sa, .ref pa, .ref za, .ref ca, .int (bI kp), .ref ta, .ref na])), (rg, .inl (cI, 6, .inl (rg6 a x d b0 b1 (v &&& 255)))), (za, .inl (cZ, 2, .inl (p2 (bI z0) (bI false))))] := hD.sub [1, 2, 0] (by decide) rfl
    exact W.vret hx hb hr (fun t ht hW => ⟨⟨(v &&& 255, false), rfl, by first | (simp only [h17, ↓reduceIte, not_true_eq_false, not_false_eq_true, and_true, true_and, and_false, false_and, and_self, or_true, true_or, or_false, false_or, decide_true, decide_false, Bool.false_eq_true, reduceCtorEq]; done) | (simp_all []; done), by rw [ht]; exact hP9, va_K.moved hW.alike hK, hD9⟩, hS.F ht⟩) hS.2.2 d_MO_setZ_26
  · refine lv_iconst (v := 1) hx hb d_MO_setZ_20 (by decide) ?_
    refine lv_goto (tgt := 25) hx hb d_MO_setZ_21 rfl ?_
    refine va_zast hx hb hK hP hD hS 0 1 rfl rfl (vp_in_nI (n := 1) (by decide) (by decide)) d_MO_setZ_25 (fun H locs hP hD hS => ?_)
    have hP : va_P D vwCl [(za, .inl (cZ, 2, .inl (upd (p2 (bI z0) (bI z1)) 1 (bI true)))), (o, .inr (5, [.int th, .ref im, .int (bI tr), .ref rc, .ref bg, .int ro, .ref oa, .ref xa, .ref ya, .ref rg, .ref me, .ref sa, .ref pa, .ref za, .ref ca, .int (bI kp), .ref ta, .ref na])), (rg, .inl (cI, 6, .inl (rg6 a x d b0 b1 (v &&& 255))))] H := hP
    have hD : va_D A [(za, .inl (cZ, 2, .inl (upd (p2 (bI z0) (bI z1)) 1 (bI true)))), (o, .inr (5, [.int th, .ref im, .int (bI tr), .ref rc, .ref bg, .int ro, .ref oa, .ref xa, .ref ya, .ref rg, .ref me, .ref sa, .ref pa, .ref za, .ref ca, .int (bI kp), .ref ta, .ref na])), (rg, .inl (cI, 6, .inl (rg6 a x d b0 b1 (v &&& 255))))] := hD
    rw [show upd (p2 (bI z0) (bI z1)) 1 (bI true) = p2 (bI z0) (bI true) from p2_1] at hP hD
    have hP : va_P D vwCl [(za, .inl (cZ, 2, .inl (p2 (bI z0) (bI true)))), (o, .inr (5, [.int th, .ref im, .int (bI tr), .ref rc, .ref bg, .int ro, .ref oa, .ref xa, .ref ya, .ref rg, .ref me, .ref sa, .ref pa, .ref za, .ref ca, .int (bI kp), .ref ta, .ref na])), (rg, .inl (cI, 6, .inl (rg6 a x d b0 b1 (v &&& 255))))] H := hP
    have hD : va_D A [(za, .inl (cZ, 2, .inl (p2 (bI z0) (bI true)))), (o, .inr (5, [.int th, .ref im, .int (bI tr), .ref rc, .ref bg, .int ro, .ref oa, .ref xa, .ref ya, .ref rg, .ref me, .ref sa, .ref pa, .ref za, .ref ca, .int (bI kp), .ref ta, .ref na])), (rg, .inl (cI, 6, .inl (rg6 a x d b0 b1 (v &&& 255))))] := hD
    have hP9 : va_P D vwCl [(o, .inr (5, [.int th, .ref im, .int (bI tr), .ref rc, .ref bg, .int ro, .ref oa, .ref xa, .ref ya, .ref rg, .ref me, .ref sa, .ref pa, .ref za, .ref ca, .int (bI kp), .ref ta, .ref na])), (rg, .inl (cI, 6, .inl (rg6 a x d b0 b1 (v &&& 255)))), (za, .inl (cZ, 2, .inl (p2 (bI z0) (bI true))))] H := hP.sub [1, 2, 0] rfl
    have hD9 : va_D A [(o, .inr (5, [.int th, .ref im, .int (bI tr), .ref rc, .ref bg, .int ro, .ref oa, .ref xa, .ref ya, .ref rg, .ref me, .ref sa, .ref pa, .ref za, .ref ca, .int (bI kp), .ref ta, .ref na])), (rg, .inl (cI, 6, .inl (rg6 a x d b0 b1 (v &&& 255)))), (za, .inl (cZ, 2, .inl (p2 (bI z0) (bI true))))] := hD.sub [1, 2, 0] (by decide) rfl
    exact W.vret hx hb hr (fun t ht hW => ⟨⟨(v &&& 255, true), rfl, by first | (simp only [h17, ↓reduceIte, not_true_eq_false, not_false_eq_true, and_true, true_and, and_false, false_and, and_self, or_true, true_or, or_false, false_or, decide_true, decide_false, Bool.false_eq_true, reduceCtorEq]; done) | (simp_all []; done), by rw [ht]; exact hP9, va_K.moved hW.alike hK, hD9⟩, hS.F ht⟩) hS.2.2 d_MO_setZ_26
set_option maxHeartbeats 4000000 in
set_option maxRecDepth 100000 in
theorem q_adds00 (l : Launch) (D : va_G) (cI cZ : ClassId) (o : Nat) (th : Int32) (im : Nat) (tr : Bool) (rc : Nat) (bg : Nat) (ro : Int32) (oa : Nat) (xa : Nat) (ya : Nat) (rg : Nat) (me : Nat) (sa : Nat) (pa : Nat) (za : Nat) (ca : Nat) (kp : Bool) (ta : Nat) (na : Nat) (a : Int32) (x : Int32) (d : Int32) (b0 : Int32) (b1 : Int32) (b2 : Int32) (z0 : Bool) (z1 : Bool) (c0 : Bool) (c1 : Bool) (v : Int32) (cc : Int32) (sz : Nat) : MetV l y_MO_adds w_MO_adds { frames := 2, cells := 0, slots := 0, locals := 46 } D cI cZ [.ref o, .int 0, .int 0, .int v, .int cc] [(o, .inr (5, [.int th, .ref im, .int (bI tr), .ref rc, .ref bg, .int ro, .ref oa, .ref xa, .ref ya, .ref rg, .ref me, .ref sa, .ref pa, .ref za, .ref ca, .int (bI kp), .ref ta, .ref na])), (rg, .inl (cI, 6, .inl (rg6 a x d b0 b1 b2))), (za, .inl (cZ, 2, .inl (p2 (bI z0) (bI z1)))), (ca, .inl (cZ, 2, .inl (p2 (bI c0) (bI c1))))] sz (fun (u : Int32 × Bool × Bool) => match u with | (v1, zz, cy) => v1 = (a + v + cc) &&& 255 ∧ zz = decide ((a + v + cc) &&& 255 = 0) ∧ cy = decide (¬ a + v + cc ≤ 255)) (fun (u : Int32 × Bool × Bool) => match u with | (v1, zz, cy) => [(o, .inr (5, [.int th, .ref im, .int (bI tr), .ref rc, .ref bg, .int ro, .ref oa, .ref xa, .ref ya, .ref rg, .ref me, .ref sa, .ref pa, .ref za, .ref ca, .int (bI kp), .ref ta, .ref na])), (rg, .inl (cI, 6, .inl (rg6 v1 x d b0 b1 b2))), (za, .inl (cZ, 2, .inl (p2 (bI zz) (bI z1)))), (ca, .inl (cZ, 2, .inl (p2 (bI cy) (bI c1))))]) 0 0 := by
  refine ofV (cc := c_MO_adds) (maxL := 6) (ret := none) (by decide) rfl (Nat.le_of_ble_eq_true rfl) ?_
  intro p e s m args below meth c A H hH0 hx hb hr hlocks hts hown hnm hml ls hl hP hK hD hA hS hN
  have hown : s.vm.findClass R_MO = some m.cls := hown
  have hl : lv_has ls 6 [(0, .ref o), (1, .int 0), (2, .int 0), (3, .int v), (4, .int cc)] := hl
  refine lv_aload_n hx hb d_MO_adds_0 rfl (lv_at hl 0 rfl) ?_
  refine va_get (D := D) (ci := 5) (v := .ref rg) (C := R_MO) (T := T_MO) (N := 18) hx hb hts iw_MO hown hK hP 0 rfl rfl 9 (by decide) (hts _ k_704) (fun _ h9 => h9) rfl d_MO_adds_1 ?_
  refine lv_iconst (v := 3) hx hb d_MO_adds_4 (by decide) ?_
  refine lv_iload_n hx hb d_MO_adds_5 rfl (lv_at hl 1 rfl) ?_
  refine lv_imul hx hb d_MO_adds_6 ?_
  refine lv_iload_n hx hb d_MO_adds_7 rfl (lv_at hl 2 rfl) ?_
  refine lv_iadd hx hb d_MO_adds_8 ?_
  refine va_iald hx hb hK hP 1 0 rfl rfl (vp_in_nI (n := 0) (by decide) (by decide)) d_MO_adds_9 ?_
  refine lv_iload_n hx hb d_MO_adds_10 rfl (lv_at hl 3 rfl) ?_
  refine lv_iadd hx hb d_MO_adds_11 ?_
  refine lv_iload hx hb d_MO_adds_12 (lv_at hl 4 rfl) ?_
  refine lv_iadd hx hb d_MO_adds_14 ?_
  refine lv_istore hx hb d_MO_adds_15 hl (by decide) rfl (fun ls hl => ?_)
  have hl : lv_has ls 6 [(5, .int ((a + v) + cc)), (0, .ref o), (1, .int 0), (2, .int 0), (3, .int v), (4, .int cc)] := hl
  refine lv_aload_n hx hb d_MO_adds_17 rfl (lv_at hl 1 rfl) ?_
  refine va_get (D := D) (ci := 5) (v := .ref ca) (C := R_MO) (T := T_MO) (N := 18) hx hb hts iw_MO hown hK hP 0 rfl rfl 14 (by decide) (hts _ k_709) (fun _ h9 => h9) rfl d_MO_adds_18 ?_
  refine lv_iload_n hx hb d_MO_adds_21 rfl (lv_at hl 2 rfl) ?_
  refine lv_iload hx hb d_MO_adds_22 (lv_at hl 0 rfl) ?_
  refine lv_sipush (v := 255) hx hb d_MO_adds_24 (by decide) ?_
  refine lv_icmp_le (tgt := 34) hx hb d_MO_adds_27 rfl (fun h27 => ?_) (fun h27 => ?_)
  · refine lv_iconst (v := 0) hx hb d_MO_adds_34 (by decide) ?_
    refine va_zast hx hb hK hP hD hS 3 1 rfl rfl (vp_in_nI (n := 0) (by decide) (by decide)) d_MO_adds_35 (fun H locs hP hD hS => ?_)
    have hP : va_P D vwCl [(o, .inr (5, [.int th, .ref im, .int (bI tr), .ref rc, .ref bg, .int ro, .ref oa, .ref xa, .ref ya, .ref rg, .ref me, .ref sa, .ref pa, .ref za, .ref ca, .int (bI kp), .ref ta, .ref na])), (rg, .inl (cI, 6, .inl (rg6 a x d b0 b1 b2))), (za, .inl (cZ, 2, .inl (p2 (bI z0) (bI z1)))), (ca, .inl (cZ, 2, .inl (upd (p2 (bI c0) (bI c1)) 0 (bI false))))] H := hP
    have hD : va_D A [(o, .inr (5, [.int th, .ref im, .int (bI tr), .ref rc, .ref bg, .int ro, .ref oa, .ref xa, .ref ya, .ref rg, .ref me, .ref sa, .ref pa, .ref za, .ref ca, .int (bI kp), .ref ta, .ref na])), (rg, .inl (cI, 6, .inl (rg6 a x d b0 b1 b2))), (za, .inl (cZ, 2, .inl (p2 (bI z0) (bI z1)))), (ca, .inl (cZ, 2, .inl (upd (p2 (bI c0) (bI c1)) 0 (bI false))))] := hD
    rw [show upd (p2 (bI c0) (bI c1)) 0 (bI false) = p2 (bI false) (bI c1) from p2_0] at hP hD
    have hP : va_P D vwCl [(o, .inr (5, [.int th, .ref im, .int (bI tr), .ref rc, .ref bg, .int ro, .ref oa, .ref xa, .ref ya, .ref rg, .ref me, .ref sa, .ref pa, .ref za, .ref ca, .int (bI kp), .ref ta, .ref na])), (rg, .inl (cI, 6, .inl (rg6 a x d b0 b1 b2))), (za, .inl (cZ, 2, .inl (p2 (bI z0) (bI z1)))), (ca, .inl (cZ, 2, .inl (p2 (bI false) (bI c1))))] H := hP
    have hD : va_D A [(o, .inr (5, [.int th, .ref im, .int (bI tr), .ref rc, .ref bg, .int ro, .ref oa, .ref xa, .ref ya, .ref rg, .ref me, .ref sa, .ref pa, .ref za, .ref ca, .int (bI kp), .ref ta, .ref na])), (rg, .inl (cI, 6, .inl (rg6 a x d b0 b1 b2))), (za, .inl (cZ, 2, .inl (p2 (bI z0) (bI z1)))), (ca, .inl (cZ, 2, .inl (p2 (bI false) (bI c1))))] := hD
    refine lv_aload_n hx hb d_MO_adds_36 rfl (lv_at hl 1 rfl) ?_
    refine lv_iload_n hx hb d_MO_adds_37 rfl (lv_at hl 2 rfl) ?_
    refine lv_iload_n hx hb d_MO_adds_38 rfl (lv_at hl 3 rfl) ?_
    refine lv_iload hx hb d_MO_adds_39 (lv_at hl 0 rfl) ?_
    have hPc := hP.sub (ws' := [(o, .inr (5, [.int th, .ref im, .int (bI tr), .ref rc, .ref bg, .int ro, .ref oa, .ref xa, .ref ya, .ref rg, .ref me, .ref sa, .ref pa, .ref za, .ref ca, .int (bI kp), .ref ta, .ref na])), (rg, .inl (cI, 6, .inl (rg6 a x d b0 b1 b2))), (za, .inl (cZ, 2, .inl (p2 (bI z0) (bI z1))))]) [0, 1, 2] rfl
    have hDc := hD.sub (ws' := [(o, .inr (5, [.int th, .ref im, .int (bI tr), .ref rc, .ref bg, .int ro, .ref oa, .ref xa, .ref ya, .ref rg, .ref me, .ref sa, .ref pa, .ref za, .ref ca, .int (bI kp), .ref ta, .ref na])), (rg, .inl (cI, 6, .inl (rg6 a x d b0 b1 b2))), (za, .inl (cZ, 2, .inl (p2 (bI z0) (bI z1))))]) [0, 1, 2] (by decide) rfl
    have hFc := va_free (wc := [(o, .inr (5, [.int th, .ref im, .int (bI tr), .ref rc, .ref bg, .int ro, .ref oa, .ref xa, .ref ya, .ref rg, .ref me, .ref sa, .ref pa, .ref za, .ref ca, .int (bI kp), .ref ta, .ref na])), (rg, .inl (cI, 6, .inl (rg6 a x d b0 b1 b2))), (za, .inl (cZ, 2, .inl (p2 (bI z0) (bI z1))))]) hD hS hA [0, 1, 2] rfl
    refine va_callv (va_runV (As := [.int 0, .int 0, .int ((a + v) + cc)]) (rest := []) ⟨hx, hb, hml, hown, hts⟩ (q_setZ00 l D cI cZ o th im tr rc bg ro oa xa ya rg me sa pa za ca kp ta na a x d b0 b1 b2 z0 z1 ((a + v) + cc) H.size) ⟨cB 3 hts k_845 k_62 k_842 hd_MO_setZ ⟨Nat.le_of_ble_eq_true rfl, Nat.le_of_ble_eq_true rfl⟩ rfl rfl, hts _ k_844, hts _ k_42⟩ (PcW.preV (va_recv hK hP (q0 := 0) (ci := 5) rfl rfl) hPc hK hDc hN) rfl rfl hl.1 rfl (lv_room (Nat.le_of_ble_eq_true rfl)) d_MO_adds_41 ⟨Nat.le_of_ble_eq_true rfl, Nat.le_of_ble_eq_true rfl⟩) hS (fun q _ h => hFc q h) hFc (fun u t H1 locs ht hvm e41 hB hz1 hk1 hS => ?_)
    obtain ⟨v141, zz41⟩ := u
    obtain ⟨hP1, hK1, hD1⟩ := hB
    rw [ht] at hP1
    obtain ⟨hP, hD⟩ := va_join (wr := [(ca, .inl (cZ, 2, .inl (p2 (bI false) (bI c1))))]) (w1 := [(o, .inr (5, [.int th, .ref im, .int (bI tr), .ref rc, .ref bg, .int ro, .ref oa, .ref xa, .ref ya, .ref rg, .ref me, .ref sa, .ref pa, .ref za, .ref ca, .int (bI kp), .ref ta, .ref na])), (rg, .inl (cI, 6, .inl (rg6 v141 x d b0 b1 b2))), (za, .inl (cZ, 2, .inl (p2 (bI zz41) (bI z1))))]) hP hD [0, 1, 2] [3] rfl rfl (by decide) (by decide) hk1 hFc hP1 hD1
    generalize H1 = H at hP hS ⊢
    try dsimp only at e41
    obtain ⟨e41_0, e41_1⟩ := e41
    replace e41_0 := e41_0.symm
    subst e41_0
    replace e41_1 := e41_1.symm
    subst e41_1
    have hP : va_P D vwCl [(ca, .inl (cZ, 2, .inl (p2 (bI false) (bI c1)))), (o, .inr (5, [.int th, .ref im, .int (bI tr), .ref rc, .ref bg, .int ro, .ref oa, .ref xa, .ref ya, .ref rg, .ref me, .ref sa, .ref pa, .ref za, .ref ca, .int (bI kp), .ref ta, .ref na])), (rg, .inl (cI, 6, .inl (rg6 (((a + v) + cc) &&& 255) x d b0 b1 b2))), (za, .inl (cZ, 2, .inl (p2 (bI (decide (((a + v) + cc) &&& 255 = 0))) (bI z1))))] H := hP
    have hD : va_D A [(ca, .inl (cZ, 2, .inl (p2 (bI false) (bI c1)))), (o, .inr (5, [.int th, .ref im, .int (bI tr), .ref rc, .ref bg, .int ro, .ref oa, .ref xa, .ref ya, .ref rg, .ref me, .ref sa, .ref pa, .ref za, .ref ca, .int (bI kp), .ref ta, .ref na])), (rg, .inl (cI, 6, .inl (rg6 (((a + v) + cc) &&& 255) x d b0 b1 b2))), (za, .inl (cZ, 2, .inl (p2 (bI (decide (((a + v) + cc) &&& 255 = 0))) (bI z1))))] := hD
    have hP9 : va_P D vwCl [(o, .inr (5, [.int th, .ref im, .int (bI tr), .ref rc, .ref bg, .int ro, .ref oa, .ref xa, .ref ya, .ref rg, .ref me, .ref sa, .ref pa, .ref za, .ref ca, .int (bI kp), .ref ta, .ref na])), (rg, .inl (cI, 6, .inl (rg6 (((a + v) + cc) &&& 255) x d b0 b1 b2))), (za, .inl (cZ, 2, .inl (p2 (bI (decide (((a + v) + cc) &&& 255 = 0))) (bI z1)))), (ca, .inl (cZ, 2, .inl (p2 (bI false) (bI c1))))] H := hP.sub [1, 2, 3, 0] rfl
    have hD9 : va_D A [(o, .inr (5, [.int th, .ref im, .int (bI tr), .ref rc, .ref bg, .int ro, .ref oa, .ref xa, .ref ya, .ref rg, .ref me, .ref sa, .ref pa, .ref za, .ref ca, .int (bI kp), .ref ta, .ref na])), (rg, .inl (cI, 6, .inl (rg6 (((a + v) + cc) &&& 255) x d b0 b1 b2))), (za, .inl (cZ, 2, .inl (p2 (bI (decide (((a + v) + cc) &&& 255 = 0))) (bI z1)))), (ca, .inl (cZ, 2, .inl (p2 (bI false) (bI c1))))] := hD.sub [1, 2, 3, 0] (by decide) rfl
    exact W.vret hx hb hr (fun t ht hW => ⟨⟨(((a + v) + cc) &&& 255, decide (((a + v) + cc) &&& 255 = 0), false), rfl, by first | (simp only [h27, ↓reduceIte, not_true_eq_false, not_false_eq_true, and_true, true_and, and_false, false_and, and_self, or_true, true_or, or_false, false_or, decide_true, decide_false, Bool.false_eq_true, reduceCtorEq]; done) | (simp_all []; done), by rw [ht]; exact hP9, va_K.moved hW.alike hK, hD9⟩, hS.F ht⟩) hS.2.2 d_MO_adds_44
  · refine lv_iconst (v := 1) hx hb d_MO_adds_30 (by decide) ?_
    refine lv_goto (tgt := 35) hx hb d_MO_adds_31 rfl ?_
    refine va_zast hx hb hK hP hD hS 3 1 rfl rfl (vp_in_nI (n := 0) (by decide) (by decide)) d_MO_adds_35 (fun H locs hP hD hS => ?_)
    have hP : va_P D vwCl [(o, .inr (5, [.int th, .ref im, .int (bI tr), .ref rc, .ref bg, .int ro, .ref oa, .ref xa, .ref ya, .ref rg, .ref me, .ref sa, .ref pa, .ref za, .ref ca, .int (bI kp), .ref ta, .ref na])), (rg, .inl (cI, 6, .inl (rg6 a x d b0 b1 b2))), (za, .inl (cZ, 2, .inl (p2 (bI z0) (bI z1)))), (ca, .inl (cZ, 2, .inl (upd (p2 (bI c0) (bI c1)) 0 (bI true))))] H := hP
    have hD : va_D A [(o, .inr (5, [.int th, .ref im, .int (bI tr), .ref rc, .ref bg, .int ro, .ref oa, .ref xa, .ref ya, .ref rg, .ref me, .ref sa, .ref pa, .ref za, .ref ca, .int (bI kp), .ref ta, .ref na])), (rg, .inl (cI, 6, .inl (rg6 a x d b0 b1 b2))), (za, .inl (cZ, 2, .inl (p2 (bI z0) (bI z1)))), (ca, .inl (cZ, 2, .inl (upd (p2 (bI c0) (bI c1)) 0 (bI true))))] := hD
    rw [show upd (p2 (bI c0) (bI c1)) 0 (bI true) = p2 (bI true) (bI c1) from p2_0] at hP hD
    have hP : va_P D vwCl [(o, .inr (5, [.int th, .ref im, .int (bI tr), .ref rc, .ref bg, .int ro, .ref oa, .ref xa, .ref ya, .ref rg, .ref me, .ref sa, .ref pa, .ref za, .ref ca, .int (bI kp), .ref ta, .ref na])), (rg, .inl (cI, 6, .inl (rg6 a x d b0 b1 b2))), (za, .inl (cZ, 2, .inl (p2 (bI z0) (bI z1)))), (ca, .inl (cZ, 2, .inl (p2 (bI true) (bI c1))))] H := hP
    have hD : va_D A [(o, .inr (5, [.int th, .ref im, .int (bI tr), .ref rc, .ref bg, .int ro, .ref oa, .ref xa, .ref ya, .ref rg, .ref me, .ref sa, .ref pa, .ref za, .ref ca, .int (bI kp), .ref ta, .ref na])), (rg, .inl (cI, 6, .inl (rg6 a x d b0 b1 b2))), (za, .inl (cZ, 2, .inl (p2 (bI z0) (bI z1)))), (ca, .inl (cZ, 2, .inl (p2 (bI true) (bI c1))))] := hD
    refine lv_aload_n hx hb d_MO_adds_36 rfl (lv_at hl 1 rfl) ?_
    refine lv_iload_n hx hb d_MO_adds_37 rfl (lv_at hl 2 rfl) ?_
    refine lv_iload_n hx hb d_MO_adds_38 rfl (lv_at hl 3 rfl) ?_
    refine lv_iload hx hb d_MO_adds_39 (lv_at hl 0 rfl) ?_
    have hPc := hP.sub (ws' := [(o, .inr (5, [.int th, .ref im, .int (bI tr), .ref rc, .ref bg, .int ro, .ref oa, .ref xa, .ref ya, .ref rg, .ref me, .ref sa, .ref pa, .ref za, .ref ca, .int (bI kp), .ref ta, .ref na])), (rg, .inl (cI, 6, .inl (rg6 a x d b0 b1 b2))), (za, .inl (cZ, 2, .inl (p2 (bI z0) (bI z1))))]) [0, 1, 2] rfl
    have hDc := hD.sub (ws' := [(o, .inr (5, [.int th, .ref im, .int (bI tr), .ref rc, .ref bg, .int ro, .ref oa, .ref xa, .ref ya, .ref rg, .ref me, .ref sa, .ref pa, .ref za, .ref ca, .int (bI kp), .ref ta, .ref na])), (rg, .inl (cI, 6, .inl (rg6 a x d b0 b1 b2))), (za, .inl (cZ, 2, .inl (p2 (bI z0) (bI z1))))]) [0, 1, 2] (by decide) rfl
    have hFc := va_free (wc := [(o, .inr (5, [.int th, .ref im, .int (bI tr), .ref rc, .ref bg, .int ro, .ref oa, .ref xa, .ref ya, .ref rg, .ref me, .ref sa, .ref pa, .ref za, .ref ca, .int (bI kp), .ref ta, .ref na])), (rg, .inl (cI, 6, .inl (rg6 a x d b0 b1 b2))), (za, .inl (cZ, 2, .inl (p2 (bI z0) (bI z1))))]) hD hS hA [0, 1, 2] rfl
    refine va_callv (va_runV (As := [.int 0, .int 0, .int ((a + v) + cc)]) (rest := []) ⟨hx, hb, hml, hown, hts⟩ (q_setZ00 l D cI cZ o th im tr rc bg ro oa xa ya rg me sa pa za ca kp ta na a x d b0 b1 b2 z0 z1 ((a + v) + cc) H.size) ⟨cB 3 hts k_845 k_62 k_842 hd_MO_setZ ⟨Nat.le_of_ble_eq_true rfl, Nat.le_of_ble_eq_true rfl⟩ rfl rfl, hts _ k_844, hts _ k_42⟩ (PcW.preV (va_recv hK hP (q0 := 0) (ci := 5) rfl rfl) hPc hK hDc hN) rfl rfl hl.1 rfl (lv_room (Nat.le_of_ble_eq_true rfl)) d_MO_adds_41 ⟨Nat.le_of_ble_eq_true rfl, Nat.le_of_ble_eq_true rfl⟩) hS (fun q _ h => hFc q h) hFc (fun u t H1 locs ht hvm e41 hB hz1 hk1 hS => ?_)
    obtain ⟨v141, zz41⟩ := u
    obtain ⟨hP1, hK1, hD1⟩ := hB
    rw [ht] at hP1
    obtain ⟨hP, hD⟩ := va_join (wr := [(ca, .inl (cZ, 2, .inl (p2 (bI true) (bI c1))))]) (w1 := [(o, .inr (5, [.int th, .ref im, .int (bI tr), .ref rc, .ref bg, .int ro, .ref oa, .ref xa, .ref ya, .ref rg, .ref me, .ref sa, .ref pa, .ref za, .ref ca, .int (bI kp), .ref ta, .ref na])), (rg, .inl (cI, 6, .inl (rg6 v141 x d b0 b1 b2))), (za, .inl (cZ, 2, .inl (p2 (bI zz41) (bI z1))))]) hP hD [0, 1, 2] [3] rfl rfl (by decide) (by decide) hk1 hFc hP1 hD1
    generalize H1 = H at hP hS ⊢
    try dsimp only at e41
    obtain ⟨e41_0, e41_1⟩ := e41
    replace e41_0 := e41_0.symm
    subst e41_0
    replace e41_1 := e41_1.symm
    subst e41_1
    have hP : va_P D vwCl [(ca, .inl (cZ, 2, .inl (p2 (bI true) (bI c1)))), (o, .inr (5, [.int th, .ref im, .int (bI tr), .ref rc, .ref bg, .int ro, .ref oa, .ref xa, .ref ya, .ref rg, .ref me, .ref sa, .ref pa, .ref za, .ref ca, .int (bI kp), .ref ta, .ref na])), (rg, .inl (cI, 6, .inl (rg6 (((a + v) + cc) &&& 255) x d b0 b1 b2))), (za, .inl (cZ, 2, .inl (p2 (bI (decide (((a + v) + cc) &&& 255 = 0))) (bI z1))))] H := hP
    have hD : va_D A [(ca, .inl (cZ, 2, .inl (p2 (bI true) (bI c1)))), (o, .inr (5, [.int th, .ref im, .int (bI tr), .ref rc, .ref bg, .int ro, .ref oa, .ref xa, .ref ya, .ref rg, .ref me, .ref sa, .ref pa, .ref za, .ref ca, .int (bI kp), .ref ta, .ref na])), (rg, .inl (cI, 6, .inl (rg6 (((a + v) + cc) &&& 255) x d b0 b1 b2))), (za, .inl (cZ, 2, .inl (p2 (bI (decide (((a + v) + cc) &&& 255 = 0))) (bI z1))))] := hD
    have hP9 : va_P D vwCl [(o, .inr (5, [.int th, .ref im, .int (bI tr), .ref rc, .ref bg, .int ro, .ref oa, .ref xa, .ref ya, .ref rg, .ref me, .ref sa, .ref pa, .ref za, .ref ca, .int (bI kp), .ref ta, .ref na])), (rg, .inl (cI, 6, .inl (rg6 (((a + v) + cc) &&& 255) x d b0 b1 b2))), (za, .inl (cZ, 2, .inl (p2 (bI (decide (((a + v) + cc) &&& 255 = 0))) (bI z1)))), (ca, .inl (cZ, 2, .inl (p2 (bI true) (bI c1))))] H := hP.sub [1, 2, 3, 0] rfl
    have hD9 : va_D A [(o, .inr (5, [.int th, .ref im, .int (bI tr), .ref rc, .ref bg, .int ro, .ref oa, .ref xa, .ref ya, .ref rg, .ref me, .ref sa, .ref pa, .ref za, .ref ca, .int (bI kp), .ref ta, .ref na])), (rg, .inl (cI, 6, .inl (rg6 (((a + v) + cc) &&& 255) x d b0 b1 b2))), (za, .inl (cZ, 2, .inl (p2 (bI (decide (((a + v) + cc) &&& 255 = 0))) (bI z1)))), (ca, .inl (cZ, 2, .inl (p2 (bI true) (bI c1))))] := hD.sub [1, 2, 3, 0] (by decide) rfl
    exact W.vret hx hb hr (fun t ht hW => ⟨⟨(((a + v) + cc) &&& 255, decide (((a + v) + cc) &&& 255 = 0), true), rfl, by first | (simp only [h27, ↓reduceIte, not_true_eq_false, not_false_eq_true, and_true, true_and, and_false, false_and, and_self, or_true, true_or, or_false, false_or, decide_true, decide_false, Bool.false_eq_true, reduceCtorEq]; done) | (simp_all []; done), by rw [ht]; exact hP9, va_K.moved hW.alike hK, hD9⟩, hS.F ht⟩) hS.2.2 d_MO_adds_44
set_option maxHeartbeats 4000000 in
set_option maxRecDepth 100000 in
theorem q_subs00 (l : Launch) (D : va_G) (cI cZ : ClassId) (o : Nat) (th : Int32) (im : Nat) (tr : Bool) (rc : Nat) (bg : Nat) (ro : Int32) (oa : Nat) (xa : Nat) (ya : Nat) (rg : Nat) (me : Nat) (sa : Nat) (pa : Nat) (za : Nat) (ca : Nat) (kp : Bool) (ta : Nat) (na : Nat) (a : Int32) (x : Int32) (d : Int32) (b0 : Int32) (b1 : Int32) (b2 : Int32) (z0 : Bool) (z1 : Bool) (c0 : Bool) (c1 : Bool) (v : Int32) (sy : Bool) (sz : Nat) : MetV l y_MO_subtracts w_MO_subtracts { frames := 2, cells := 0, slots := 0, locals := 46 } D cI cZ [.ref o, .int 0, .int 0, .int v, .int (bI sy)] [(o, .inr (5, [.int th, .ref im, .int (bI tr), .ref rc, .ref bg, .int ro, .ref oa, .ref xa, .ref ya, .ref rg, .ref me, .ref sa, .ref pa, .ref za, .ref ca, .int (bI kp), .ref ta, .ref na])), (rg, .inl (cI, 6, .inl (rg6 a x d b0 b1 b2))), (za, .inl (cZ, 2, .inl (p2 (bI z0) (bI z1)))), (ca, .inl (cZ, 2, .inl (p2 (bI c0) (bI c1))))] sz (fun (u : Int32 × Bool × Bool) => match u with | (v1, zz, cy) => v1 = (if sy = true then a &&& 255 else (a - v) &&& 255) ∧ zz = decide ((a - v) &&& 255 = 0) ∧ cy = decide (¬ v ≤ a)) (fun (u : Int32 × Bool × Bool) => match u with | (v1, zz, cy) => [(o, .inr (5, [.int th, .ref im, .int (bI tr), .ref rc, .ref bg, .int ro, .ref oa, .ref xa, .ref ya, .ref rg, .ref me, .ref sa, .ref pa, .ref za, .ref ca, .int (bI kp), .ref ta, .ref na])), (rg, .inl (cI, 6, .inl (rg6 v1 x d b0 b1 b2))), (za, .inl (cZ, 2, .inl (p2 (bI zz) (bI z1)))), (ca, .inl (cZ, 2, .inl (p2 (bI cy) (bI c1))))]) 0 0 := by
  refine ofV (cc := c_MO_subtracts) (maxL := 6) (ret := none) (by decide) rfl (Nat.le_of_ble_eq_true rfl) ?_
  intro p e s m args below meth c A H hH0 hx hb hr hlocks hts hown hnm hml ls hl hP hK hD hA hS hN
  have hown : s.vm.findClass R_MO = some m.cls := hown
  have hl : lv_has ls 6 [(0, .ref o), (1, .int 0), (2, .int 0), (3, .int v), (4, .int (bI sy))] := hl
  refine lv_aload_n hx hb d_MO_subtracts_0 rfl (lv_at hl 0 rfl) ?_
  refine va_get (D := D) (ci := 5) (v := .ref rg) (C := R_MO) (T := T_MO) (N := 18) hx hb hts iw_MO hown hK hP 0 rfl rfl 9 (by decide) (hts _ k_704) (fun _ h9 => h9) rfl d_MO_subtracts_1 ?_
  refine lv_iconst (v := 3) hx hb d_MO_subtracts_4 (by decide) ?_
  refine lv_iload_n hx hb d_MO_subtracts_5 rfl (lv_at hl 1 rfl) ?_
  refine lv_imul hx hb d_MO_subtracts_6 ?_
  refine lv_iload_n hx hb d_MO_subtracts_7 rfl (lv_at hl 2 rfl) ?_
  refine lv_iadd hx hb d_MO_subtracts_8 ?_
  refine va_iald hx hb hK hP 1 0 rfl rfl (vp_in_nI (n := 0) (by decide) (by decide)) d_MO_subtracts_9 ?_
  refine lv_istore hx hb d_MO_subtracts_10 hl (by decide) rfl (fun ls hl => ?_)
  have hl : lv_has ls 6 [(5, .int a), (0, .ref o), (1, .int 0), (2, .int 0), (3, .int v), (4, .int (bI sy))] := hl
  refine lv_aload_n hx hb d_MO_subtracts_12 rfl (lv_at hl 1 rfl) ?_
  refine va_get (D := D) (ci := 5) (v := .ref ca) (C := R_MO) (T := T_MO) (N := 18) hx hb hts iw_MO hown hK hP 0 rfl rfl 14 (by decide) (hts _ k_709) (fun _ h9 => h9) rfl d_MO_subtracts_13 ?_
  refine lv_iload_n hx hb d_MO_subtracts_16 rfl (lv_at hl 2 rfl) ?_
  refine lv_iload_n hx hb d_MO_subtracts_17 rfl (lv_at hl 4 rfl) ?_
  refine lv_iload hx hb d_MO_subtracts_18 (lv_at hl 0 rfl) ?_
  refine lv_icmp_le (tgt := 27) hx hb d_MO_subtracts_20 rfl (fun h20 => ?_) (fun h20 => ?_)
  · refine lv_iconst (v := 0) hx hb d_MO_subtracts_27 (by decide) ?_
    refine va_zast hx hb hK hP hD hS 3 1 rfl rfl (vp_in_nI (n := 0) (by decide) (by decide)) d_MO_subtracts_28 (fun H locs hP hD hS => ?_)
    have hP : va_P D vwCl [(o, .inr (5, [.int th, .ref im, .int (bI tr), .ref rc, .ref bg, .int ro, .ref oa, .ref xa, .ref ya, .ref rg, .ref me, .ref sa, .ref pa, .ref za, .ref ca, .int (bI kp), .ref ta, .ref na])), (rg, .inl (cI, 6, .inl (rg6 a x d b0 b1 b2))), (za, .inl (cZ, 2, .inl (p2 (bI z0) (bI z1)))), (ca, .inl (cZ, 2, .inl (upd (p2 (bI c0) (bI c1)) 0 (bI false))))] H := hP
    have hD : va_D A [(o, .inr (5, [.int th, .ref im, .int (bI tr), .ref rc, .ref bg, .int ro, .ref oa, .ref xa, .ref ya, .ref rg, .ref me, .ref sa, .ref pa, .ref za, .ref ca, .int (bI kp), .ref ta, .ref na])), (rg, .inl (cI, 6, .inl (rg6 a x d b0 b1 b2))), (za, .inl (cZ, 2, .inl (p2 (bI z0) (bI z1)))), (ca, .inl (cZ, 2, .inl (upd (p2 (bI c0) (bI c1)) 0 (bI false))))] := hD
    rw [show upd (p2 (bI c0) (bI c1)) 0 (bI false) = p2 (bI false) (bI c1) from p2_0] at hP hD
    have hP : va_P D vwCl [(o, .inr (5, [.int th, .ref im, .int (bI tr), .ref rc, .ref bg, .int ro, .ref oa, .ref xa, .ref ya, .ref rg, .ref me, .ref sa, .ref pa, .ref za, .ref ca, .int (bI kp), .ref ta, .ref na])), (rg, .inl (cI, 6, .inl (rg6 a x d b0 b1 b2))), (za, .inl (cZ, 2, .inl (p2 (bI z0) (bI z1)))), (ca, .inl (cZ, 2, .inl (p2 (bI false) (bI c1))))] H := hP
    have hD : va_D A [(o, .inr (5, [.int th, .ref im, .int (bI tr), .ref rc, .ref bg, .int ro, .ref oa, .ref xa, .ref ya, .ref rg, .ref me, .ref sa, .ref pa, .ref za, .ref ca, .int (bI kp), .ref ta, .ref na])), (rg, .inl (cI, 6, .inl (rg6 a x d b0 b1 b2))), (za, .inl (cZ, 2, .inl (p2 (bI z0) (bI z1)))), (ca, .inl (cZ, 2, .inl (p2 (bI false) (bI c1))))] := hD
    refine lv_aload_n hx hb d_MO_subtracts_29 rfl (lv_at hl 1 rfl) ?_
    refine lv_iload_n hx hb d_MO_subtracts_30 rfl (lv_at hl 2 rfl) ?_
    refine lv_iload_n hx hb d_MO_subtracts_31 rfl (lv_at hl 3 rfl) ?_
    refine lv_iload hx hb d_MO_subtracts_32 (lv_at hl 0 rfl) ?_
    refine lv_iload_n hx hb d_MO_subtracts_34 rfl (lv_at hl 4 rfl) ?_
    refine lv_isub hx hb d_MO_subtracts_35 ?_
    have hPc := hP.sub (ws' := [(o, .inr (5, [.int th, .ref im, .int (bI tr), .ref rc, .ref bg, .int ro, .ref oa, .ref xa, .ref ya, .ref rg, .ref me, .ref sa, .ref pa, .ref za, .ref ca, .int (bI kp), .ref ta, .ref na])), (rg, .inl (cI, 6, .inl (rg6 a x d b0 b1 b2))), (za, .inl (cZ, 2, .inl (p2 (bI z0) (bI z1))))]) [0, 1, 2] rfl
    have hDc := hD.sub (ws' := [(o, .inr (5, [.int th, .ref im, .int (bI tr), .ref rc, .ref bg, .int ro, .ref oa, .ref xa, .ref ya, .ref rg, .ref me, .ref sa, .ref pa, .ref za, .ref ca, .int (bI kp), .ref ta, .ref na])), (rg, .inl (cI, 6, .inl (rg6 a x d b0 b1 b2))), (za, .inl (cZ, 2, .inl (p2 (bI z0) (bI z1))))]) [0, 1, 2] (by decide) rfl
    have hFc := va_free (wc := [(o, .inr (5, [.int th, .ref im, .int (bI tr), .ref rc, .ref bg, .int ro, .ref oa, .ref xa, .ref ya, .ref rg, .ref me, .ref sa, .ref pa, .ref za, .ref ca, .int (bI kp), .ref ta, .ref na])), (rg, .inl (cI, 6, .inl (rg6 a x d b0 b1 b2))), (za, .inl (cZ, 2, .inl (p2 (bI z0) (bI z1))))]) hD hS hA [0, 1, 2] rfl
    refine va_callv (va_runV (As := [.int 0, .int 0, .int (a - v)]) (rest := []) ⟨hx, hb, hml, hown, hts⟩ (q_setZ00 l D cI cZ o th im tr rc bg ro oa xa ya rg me sa pa za ca kp ta na a x d b0 b1 b2 z0 z1 (a - v) H.size) ⟨cB 3 hts k_845 k_62 k_842 hd_MO_setZ ⟨Nat.le_of_ble_eq_true rfl, Nat.le_of_ble_eq_true rfl⟩ rfl rfl, hts _ k_844, hts _ k_42⟩ (PcW.preV (va_recv hK hP (q0 := 0) (ci := 5) rfl rfl) hPc hK hDc hN) rfl rfl hl.1 rfl (lv_room (Nat.le_of_ble_eq_true rfl)) d_MO_subtracts_36 ⟨Nat.le_of_ble_eq_true rfl, Nat.le_of_ble_eq_true rfl⟩) hS (fun q _ h => hFc q h) hFc (fun u t H1 locs ht hvm e36 hB hz1 hk1 hS => ?_)
    obtain ⟨v136, zz36⟩ := u
    obtain ⟨hP1, hK1, hD1⟩ := hB
    rw [ht] at hP1
    obtain ⟨hP, hD⟩ := va_join (wr := [(ca, .inl (cZ, 2, .inl (p2 (bI false) (bI c1))))]) (w1 := [(o, .inr (5, [.int th, .ref im, .int (bI tr), .ref rc, .ref bg, .int ro, .ref oa, .ref xa, .ref ya, .ref rg, .ref me, .ref sa, .ref pa, .ref za, .ref ca, .int (bI kp), .ref ta, .ref na])), (rg, .inl (cI, 6, .inl (rg6 v136 x d b0 b1 b2))), (za, .inl (cZ, 2, .inl (p2 (bI zz36) (bI z1))))]) hP hD [0, 1, 2] [3] rfl rfl (by decide) (by decide) hk1 hFc hP1 hD1
    generalize H1 = H at hP hS ⊢
    try dsimp only at e36
    obtain ⟨e36_0, e36_1⟩ := e36
    replace e36_0 := e36_0.symm
    subst e36_0
    replace e36_1 := e36_1.symm
    subst e36_1
    have hP : va_P D vwCl [(ca, .inl (cZ, 2, .inl (p2 (bI false) (bI c1)))), (o, .inr (5, [.int th, .ref im, .int (bI tr), .ref rc, .ref bg, .int ro, .ref oa, .ref xa, .ref ya, .ref rg, .ref me, .ref sa, .ref pa, .ref za, .ref ca, .int (bI kp), .ref ta, .ref na])), (rg, .inl (cI, 6, .inl (rg6 ((a - v) &&& 255) x d b0 b1 b2))), (za, .inl (cZ, 2, .inl (p2 (bI (decide ((a - v) &&& 255 = 0))) (bI z1))))] H := hP
    have hD : va_D A [(ca, .inl (cZ, 2, .inl (p2 (bI false) (bI c1)))), (o, .inr (5, [.int th, .ref im, .int (bI tr), .ref rc, .ref bg, .int ro, .ref oa, .ref xa, .ref ya, .ref rg, .ref me, .ref sa, .ref pa, .ref za, .ref ca, .int (bI kp), .ref ta, .ref na])), (rg, .inl (cI, 6, .inl (rg6 ((a - v) &&& 255) x d b0 b1 b2))), (za, .inl (cZ, 2, .inl (p2 (bI (decide ((a - v) &&& 255 = 0))) (bI z1))))] := hD
    refine lv_iload hx hb d_MO_subtracts_39 (lv_at hl 5 rfl) ?_
    refine lv_if_eq (tgt := 52) hx hb d_MO_subtracts_41 rfl (fun h41 => ?_) (fun h41 => ?_)
    · have h41 : sy = false := bI_f h41
      have hP9 : va_P D vwCl [(o, .inr (5, [.int th, .ref im, .int (bI tr), .ref rc, .ref bg, .int ro, .ref oa, .ref xa, .ref ya, .ref rg, .ref me, .ref sa, .ref pa, .ref za, .ref ca, .int (bI kp), .ref ta, .ref na])), (rg, .inl (cI, 6, .inl (rg6 ((a - v) &&& 255) x d b0 b1 b2))), (za, .inl (cZ, 2, .inl (p2 (bI (decide ((a - v) &&& 255 = 0))) (bI z1)))), (ca, .inl (cZ, 2, .inl (p2 (bI false) (bI c1))))] H := hP.sub [1, 2, 3, 0] rfl
      have hD9 : va_D A [(o, .inr (5, [.int th, .ref im, .int (bI tr), .ref rc, .ref bg, .int ro, .ref oa, .ref xa, .ref ya, .ref rg, .ref me, .ref sa, .ref pa, .ref za, .ref ca, .int (bI kp), .ref ta, .ref na])), (rg, .inl (cI, 6, .inl (rg6 ((a - v) &&& 255) x d b0 b1 b2))), (za, .inl (cZ, 2, .inl (p2 (bI (decide ((a - v) &&& 255 = 0))) (bI z1)))), (ca, .inl (cZ, 2, .inl (p2 (bI false) (bI c1))))] := hD.sub [1, 2, 3, 0] (by decide) rfl
      exact W.vret hx hb hr (fun t ht hW => ⟨⟨((a - v) &&& 255, decide ((a - v) &&& 255 = 0), false), rfl, by first | (simp only [h20, h41, ↓reduceIte, not_true_eq_false, not_false_eq_true, and_true, true_and, and_false, false_and, and_self, or_true, true_or, or_false, false_or, decide_true, decide_false, Bool.false_eq_true, reduceCtorEq]; done) | (simp_all []; done), by rw [ht]; exact hP9, va_K.moved hW.alike hK, hD9⟩, hS.F ht⟩) hS.2.2 d_MO_subtracts_52
    · have h41 : sy = true := bI_t h41
      refine lv_aload_n hx hb d_MO_subtracts_44 rfl (lv_at hl 1 rfl) ?_
      refine lv_iload_n hx hb d_MO_subtracts_45 rfl (lv_at hl 2 rfl) ?_
      refine lv_iload_n hx hb d_MO_subtracts_46 rfl (lv_at hl 3 rfl) ?_
      refine lv_iload hx hb d_MO_subtracts_47 (lv_at hl 0 rfl) ?_
      have hPc := hP.sub (ws' := [(o, .inr (5, [.int th, .ref im, .int (bI tr), .ref rc, .ref bg, .int ro, .ref oa, .ref xa, .ref ya, .ref rg, .ref me, .ref sa, .ref pa, .ref za, .ref ca, .int (bI kp), .ref ta, .ref na])), (rg, .inl (cI, 6, .inl (rg6 ((a - v) &&& 255) x d b0 b1 b2)))]) [1, 2] rfl
      have hDc := hD.sub (ws' := [(o, .inr (5, [.int th, .ref im, .int (bI tr), .ref rc, .ref bg, .int ro, .ref oa, .ref xa, .ref ya, .ref rg, .ref me, .ref sa, .ref pa, .ref za, .ref ca, .int (bI kp), .ref ta, .ref na])), (rg, .inl (cI, 6, .inl (rg6 ((a - v) &&& 255) x d b0 b1 b2)))]) [1, 2] (by decide) rfl
      have hFc := va_free (wc := [(o, .inr (5, [.int th, .ref im, .int (bI tr), .ref rc, .ref bg, .int ro, .ref oa, .ref xa, .ref ya, .ref rg, .ref me, .ref sa, .ref pa, .ref za, .ref ca, .int (bI kp), .ref ta, .ref na])), (rg, .inl (cI, 6, .inl (rg6 ((a - v) &&& 255) x d b0 b1 b2)))]) hD hS hA [1, 2] rfl
      refine va_callv (va_runV (As := [.int 0, .int 0, .int a]) (rest := []) ⟨hx, hb, hml, hown, hts⟩ (q_set00 l D cI cZ o th im tr rc bg ro oa xa ya rg me sa pa za ca kp ta na ((a - v) &&& 255) x d b0 b1 b2 a H.size) ⟨cB 3 hts k_849 k_62 k_846 hd_MO_set ⟨Nat.le_of_ble_eq_true rfl, Nat.le_of_ble_eq_true rfl⟩ rfl rfl, hts _ k_848, hts _ k_43⟩ (PcW.preV (va_recv hK hP (q0 := 1) (ci := 5) rfl rfl) hPc hK hDc hN) rfl rfl hl.1 rfl (lv_room (Nat.le_of_ble_eq_true rfl)) d_MO_subtracts_49 ⟨Nat.le_of_ble_eq_true rfl, Nat.le_of_ble_eq_true rfl⟩) hS (fun q _ h => hFc q h) hFc (fun u t H1 locs ht hvm e49 hB hz1 hk1 hS => ?_)
      obtain ⟨v149, rfl⟩ : ∃ z, z = u := ⟨_, rfl⟩
      obtain ⟨hP1, hK1, hD1⟩ := hB
      rw [ht] at hP1
      obtain ⟨hP, hD⟩ := va_join (wr := [(ca, .inl (cZ, 2, .inl (p2 (bI false) (bI c1)))), (za, .inl (cZ, 2, .inl (p2 (bI (decide ((a - v) &&& 255 = 0))) (bI z1))))]) (w1 := [(o, .inr (5, [.int th, .ref im, .int (bI tr), .ref rc, .ref bg, .int ro, .ref oa, .ref xa, .ref ya, .ref rg, .ref me, .ref sa, .ref pa, .ref za, .ref ca, .int (bI kp), .ref ta, .ref na])), (rg, .inl (cI, 6, .inl (rg6 v149 x d b0 b1 b2)))]) hP hD [1, 2] [0, 3] rfl rfl (by decide) (by decide) hk1 hFc hP1 hD1
      generalize H1 = H at hP hS ⊢
      try dsimp only at e49
      have e49_0 := e49
      replace e49_0 := e49_0.symm
      subst e49_0
      have hP : va_P D vwCl [(ca, .inl (cZ, 2, .inl (p2 (bI false) (bI c1)))), (za, .inl (cZ, 2, .inl (p2 (bI (decide ((a - v) &&& 255 = 0))) (bI z1)))), (o, .inr (5, [.int th, .ref im, .int (bI tr), .ref rc, .ref bg, .int ro, .ref oa, .ref xa, .ref ya, .ref rg, .ref me, .ref sa, .ref pa, .ref za, .ref ca, .int (bI kp), .ref ta, .ref na])), (rg, .inl (cI, 6, .inl (rg6 (a &&& 255) x d b0 b1 b2)))] H := hP
      have hD : va_D A [(ca, .inl (cZ, 2, .inl (p2 (bI false) (bI c1)))), (za, .inl (cZ, 2, .inl (p2 (bI (decide ((a - v) &&& 255 = 0))) (bI z1)))), (o, .inr (5, [.int th, .ref im, .int (bI tr), .ref rc, .ref bg, .int ro, .ref oa, .ref xa, .ref ya, .ref rg, .ref me, .ref sa, .ref pa, .ref za, .ref ca, .int (bI kp), .ref ta, .ref na])), (rg, .inl (cI, 6, .inl (rg6 (a &&& 255) x d b0 b1 b2)))] := hD
      have hP9 : va_P D vwCl [(o, .inr (5, [.int th, .ref im, .int (bI tr), .ref rc, .ref bg, .int ro, .ref oa, .ref xa, .ref ya, .ref rg, .ref me, .ref sa, .ref pa, .ref za, .ref ca, .int (bI kp), .ref ta, .ref na])), (rg, .inl (cI, 6, .inl (rg6 (a &&& 255) x d b0 b1 b2))), (za, .inl (cZ, 2, .inl (p2 (bI (decide ((a - v) &&& 255 = 0))) (bI z1)))), (ca, .inl (cZ, 2, .inl (p2 (bI false) (bI c1))))] H := hP.sub [2, 3, 1, 0] rfl
      have hD9 : va_D A [(o, .inr (5, [.int th, .ref im, .int (bI tr), .ref rc, .ref bg, .int ro, .ref oa, .ref xa, .ref ya, .ref rg, .ref me, .ref sa, .ref pa, .ref za, .ref ca, .int (bI kp), .ref ta, .ref na])), (rg, .inl (cI, 6, .inl (rg6 (a &&& 255) x d b0 b1 b2))), (za, .inl (cZ, 2, .inl (p2 (bI (decide ((a - v) &&& 255 = 0))) (bI z1)))), (ca, .inl (cZ, 2, .inl (p2 (bI false) (bI c1))))] := hD.sub [2, 3, 1, 0] (by decide) rfl
      exact W.vret hx hb hr (fun t ht hW => ⟨⟨(a &&& 255, decide ((a - v) &&& 255 = 0), false), rfl, by first | (simp only [h20, h41, ↓reduceIte, not_true_eq_false, not_false_eq_true, and_true, true_and, and_false, false_and, and_self, or_true, true_or, or_false, false_or, decide_true, decide_false, Bool.false_eq_true, reduceCtorEq]; done) | (simp_all []; done), by rw [ht]; exact hP9, va_K.moved hW.alike hK, hD9⟩, hS.F ht⟩) hS.2.2 d_MO_subtracts_52
  · refine lv_iconst (v := 1) hx hb d_MO_subtracts_23 (by decide) ?_
    refine lv_goto (tgt := 28) hx hb d_MO_subtracts_24 rfl ?_
    refine va_zast hx hb hK hP hD hS 3 1 rfl rfl (vp_in_nI (n := 0) (by decide) (by decide)) d_MO_subtracts_28 (fun H locs hP hD hS => ?_)
    have hP : va_P D vwCl [(o, .inr (5, [.int th, .ref im, .int (bI tr), .ref rc, .ref bg, .int ro, .ref oa, .ref xa, .ref ya, .ref rg, .ref me, .ref sa, .ref pa, .ref za, .ref ca, .int (bI kp), .ref ta, .ref na])), (rg, .inl (cI, 6, .inl (rg6 a x d b0 b1 b2))), (za, .inl (cZ, 2, .inl (p2 (bI z0) (bI z1)))), (ca, .inl (cZ, 2, .inl (upd (p2 (bI c0) (bI c1)) 0 (bI true))))] H := hP
    have hD : va_D A [(o, .inr (5, [.int th, .ref im, .int (bI tr), .ref rc, .ref bg, .int ro, .ref oa, .ref xa, .ref ya, .ref rg, .ref me, .ref sa, .ref pa, .ref za, .ref ca, .int (bI kp), .ref ta, .ref na])), (rg, .inl (cI, 6, .inl (rg6 a x d b0 b1 b2))), (za, .inl (cZ, 2, .inl (p2 (bI z0) (bI z1)))), (ca, .inl (cZ, 2, .inl (upd (p2 (bI c0) (bI c1)) 0 (bI true))))] := hD
    rw [show upd (p2 (bI c0) (bI c1)) 0 (bI true) = p2 (bI true) (bI c1) from p2_0] at hP hD
    have hP : va_P D vwCl [(o, .inr (5, [.int th, .ref im, .int (bI tr), .ref rc, .ref bg, .int ro, .ref oa, .ref xa, .ref ya, .ref rg, .ref me, .ref sa, .ref pa, .ref za, .ref ca, .int (bI kp), .ref ta, .ref na])), (rg, .inl (cI, 6, .inl (rg6 a x d b0 b1 b2))), (za, .inl (cZ, 2, .inl (p2 (bI z0) (bI z1)))), (ca, .inl (cZ, 2, .inl (p2 (bI true) (bI c1))))] H := hP
    have hD : va_D A [(o, .inr (5, [.int th, .ref im, .int (bI tr), .ref rc, .ref bg, .int ro, .ref oa, .ref xa, .ref ya, .ref rg, .ref me, .ref sa, .ref pa, .ref za, .ref ca, .int (bI kp), .ref ta, .ref na])), (rg, .inl (cI, 6, .inl (rg6 a x d b0 b1 b2))), (za, .inl (cZ, 2, .inl (p2 (bI z0) (bI z1)))), (ca, .inl (cZ, 2, .inl (p2 (bI true) (bI c1))))] := hD
    refine lv_aload_n hx hb d_MO_subtracts_29 rfl (lv_at hl 1 rfl) ?_
    refine lv_iload_n hx hb d_MO_subtracts_30 rfl (lv_at hl 2 rfl) ?_
    refine lv_iload_n hx hb d_MO_subtracts_31 rfl (lv_at hl 3 rfl) ?_
    refine lv_iload hx hb d_MO_subtracts_32 (lv_at hl 0 rfl) ?_
    refine lv_iload_n hx hb d_MO_subtracts_34 rfl (lv_at hl 4 rfl) ?_
    refine lv_isub hx hb d_MO_subtracts_35 ?_
    have hPc := hP.sub (ws' := [(o, .inr (5, [.int th, .ref im, .int (bI tr), .ref rc, .ref bg, .int ro, .ref oa, .ref xa, .ref ya, .ref rg, .ref me, .ref sa, .ref pa, .ref za, .ref ca, .int (bI kp), .ref ta, .ref na])), (rg, .inl (cI, 6, .inl (rg6 a x d b0 b1 b2))), (za, .inl (cZ, 2, .inl (p2 (bI z0) (bI z1))))]) [0, 1, 2] rfl
    have hDc := hD.sub (ws' := [(o, .inr (5, [.int th, .ref im, .int (bI tr), .ref rc, .ref bg, .int ro, .ref oa, .ref xa, .ref ya, .ref rg, .ref me, .ref sa, .ref pa, .ref za, .ref ca, .int (bI kp), .ref ta, .ref na])), (rg, .inl (cI, 6, .inl (rg6 a x d b0 b1 b2))), (za, .inl (cZ, 2, .inl (p2 (bI z0) (bI z1))))]) [0, 1, 2] (by decide) rfl
    have hFc := va_free (wc := [(o, .inr (5, [.int th, .ref im, .int (bI tr), .ref rc, .ref bg, .int ro, .ref oa, .ref xa, .ref ya, .ref rg, .ref me, .ref sa, .ref pa, .ref za, .ref ca, .int (bI kp), .ref ta, .ref na])), (rg, .inl (cI, 6, .inl (rg6 a x d b0 b1 b2))), (za, .inl (cZ, 2, .inl (p2 (bI z0) (bI z1))))]) hD hS hA [0, 1, 2] rfl
    refine va_callv (va_runV (As := [.int 0, .int 0, .int (a - v)]) (rest := []) ⟨hx, hb, hml, hown, hts⟩ (q_setZ00 l D cI cZ o th im tr rc bg ro oa xa ya rg me sa pa za ca kp ta na a x d b0 b1 b2 z0 z1 (a - v) H.size) ⟨cB 3 hts k_845 k_62 k_842 hd_MO_setZ ⟨Nat.le_of_ble_eq_true rfl, Nat.le_of_ble_eq_true rfl⟩ rfl rfl, hts _ k_844, hts _ k_42⟩ (PcW.preV (va_recv hK hP (q0 := 0) (ci := 5) rfl rfl) hPc hK hDc hN) rfl rfl hl.1 rfl (lv_room (Nat.le_of_ble_eq_true rfl)) d_MO_subtracts_36 ⟨Nat.le_of_ble_eq_true rfl, Nat.le_of_ble_eq_true rfl⟩) hS (fun q _ h => hFc q h) hFc (fun u t H1 locs ht hvm e36 hB hz1 hk1 hS => ?_)
    obtain ⟨v136, zz36⟩ := u
    obtain ⟨hP1, hK1, hD1⟩ := hB
    rw [ht] at hP1
    obtain ⟨hP, hD⟩ := va_join (wr := [(ca, .inl (cZ, 2, .inl (p2 (bI true) (bI c1))))]) (w1 := [(o, .inr (5, [.int th, .ref im, .int (bI tr), .ref rc, .ref bg, .int ro, .ref oa, .ref xa, .ref ya, .ref rg, .ref me, .ref sa, .ref pa, .ref za, .ref ca, .int (bI kp), .ref ta, .ref na])), (rg, .inl (cI, 6, .inl (rg6 v136 x d b0 b1 b2))), (za, .inl (cZ, 2, .inl (p2 (bI zz36) (bI z1))))]) hP hD [0, 1, 2] [3] rfl rfl (by decide) (by decide) hk1 hFc hP1 hD1
    generalize H1 = H at hP hS ⊢
    try dsimp only at e36
    obtain ⟨e36_0, e36_1⟩ := e36
    replace e36_0 := e36_0.symm
    subst e36_0
    replace e36_1 := e36_1.symm
    subst e36_1
    have hP : va_P D vwCl [(ca, .inl (cZ, 2, .inl (p2 (bI true) (bI c1)))), (o, .inr (5, [.int th, .ref im, .int (bI tr), .ref rc, .ref bg, .int ro, .ref oa, .ref xa, .ref ya, .ref rg, .ref me, .ref sa, .ref pa, .ref za, .ref ca, .int (bI kp), .ref ta, .ref na])), (rg, .inl (cI, 6, .inl (rg6 ((a - v) &&& 255) x d b0 b1 b2))), (za, .inl (cZ, 2, .inl (p2 (bI (decide ((a - v) &&& 255 = 0))) (bI z1))))] H := hP
    have hD : va_D A [(ca, .inl (cZ, 2, .inl (p2 (bI true) (bI c1)))), (o, .inr (5, [.int th, .ref im, .int (bI tr), .ref rc, .ref bg, .int ro, .ref oa, .ref xa, .ref ya, .ref rg, .ref me, .ref sa, .ref pa, .ref za, .ref ca, .int (bI kp), .ref ta, .ref na])), (rg, .inl (cI, 6, .inl (rg6 ((a - v) &&& 255) x d b0 b1 b2))), (za, .inl (cZ, 2, .inl (p2 (bI (decide ((a - v) &&& 255 = 0))) (bI z1))))] := hD
    refine lv_iload hx hb d_MO_subtracts_39 (lv_at hl 5 rfl) ?_
    refine lv_if_eq (tgt := 52) hx hb d_MO_subtracts_41 rfl (fun h41 => ?_) (fun h41 => ?_)
    · have h41 : sy = false := bI_f h41
      have hP9 : va_P D vwCl [(o, .inr (5, [.int th, .ref im, .int (bI tr), .ref rc, .ref bg, .int ro, .ref oa, .ref xa, .ref ya, .ref rg, .ref me, .ref sa, .ref pa, .ref za, .ref ca, .int (bI kp), .ref ta, .ref na])), (rg, .inl (cI, 6, .inl (rg6 ((a - v) &&& 255) x d b0 b1 b2))), (za, .inl (cZ, 2, .inl (p2 (bI (decide ((a - v) &&& 255 = 0))) (bI z1)))), (ca, .inl (cZ, 2, .inl (p2 (bI true) (bI c1))))] H := hP.sub [1, 2, 3, 0] rfl
      have hD9 : va_D A [(o, .inr (5, [.int th, .ref im, .int (bI tr), .ref rc, .ref bg, .int ro, .ref oa, .ref xa, .ref ya, .ref rg, .ref me, .ref sa, .ref pa, .ref za, .ref ca, .int (bI kp), .ref ta, .ref na])), (rg, .inl (cI, 6, .inl (rg6 ((a - v) &&& 255) x d b0 b1 b2))), (za, .inl (cZ, 2, .inl (p2 (bI (decide ((a - v) &&& 255 = 0))) (bI z1)))), (ca, .inl (cZ, 2, .inl (p2 (bI true) (bI c1))))] := hD.sub [1, 2, 3, 0] (by decide) rfl
      exact W.vret hx hb hr (fun t ht hW => ⟨⟨((a - v) &&& 255, decide ((a - v) &&& 255 = 0), true), rfl, by first | (simp only [h20, h41, ↓reduceIte, not_true_eq_false, not_false_eq_true, and_true, true_and, and_false, false_and, and_self, or_true, true_or, or_false, false_or, decide_true, decide_false, Bool.false_eq_true, reduceCtorEq]; done) | (simp_all []; done), by rw [ht]; exact hP9, va_K.moved hW.alike hK, hD9⟩, hS.F ht⟩) hS.2.2 d_MO_subtracts_52
    · have h41 : sy = true := bI_t h41
      refine lv_aload_n hx hb d_MO_subtracts_44 rfl (lv_at hl 1 rfl) ?_
      refine lv_iload_n hx hb d_MO_subtracts_45 rfl (lv_at hl 2 rfl) ?_
      refine lv_iload_n hx hb d_MO_subtracts_46 rfl (lv_at hl 3 rfl) ?_
      refine lv_iload hx hb d_MO_subtracts_47 (lv_at hl 0 rfl) ?_
      have hPc := hP.sub (ws' := [(o, .inr (5, [.int th, .ref im, .int (bI tr), .ref rc, .ref bg, .int ro, .ref oa, .ref xa, .ref ya, .ref rg, .ref me, .ref sa, .ref pa, .ref za, .ref ca, .int (bI kp), .ref ta, .ref na])), (rg, .inl (cI, 6, .inl (rg6 ((a - v) &&& 255) x d b0 b1 b2)))]) [1, 2] rfl
      have hDc := hD.sub (ws' := [(o, .inr (5, [.int th, .ref im, .int (bI tr), .ref rc, .ref bg, .int ro, .ref oa, .ref xa, .ref ya, .ref rg, .ref me, .ref sa, .ref pa, .ref za, .ref ca, .int (bI kp), .ref ta, .ref na])), (rg, .inl (cI, 6, .inl (rg6 ((a - v) &&& 255) x d b0 b1 b2)))]) [1, 2] (by decide) rfl
      have hFc := va_free (wc := [(o, .inr (5, [.int th, .ref im, .int (bI tr), .ref rc, .ref bg, .int ro, .ref oa, .ref xa, .ref ya, .ref rg, .ref me, .ref sa, .ref pa, .ref za, .ref ca, .int (bI kp), .ref ta, .ref na])), (rg, .inl (cI, 6, .inl (rg6 ((a - v) &&& 255) x d b0 b1 b2)))]) hD hS hA [1, 2] rfl
      refine va_callv (va_runV (As := [.int 0, .int 0, .int a]) (rest := []) ⟨hx, hb, hml, hown, hts⟩ (q_set00 l D cI cZ o th im tr rc bg ro oa xa ya rg me sa pa za ca kp ta na ((a - v) &&& 255) x d b0 b1 b2 a H.size) ⟨cB 3 hts k_849 k_62 k_846 hd_MO_set ⟨Nat.le_of_ble_eq_true rfl, Nat.le_of_ble_eq_true rfl⟩ rfl rfl, hts _ k_848, hts _ k_43⟩ (PcW.preV (va_recv hK hP (q0 := 1) (ci := 5) rfl rfl) hPc hK hDc hN) rfl rfl hl.1 rfl (lv_room (Nat.le_of_ble_eq_true rfl)) d_MO_subtracts_49 ⟨Nat.le_of_ble_eq_true rfl, Nat.le_of_ble_eq_true rfl⟩) hS (fun q _ h => hFc q h) hFc (fun u t H1 locs ht hvm e49 hB hz1 hk1 hS => ?_)
      obtain ⟨v149, rfl⟩ : ∃ z, z = u := ⟨_, rfl⟩
      obtain ⟨hP1, hK1, hD1⟩ := hB
      rw [ht] at hP1
      obtain ⟨hP, hD⟩ := va_join (wr := [(ca, .inl (cZ, 2, .inl (p2 (bI true) (bI c1)))), (za, .inl (cZ, 2, .inl (p2 (bI (decide ((a - v) &&& 255 = 0))) (bI z1))))]) (w1 := [(o, .inr (5, [.int th, .ref im, .int (bI tr), .ref rc, .ref bg, .int ro, .ref oa, .ref xa, .ref ya, .ref rg, .ref me, .ref sa, .ref pa, .ref za, .ref ca, .int (bI kp), .ref ta, .ref na])), (rg, .inl (cI, 6, .inl (rg6 v149 x d b0 b1 b2)))]) hP hD [1, 2] [0, 3] rfl rfl (by decide) (by decide) hk1 hFc hP1 hD1
      generalize H1 = H at hP hS ⊢
      try dsimp only at e49
      have e49_0 := e49
      replace e49_0 := e49_0.symm
      subst e49_0
      have hP : va_P D vwCl [(ca, .inl (cZ, 2, .inl (p2 (bI true) (bI c1)))), (za, .inl (cZ, 2, .inl (p2 (bI (decide ((a - v) &&& 255 = 0))) (bI z1)))), (o, .inr (5, [.int th, .ref im, .int (bI tr), .ref rc, .ref bg, .int ro, .ref oa, .ref xa, .ref ya, .ref rg, .ref me, .ref sa, .ref pa, .ref za, .ref ca, .int (bI kp), .ref ta, .ref na])), (rg, .inl (cI, 6, .inl (rg6 (a &&& 255) x d b0 b1 b2)))] H := hP
      have hD : va_D A [(ca, .inl (cZ, 2, .inl (p2 (bI true) (bI c1)))), (za, .inl (cZ, 2, .inl (p2 (bI (decide ((a - v) &&& 255 = 0))) (bI z1)))), (o, .inr (5, [.int th, .ref im, .int (bI tr), .ref rc, .ref bg, .int ro, .ref oa, .ref xa, .ref ya, .ref rg, .ref me, .ref sa, .ref pa, .ref za, .ref ca, .int (bI kp), .ref ta, .ref na])), (rg, .inl (cI, 6, .inl (rg6 (a &&& 255) x d b0 b1 b2)))] := hD
      have hP9 : va_P D vwCl [(o, .inr (5, [.int th, .ref im, .int (bI tr), .ref rc, .ref bg, .int ro, .ref oa, .ref xa, .ref ya, .ref rg, .ref me, .ref sa, .ref pa, .ref za, .ref ca, .int (bI kp), .ref ta, .ref na])), (rg, .inl (cI, 6, .inl (rg6 (a &&& 255) x d b0 b1 b2))), (za, .inl (cZ, 2, .inl (p2 (bI (decide ((a - v) &&& 255 = 0))) (bI z1)))), (ca, .inl (cZ, 2, .inl (p2 (bI true) (bI c1))))] H := hP.sub [2, 3, 1, 0] rfl
      have hD9 : va_D A [(o, .inr (5, [.int th, .ref im, .int (bI tr), .ref rc, .ref bg, .int ro, .ref oa, .ref xa, .ref ya, .ref rg, .ref me, .ref sa, .ref pa, .ref za, .ref ca, .int (bI kp), .ref ta, .ref na])), (rg, .inl (cI, 6, .inl (rg6 (a &&& 255) x d b0 b1 b2))), (za, .inl (cZ, 2, .inl (p2 (bI (decide ((a - v) &&& 255 = 0))) (bI z1)))), (ca, .inl (cZ, 2, .inl (p2 (bI true) (bI c1))))] := hD.sub [2, 3, 1, 0] (by decide) rfl
      exact W.vret hx hb hr (fun t ht hW => ⟨⟨(a &&& 255, decide ((a - v) &&& 255 = 0), true), rfl, by first | (simp only [h20, h41, ↓reduceIte, not_true_eq_false, not_false_eq_true, and_true, true_and, and_false, false_and, and_self, or_true, true_or, or_false, false_or, decide_true, decide_false, Bool.false_eq_true, reduceCtorEq]; done) | (simp_all []; done), by rw [ht]; exact hP9, va_K.moved hW.alike hK, hD9⟩, hS.F ht⟩) hS.2.2 d_MO_subtracts_52
set_option maxHeartbeats 4000000 in
set_option maxRecDepth 100000 in
theorem q_plain00 (l : Launch) (D : va_G) (cI cZ : ClassId) (o : Nat) (th : Int32) (im : Nat) (tr : Bool) (rc : Nat) (bg : Nat) (ro : Int32) (oa : Nat) (xa : Nat) (ya : Nat) (rg : Nat) (me : Nat) (sa : Nat) (pa : Nat) (za : Nat) (ca : Nat) (kp : Bool) (ta : Nat) (na : Nat) (a : Int32) (x : Int32) (d : Int32) (b0 : Int32) (b1 : Int32) (b2 : Int32) (z0 : Bool) (z1 : Bool) (c0 : Bool) (c1 : Bool) (v : Int32) (sz : Nat) : MetV l y_MO_plain w_MO_plain { frames := 2, cells := 0, slots := 0, locals := 46 } D cI cZ [.ref o, .int 0, .int 0, .int v] [(o, .inr (5, [.int th, .ref im, .int (bI tr), .ref rc, .ref bg, .int ro, .ref oa, .ref xa, .ref ya, .ref rg, .ref me, .ref sa, .ref pa, .ref za, .ref ca, .int (bI kp), .ref ta, .ref na])), (rg, .inl (cI, 6, .inl (rg6 a x d b0 b1 b2))), (za, .inl (cZ, 2, .inl (p2 (bI z0) (bI z1)))), (ca, .inl (cZ, 2, .inl (p2 (bI c0) (bI c1))))] sz (fun (u : Int32 × Bool × Bool) => match u with | (v1, zz, cy) => v1 = v &&& 255 ∧ zz = decide (v &&& 255 = 0) ∧ cy = false) (fun (u : Int32 × Bool × Bool) => match u with | (v1, zz, cy) => [(o, .inr (5, [.int th, .ref im, .int (bI tr), .ref rc, .ref bg, .int ro, .ref oa, .ref xa, .ref ya, .ref rg, .ref me, .ref sa, .ref pa, .ref za, .ref ca, .int (bI kp), .ref ta, .ref na])), (rg, .inl (cI, 6, .inl (rg6 v1 x d b0 b1 b2))), (za, .inl (cZ, 2, .inl (p2 (bI zz) (bI z1)))), (ca, .inl (cZ, 2, .inl (p2 (bI cy) (bI c1))))]) 0 0 := by
  refine ofV (cc := c_MO_plain) (maxL := 4) (ret := none) (by decide) rfl (Nat.le_of_ble_eq_true rfl) ?_
  intro p e s m args below meth c A H hH0 hx hb hr hlocks hts hown hnm hml ls hl hP hK hD hA hS hN
  have hown : s.vm.findClass R_MO = some m.cls := hown
  have hl : lv_has ls 4 [(0, .ref o), (1, .int 0), (2, .int 0), (3, .int v)] := hl
  refine lv_aload_n hx hb d_MO_plain_0 rfl (lv_at hl 0 rfl) ?_
  refine va_get (D := D) (ci := 5) (v := .ref ca) (C := R_MO) (T := T_MO) (N := 18) hx hb hts iw_MO hown hK hP 0 rfl rfl 14 (by decide) (hts _ k_709) (fun _ h9 => h9) rfl d_MO_plain_1 ?_
  refine lv_iload_n hx hb d_MO_plain_4 rfl (lv_at hl 1 rfl) ?_
  refine lv_iconst (v := 0) hx hb d_MO_plain_5 (by decide) ?_
  refine va_zast hx hb hK hP hD hS 3 1 rfl rfl (vp_in_nI (n := 0) (by decide) (by decide)) d_MO_plain_6 (fun H locs hP hD hS => ?_)
  have hP : va_P D vwCl [(o, .inr (5, [.int th, .ref im, .int (bI tr), .ref rc, .ref bg, .int ro, .ref oa, .ref xa, .ref ya, .ref rg, .ref me, .ref sa, .ref pa, .ref za, .ref ca, .int (bI kp), .ref ta, .ref na])), (rg, .inl (cI, 6, .inl (rg6 a x d b0 b1 b2))), (za, .inl (cZ, 2, .inl (p2 (bI z0) (bI z1)))), (ca, .inl (cZ, 2, .inl (upd (p2 (bI c0) (bI c1)) 0 (bI false))))] H := hP
  have hD : va_D A [(o, .inr (5, [.int th, .ref im, .int (bI tr), .ref rc, .ref bg, .int ro, .ref oa, .ref xa, .ref ya, .ref rg, .ref me, .ref sa, .ref pa, .ref za, .ref ca, .int (bI kp), .ref ta, .ref na])), (rg, .inl (cI, 6, .inl (rg6 a x d b0 b1 b2))), (za, .inl (cZ, 2, .inl (p2 (bI z0) (bI z1)))), (ca, .inl (cZ, 2, .inl (upd (p2 (bI c0) (bI c1)) 0 (bI false))))] := hD
  rw [show upd (p2 (bI c0) (bI c1)) 0 (bI false) = p2 (bI false) (bI c1) from p2_0] at hP hD
  have hP : va_P D vwCl [(o, .inr (5, [.int th, .ref im, .int (bI tr), .ref rc, .ref bg, .int ro, .ref oa, .ref xa, .ref ya, .ref rg, .ref me, .ref sa, .ref pa, .ref za, .ref ca, .int (bI kp), .ref ta, .ref na])), (rg, .inl (cI, 6, .inl (rg6 a x d b0 b1 b2))), (za, .inl (cZ, 2, .inl (p2 (bI z0) (bI z1)))), (ca, .inl (cZ, 2, .inl (p2 (bI false) (bI c1))))] H := hP
  have hD : va_D A [(o, .inr (5, [.int th, .ref im, .int (bI tr), .ref rc, .ref bg, .int ro, .ref oa, .ref xa, .ref ya, .ref rg, .ref me, .ref sa, .ref pa, .ref za, .ref ca, .int (bI kp), .ref ta, .ref na])), (rg, .inl (cI, 6, .inl (rg6 a x d b0 b1 b2))), (za, .inl (cZ, 2, .inl (p2 (bI z0) (bI z1)))), (ca, .inl (cZ, 2, .inl (p2 (bI false) (bI c1))))] := hD
  refine lv_aload_n hx hb d_MO_plain_7 rfl (lv_at hl 0 rfl) ?_
  refine lv_iload_n hx hb d_MO_plain_8 rfl (lv_at hl 1 rfl) ?_
  refine lv_iload_n hx hb d_MO_plain_9 rfl (lv_at hl 2 rfl) ?_
  refine lv_iload_n hx hb d_MO_plain_10 rfl (lv_at hl 3 rfl) ?_
  have hPc := hP.sub (ws' := [(o, .inr (5, [.int th, .ref im, .int (bI tr), .ref rc, .ref bg, .int ro, .ref oa, .ref xa, .ref ya, .ref rg, .ref me, .ref sa, .ref pa, .ref za, .ref ca, .int (bI kp), .ref ta, .ref na])), (rg, .inl (cI, 6, .inl (rg6 a x d b0 b1 b2))), (za, .inl (cZ, 2, .inl (p2 (bI z0) (bI z1))))]) [0, 1, 2] rfl
  have hDc := hD.sub (ws' := [(o, .inr (5, [.int th, .ref im, .int (bI tr), .ref rc, .ref bg, .int ro, .ref oa, .ref xa, .ref ya, .ref rg, .ref me, .ref sa, .ref pa, .ref za, .ref ca, .int (bI kp), .ref ta, .ref na])), (rg, .inl (cI, 6, .inl (rg6 a x d b0 b1 b2))), (za, .inl (cZ, 2, .inl (p2 (bI z0) (bI z1))))]) [0, 1, 2] (by decide) rfl
  have hFc := va_free (wc := [(o, .inr (5, [.int th, .ref im, .int (bI tr), .ref rc, .ref bg, .int ro, .ref oa, .ref xa, .ref ya, .ref rg, .ref me, .ref sa, .ref pa, .ref za, .ref ca, .int (bI kp), .ref ta, .ref na])), (rg, .inl (cI, 6, .inl (rg6 a x d b0 b1 b2))), (za, .inl (cZ, 2, .inl (p2 (bI z0) (bI z1))))]) hD hS hA [0, 1, 2] rfl
  refine va_callv (va_runV (As := [.int 0, .int 0, .int v]) (rest := []) ⟨hx, hb, hml, hown, hts⟩ (q_setZ00 l D cI cZ o th im tr rc bg ro oa xa ya rg me sa pa za ca kp ta na a x d b0 b1 b2 z0 z1 v H.size) ⟨cB 3 hts k_845 k_62 k_842 hd_MO_setZ ⟨Nat.le_of_ble_eq_true rfl, Nat.le_of_ble_eq_true rfl⟩ rfl rfl, hts _ k_844, hts _ k_42⟩ (PcW.preV (va_recv hK hP (q0 := 0) (ci := 5) rfl rfl) hPc hK hDc hN) rfl rfl hl.1 rfl (lv_room (Nat.le_of_ble_eq_true rfl)) d_MO_plain_11 ⟨Nat.le_of_ble_eq_true rfl, Nat.le_of_ble_eq_true rfl⟩) hS (fun q _ h => hFc q h) hFc (fun u t H1 locs ht hvm e11 hB hz1 hk1 hS => ?_)
  obtain ⟨v111, zz11⟩ := u
  obtain ⟨hP1, hK1, hD1⟩ := hB
  rw [ht] at hP1
  obtain ⟨hP, hD⟩ := va_join (wr := [(ca, .inl (cZ, 2, .inl (p2 (bI false) (bI c1))))]) (w1 := [(o, .inr (5, [.int th, .ref im, .int (bI tr), .ref rc, .ref bg, .int ro, .ref oa, .ref xa, .ref ya, .ref rg, .ref me, .ref sa, .ref pa, .ref za, .ref ca, .int (bI kp), .ref ta, .ref na])), (rg, .inl (cI, 6, .inl (rg6 v111 x d b0 b1 b2))), (za, .inl (cZ, 2, .inl (p2 (bI zz11) (bI z1))))]) hP hD [0, 1, 2] [3] rfl rfl (by decide) (by decide) hk1 hFc hP1 hD1
  generalize H1 = H at hP hS ⊢
  try dsimp only at e11
  obtain ⟨e11_0, e11_1⟩ := e11
  replace e11_0 := e11_0.symm
  subst e11_0
  replace e11_1 := e11_1.symm
  subst e11_1
  have hP : va_P D vwCl [(ca, .inl (cZ, 2, .inl (p2 (bI false) (bI c1)))), (o, .inr (5, [.int th, .ref im, .int (bI tr), .ref rc, .ref bg, .int ro, .ref oa, .ref xa, .ref ya, .ref rg, .ref me, .ref sa, .ref pa, .ref za, .ref ca, .int (bI kp), .ref ta, .ref na])), (rg, .inl (cI, 6, .inl (rg6 (v &&& 255) x d b0 b1 b2))), (za, .inl (cZ, 2, .inl (p2 (bI (decide (v &&& 255 = 0))) (bI z1))))] H := hP
  have hD : va_D A [(ca, .inl (cZ, 2, .inl (p2 (bI false) (bI c1)))), (o, .inr (5, [.int th, .ref im, .int (bI tr), .ref rc, .ref bg, .int ro, .ref oa, .ref xa, .ref ya, .ref rg, .ref me, .ref sa, .ref pa, .ref za, .ref ca, .int (bI kp), .ref ta, .ref na])), (rg, .inl (cI, 6, .inl (rg6 (v &&& 255) x d b0 b1 b2))), (za, .inl (cZ, 2, .inl (p2 (bI (decide (v &&& 255 = 0))) (bI z1))))] := hD
  have hP9 : va_P D vwCl [(o, .inr (5, [.int th, .ref im, .int (bI tr), .ref rc, .ref bg, .int ro, .ref oa, .ref xa, .ref ya, .ref rg, .ref me, .ref sa, .ref pa, .ref za, .ref ca, .int (bI kp), .ref ta, .ref na])), (rg, .inl (cI, 6, .inl (rg6 (v &&& 255) x d b0 b1 b2))), (za, .inl (cZ, 2, .inl (p2 (bI (decide (v &&& 255 = 0))) (bI z1)))), (ca, .inl (cZ, 2, .inl (p2 (bI false) (bI c1))))] H := hP.sub [1, 2, 3, 0] rfl
  have hD9 : va_D A [(o, .inr (5, [.int th, .ref im, .int (bI tr), .ref rc, .ref bg, .int ro, .ref oa, .ref xa, .ref ya, .ref rg, .ref me, .ref sa, .ref pa, .ref za, .ref ca, .int (bI kp), .ref ta, .ref na])), (rg, .inl (cI, 6, .inl (rg6 (v &&& 255) x d b0 b1 b2))), (za, .inl (cZ, 2, .inl (p2 (bI (decide (v &&& 255 = 0))) (bI z1)))), (ca, .inl (cZ, 2, .inl (p2 (bI false) (bI c1))))] := hD.sub [1, 2, 3, 0] (by decide) rfl
  exact W.vret hx hb hr (fun t ht hW => ⟨⟨(v &&& 255, decide (v &&& 255 = 0), false), rfl, ⟨rfl, rfl, rfl⟩, by rw [ht]; exact hP9, va_K.moved hW.alike hK, hD9⟩, hS.F ht⟩) hS.2.2 d_MO_plain_14
set_option maxHeartbeats 4000000 in
set_option maxRecDepth 100000 in
theorem q_dbl00 (l : Launch) (D : va_G) (cI cZ : ClassId) (o : Nat) (th : Int32) (im : Nat) (tr : Bool) (rc : Nat) (bg : Nat) (ro : Int32) (oa : Nat) (xa : Nat) (ya : Nat) (rg : Nat) (me : Nat) (sa : Nat) (pa : Nat) (za : Nat) (ca : Nat) (kp : Bool) (ta : Nat) (na : Nat) (a : Int32) (x : Int32) (d : Int32) (b0 : Int32) (b1 : Int32) (b2 : Int32) (z0 : Bool) (z1 : Bool) (c0 : Bool) (c1 : Bool) (sz : Nat) : MetV l y_MO_doubles w_MO_doubles { frames := 2, cells := 0, slots := 0, locals := 46 } D cI cZ [.ref o, .int 0, .int 0] [(o, .inr (5, [.int th, .ref im, .int (bI tr), .ref rc, .ref bg, .int ro, .ref oa, .ref xa, .ref ya, .ref rg, .ref me, .ref sa, .ref pa, .ref za, .ref ca, .int (bI kp), .ref ta, .ref na])), (rg, .inl (cI, 6, .inl (rg6 a x d b0 b1 b2))), (za, .inl (cZ, 2, .inl (p2 (bI z0) (bI z1)))), (ca, .inl (cZ, 2, .inl (p2 (bI c0) (bI c1))))] sz (fun (u : Int32 × Bool × Bool) => match u with | (v1, zz, cy) => v1 = (2 * a) &&& 255 ∧ zz = decide ((2 * a) &&& 255 = 0) ∧ cy = decide (¬ a ≤ 127)) (fun (u : Int32 × Bool × Bool) => match u with | (v1, zz, cy) => [(o, .inr (5, [.int th, .ref im, .int (bI tr), .ref rc, .ref bg, .int ro, .ref oa, .ref xa, .ref ya, .ref rg, .ref me, .ref sa, .ref pa, .ref za, .ref ca, .int (bI kp), .ref ta, .ref na])), (rg, .inl (cI, 6, .inl (rg6 v1 x d b0 b1 b2))), (za, .inl (cZ, 2, .inl (p2 (bI zz) (bI z1)))), (ca, .inl (cZ, 2, .inl (p2 (bI cy) (bI c1))))]) 0 0 := by
  refine ofV (cc := c_MO_doubles) (maxL := 4) (ret := none) (by decide) rfl (Nat.le_of_ble_eq_true rfl) ?_
  intro p e s m args below meth c A H hH0 hx hb hr hlocks hts hown hnm hml ls hl hP hK hD hA hS hN
  have hown : s.vm.findClass R_MO = some m.cls := hown
  have hl : lv_has ls 4 [(0, .ref o), (1, .int 0), (2, .int 0)] := hl
  refine lv_aload_n hx hb d_MO_doubles_0 rfl (lv_at hl 0 rfl) ?_
  refine va_get (D := D) (ci := 5) (v := .ref rg) (C := R_MO) (T := T_MO) (N := 18) hx hb hts iw_MO hown hK hP 0 rfl rfl 9 (by decide) (hts _ k_704) (fun _ h9 => h9) rfl d_MO_doubles_1 ?_
  refine lv_iconst (v := 3) hx hb d_MO_doubles_4 (by decide) ?_
  refine lv_iload_n hx hb d_MO_doubles_5 rfl (lv_at hl 1 rfl) ?_
  refine lv_imul hx hb d_MO_doubles_6 ?_
  refine lv_iload_n hx hb d_MO_doubles_7 rfl (lv_at hl 2 rfl) ?_
  refine lv_iadd hx hb d_MO_doubles_8 ?_
  refine va_iald hx hb hK hP 1 0 rfl rfl (vp_in_nI (n := 0) (by decide) (by decide)) d_MO_doubles_9 ?_
  refine lv_istore_n hx hb d_MO_doubles_10 rfl hl (by decide) rfl (fun ls hl => ?_)
  have hl : lv_has ls 4 [(3, .int a), (0, .ref o), (1, .int 0), (2, .int 0)] := hl
  refine lv_aload_n hx hb d_MO_doubles_11 rfl (lv_at hl 1 rfl) ?_
  refine va_get (D := D) (ci := 5) (v := .ref ca) (C := R_MO) (T := T_MO) (N := 18) hx hb hts iw_MO hown hK hP 0 rfl rfl 14 (by decide) (hts _ k_709) (fun _ h9 => h9) rfl d_MO_doubles_12 ?_
  refine lv_iload_n hx hb d_MO_doubles_15 rfl (lv_at hl 2 rfl) ?_
  refine lv_iload_n hx hb d_MO_doubles_16 rfl (lv_at hl 0 rfl) ?_
  refine lv_bipush (v := 127) hx hb d_MO_doubles_17 (by decide) ?_
  refine lv_icmp_le (tgt := 26) hx hb d_MO_doubles_19 rfl (fun h19 => ?_) (fun h19 => ?_)
  · refine lv_iconst (v := 0) hx hb d_MO_doubles_26 (by decide) ?_
    refine va_zast hx hb hK hP hD hS 3 1 rfl rfl (vp_in_nI (n := 0) (by decide) (by decide)) d_MO_doubles_27 (fun H locs hP hD hS => ?_)
    have hP : va_P D vwCl [(o, .inr (5, [.int th, .ref im, .int (bI tr), .ref rc, .ref bg, .int ro, .ref oa, .ref xa, .ref ya, .ref rg, .ref me, .ref sa, .ref pa, .ref za, .ref ca, .int (bI kp), .ref ta, .ref na])), (rg, .inl (cI, 6, .inl (rg6 a x d b0 b1 b2))), (za, .inl (cZ, 2, .inl (p2 (bI z0) (bI z1)))), (ca, .inl (cZ, 2, .inl (upd (p2 (bI c0) (bI c1)) 0 (bI false))))] H := hP
    have hD : va_D A [(o, .inr (5, [.int th, .ref im, .int (bI tr), .ref rc, .ref bg, .int ro, .ref oa, .ref xa, .ref ya, .ref rg, .ref me, .ref sa, .ref pa, .ref za, .ref ca, .int (bI kp), .ref ta, .ref na])), (rg, .inl (cI, 6, .inl (rg6 a x d b0 b1 b2))), (za, .inl (cZ, 2, .inl (p2 (bI z0) (bI z1)))), (ca, .inl (cZ, 2, .inl (upd (p2 (bI c0) (bI c1)) 0 (bI false))))] := hD
    rw [show upd (p2 (bI c0) (bI c1)) 0 (bI false) = p2 (bI false) (bI c1) from p2_0] at hP hD
    have hP : va_P D vwCl [(o, .inr (5, [.int th, .ref im, .int (bI tr), .ref rc, .ref bg, .int ro, .ref oa, .ref xa, .ref ya, .ref rg, .ref me, .ref sa, .ref pa, .ref za, .ref ca, .int (bI kp), .ref ta, .ref na])), (rg, .inl (cI, 6, .inl (rg6 a x d b0 b1 b2))), (za, .inl (cZ, 2, .inl (p2 (bI z0) (bI z1)))), (ca, .inl (cZ, 2, .inl (p2 (bI false) (bI c1))))] H := hP
    have hD : va_D A [(o, .inr (5, [.int th, .ref im, .int (bI tr), .ref rc, .ref bg, .int ro, .ref oa, .ref xa, .ref ya, .ref rg, .ref me, .ref sa, .ref pa, .ref za, .ref ca, .int (bI kp), .ref ta, .ref na])), (rg, .inl (cI, 6, .inl (rg6 a x d b0 b1 b2))), (za, .inl (cZ, 2, .inl (p2 (bI z0) (bI z1)))), (ca, .inl (cZ, 2, .inl (p2 (bI false) (bI c1))))] := hD
    refine lv_aload_n hx hb d_MO_doubles_28 rfl (lv_at hl 1 rfl) ?_
    refine lv_iload_n hx hb d_MO_doubles_29 rfl (lv_at hl 2 rfl) ?_
    refine lv_iload_n hx hb d_MO_doubles_30 rfl (lv_at hl 3 rfl) ?_
    refine lv_iconst (v := 2) hx hb d_MO_doubles_31 (by decide) ?_
    refine lv_iload_n hx hb d_MO_doubles_32 rfl (lv_at hl 0 rfl) ?_
    refine lv_imul hx hb d_MO_doubles_33 ?_
    have hPc := hP.sub (ws' := [(o, .inr (5, [.int th, .ref im, .int (bI tr), .ref rc, .ref bg, .int ro, .ref oa, .ref xa, .ref ya, .ref rg, .ref me, .ref sa, .ref pa, .ref za, .ref ca, .int (bI kp), .ref ta, .ref na])), (rg, .inl (cI, 6, .inl (rg6 a x d b0 b1 b2))), (za, .inl (cZ, 2, .inl (p2 (bI z0) (bI z1))))]) [0, 1, 2] rfl
    have hDc := hD.sub (ws' := [(o, .inr (5, [.int th, .ref im, .int (bI tr), .ref rc, .ref bg, .int ro, .ref oa, .ref xa, .ref ya, .ref rg, .ref me, .ref sa, .ref pa, .ref za, .ref ca, .int (bI kp), .ref ta, .ref na])), (rg, .inl (cI, 6, .inl (rg6 a x d b0 b1 b2))), (za, .inl (cZ, 2, .inl (p2 (bI z0) (bI z1))))]) [0, 1, 2] (by decide) rfl
    have hFc := va_free (wc := [(o, .inr (5, [.int th, .ref im, .int (bI tr), .ref rc, .ref bg, .int ro, .ref oa, .ref xa, .ref ya, .ref rg, .ref me, .ref sa, .ref pa, .ref za, .ref ca, .int (bI kp), .ref ta, .ref na])), (rg, .inl (cI, 6, .inl (rg6 a x d b0 b1 b2))), (za, .inl (cZ, 2, .inl (p2 (bI z0) (bI z1))))]) hD hS hA [0, 1, 2] rfl
    refine va_callv (va_runV (As := [.int 0, .int 0, .int (2 * a)]) (rest := []) ⟨hx, hb, hml, hown, hts⟩ (q_setZ00 l D cI cZ o th im tr rc bg ro oa xa ya rg me sa pa za ca kp ta na a x d b0 b1 b2 z0 z1 (2 * a) H.size) ⟨cB 3 hts k_845 k_62 k_842 hd_MO_setZ ⟨Nat.le_of_ble_eq_true rfl, Nat.le_of_ble_eq_true rfl⟩ rfl rfl, hts _ k_844, hts _ k_42⟩ (PcW.preV (va_recv hK hP (q0 := 0) (ci := 5) rfl rfl) hPc hK hDc hN) rfl rfl hl.1 rfl (lv_room (Nat.le_of_ble_eq_true rfl)) d_MO_doubles_34 ⟨Nat.le_of_ble_eq_true rfl, Nat.le_of_ble_eq_true rfl⟩) hS (fun q _ h => hFc q h) hFc (fun u t H1 locs ht hvm e34 hB hz1 hk1 hS => ?_)
    obtain ⟨v134, zz34⟩ := u
    obtain ⟨hP1, hK1, hD1⟩ := hB
    rw [ht] at hP1
    obtain ⟨hP, hD⟩ := va_join (wr := [(ca, .inl (cZ, 2, .inl (p2 (bI false) (bI c1))))]) (w1 := [(o, .inr (5, [.int th, .ref im, .int (bI tr), .ref rc, .ref bg, .int ro, .ref oa, .ref xa, .ref ya, .ref rg, .ref me, .ref sa, .ref pa, .ref za, .ref ca, .int (bI kp), .ref ta, .ref na])), (rg, .inl (cI, 6, .inl (rg6 v134 x d b0 b1 b2))), (za, .inl (cZ, 2, .inl (p2 (bI zz34) (bI z1))))]) hP hD [0, 1, 2] [3] rfl rfl (by decide) (by decide) hk1 hFc hP1 hD1
    generalize H1 = H at hP hS ⊢
    try dsimp only at e34
    obtain ⟨e34_0, e34_1⟩ := e34
    replace e34_0 := e34_0.symm
    subst e34_0
    replace e34_1 := e34_1.symm
    subst e34_1
    have hP : va_P D vwCl [(ca, .inl (cZ, 2, .inl (p2 (bI false) (bI c1)))), (o, .inr (5, [.int th, .ref im, .int (bI tr), .ref rc, .ref bg, .int ro, .ref oa, .ref xa, .ref ya, .ref rg, .ref me, .ref sa, .ref pa, .ref za, .ref ca, .int (bI kp), .ref ta, .ref na])), (rg, .inl (cI, 6, .inl (rg6 ((2 * a) &&& 255) x d b0 b1 b2))), (za, .inl (cZ, 2, .inl (p2 (bI (decide ((2 * a) &&& 255 = 0))) (bI z1))))] H := hP
    have hD : va_D A [(ca, .inl (cZ, 2, .inl (p2 (bI false) (bI c1)))), (o, .inr (5, [.int th, .ref im, .int (bI tr), .ref rc, .ref bg, .int ro, .ref oa, .ref xa, .ref ya, .ref rg, .ref me, .ref sa, .ref pa, .ref za, .ref ca, .int (bI kp), .ref ta, .ref na])), (rg, .inl (cI, 6, .inl (rg6 ((2 * a) &&& 255) x d b0 b1 b2))), (za, .inl (cZ, 2, .inl (p2 (bI (decide ((2 * a) &&& 255 = 0))) (bI z1))))] := hD
    have hP9 : va_P D vwCl [(o, .inr (5, [.int th, .ref im, .int (bI tr), .ref rc, .ref bg, .int ro, .ref oa, .ref xa, .ref ya, .ref rg, .ref me, .ref sa, .ref pa, .ref za, .ref ca, .int (bI kp), .ref ta, .ref na])), (rg, .inl (cI, 6, .inl (rg6 ((2 * a) &&& 255) x d b0 b1 b2))), (za, .inl (cZ, 2, .inl (p2 (bI (decide ((2 * a) &&& 255 = 0))) (bI z1)))), (ca, .inl (cZ, 2, .inl (p2 (bI false) (bI c1))))] H := hP.sub [1, 2, 3, 0] rfl
    have hD9 : va_D A [(o, .inr (5, [.int th, .ref im, .int (bI tr), .ref rc, .ref bg, .int ro, .ref oa, .ref xa, .ref ya, .ref rg, .ref me, .ref sa, .ref pa, .ref za, .ref ca, .int (bI kp), .ref ta, .ref na])), (rg, .inl (cI, 6, .inl (rg6 ((2 * a) &&& 255) x d b0 b1 b2))), (za, .inl (cZ, 2, .inl (p2 (bI (decide ((2 * a) &&& 255 = 0))) (bI z1)))), (ca, .inl (cZ, 2, .inl (p2 (bI false) (bI c1))))] := hD.sub [1, 2, 3, 0] (by decide) rfl
    exact W.vret hx hb hr (fun t ht hW => ⟨⟨((2 * a) &&& 255, decide ((2 * a) &&& 255 = 0), false), rfl, by first | (simp only [h19, ↓reduceIte, not_true_eq_false, not_false_eq_true, and_true, true_and, and_false, false_and, and_self, or_true, true_or, or_false, false_or, decide_true, decide_false, Bool.false_eq_true, reduceCtorEq]; done) | (simp_all []; done), by rw [ht]; exact hP9, va_K.moved hW.alike hK, hD9⟩, hS.F ht⟩) hS.2.2 d_MO_doubles_37
  · refine lv_iconst (v := 1) hx hb d_MO_doubles_22 (by decide) ?_
    refine lv_goto (tgt := 27) hx hb d_MO_doubles_23 rfl ?_
    refine va_zast hx hb hK hP hD hS 3 1 rfl rfl (vp_in_nI (n := 0) (by decide) (by decide)) d_MO_doubles_27 (fun H locs hP hD hS => ?_)
    have hP : va_P D vwCl [(o, .inr (5, [.int th, .ref im, .int (bI tr), .ref rc, .ref bg, .int ro, .ref oa, .ref xa, .ref ya, .ref rg, .ref me, .ref sa, .ref pa, .ref za, .ref ca, .int (bI kp), .ref ta, .ref na])), (rg, .inl (cI, 6, .inl (rg6 a x d b0 b1 b2))), (za, .inl (cZ, 2, .inl (p2 (bI z0) (bI z1)))), (ca, .inl (cZ, 2, .inl (upd (p2 (bI c0) (bI c1)) 0 (bI true))))] H := hP
    have hD : va_D A [(o, .inr (5, [.int th, .ref im, .int (bI tr), .ref rc, .ref bg, .int ro, .ref oa, .ref xa, .ref ya, .ref rg, .ref me, .ref sa, .ref pa, .ref za, .ref ca, .int (bI kp), .ref ta, .ref na])), (rg, .inl (cI, 6, .inl (rg6 a x d b0 b1 b2))), (za, .inl (cZ, 2, .inl (p2 (bI z0) (bI z1)))), (ca, .inl (cZ, 2, .inl (upd (p2 (bI c0) (bI c1)) 0 (bI true))))] := hD
    rw [show upd (p2 (bI c0) (bI c1)) 0 (bI true) = p2 (bI true) (bI c1) from p2_0] at hP hD
    have hP : va_P D vwCl [(o, .inr (5, [.int th, .ref im, .int (bI tr), .ref rc, .ref bg, .int ro, .ref oa, .ref xa, .ref ya, .ref rg, .ref me, .ref sa, .ref pa, .ref za, .ref ca, .int (bI kp), .ref ta, .ref na])), (rg, .inl (cI, 6, .inl (rg6 a x d b0 b1 b2))), (za, .inl (cZ, 2, .inl (p2 (bI z0) (bI z1)))), (ca, .inl (cZ, 2, .inl (p2 (bI true) (bI c1))))] H := hP
    have hD : va_D A [(o, .inr (5, [.int th, .ref im, .int (bI tr), .ref rc, .ref bg, .int ro, .ref oa, .ref xa, .ref ya, .ref rg, .ref me, .ref sa, .ref pa, .ref za, .ref ca, .int (bI kp), .ref ta, .ref na])), (rg, .inl (cI, 6, .inl (rg6 a x d b0 b1 b2))), (za, .inl (cZ, 2, .inl (p2 (bI z0) (bI z1)))), (ca, .inl (cZ, 2, .inl (p2 (bI true) (bI c1))))] := hD
    refine lv_aload_n hx hb d_MO_doubles_28 rfl (lv_at hl 1 rfl) ?_
    refine lv_iload_n hx hb d_MO_doubles_29 rfl (lv_at hl 2 rfl) ?_
    refine lv_iload_n hx hb d_MO_doubles_30 rfl (lv_at hl 3 rfl) ?_
    refine lv_iconst (v := 2) hx hb d_MO_doubles_31 (by decide) ?_
    refine lv_iload_n hx hb d_MO_doubles_32 rfl (lv_at hl 0 rfl) ?_
    refine lv_imul hx hb d_MO_doubles_33 ?_
    have hPc := hP.sub (ws' := [(o, .inr (5, [.int th, .ref im, .int (bI tr), .ref rc, .ref bg, .int ro, .ref oa, .ref xa, .ref ya, .ref rg, .ref me, .ref sa, .ref pa, .ref za, .ref ca, .int (bI kp), .ref ta, .ref na])), (rg, .inl (cI, 6, .inl (rg6 a x d b0 b1 b2))), (za, .inl (cZ, 2, .inl (p2 (bI z0) (bI z1))))]) [0, 1, 2] rfl
    have hDc := hD.sub (ws' := [(o, .inr (5, [.int th, .ref im, .int (bI tr), .ref rc, .ref bg, .int ro, .ref oa, .ref xa, .ref ya, .ref rg, .ref me, .ref sa, .ref pa, .ref za, .ref ca, .int (bI kp), .ref ta, .ref na])), (rg, .inl (cI, 6, .inl (rg6 a x d b0 b1 b2))), (za, .inl (cZ, 2, .inl (p2 (bI z0) (bI z1))))]) [0, 1, 2] (by decide) rfl
    have hFc := va_free (wc := [(o, .inr (5, [.int th, .ref im, .int (bI tr), .ref rc, .ref bg, .int ro, .ref oa, .ref xa, .ref ya, .ref rg, .ref me, .ref sa, .ref pa, .ref za, .ref ca, .int (bI kp), .ref ta, .ref na])), (rg, .inl (cI, 6, .inl (rg6 a x d b0 b1 b2))), (za, .inl (cZ, 2, .inl (p2 (bI z0) (bI z1))))]) hD hS hA [0, 1, 2] rfl
    refine va_callv (va_runV (As := [.int 0, .int 0, .int (2 * a)]) (rest := []) ⟨hx, hb, hml, hown, hts⟩ (q_setZ00 l D cI cZ o th im tr rc bg ro oa xa ya rg me sa pa za ca kp ta na a x d b0 b1 b2 z0 z1 (2 * a) H.size) ⟨cB 3 hts k_845 k_62 k_842 hd_MO_setZ ⟨Nat.le_of_ble_eq_true rfl, Nat.le_of_ble_eq_true rfl⟩ rfl rfl, hts _ k_844, hts _ k_42⟩ (PcW.preV (va_recv hK hP (q0 := 0) (ci := 5) rfl rfl) hPc hK hDc hN) rfl rfl hl.1 rfl (lv_room (Nat.le_of_ble_eq_true rfl)) d_MO_doubles_34 ⟨Nat.le_of_ble_eq_true rfl, Nat.le_of_ble_eq_true rfl⟩) hS (fun q _ h => hFc q h) hFc (fun u t H1 locs ht hvm e34 hB hz1 hk1 hS => ?_)
    obtain ⟨v134, zz34⟩ := u
    obtain ⟨hP1, hK1, hD1⟩ := hB
    rw [ht] at hP1
    obtain ⟨hP, hD⟩ := va_join (wr := [(ca, .inl (cZ, 2, .inl (p2 (bI true) (bI c1))))]) (w1 := [(o, .inr (5, [.int th, .ref im, .int (bI tr), .ref rc, .ref bg, .int ro, .ref oa, .ref xa, .ref ya, .ref rg, .ref me, .ref sa, .ref pa, .ref za, .ref ca, .int (bI kp), .ref ta, .ref na])), (rg, .inl (cI, 6, .inl (rg6 v134 x d b0 b1 b2))), (za, .inl (cZ, 2, .inl (p2 (bI zz34) (bI z1))))]) hP hD [0, 1, 2] [3] rfl rfl (by decide) (by decide) hk1 hFc hP1 hD1
    generalize H1 = H at hP hS ⊢
    try dsimp only at e34
    obtain ⟨e34_0, e34_1⟩ := e34
    replace e34_0 := e34_0.symm
    subst e34_0
    replace e34_1 := e34_1.symm
    subst e34_1
    have hP : va_P D vwCl [(ca, .inl (cZ, 2, .inl (p2 (bI true) (bI c1)))), (o, .inr (5, [.int th, .ref im, .int (bI tr), .ref rc, .ref bg, .int ro, .ref oa, .ref xa, .ref ya, .ref rg, .ref me, .ref sa, .ref pa, .ref za, .ref ca, .int (bI kp), .ref ta, .ref na])), (rg, .inl (cI, 6, .inl (rg6 ((2 * a) &&& 255) x d b0 b1 b2))), (za, .inl (cZ, 2, .inl (p2 (bI (decide ((2 * a) &&& 255 = 0))) (bI z1))))] H := hP
    have hD : va_D A [(ca, .inl (cZ, 2, .inl (p2 (bI true) (bI c1)))), (o, .inr (5, [.int th, .ref im, .int (bI tr), .ref rc, .ref bg, .int ro, .ref oa, .ref xa, .ref ya, .ref rg, .ref me, .ref sa, .ref pa, .ref za, .ref ca, .int (bI kp), .ref ta, .ref na])), (rg, .inl (cI, 6, .inl (rg6 ((2 * a) &&& 255) x d b0 b1 b2))), (za, .inl (cZ, 2, .inl (p2 (bI (decide ((2 * a) &&& 255 = 0))) (bI z1))))] := hD
    have hP9 : va_P D vwCl [(o, .inr (5, [.int th, .ref im, .int (bI tr), .ref rc, .ref bg, .int ro, .ref oa, .ref xa, .ref ya, .ref rg, .ref me, .ref sa, .ref pa, .ref za, .ref ca, .int (bI kp), .ref ta, .ref na])), (rg, .inl (cI, 6, .inl (rg6 ((2 * a) &&& 255) x d b0 b1 b2))), (za, .inl (cZ, 2, .inl (p2 (bI (decide ((2 * a) &&& 255 = 0))) (bI z1)))), (ca, .inl (cZ, 2, .inl (p2 (bI true) (bI c1))))] H := hP.sub [1, 2, 3, 0] rfl
    have hD9 : va_D A [(o, .inr (5, [.int th, .ref im, .int (bI tr), .ref rc, .ref bg, .int ro, .ref oa, .ref xa, .ref ya, .ref rg, .ref me, .ref sa, .ref pa, .ref za, .ref ca, .int (bI kp), .ref ta, .ref na])), (rg, .inl (cI, 6, .inl (rg6 ((2 * a) &&& 255) x d b0 b1 b2))), (za, .inl (cZ, 2, .inl (p2 (bI (decide ((2 * a) &&& 255 = 0))) (bI z1)))), (ca, .inl (cZ, 2, .inl (p2 (bI true) (bI c1))))] := hD.sub [1, 2, 3, 0] (by decide) rfl
    exact W.vret hx hb hr (fun t ht hW => ⟨⟨((2 * a) &&& 255, decide ((2 * a) &&& 255 = 0), true), rfl, by first | (simp only [h19, ↓reduceIte, not_true_eq_false, not_false_eq_true, and_true, true_and, and_false, false_and, and_self, or_true, true_or, or_false, false_or, decide_true, decide_false, Bool.false_eq_true, reduceCtorEq]; done) | (simp_all []; done), by rw [ht]; exact hP9, va_K.moved hW.alike hK, hD9⟩, hS.F ht⟩) hS.2.2 d_MO_doubles_37
set_option maxHeartbeats 4000000 in
set_option maxRecDepth 100000 in
theorem q_hlv00 (l : Launch) (D : va_G) (cI cZ : ClassId) (o : Nat) (th : Int32) (im : Nat) (tr : Bool) (rc : Nat) (bg : Nat) (ro : Int32) (oa : Nat) (xa : Nat) (ya : Nat) (rg : Nat) (me : Nat) (sa : Nat) (pa : Nat) (za : Nat) (ca : Nat) (kp : Bool) (ta : Nat) (na : Nat) (a : Int32) (x : Int32) (d : Int32) (b0 : Int32) (b1 : Int32) (b2 : Int32) (z0 : Bool) (z1 : Bool) (c0 : Bool) (c1 : Bool) (sz : Nat) : MetV l y_MO_halves w_MO_halves { frames := 2, cells := 0, slots := 0, locals := 46 } D cI cZ [.ref o, .int 0, .int 0] [(o, .inr (5, [.int th, .ref im, .int (bI tr), .ref rc, .ref bg, .int ro, .ref oa, .ref xa, .ref ya, .ref rg, .ref me, .ref sa, .ref pa, .ref za, .ref ca, .int (bI kp), .ref ta, .ref na])), (rg, .inl (cI, 6, .inl (rg6 a x d b0 b1 b2))), (za, .inl (cZ, 2, .inl (p2 (bI z0) (bI z1)))), (ca, .inl (cZ, 2, .inl (p2 (bI c0) (bI c1))))] sz (fun (u : Int32 × Bool × Bool) => match u with | (v1, zz, cy) => v1 = (a / 2) &&& 255 ∧ zz = decide ((a / 2) &&& 255 = 0) ∧ cy = decide (a - a / 2 * 2 = 1)) (fun (u : Int32 × Bool × Bool) => match u with | (v1, zz, cy) => [(o, .inr (5, [.int th, .ref im, .int (bI tr), .ref rc, .ref bg, .int ro, .ref oa, .ref xa, .ref ya, .ref rg, .ref me, .ref sa, .ref pa, .ref za, .ref ca, .int (bI kp), .ref ta, .ref na])), (rg, .inl (cI, 6, .inl (rg6 v1 x d b0 b1 b2))), (za, .inl (cZ, 2, .inl (p2 (bI zz) (bI z1)))), (ca, .inl (cZ, 2, .inl (p2 (bI cy) (bI c1))))]) 0 0 := by
  refine ofV (cc := c_MO_halves) (maxL := 4) (ret := none) (by decide) rfl (Nat.le_of_ble_eq_true rfl) ?_
  intro p e s m args below meth c A H hH0 hx hb hr hlocks hts hown hnm hml ls hl hP hK hD hA hS hN
  have hown : s.vm.findClass R_MO = some m.cls := hown
  have hl : lv_has ls 4 [(0, .ref o), (1, .int 0), (2, .int 0)] := hl
  refine lv_aload_n hx hb d_MO_halves_0 rfl (lv_at hl 0 rfl) ?_
  refine va_get (D := D) (ci := 5) (v := .ref rg) (C := R_MO) (T := T_MO) (N := 18) hx hb hts iw_MO hown hK hP 0 rfl rfl 9 (by decide) (hts _ k_704) (fun _ h9 => h9) rfl d_MO_halves_1 ?_
  refine lv_iconst (v := 3) hx hb d_MO_halves_4 (by decide) ?_
  refine lv_iload_n hx hb d_MO_halves_5 rfl (lv_at hl 1 rfl) ?_
  refine lv_imul hx hb d_MO_halves_6 ?_
  refine lv_iload_n hx hb d_MO_halves_7 rfl (lv_at hl 2 rfl) ?_
  refine lv_iadd hx hb d_MO_halves_8 ?_
  refine va_iald hx hb hK hP 1 0 rfl rfl (vp_in_nI (n := 0) (by decide) (by decide)) d_MO_halves_9 ?_
  refine lv_istore_n hx hb d_MO_halves_10 rfl hl (by decide) rfl (fun ls hl => ?_)
  have hl : lv_has ls 4 [(3, .int a), (0, .ref o), (1, .int 0), (2, .int 0)] := hl
  refine lv_aload_n hx hb d_MO_halves_11 rfl (lv_at hl 1 rfl) ?_
  refine va_get (D := D) (ci := 5) (v := .ref ca) (C := R_MO) (T := T_MO) (N := 18) hx hb hts iw_MO hown hK hP 0 rfl rfl 14 (by decide) (hts _ k_709) (fun _ h9 => h9) rfl d_MO_halves_12 ?_
  refine lv_iload_n hx hb d_MO_halves_15 rfl (lv_at hl 2 rfl) ?_
  refine lv_iload_n hx hb d_MO_halves_16 rfl (lv_at hl 0 rfl) ?_
  refine lv_iconst (v := 2) hx hb d_MO_halves_17 (by decide) ?_
  refine lv_irem hx hb d_MO_halves_18 (by decide) ?_
  refine lv_iconst (v := 1) hx hb d_MO_halves_19 (by decide) ?_
  refine lv_icmp_ne (tgt := 27) hx hb d_MO_halves_20 rfl (fun h20 => ?_) (fun h20 => ?_)
  · refine lv_iconst (v := 0) hx hb d_MO_halves_27 (by decide) ?_
    refine va_zast hx hb hK hP hD hS 3 1 rfl rfl (vp_in_nI (n := 0) (by decide) (by decide)) d_MO_halves_28 (fun H locs hP hD hS => ?_)
    have hP : va_P D vwCl [(o, .inr (5, [.int th, .ref im, .int (bI tr), .ref rc, .ref bg, .int ro, .ref oa, .ref xa, .ref ya, .ref rg, .ref me, .ref sa, .ref pa, .ref za, .ref ca, .int (bI kp), .ref ta, .ref na])), (rg, .inl (cI, 6, .inl (rg6 a x d b0 b1 b2))), (za, .inl (cZ, 2, .inl (p2 (bI z0) (bI z1)))), (ca, .inl (cZ, 2, .inl (upd (p2 (bI c0) (bI c1)) 0 (bI false))))] H := hP
    have hD : va_D A [(o, .inr (5, [.int th, .ref im, .int (bI tr), .ref rc, .ref bg, .int ro, .ref oa, .ref xa, .ref ya, .ref rg, .ref me, .ref sa, .ref pa, .ref za, .ref ca, .int (bI kp), .ref ta, .ref na])), (rg, .inl (cI, 6, .inl (rg6 a x d b0 b1 b2))), (za, .inl (cZ, 2, .inl (p2 (bI z0) (bI z1)))), (ca, .inl (cZ, 2, .inl (upd (p2 (bI c0) (bI c1)) 0 (bI false))))] := hD
    rw [show upd (p2 (bI c0) (bI c1)) 0 (bI false) = p2 (bI false) (bI c1) from p2_0] at hP hD
    have hP : va_P D vwCl [(o, .inr (5, [.int th, .ref im, .int (bI tr), .ref rc, .ref bg, .int ro, .ref oa, .ref xa, .ref ya, .ref rg, .ref me, .ref sa, .ref pa, .ref za, .ref ca, .int (bI kp), .ref ta, .ref na])), (rg, .inl (cI, 6, .inl (rg6 a x d b0 b1 b2))), (za, .inl (cZ, 2, .inl (p2 (bI z0) (bI z1)))), (ca, .inl (cZ, 2, .inl (p2 (bI false) (bI c1))))] H := hP
    have hD : va_D A [(o, .inr (5, [.int th, .ref im, .int (bI tr), .ref rc, .ref bg, .int ro, .ref oa, .ref xa, .ref ya, .ref rg, .ref me, .ref sa, .ref pa, .ref za, .ref ca, .int (bI kp), .ref ta, .ref na])), (rg, .inl (cI, 6, .inl (rg6 a x d b0 b1 b2))), (za, .inl (cZ, 2, .inl (p2 (bI z0) (bI z1)))), (ca, .inl (cZ, 2, .inl (p2 (bI false) (bI c1))))] := hD
    refine lv_aload_n hx hb d_MO_halves_29 rfl (lv_at hl 1 rfl) ?_
    refine lv_iload_n hx hb d_MO_halves_30 rfl (lv_at hl 2 rfl) ?_
    refine lv_iload_n hx hb d_MO_halves_31 rfl (lv_at hl 3 rfl) ?_
    refine lv_iload_n hx hb d_MO_halves_32 rfl (lv_at hl 0 rfl) ?_
    refine lv_iconst (v := 2) hx hb d_MO_halves_33 (by decide) ?_
    refine lv_idiv hx hb d_MO_halves_34 (by decide) ?_
    have hPc := hP.sub (ws' := [(o, .inr (5, [.int th, .ref im, .int (bI tr), .ref rc, .ref bg, .int ro, .ref oa, .ref xa, .ref ya, .ref rg, .ref me, .ref sa, .ref pa, .ref za, .ref ca, .int (bI kp), .ref ta, .ref na])), (rg, .inl (cI, 6, .inl (rg6 a x d b0 b1 b2))), (za, .inl (cZ, 2, .inl (p2 (bI z0) (bI z1))))]) [0, 1, 2] rfl
    have hDc := hD.sub (ws' := [(o, .inr (5, [.int th, .ref im, .int (bI tr), .ref rc, .ref bg, .int ro, .ref oa, .ref xa, .ref ya, .ref rg, .ref me, .ref sa, .ref pa, .ref za, .ref ca, .int (bI kp), .ref ta, .ref na])), (rg, .inl (cI, 6, .inl (rg6 a x d b0 b1 b2))), (za, .inl (cZ, 2, .inl (p2 (bI z0) (bI z1))))]) [0, 1, 2] (by decide) rfl
    have hFc := va_free (wc := [(o, .inr (5, [.int th, .ref im, .int (bI tr), .ref rc, .ref bg, .int ro, .ref oa, .ref xa, .ref ya, .ref rg, .ref me, .ref sa, .ref pa, .ref za, .ref ca, .int (bI kp), .ref ta, .ref na])), (rg, .inl (cI, 6, .inl (rg6 a x d b0 b1 b2))), (za, .inl (cZ, 2, .inl (p2 (bI z0) (bI z1))))]) hD hS hA [0, 1, 2] rfl
    refine va_callv (va_runV (As := [.int 0, .int 0, .int (a / 2)]) (rest := []) ⟨hx, hb, hml, hown, hts⟩ (q_setZ00 l D cI cZ o th im tr rc bg ro oa xa ya rg me sa pa za ca kp ta na a x d b0 b1 b2 z0 z1 (a / 2) H.size) ⟨cB 3 hts k_845 k_62 k_842 hd_MO_setZ ⟨Nat.le_of_ble_eq_true rfl, Nat.le_of_ble_eq_true rfl⟩ rfl rfl, hts _ k_844, hts _ k_42⟩ (PcW.preV (va_recv hK hP (q0 := 0) (ci := 5) rfl rfl) hPc hK hDc hN) rfl rfl hl.1 rfl (lv_room (Nat.le_of_ble_eq_true rfl)) d_MO_halves_35 ⟨Nat.le_of_ble_eq_true rfl, Nat.le_of_ble_eq_true rfl⟩) hS (fun q _ h => hFc q h) hFc (fun u t H1 locs ht hvm e35 hB hz1 hk1 hS => ?_)
    obtain ⟨v135, zz35⟩ := u
    obtain ⟨hP1, hK1, hD1⟩ := hB
    rw [ht] at hP1
    obtain ⟨hP, hD⟩ := va_join (wr := [(ca, .inl (cZ, 2, .inl (p2 (bI false) (bI c1))))]) (w1 := [(o, .inr (5, [.int th, .ref im, .int (bI tr), .ref rc, .ref bg, .int ro, .ref oa, .ref xa, .ref ya, .ref rg, .ref me, .ref sa, .ref pa, .ref za, .ref ca, .int (bI kp), .ref ta, .ref na])), (rg, .inl (cI, 6, .inl (rg6 v135 x d b0 b1 b2))), (za, .inl (cZ, 2, .inl (p2 (bI zz35) (bI z1))))]) hP hD [0, 1, 2] [3] rfl rfl (by decide) (by decide) hk1 hFc hP1 hD1
    generalize H1 = H at hP hS ⊢
    try dsimp only at e35
    obtain ⟨e35_0, e35_1⟩ := e35
    replace e35_0 := e35_0.symm
    subst e35_0
    replace e35_1 := e35_1.symm
    subst e35_1
    have hP : va_P D vwCl [(ca, .inl (cZ, 2, .inl (p2 (bI false) (bI c1)))), (o, .inr (5, [.int th, .ref im, .int (bI tr), .ref rc, .ref bg, .int ro, .ref oa, .ref xa, .ref ya, .ref rg, .ref me, .ref sa, .ref pa, .ref za, .ref ca, .int (bI kp), .ref ta, .ref na])), (rg, .inl (cI, 6, .inl (rg6 ((a / 2) &&& 255) x d b0 b1 b2))), (za, .inl (cZ, 2, .inl (p2 (bI (decide ((a / 2) &&& 255 = 0))) (bI z1))))] H := hP
    have hD : va_D A [(ca, .inl (cZ, 2, .inl (p2 (bI false) (bI c1)))), (o, .inr (5, [.int th, .ref im, .int (bI tr), .ref rc, .ref bg, .int ro, .ref oa, .ref xa, .ref ya, .ref rg, .ref me, .ref sa, .ref pa, .ref za, .ref ca, .int (bI kp), .ref ta, .ref na])), (rg, .inl (cI, 6, .inl (rg6 ((a / 2) &&& 255) x d b0 b1 b2))), (za, .inl (cZ, 2, .inl (p2 (bI (decide ((a / 2) &&& 255 = 0))) (bI z1))))] := hD
    have hP9 : va_P D vwCl [(o, .inr (5, [.int th, .ref im, .int (bI tr), .ref rc, .ref bg, .int ro, .ref oa, .ref xa, .ref ya, .ref rg, .ref me, .ref sa, .ref pa, .ref za, .ref ca, .int (bI kp), .ref ta, .ref na])), (rg, .inl (cI, 6, .inl (rg6 ((a / 2) &&& 255) x d b0 b1 b2))), (za, .inl (cZ, 2, .inl (p2 (bI (decide ((a / 2) &&& 255 = 0))) (bI z1)))), (ca, .inl (cZ, 2, .inl (p2 (bI false) (bI c1))))] H := hP.sub [1, 2, 3, 0] rfl
    have hD9 : va_D A [(o, .inr (5, [.int th, .ref im, .int (bI tr), .ref rc, .ref bg, .int ro, .ref oa, .ref xa, .ref ya, .ref rg, .ref me, .ref sa, .ref pa, .ref za, .ref ca, .int (bI kp), .ref ta, .ref na])), (rg, .inl (cI, 6, .inl (rg6 ((a / 2) &&& 255) x d b0 b1 b2))), (za, .inl (cZ, 2, .inl (p2 (bI (decide ((a / 2) &&& 255 = 0))) (bI z1)))), (ca, .inl (cZ, 2, .inl (p2 (bI false) (bI c1))))] := hD.sub [1, 2, 3, 0] (by decide) rfl
    exact W.vret hx hb hr (fun t ht hW => ⟨⟨((a / 2) &&& 255, decide ((a / 2) &&& 255 = 0), false), rfl, by first | (simp only [h20, ↓reduceIte, not_true_eq_false, not_false_eq_true, and_true, true_and, and_false, false_and, and_self, or_true, true_or, or_false, false_or, decide_true, decide_false, Bool.false_eq_true, reduceCtorEq]; done) | (simp_all []; done), by rw [ht]; exact hP9, va_K.moved hW.alike hK, hD9⟩, hS.F ht⟩) hS.2.2 d_MO_halves_38
  · refine lv_iconst (v := 1) hx hb d_MO_halves_23 (by decide) ?_
    refine lv_goto (tgt := 28) hx hb d_MO_halves_24 rfl ?_
    refine va_zast hx hb hK hP hD hS 3 1 rfl rfl (vp_in_nI (n := 0) (by decide) (by decide)) d_MO_halves_28 (fun H locs hP hD hS => ?_)
    have hP : va_P D vwCl [(o, .inr (5, [.int th, .ref im, .int (bI tr), .ref rc, .ref bg, .int ro, .ref oa, .ref xa, .ref ya, .ref rg, .ref me, .ref sa, .ref pa, .ref za, .ref ca, .int (bI kp), .ref ta, .ref na])), (rg, .inl (cI, 6, .inl (rg6 a x d b0 b1 b2))), (za, .inl (cZ, 2, .inl (p2 (bI z0) (bI z1)))), (ca, .inl (cZ, 2, .inl (upd (p2 (bI c0) (bI c1)) 0 (bI true))))] H := hP
    have hD : va_D A [(o, .inr (5, [.int th, .ref im, .int (bI tr), .ref rc, .ref bg, .int ro, .ref oa, .ref xa, .ref ya, .ref rg, .ref me, .ref sa, .ref pa, .ref za, .ref ca, .int (bI kp), .ref ta, .ref na])), (rg, .inl (cI, 6, .inl (rg6 a x d b0 b1 b2))), (za, .inl (cZ, 2, .inl (p2 (bI z0) (bI z1)))), (ca, .inl (cZ, 2, .inl (upd (p2 (bI c0) (bI c1)) 0 (bI true))))] := hD
    rw [show upd (p2 (bI c0) (bI c1)) 0 (bI true) = p2 (bI true) (bI c1) from p2_0] at hP hD
    have hP : va_P D vwCl [(o, .inr (5, [.int th, .ref im, .int (bI tr), .ref rc, .ref bg, .int ro, .ref oa, .ref xa, .ref ya, .ref rg, .ref me, .ref sa, .ref pa, .ref za, .ref ca, .int (bI kp), .ref ta, .ref na])), (rg, .inl (cI, 6, .inl (rg6 a x d b0 b1 b2))), (za, .inl (cZ, 2, .inl (p2 (bI z0) (bI z1)))), (ca, .inl (cZ, 2, .inl (p2 (bI true) (bI c1))))] H := hP
    have hD : va_D A [(o, .inr (5, [.int th, .ref im, .int (bI tr), .ref rc, .ref bg, .int ro, .ref oa, .ref xa, .ref ya, .ref rg, .ref me, .ref sa, .ref pa, .ref za, .ref ca, .int (bI kp), .ref ta, .ref na])), (rg, .inl (cI, 6, .inl (rg6 a x d b0 b1 b2))), (za, .inl (cZ, 2, .inl (p2 (bI z0) (bI z1)))), (ca, .inl (cZ, 2, .inl (p2 (bI true) (bI c1))))] := hD
    refine lv_aload_n hx hb d_MO_halves_29 rfl (lv_at hl 1 rfl) ?_
    refine lv_iload_n hx hb d_MO_halves_30 rfl (lv_at hl 2 rfl) ?_
    refine lv_iload_n hx hb d_MO_halves_31 rfl (lv_at hl 3 rfl) ?_
    refine lv_iload_n hx hb d_MO_halves_32 rfl (lv_at hl 0 rfl) ?_
    refine lv_iconst (v := 2) hx hb d_MO_halves_33 (by decide) ?_
    refine lv_idiv hx hb d_MO_halves_34 (by decide) ?_
    have hPc := hP.sub (ws' := [(o, .inr (5, [.int th, .ref im, .int (bI tr), .ref rc, .ref bg, .int ro, .ref oa, .ref xa, .ref ya, .ref rg, .ref me, .ref sa, .ref pa, .ref za, .ref ca, .int (bI kp), .ref ta, .ref na])), (rg, .inl (cI, 6, .inl (rg6 a x d b0 b1 b2))), (za, .inl (cZ, 2, .inl (p2 (bI z0) (bI z1))))]) [0, 1, 2] rfl
    have hDc := hD.sub (ws' := [(o, .inr (5, [.int th, .ref im, .int (bI tr), .ref rc, .ref bg, .int ro, .ref oa, .ref xa, .ref ya, .ref rg, .ref me, .ref sa, .ref pa, .ref za, .ref ca, .int (bI kp), .ref ta, .ref na])), (rg, .inl (cI, 6, .inl (rg6 a x d b0 b1 b2))), (za, .inl (cZ, 2, .inl (p2 (bI z0) (bI z1))))]) [0, 1, 2] (by decide) rfl
    have hFc := va_free (wc := [(o, .inr (5, [.int th, .ref im, .int (bI tr), .ref rc, .ref bg, .int ro, .ref oa, .ref xa, .ref ya, .ref rg, .ref me, .ref sa, .ref pa, .ref za, .ref ca, .int (bI kp), .ref ta, .ref na])), (rg, .inl (cI, 6, .inl (rg6 a x d b0 b1 b2))), (za, .inl (cZ, 2, .inl (p2 (bI z0) (bI z1))))]) hD hS hA [0, 1, 2] rfl
    refine va_callv (va_runV (As := [.int 0, .int 0, .int (a / 2)]) (rest := []) ⟨hx, hb, hml, hown, hts⟩ (q_setZ00 l D cI cZ o th im tr rc bg ro oa xa ya rg me sa pa za ca kp ta na a x d b0 b1 b2 z0 z1 (a / 2) H.size) ⟨cB 3 hts k_845 k_62 k_842 hd_MO_setZ ⟨Nat.le_of_ble_eq_true rfl, Nat.le_of_ble_eq_true rfl⟩ rfl rfl, hts _ k_844, hts _ k_42⟩ (PcW.preV (va_recv hK hP (q0 := 0) (ci := 5) rfl rfl) hPc hK hDc hN) rfl rfl hl.1 rfl (lv_room (Nat.le_of_ble_eq_true rfl)) d_MO_halves_35 ⟨Nat.le_of_ble_eq_true rfl, Nat.le_of_ble_eq_true rfl⟩) hS (fun q _ h => hFc q h) hFc (fun u t H1 locs ht hvm e35 hB hz1 hk1 hS => ?_)
    obtain ⟨v135, zz35⟩ := u
    obtain ⟨hP1, hK1, hD1⟩ := hB
    rw [ht] at hP1
    obtain ⟨hP, hD⟩ := va_join (wr := [(ca, .inl (cZ, 2, .inl (p2 (bI true) (bI c1))))]) (w1 := [(o, .inr (5, [.int th, .ref im, .int (bI tr), .ref rc, .ref bg, .int ro, .ref oa, .ref xa, .ref ya, .ref rg, .ref me, .ref sa, .ref pa, .ref za, .ref ca, .int (bI kp), .ref ta, .ref na])), (rg, .inl (cI, 6, .inl (rg6 v135 x d b0 b1 b2))), (za, .inl (cZ, 2, .inl (p2 (bI zz35) (bI z1))))]) hP hD [0, 1, 2] [3] rfl rfl (by decide) (by decide) hk1 hFc hP1 hD1
    generalize H1 = H at hP hS ⊢
    try dsimp only at e35
    obtain ⟨e35_0, e35_1⟩ := e35
    replace e35_0 := e35_0.symm
    subst e35_0
    replace e35_1 := e35_1.symm
    subst e35_1
    have hP : va_P D vwCl [(ca, .inl (cZ, 2, .inl (p2 (bI true) (bI c1)))), (o, .inr (5, [.int th, .ref im, .int (bI tr), .ref rc, .ref bg, .int ro, .ref oa, .ref xa, .ref ya, .ref rg, .ref me, .ref sa, .ref pa, .ref za, .ref ca, .int (bI kp), .ref ta, .ref na])), (rg, .inl (cI, 6, .inl (rg6 ((a / 2) &&& 255) x d b0 b1 b2))), (za, .inl (cZ, 2, .inl (p2 (bI (decide ((a / 2) &&& 255 = 0))) (bI z1))))] H := hP
    have hD : va_D A [(ca, .inl (cZ, 2, .inl (p2 (bI true) (bI c1)))), (o, .inr (5, [.int th, .ref im, .int (bI tr), .ref rc, .ref bg, .int ro, .ref oa, .ref xa, .ref ya, .ref rg, .ref me, .ref sa, .ref pa, .ref za, .ref ca, .int (bI kp), .ref ta, .ref na])), (rg, .inl (cI, 6, .inl (rg6 ((a / 2) &&& 255) x d b0 b1 b2))), (za, .inl (cZ, 2, .inl (p2 (bI (decide ((a / 2) &&& 255 = 0))) (bI z1))))] := hD
    have hP9 : va_P D vwCl [(o, .inr (5, [.int th, .ref im, .int (bI tr), .ref rc, .ref bg, .int ro, .ref oa, .ref xa, .ref ya, .ref rg, .ref me, .ref sa, .ref pa, .ref za, .ref ca, .int (bI kp), .ref ta, .ref na])), (rg, .inl (cI, 6, .inl (rg6 ((a / 2) &&& 255) x d b0 b1 b2))), (za, .inl (cZ, 2, .inl (p2 (bI (decide ((a / 2) &&& 255 = 0))) (bI z1)))), (ca, .inl (cZ, 2, .inl (p2 (bI true) (bI c1))))] H := hP.sub [1, 2, 3, 0] rfl
    have hD9 : va_D A [(o, .inr (5, [.int th, .ref im, .int (bI tr), .ref rc, .ref bg, .int ro, .ref oa, .ref xa, .ref ya, .ref rg, .ref me, .ref sa, .ref pa, .ref za, .ref ca, .int (bI kp), .ref ta, .ref na])), (rg, .inl (cI, 6, .inl (rg6 ((a / 2) &&& 255) x d b0 b1 b2))), (za, .inl (cZ, 2, .inl (p2 (bI (decide ((a / 2) &&& 255 = 0))) (bI z1)))), (ca, .inl (cZ, 2, .inl (p2 (bI true) (bI c1))))] := hD.sub [1, 2, 3, 0] (by decide) rfl
    exact W.vret hx hb hr (fun t ht hW => ⟨⟨((a / 2) &&& 255, decide ((a / 2) &&& 255 = 0), true), rfl, by first | (simp only [h20, ↓reduceIte, not_true_eq_false, not_false_eq_true, and_true, true_and, and_false, false_and, and_self, or_true, true_or, or_false, false_or, decide_true, decide_false, Bool.false_eq_true, reduceCtorEq]; done) | (simp_all []; done), by rw [ht]; exact hP9, va_K.moved hW.alike hK, hD9⟩, hS.F ht⟩) hS.2.2 d_MO_halves_38
set_option maxHeartbeats 4000000 in
set_option maxRecDepth 100000 in
theorem q_adds10 (l : Launch) (D : va_G) (cI cZ : ClassId) (o : Nat) (th : Int32) (im : Nat) (tr : Bool) (rc : Nat) (bg : Nat) (ro : Int32) (oa : Nat) (xa : Nat) (ya : Nat) (rg : Nat) (me : Nat) (sa : Nat) (pa : Nat) (za : Nat) (ca : Nat) (kp : Bool) (ta : Nat) (na : Nat) (a : Int32) (x : Int32) (d : Int32) (b0 : Int32) (b1 : Int32) (b2 : Int32) (z0 : Bool) (z1 : Bool) (c0 : Bool) (c1 : Bool) (v : Int32) (cc : Int32) (sz : Nat) : MetV l y_MO_adds w_MO_adds { frames := 2, cells := 0, slots := 0, locals := 46 } D cI cZ [.ref o, .int 1, .int 0, .int v, .int cc] [(o, .inr (5, [.int th, .ref im, .int (bI tr), .ref rc, .ref bg, .int ro, .ref oa, .ref xa, .ref ya, .ref rg, .ref me, .ref sa, .ref pa, .ref za, .ref ca, .int (bI kp), .ref ta, .ref na])), (rg, .inl (cI, 6, .inl (rg6 a x d b0 b1 b2))), (za, .inl (cZ, 2, .inl (p2 (bI z0) (bI z1)))), (ca, .inl (cZ, 2, .inl (p2 (bI c0) (bI c1))))] sz (fun (u : Int32 × Bool × Bool) => match u with | (v1, zz, cy) => v1 = (b0 + v + cc) &&& 255 ∧ zz = decide ((b0 + v + cc) &&& 255 = 0) ∧ cy = decide (¬ b0 + v + cc ≤ 255)) (fun (u : Int32 × Bool × Bool) => match u with | (v1, zz, cy) => [(o, .inr (5, [.int th, .ref im, .int (bI tr), .ref rc, .ref bg, .int ro, .ref oa, .ref xa, .ref ya, .ref rg, .ref me, .ref sa, .ref pa, .ref za, .ref ca, .int (bI kp), .ref ta, .ref na])), (rg, .inl (cI, 6, .inl (rg6 a x d v1 b1 b2))), (za, .inl (cZ, 2, .inl (p2 (bI z0) (bI zz)))), (ca, .inl (cZ, 2, .inl (p2 (bI c0) (bI cy))))]) 0 0 := by
  refine ofV (cc := c_MO_adds) (maxL := 6) (ret := none) (by decide) rfl (Nat.le_of_ble_eq_true rfl) ?_
  intro p e s m args below meth c A H hH0 hx hb hr hlocks hts hown hnm hml ls hl hP hK hD hA hS hN
  have hown : s.vm.findClass R_MO = some m.cls := hown
  have hl : lv_has ls 6 [(0, .ref o), (1, .int 1), (2, .int 0), (3, .int v), (4, .int cc)] := hl
  refine lv_aload_n hx hb d_MO_adds_0 rfl (lv_at hl 0 rfl) ?_
  refine va_get (D := D) (ci := 5) (v := .ref rg) (C := R_MO) (T := T_MO) (N := 18) hx hb hts iw_MO hown hK hP 0 rfl rfl 9 (by decide) (hts _ k_704) (fun _ h9 => h9) rfl d_MO_adds_1 ?_
  refine lv_iconst (v := 3) hx hb d_MO_adds_4 (by decide) ?_
  refine lv_iload_n hx hb d_MO_adds_5 rfl (lv_at hl 1 rfl) ?_
  refine lv_imul hx hb d_MO_adds_6 ?_
  refine lv_iload_n hx hb d_MO_adds_7 rfl (lv_at hl 2 rfl) ?_
  refine lv_iadd hx hb d_MO_adds_8 ?_
  refine va_iald hx hb hK hP 1 0 rfl rfl (vp_in_nI (n := 3) (by decide) (by decide)) d_MO_adds_9 ?_
  refine lv_iload_n hx hb d_MO_adds_10 rfl (lv_at hl 3 rfl) ?_
  refine lv_iadd hx hb d_MO_adds_11 ?_
  refine lv_iload hx hb d_MO_adds_12 (lv_at hl 4 rfl) ?_
  refine lv_iadd hx hb d_MO_adds_14 ?_
  refine lv_istore hx hb d_MO_adds_15 hl (by decide) rfl (fun ls hl => ?_)
  have hl : lv_has ls 6 [(5, .int ((b0 + v) + cc)), (0, .ref o), (1, .int 1), (2, .int 0), (3, .int v), (4, .int cc)] := hl
  refine lv_aload_n hx hb d_MO_adds_17 rfl (lv_at hl 1 rfl) ?_
  refine va_get (D := D) (ci := 5) (v := .ref ca) (C := R_MO) (T := T_MO) (N := 18) hx hb hts iw_MO hown hK hP 0 rfl rfl 14 (by decide) (hts _ k_709) (fun _ h9 => h9) rfl d_MO_adds_18 ?_
  refine lv_iload_n hx hb d_MO_adds_21 rfl (lv_at hl 2 rfl) ?_
  refine lv_iload hx hb d_MO_adds_22 (lv_at hl 0 rfl) ?_
  refine lv_sipush (v := 255) hx hb d_MO_adds_24 (by decide) ?_
  refine lv_icmp_le (tgt := 34) hx hb d_MO_adds_27 rfl (fun h27 => ?_) (fun h27 => ?_)
  · refine lv_iconst (v := 0) hx hb d_MO_adds_34 (by decide) ?_
    refine va_zast hx hb hK hP hD hS 3 1 rfl rfl (vp_in_nI (n := 1) (by decide) (by decide)) d_MO_adds_35 (fun H locs hP hD hS => ?_)
    have hP : va_P D vwCl [(o, .inr (5, [.int th, .ref im, .int (bI tr), .ref rc, .ref bg, .int ro, .ref oa, .ref xa, .ref ya, .ref rg, .ref me, .ref sa, .ref pa, .ref za, .ref ca, .int (bI kp), .ref ta, .ref na])), (rg, .inl (cI, 6, .inl (rg6 a x d b0 b1 b2))), (za, .inl (cZ, 2, .inl (p2 (bI z0) (bI z1)))), (ca, .inl (cZ, 2, .inl (upd (p2 (bI c0) (bI c1)) 1 (bI false))))] H := hP
    have hD : va_D A [(o, .inr (5, [.int th, .ref im, .int (bI tr), .ref rc, .ref bg, .int ro, .ref oa, .ref xa, .ref ya, .ref rg, .ref me, .ref sa, .ref pa, .ref za, .ref ca, .int (bI kp), .ref ta, .ref na])), (rg, .inl (cI, 6, .inl (rg6 a x d b0 b1 b2))), (za, .inl (cZ, 2, .inl (p2 (bI z0) (bI z1)))), (ca, .inl (cZ, 2, .inl (upd (p2 (bI c0) (bI c1)) 1 (bI false))))] := hD
    rw [show upd (p2 (bI c0) (bI c1)) 1 (bI false) = p2 (bI c0) (bI false) from p2_1] at hP hD
    have hP : va_P D vwCl [(o, .inr (5, [.int th, .ref im, .int (bI tr), .ref rc, .ref bg, .int ro, .ref oa, .ref xa, .ref ya, .ref rg, .ref me, .ref sa, .ref pa, .ref za, .ref ca, .int (bI kp), .ref ta, .ref na])), (rg, .inl (cI, 6, .inl (rg6 a x d b0 b1 b2))), (za, .inl (cZ, 2, .inl (p2 (bI z0) (bI z1)))), (ca, .inl (cZ, 2, .inl (p2 (bI c0) (bI false))))] H := hP
    have hD : va_D A [(o, .inr (5, [.int th, .ref im, .int (bI tr), .ref rc, .ref bg, .int ro, .ref oa, .ref xa, .ref ya, .ref rg, .ref me, .ref sa, .ref pa, .ref za, .ref ca, .int (bI kp), .ref ta, .ref na])), (rg, .inl (cI, 6, .inl (rg6 a x d b0 b1 b2))), (za, .inl (cZ, 2, .inl (p2 (bI z0) (bI z1)))), (ca, .inl (cZ, 2, .inl (p2 (bI c0) (bI false))))] := hD
    refine lv_aload_n hx hb d_MO_adds_36 rfl (lv_at hl 1 rfl) ?_
    refine lv_iload_n hx hb d_MO_adds_37 rfl (lv_at hl 2 rfl) ?_
    refine lv_iload_n hx hb d_MO_adds_38 rfl (lv_at hl 3 rfl) ?_
    refine lv_iload hx hb d_MO_adds_39 (lv_at hl 0 rfl) ?_
    have hPc := hP.sub (ws' := [(o, .inr (5, [.int th, .ref im, .int (bI tr), .ref rc, .ref bg, .int ro, .ref oa, .ref xa, .ref ya, .ref rg, .ref me, .ref sa, .ref pa, .ref za, .ref ca, .int (bI kp), .ref ta, .ref na])), (rg, .inl (cI, 6, .inl (rg6 a x d b0 b1 b2))), (za, .inl (cZ, 2, .inl (p2 (bI z0) (bI z1))))]) [0, 1, 2] rfl
    have hDc := hD.sub (ws' := [(o, .inr (5, [.int th, .ref im, .int (bI tr), .ref rc, .ref bg, .int ro, .ref oa, .ref xa, .ref ya, .ref rg, .ref me, .ref sa, .ref pa, .ref za, .ref ca, .int (bI kp), .ref ta, .ref na])), (rg, .inl (cI, 6, .inl (rg6 a x d b0 b1 b2))), (za, .inl (cZ, 2, .inl (p2 (bI z0) (bI z1))))]) [0, 1, 2] (by decide) rfl
    have hFc := va_free (wc := [(o, .inr (5, [.int th, .ref im, .int (bI tr), .ref rc, .ref bg, .int ro, .ref oa, .ref xa, .ref ya, .ref rg, .ref me, .ref sa, .ref pa, .ref za, .ref ca, .int (bI kp), .ref ta, .ref na])), (rg, .inl (cI, 6, .inl (rg6 a x d b0 b1 b2))), (za, .inl (cZ, 2, .inl (p2 (bI z0) (bI z1))))]) hD hS hA [0, 1, 2] rfl
    refine va_callv (va_runV (As := [.int 1, .int 0, .int ((b0 + v) + cc)]) (rest := []) ⟨hx, hb, hml, hown, hts⟩ (q_setZ10 l D cI cZ o th im tr rc bg ro oa xa ya rg me sa pa za ca kp ta na a x d b0 b1 b2 z0 z1 ((b0 + v) + cc) H.size) ⟨cB 3 hts k_845 k_62 k_842 hd_MO_setZ ⟨Nat.le_of_ble_eq_true rfl, Nat.le_of_ble_eq_true rfl⟩ rfl rfl, hts _ k_844, hts _ k_42⟩ (PcW.preV (va_recv hK hP (q0 := 0) (ci := 5) rfl rfl) hPc hK hDc hN) rfl rfl hl.1 rfl (lv_room (Nat.le_of_ble_eq_true rfl)) d_MO_adds_41 ⟨Nat.le_of_ble_eq_true rfl, Nat.le_of_ble_eq_true rfl⟩) hS (fun q _ h => hFc q h) hFc (fun u t H1 locs ht hvm e41 hB hz1 hk1 hS => ?_)
    obtain ⟨v141, zz41⟩ := u
    obtain ⟨hP1, hK1, hD1⟩ := hB
    rw [ht] at hP1
    obtain ⟨hP, hD⟩ := va_join (wr := [(ca, .inl (cZ, 2, .inl (p2 (bI c0) (bI false))))]) (w1 := [(o, .inr (5, [.int th, .ref im, .int (bI tr), .ref rc, .ref bg, .int ro, .ref oa, .ref xa, .ref ya, .ref rg, .ref me, .ref sa, .ref pa, .ref za, .ref ca, .int (bI kp), .ref ta, .ref na])), (rg, .inl (cI, 6, .inl (rg6 a x d v141 b1 b2))), (za, .inl (cZ, 2, .inl (p2 (bI z0) (bI zz41))))]) hP hD [0, 1, 2] [3] rfl rfl (by decide) (by decide) hk1 hFc hP1 hD1
    generalize H1 = H at hP hS ⊢
    try dsimp only at e41
    obtain ⟨e41_0, e41_1⟩ := e41
    replace e41_0 := e41_0.symm
    subst e41_0
    replace e41_1 := e41_1.symm
    subst e41_1
    have hP : va_P D vwCl [(ca, .inl (cZ, 2, .inl (p2 (bI c0) (bI false)))), (o, .inr (5, [.int th, .ref im, .int (bI tr), .ref rc, .ref bg, .int ro, .ref oa, .ref xa, .ref ya, .ref rg, .ref me, .ref sa, .ref pa, .ref za, .ref ca, .int (bI kp), .ref ta, .ref na])), (rg, .inl (cI, 6, .inl (rg6 a x d (((b0 + v) + cc) &&& 255) b1 b2))), (za, .inl (cZ, 2, .inl (p2 (bI z0) (bI (decide (((b0 + v) + cc) &&& 255 = 0))))))] H := hP
    have hD : va_D A [(ca, .inl (cZ, 2, .inl (p2 (bI c0) (bI false)))), (o, .inr (5, [.int th, .ref im, .int (bI tr), .ref rc, .ref bg, .int ro, .ref oa, .ref xa, .ref ya, .ref rg, .ref me, .ref sa, .ref pa, .ref za, .ref ca, .int (bI kp), .ref ta, .ref na])), (rg, .inl (cI, 6, .inl (rg6 a x d (((b0 + v) + cc) &&& 255) b1 b2))), (za, .inl (cZ, 2, .inl (p2 (bI z0) (bI (decide (((b0 + v) + cc) &&& 255 = 0))))))] := hD
    have hP9 : va_P D vwCl [(o, .inr (5, [.int th, .ref im, .int (bI tr), .ref rc, .ref bg, .int ro, .ref oa, .ref xa, .ref ya, .ref rg, .ref me, .ref sa, .ref pa, .ref za, .ref ca, .int (bI kp), .ref ta, .ref na])), (rg, .inl (cI, 6, .inl (rg6 a x d (((b0 + v) + cc) &&& 255) b1 b2))), (za, .inl (cZ, 2, .inl (p2 (bI z0) (bI (decide (((b0 + v) + cc) &&& 255 = 0)))))), (ca, .inl (cZ, 2, .inl (p2 (bI c0) (bI false))))] H := hP.sub [1, 2, 3, 0] rfl
    have hD9 : va_D A [(o, .inr (5, [.int th, .ref im, .int (bI tr), .ref rc, .ref bg, .int ro, .ref oa, .ref xa, .ref ya, .ref rg, .ref me, .ref sa, .ref pa, .ref za, .ref ca, .int (bI kp), .ref ta, .ref na])), (rg, .inl (cI, 6, .inl (rg6 a x d (((b0 + v) + cc) &&& 255) b1 b2))), (za, .inl (cZ, 2, .inl (p2 (bI z0) (bI (decide (((b0 + v) + cc) &&& 255 = 0)))))), (ca, .inl (cZ, 2, .inl (p2 (bI c0) (bI false))))] := hD.sub [1, 2, 3, 0] (by decide) rfl
    exact W.vret hx hb hr (fun t ht hW => ⟨⟨(((b0 + v) + cc) &&& 255, decide (((b0 + v) + cc) &&& 255 = 0), false), rfl, by first | (simp only [h27, ↓reduceIte, not_true_eq_false, not_false_eq_true, and_true, true_and, and_false, false_and, and_self, or_true, true_or, or_false, false_or, decide_true, decide_false, Bool.false_eq_true, reduceCtorEq]; done) | (simp_all []; done), by rw [ht]; exact hP9, va_K.moved hW.alike hK, hD9⟩, hS.F ht⟩) hS.2.2 d_MO_adds_44
  · refine lv_iconst (v := 1) hx hb d_MO_adds_30 (by decide) ?_
    refine lv_goto (tgt := 35) hx hb d_MO_adds_31 rfl ?_
    refine va_zast hx hb hK hP hD hS 3 1 rfl rfl (vp_in_nI (n := 1) (by decide) (by decide)) d_MO_adds_35 (fun H locs hP hD hS => ?_)
    have hP : va_P D vwCl [(o, .inr (5, [.int th, .ref im, .int (bI tr), .ref rc, .ref bg, .int ro, .ref oa, .ref xa, .ref ya, .ref rg, .ref me, .ref sa, .ref pa, .ref za, .ref ca, .int (bI kp), .ref ta, .ref na])), (rg, .inl (cI, 6, .inl (rg6 a x d b0 b1 b2))), (za, .inl (cZ, 2, .inl (p2 (bI z0) (bI z1)))), (ca, .inl (cZ, 2, .inl (upd (p2 (bI c0) (bI c1)) 1 (bI true))))] H := hP
    have hD : va_D A [(o, .inr (5, [.int th, .ref im, .int (bI tr), .ref rc, .ref bg, .int ro, .ref oa, .ref xa, .ref ya, .ref rg, .ref me, .ref sa, .ref pa, .ref za, .ref ca, .int (bI kp), .ref ta, .ref na])), (rg, .inl (cI, 6, .inl (rg6 a x d b0 b1 b2))), (za, .inl (cZ, 2, .inl (p2 (bI z0) (bI z1)))), (ca, .inl (cZ, 2, .inl (upd (p2 (bI c0) (bI c1)) 1 (bI true))))] := hD
    rw [show upd (p2 (bI c0) (bI c1)) 1 (bI true) = p2 (bI c0) (bI true) from p2_1] at hP hD
    have hP : va_P D vwCl [(o, .inr (5, [.int th, .ref im, .int (bI tr), .ref rc, .ref bg, .int ro, .ref oa, .ref xa, .ref ya, .ref rg, .ref me, .ref sa, .ref pa, .ref za, .ref ca, .int (bI kp), .ref ta, .ref na])), (rg, .inl (cI, 6, .inl (rg6 a x d b0 b1 b2))), (za, .inl (cZ, 2, .inl (p2 (bI z0) (bI z1)))), (ca, .inl (cZ, 2, .inl (p2 (bI c0) (bI true))))] H := hP
    have hD : va_D A [(o, .inr (5, [.int th, .ref im, .int (bI tr), .ref rc, .ref bg, .int ro, .ref oa, .ref xa, .ref ya, .ref rg, .ref me, .ref sa, .ref pa, .ref za, .ref ca, .int (bI kp), .ref ta, .ref na])), (rg, .inl (cI, 6, .inl (rg6 a x d b0 b1 b2))), (za, .inl (cZ, 2, .inl (p2 (bI z0) (bI z1)))), (ca, .inl (cZ, 2, .inl (p2 (bI c0) (bI true))))] := hD
    refine lv_aload_n hx hb d_MO_adds_36 rfl (lv_at hl 1 rfl) ?_
    refine lv_iload_n hx hb d_MO_adds_37 rfl (lv_at hl 2 rfl) ?_
    refine lv_iload_n hx hb d_MO_adds_38 rfl (lv_at hl 3 rfl) ?_
    refine lv_iload hx hb d_MO_adds_39 (lv_at hl 0 rfl) ?_
    have hPc := hP.sub (ws' := [(o, .inr (5, [.int th, .ref im, .int (bI tr), .ref rc, .ref bg, .int ro, .ref oa, .ref xa, .ref ya, .ref rg, .ref me, .ref sa, .ref pa, .ref za, .ref ca, .int (bI kp), .ref ta, .ref na])), (rg, .inl (cI, 6, .inl (rg6 a x d b0 b1 b2))), (za, .inl (cZ, 2, .inl (p2 (bI z0) (bI z1))))]) [0, 1, 2] rfl
    have hDc := hD.sub (ws' := [(o, .inr (5, [.int th, .ref im, .int (bI tr), .ref rc, .ref bg, .int ro, .ref oa, .ref xa, .ref ya, .ref rg, .ref me, .ref sa, .ref pa, .ref za, .ref ca, .int (bI kp), .ref ta, .ref na])), (rg, .inl (cI, 6, .inl (rg6 a x d b0 b1 b2))), (za, .inl (cZ, 2, .inl (p2 (bI z0) (bI z1))))]) [0, 1, 2] (by decide) rfl
    have hFc := va_free (wc := [(o, .inr (5, [.int th, .ref im, .int (bI tr), .ref rc, .ref bg, .int ro, .ref oa, .ref xa, .ref ya, .ref rg, .ref me, .ref sa, .ref pa, .ref za, .ref ca, .int (bI kp), .ref ta, .ref na])), (rg, .inl (cI, 6, .inl (rg6 a x d b0 b1 b2))), (za, .inl (cZ, 2, .inl (p2 (bI z0) (bI z1))))]) hD hS hA [0, 1, 2] rfl
    refine va_callv (va_runV (As := [.int 1, .int 0, .int ((b0 + v) + cc)]) (rest := []) ⟨hx, hb, hml, hown, hts⟩ (q_setZ10 l D cI cZ o th im tr rc bg ro oa xa ya rg me sa pa za ca kp ta na a x d b0 b1 b2 z0 z1 ((b0 + v) + cc) H.size) ⟨cB 3 hts k_845 k_62 k_842 hd_MO_setZ ⟨Nat.le_of_ble_eq_true rfl, Nat.le_of_ble_eq_true rfl⟩ rfl rfl, hts _ k_844, hts _ k_42⟩ (PcW.preV (va_recv hK hP (q0 := 0) (ci := 5) rfl rfl) hPc hK hDc hN) rfl rfl hl.1 rfl (lv_room (Nat.le_of_ble_eq_true rfl)) d_MO_adds_41 ⟨Nat.le_of_ble_eq_true rfl, Nat.le_of_ble_eq_true rfl⟩) hS (fun q _ h => hFc q h) hFc (fun u t H1 locs ht hvm e41 hB hz1 hk1 hS => ?_)
    obtain ⟨v141, zz41⟩ := u
    obtain ⟨hP1, hK1, hD1⟩ := hB
    rw [ht] at hP1
    obtain ⟨hP, hD⟩ := va_join (wr := [(ca, .inl (cZ, 2, .inl (p2 (bI c0) (bI true))))]) (w1 := [(o, .inr (5, [.int th, .ref im, .int (bI tr), .ref rc, .ref bg, .int ro, .ref oa, .ref xa, .ref ya, .ref rg, .ref me, .ref sa, .ref pa, .ref za, .ref ca, .int (bI kp), .ref ta, .ref na])), (rg, .inl (cI, 6, .inl (rg6 a x d v141 b1 b2))), (za, .inl (cZ, 2, .inl (p2 (bI z0) (bI zz41))))]) hP hD [0, 1, 2] [3] rfl rfl (by decide) (by decide) hk1 hFc hP1 hD1
    generalize H1 = H at hP hS ⊢
    try dsimp only at e41
    obtain ⟨e41_0, e41_1⟩ := e41
    replace e41_0 := e41_0.symm
    subst e41_0
    replace e41_1 := e41_1.symm
    subst e41_1
    have hP : va_P D vwCl [(ca, .inl (cZ, 2, .inl (p2 (bI c0) (bI true)))), (o, .inr (5, [.int th, .ref im, .int (bI tr), .ref rc, .ref bg, .int ro, .ref oa, .ref xa, .ref ya, .ref rg, .ref me, .ref sa, .ref pa, .ref za, .ref ca, .int (bI kp), .ref ta, .ref na])), (rg, .inl (cI, 6, .inl (rg6 a x d (((b0 + v) + cc) &&& 255) b1 b2))), (za, .inl (cZ, 2, .inl (p2 (bI z0) (bI (decide (((b0 + v) + cc) &&& 255 = 0))))))] H := hP
    have hD : va_D A [(ca, .inl (cZ, 2, .inl (p2 (bI c0) (bI true)))), (o, .inr (5, [.int th, .ref im, .int (bI tr), .ref rc, .ref bg, .int ro, .ref oa, .ref xa, .ref ya, .ref rg, .ref me, .ref sa, .ref pa, .ref za, .ref ca, .int (bI kp), .ref ta, .ref na])), (rg, .inl (cI, 6, .inl (rg6 a x d (((b0 + v) + cc) &&& 255) b1 b2))), (za, .inl (cZ, 2, .inl (p2 (bI z0) (bI (decide (((b0 + v) + cc) &&& 255 = 0))))))] := hD
    have hP9 : va_P D vwCl [(o, .inr (5, [.int th, .ref im, .int (bI tr), .ref rc, .ref bg, .int ro, .ref oa, .ref xa, .ref ya, .ref rg, .ref me, .ref sa, .ref pa, .ref za, .ref ca, .int (bI kp), .ref ta, .ref na])), (rg, .inl (cI, 6, .inl (rg6 a x d (((b0 + v) + cc) &&& 255) b1 b2))), (za, .inl (cZ, 2, .inl (p2 (bI z0) (bI (decide (((b0 + v) + cc) &&& 255 = 0)))))), (ca, .inl (cZ, 2, .inl (p2 (bI c0) (bI true))))] H := hP.sub [1, 2, 3, 0] rfl
    have hD9 : va_D A [(o, .inr (5, [.int th, .ref im, .int (bI tr), .ref rc, .ref bg, .int ro, .ref oa, .ref xa, .ref ya, .ref rg, .ref me, .ref sa, .ref pa, .ref za, .ref ca, .int (bI kp), .ref ta, .ref na])), (rg, .inl (cI, 6, .inl (rg6 a x d (((b0 + v) + cc) &&& 255) b1 b2))), (za, .inl (cZ, 2, .inl (p2 (bI z0) (bI (decide (((b0 + v) + cc) &&& 255 = 0)))))), (ca, .inl (cZ, 2, .inl (p2 (bI c0) (bI true))))] := hD.sub [1, 2, 3, 0] (by decide) rfl
    exact W.vret hx hb hr (fun t ht hW => ⟨⟨(((b0 + v) + cc) &&& 255, decide (((b0 + v) + cc) &&& 255 = 0), true), rfl, by first | (simp only [h27, ↓reduceIte, not_true_eq_false, not_false_eq_true, and_true, true_and, and_false, false_and, and_self, or_true, true_or, or_false, false_or, decide_true, decide_false, Bool.false_eq_true, reduceCtorEq]; done) | (simp_all []; done), by rw [ht]; exact hP9, va_K.moved hW.alike hK, hD9⟩, hS.F ht⟩) hS.2.2 d_MO_adds_44
set_option maxHeartbeats 4000000 in
set_option maxRecDepth 100000 in
theorem q_subs10 (l : Launch) (D : va_G) (cI cZ : ClassId) (o : Nat) (th : Int32) (im : Nat) (tr : Bool) (rc : Nat) (bg : Nat) (ro : Int32) (oa : Nat) (xa : Nat) (ya : Nat) (rg : Nat) (me : Nat) (sa : Nat) (pa : Nat) (za : Nat) (ca : Nat) (kp : Bool) (ta : Nat) (na : Nat) (a : Int32) (x : Int32) (d : Int32) (b0 : Int32) (b1 : Int32) (b2 : Int32) (z0 : Bool) (z1 : Bool) (c0 : Bool) (c1 : Bool) (v : Int32) (sy : Bool) (sz : Nat) : MetV l y_MO_subtracts w_MO_subtracts { frames := 2, cells := 0, slots := 0, locals := 46 } D cI cZ [.ref o, .int 1, .int 0, .int v, .int (bI sy)] [(o, .inr (5, [.int th, .ref im, .int (bI tr), .ref rc, .ref bg, .int ro, .ref oa, .ref xa, .ref ya, .ref rg, .ref me, .ref sa, .ref pa, .ref za, .ref ca, .int (bI kp), .ref ta, .ref na])), (rg, .inl (cI, 6, .inl (rg6 a x d b0 b1 b2))), (za, .inl (cZ, 2, .inl (p2 (bI z0) (bI z1)))), (ca, .inl (cZ, 2, .inl (p2 (bI c0) (bI c1))))] sz (fun (u : Int32 × Bool × Bool) => match u with | (v1, zz, cy) => v1 = (if sy = true then b0 &&& 255 else (b0 - v) &&& 255) ∧ zz = decide ((b0 - v) &&& 255 = 0) ∧ cy = decide (¬ v ≤ b0)) (fun (u : Int32 × Bool × Bool) => match u with | (v1, zz, cy) => [(o, .inr (5, [.int th, .ref im, .int (bI tr), .ref rc, .ref bg, .int ro, .ref oa, .ref xa, .ref ya, .ref rg, .ref me, .ref sa, .ref pa, .ref za, .ref ca, .int (bI kp), .ref ta, .ref na])), (rg, .inl (cI, 6, .inl (rg6 a x d v1 b1 b2))), (za, .inl (cZ, 2, .inl (p2 (bI z0) (bI zz)))), (ca, .inl (cZ, 2, .inl (p2 (bI c0) (bI cy))))]) 0 0 := by
  refine ofV (cc := c_MO_subtracts) (maxL := 6) (ret := none) (by decide) rfl (Nat.le_of_ble_eq_true rfl) ?_
  intro p e s m args below meth c A H hH0 hx hb hr hlocks hts hown hnm hml ls hl hP hK hD hA hS hN
  have hown : s.vm.findClass R_MO = some m.cls := hown
  have hl : lv_has ls 6 [(0, .ref o), (1, .int 1), (2, .int 0), (3, .int v), (4, .int (bI sy))] := hl
  refine lv_aload_n hx hb d_MO_subtracts_0 rfl (lv_at hl 0 rfl) ?_
  refine va_get (D := D) (ci := 5) (v := .ref rg) (C := R_MO) (T := T_MO) (N := 18) hx hb hts iw_MO hown hK hP 0 rfl rfl 9 (by decide) (hts _ k_704) (fun _ h9 => h9) rfl d_MO_subtracts_1 ?_
  refine lv_iconst (v := 3) hx hb d_MO_subtracts_4 (by decide) ?_
  refine lv_iload_n hx hb d_MO_subtracts_5 rfl (lv_at hl 1 rfl) ?_
  refine lv_imul hx hb d_MO_subtracts_6 ?_
  refine lv_iload_n hx hb d_MO_subtracts_7 rfl (lv_at hl 2 rfl) ?_
  refine lv_iadd hx hb d_MO_subtracts_8 ?_
  refine va_iald hx hb hK hP 1 0 rfl rfl (vp_in_nI (n := 3) (by decide) (by decide)) d_MO_subtracts_9 ?_
  refine lv_istore hx hb d_MO_subtracts_10 hl (by decide) rfl (fun ls hl => ?_)
  have hl : lv_has ls 6 [(5, .int b0), (0, .ref o), (1, .int 1), (2, .int 0), (3, .int v), (4, .int (bI sy))] := hl
  refine lv_aload_n hx hb d_MO_subtracts_12 rfl (lv_at hl 1 rfl) ?_
  refine va_get (D := D) (ci := 5) (v := .ref ca) (C := R_MO) (T := T_MO) (N := 18) hx hb hts iw_MO hown hK hP 0 rfl rfl 14 (by decide) (hts _ k_709) (fun _ h9 => h9) rfl d_MO_subtracts_13 ?_
  refine lv_iload_n hx hb d_MO_subtracts_16 rfl (lv_at hl 2 rfl) ?_
  refine lv_iload_n hx hb d_MO_subtracts_17 rfl (lv_at hl 4 rfl) ?_
  refine lv_iload hx hb d_MO_subtracts_18 (lv_at hl 0 rfl) ?_
  refine lv_icmp_le (tgt := 27) hx hb d_MO_subtracts_20 rfl (fun h20 => ?_) (fun h20 => ?_)
  · refine lv_iconst (v := 0) hx hb d_MO_subtracts_27 (by decide) ?_
    refine va_zast hx hb hK hP hD hS 3 1 rfl rfl (vp_in_nI (n := 1) (by decide) (by decide)) d_MO_subtracts_28 (fun H locs hP hD hS => ?_)
    have hP : va_P D vwCl [(o, .inr (5, [.int th, .ref im, .int (bI tr), .ref rc, .ref bg, .int ro, .ref oa, .ref xa, .ref ya, .ref rg, .ref me, .ref sa, .ref pa, .ref za, .ref ca, .int (bI kp), .ref ta, .ref na])), (rg, .inl (cI, 6, .inl (rg6 a x d b0 b1 b2))), (za, .inl (cZ, 2, .inl (p2 (bI z0) (bI z1)))), (ca, .inl (cZ, 2, .inl (upd (p2 (bI c0) (bI c1)) 1 (bI false))))] H := hP
    have hD : va_D A [(o, .inr (5, [.int th, .ref im, .int (bI tr), .ref rc, .ref bg, .int ro, .ref oa, .ref xa, .ref ya, .ref rg, .ref me, .ref sa, .ref pa, .ref za, .ref ca, .int (bI kp), .ref ta, .ref na])), (rg, .inl (cI, 6, .inl (rg6 a x d b0 b1 b2))), (za, .inl (cZ, 2, .inl (p2 (bI z0) (bI z1)))), (ca, .inl (cZ, 2, .inl (upd (p2 (bI c0) (bI c1)) 1 (bI false))))] := hD
    rw [show upd (p2 (bI c0) (bI c1)) 1 (bI false) = p2 (bI c0) (bI false) from p2_1] at hP hD
    have hP : va_P D vwCl [(o, .inr (5, [.int th, .ref im, .int (bI tr), .ref rc, .ref bg, .int ro, .ref oa, .ref xa, .ref ya, .ref rg, .ref me, .ref sa, .ref pa, .ref za, .ref ca, .int (bI kp), .ref ta, .ref na])), (rg, .inl (cI, 6, .inl (rg6 a x d b0 b1 b2))), (za, .inl (cZ, 2, .inl (p2 (bI z0) (bI z1)))), (ca, .inl (cZ, 2, .inl (p2 (bI c0) (bI false))))] H := hP
    have hD : va_D A [(o, .inr (5, [.int th, .ref im, .int (bI tr), .ref rc, .ref bg, .int ro, .ref oa, .ref xa, .ref ya, .ref rg, .ref me, .ref sa, .ref pa, .ref za, .ref ca, .int (bI kp), .ref ta, .ref na])), (rg, .inl (cI, 6, .inl (rg6 a x d b0 b1 b2))), (za, .inl (cZ, 2, .inl (p2 (bI z0) (bI z1)))), (ca, .inl (cZ, 2, .inl (p2 (bI c0) (bI false))))] := hD
    refine lv_aload_n hx hb d_MO_subtracts_29 rfl (lv_at hl 1 rfl) ?_
    refine lv_iload_n hx hb d_MO_subtracts_30 rfl (lv_at hl 2 rfl) ?_
    refine lv_iload_n hx hb d_MO_subtracts_31 rfl (lv_at hl 3 rfl) ?_
    refine lv_iload hx hb d_MO_subtracts_32 (lv_at hl 0 rfl) ?_
    refine lv_iload_n hx hb d_MO_subtracts_34 rfl (lv_at hl 4 rfl) ?_
    refine lv_isub hx hb d_MO_subtracts_35 ?_
    have hPc := hP.sub (ws' := [(o, .inr (5, [.int th, .ref im, .int (bI tr), .ref rc, .ref bg, .int ro, .ref oa, .ref xa, .ref ya, .ref rg, .ref me, .ref sa, .ref pa, .ref za, .ref ca, .int (bI kp), .ref ta, .ref na])), (rg, .inl (cI, 6, .inl (rg6 a x d b0 b1 b2))), (za, .inl (cZ, 2, .inl (p2 (bI z0) (bI z1))))]) [0, 1, 2] rfl
    have hDc := hD.sub (ws' := [(o, .inr (5, [.int th, .ref im, .int (bI tr), .ref rc, .ref bg, .int ro, .ref oa, .ref xa, .ref ya, .ref rg, .ref me, .ref sa, .ref pa, .ref za, .ref ca, .int (bI kp), .ref ta, .ref na])), (rg, .inl (cI, 6, .inl (rg6 a x d b0 b1 b2))), (za, .inl (cZ, 2, .inl (p2 (bI z0) (bI z1))))]) [0, 1, 2] (by decide) rfl
    have hFc := va_free (wc := [(o, .inr (5, [.int th, .ref im, .int (bI tr), .ref rc, .ref bg, .int ro, .ref oa, .ref xa, .ref ya, .ref rg, .ref me, .ref sa, .ref pa, .ref za, .ref ca, .int (bI kp), .ref ta, .ref na])), (rg, .inl (cI, 6, .inl (rg6 a x d b0 b1 b2))), (za, .inl (cZ, 2, .inl (p2 (bI z0) (bI z1))))]) hD hS hA [0, 1, 2] rfl
    refine va_callv (va_runV (As := [.int 1, .int 0, .int (b0 - v)]) (rest := []) ⟨hx, hb, hml, hown, hts⟩ (q_setZ10 l D cI cZ o th im tr rc bg ro oa xa ya rg me sa pa za ca kp ta na a x d b0 b1 b2 z0 z1 (b0 - v) H.size) ⟨cB 3 hts k_845 k_62 k_842 hd_MO_setZ ⟨Nat.le_of_ble_eq_true rfl, Nat.le_of_ble_eq_true rfl⟩ rfl rfl, hts _ k_844, hts _ k_42⟩ (PcW.preV (va_recv hK hP (q0 := 0) (ci := 5) rfl rfl) hPc hK hDc hN) rfl rfl hl.1 rfl (lv_room (Nat.le_of_ble_eq_true rfl)) d_MO_subtracts_36 ⟨Nat.le_of_ble_eq_true rfl, Nat.le_of_ble_eq_true rfl⟩) hS (fun q _ h => hFc q h) hFc (fun u t H1 locs ht hvm e36 hB hz1 hk1 hS => ?_)
    obtain ⟨v136, zz36⟩ := u
    obtain ⟨hP1, hK1, hD1⟩ := hB
    rw [ht] at hP1
    obtain ⟨hP, hD⟩ := va_join (wr := [(ca, .inl (cZ, 2, .inl (p2 (bI c0) (bI false))))]) (w1 := [(o, .inr (5, [.int th, .ref im, .int (bI tr), .ref rc, .ref bg, .int ro, .ref oa, .ref xa, .ref ya, .ref rg, .ref me, .ref sa, .ref pa, .ref za, .ref ca, .int (bI kp), .ref ta, .ref na])), (rg, .inl (cI, 6, .inl (rg6 a x d v136 b1 b2))), (za, .inl (cZ, 2, .inl (p2 (bI z0) (bI zz36))))]) hP hD [0, 1, 2] [3] rfl rfl (by decide) (by decide) hk1 hFc hP1 hD1
    generalize H1 = H at hP hS ⊢
    try dsimp only at e36
    obtain ⟨e36_0, e36_1⟩ := e36
    replace e36_0 := e36_0.symm
    subst e36_0
    replace e36_1 := e36_1.symm
    subst e36_1
    have hP : va_P D vwCl [(ca, .inl (cZ, 2, .inl (p2 (bI c0) (bI false)))), (o, .inr (5, [.int th, .ref im, .int (bI tr), .ref rc, .ref bg, .int ro, .ref oa, .ref xa, .ref ya, .ref rg, .ref me, .ref sa, .ref pa, .ref za, .ref ca, .int (bI kp), .ref ta, .ref na])), (rg, .inl (cI, 6, .inl (rg6 a x d ((b0 - v) &&& 255) b1 b2))), (za, .inl (cZ, 2, .inl (p2 (bI z0) (bI (decide ((b0 - v) &&& 255 = 0))))))] H := hP
    have hD : va_D A [(ca, .inl (cZ, 2, .inl (p2 (bI c0) (bI false)))), (o, .inr (5, [.int th, .ref im, .int (bI tr), .ref rc, .ref bg, .int ro, .ref oa, .ref xa, .ref ya, .ref rg, .ref me, .ref sa, .ref pa, .ref za, .ref ca, .int (bI kp), .ref ta, .ref na])), (rg, .inl (cI, 6, .inl (rg6 a x d ((b0 - v) &&& 255) b1 b2))), (za, .inl (cZ, 2, .inl (p2 (bI z0) (bI (decide ((b0 - v) &&& 255 = 0))))))] := hD
    refine lv_iload hx hb d_MO_subtracts_39 (lv_at hl 5 rfl) ?_
    refine lv_if_eq (tgt := 52) hx hb d_MO_subtracts_41 rfl (fun h41 => ?_) (fun h41 => ?_)
    · have h41 : sy = false := bI_f h41
      have hP9 : va_P D vwCl [(o, .inr (5, [.int th, .ref im, .int (bI tr), .ref rc, .ref bg, .int ro, .ref oa, .ref xa, .ref ya, .ref rg, .ref me, .ref sa, .ref pa, .ref za, .ref ca, .int (bI kp), .ref ta, .ref na])), (rg, .inl (cI, 6, .inl (rg6 a x d ((b0 - v) &&& 255) b1 b2))), (za, .inl (cZ, 2, .inl (p2 (bI z0) (bI (decide ((b0 - v) &&& 255 = 0)))))), (ca, .inl (cZ, 2, .inl (p2 (bI c0) (bI false))))] H := hP.sub [1, 2, 3, 0] rfl
      have hD9 : va_D A [(o, .inr (5, [.int th, .ref im, .int (bI tr), .ref rc, .ref bg, .int ro, .ref oa, .ref xa, .ref ya, .ref rg, .ref me, .ref sa, .ref pa, .ref za, .ref ca, .int (bI kp), .ref ta, .ref na])), (rg, .inl (cI, 6, .inl (rg6 a x d ((b0 - v) &&& 255) b1 b2))), (za, .inl (cZ, 2, .inl (p2 (bI z0) (bI (decide ((b0 - v) &&& 255 = 0)))))), (ca, .inl (cZ, 2, .inl (p2 (bI c0) (bI false))))] := hD.sub [1, 2, 3, 0] (by decide) rfl
      exact W.vret hx hb hr (fun t ht hW => ⟨⟨((b0 - v) &&& 255, decide ((b0 - v) &&& 255 = 0), false), rfl, by first | (simp only [h20, h41, ↓reduceIte, not_true_eq_false, not_false_eq_true, and_true, true_and, and_false, false_and, and_self, or_true, true_or, or_false, false_or, decide_true, decide_false, Bool.false_eq_true, reduceCtorEq]; done) | (simp_all []; done), by rw [ht]; exact hP9, va_K.moved hW.alike hK, hD9⟩, hS.F ht⟩) hS.2.2 d_MO_subtracts_52
    · have h41 : sy = true := bI_t h41
      refine lv_aload_n hx hb d_MO_subtracts_44 rfl (lv_at hl 1 rfl) ?_
      refine lv_iload_n hx hb d_MO_subtracts_45 rfl (lv_at hl 2 rfl) ?_
      refine lv_iload_n hx hb d_MO_subtracts_46 rfl (lv_at hl 3 rfl) ?_
      refine lv_iload hx hb d_MO_subtracts_47 (lv_at hl 0 rfl) ?_
      have hPc := hP.sub (ws' := [(o, .inr (5, [.int th, .ref im, .int (bI tr), .ref rc, .ref bg, .int ro, .ref oa, .ref xa, .ref ya, .ref rg, .ref me, .ref sa, .ref pa, .ref za, .ref ca, .int (bI kp), .ref ta, .ref na])), (rg, .inl (cI, 6, .inl (rg6 a x d ((b0 - v) &&& 255) b1 b2)))]) [1, 2] rfl
      have hDc := hD.sub (ws' := [(o, .inr (5, [.int th, .ref im, .int (bI tr), .ref rc, .ref bg, .int ro, .ref oa, .ref xa, .ref ya, .ref rg, .ref me, .ref sa, .ref pa, .ref za, .ref ca, .int (bI kp), .ref ta, .ref na])), (rg, .inl (cI, 6, .inl (rg6 a x d ((b0 - v) &&& 255) b1 b2)))]) [1, 2] (by decide) rfl
      have hFc := va_free (wc := [(o, .inr (5, [.int th, .ref im, .int (bI tr), .ref rc, .ref bg, .int ro, .ref oa, .ref xa, .ref ya, .ref rg, .ref me, .ref sa, .ref pa, .ref za, .ref ca, .int (bI kp), .ref ta, .ref na])), (rg, .inl (cI, 6, .inl (rg6 a x d ((b0 - v) &&& 255) b1 b2)))]) hD hS hA [1, 2] rfl
      refine va_callv (va_runV (As := [.int 1, .int 0, .int b0]) (rest := []) ⟨hx, hb, hml, hown, hts⟩ (q_set10 l D cI cZ o th im tr rc bg ro oa xa ya rg me sa pa za ca kp ta na a x d ((b0 - v) &&& 255) b1 b2 b0 H.size) ⟨cB 3 hts k_849 k_62 k_846 hd_MO_set ⟨Nat.le_of_ble_eq_true rfl, Nat.le_of_ble_eq_true rfl⟩ rfl rfl, hts _ k_848, hts _ k_43⟩ (PcW.preV (va_recv hK hP (q0 := 1) (ci := 5) rfl rfl) hPc hK hDc hN) rfl rfl hl.1 rfl (lv_room (Nat.le_of_ble_eq_true rfl)) d_MO_subtracts_49 ⟨Nat.le_of_ble_eq_true rfl, Nat.le_of_ble_eq_true rfl⟩) hS (fun q _ h => hFc q h) hFc (fun u t H1 locs ht hvm e49 hB hz1 hk1 hS => ?_)
      obtain ⟨v149, rfl⟩ : ∃ z, z = u := ⟨_, rfl⟩
      obtain ⟨hP1, hK1, hD1⟩ := hB
      rw [ht] at hP1
      obtain ⟨hP, hD⟩ := va_join (wr := [(ca, .inl (cZ, 2, .inl (p2 (bI c0) (bI false)))), (za, .inl (cZ, 2, .inl (p2 (bI z0) (bI (decide ((b0 - v) &&& 255 = 0))))))]) (w1 := [(o, .inr (5, [.int th, .ref im, .int (bI tr), .ref rc, .ref bg, .int ro, .ref oa, .ref xa, .ref ya, .ref rg, .ref me, .ref sa, .ref pa, .ref za, .ref ca, .int (bI kp), .ref ta, .ref na])), (rg, .inl (cI, 6, .inl (rg6 a x d v149 b1 b2)))]) hP hD [1, 2] [0, 3] rfl rfl (by decide) (by decide) hk1 hFc hP1 hD1
      generalize H1 = H at hP hS ⊢
      try dsimp only at e49
      have e49_0 := e49
      replace e49_0 := e49_0.symm
      subst e49_0
      have hP : va_P D vwCl [(ca, .inl (cZ, 2, .inl (p2 (bI c0) (bI false)))), (za, .inl (cZ, 2, .inl (p2 (bI z0) (bI (decide ((b0 - v) &&& 255 = 0)))))), (o, .inr (5, [.int th, .ref im, .int (bI tr), .ref rc, .ref bg, .int ro, .ref oa, .ref xa, .ref ya, .ref rg, .ref me, .ref sa, .ref pa, .ref za, .ref ca, .int (bI kp), .ref ta, .ref na])), (rg, .inl (cI, 6, .inl (rg6 a x d (b0 &&& 255) b1 b2)))] H := hP
      have hD : va_D A [(ca, .inl (cZ, 2, .inl (p2 (bI c0) (bI false)))), (za, .inl (cZ, 2, .inl (p2 (bI z0) (bI (decide ((b0 - v) &&& 255 = 0)))))), (o, .inr (5, [.int th, .ref im, .int (bI tr), .ref rc, .ref bg, .int ro, .ref oa, .ref xa, .ref ya, .ref rg, .ref me, .ref sa, .ref pa, .ref za, .ref ca, .int (bI kp), .ref ta, .ref na])), (rg, .inl (cI, 6, .inl (rg6 a x d (b0 &&& 255) b1 b2)))] := hD
      have hP9 : va_P D vwCl [(o, .inr (5, [.int th, .ref im, .int (bI tr), .ref rc, .ref bg, .int ro, .ref oa, .ref xa, .ref ya, .ref rg, .ref me, .ref sa, .ref pa, .ref za, .ref ca, .int (bI kp), .ref ta, .ref na])), (rg, .inl (cI, 6, .inl (rg6 a x d (b0 &&& 255) b1 b2))), (za, .inl (cZ, 2, .inl (p2 (bI z0) (bI (decide ((b0 - v) &&& 255 = 0)))))), (ca, .inl (cZ, 2, .inl (p2 (bI c0) (bI false))))] H := hP.sub [2, 3, 1, 0] rfl
      have hD9 : va_D A [(o, .inr (5, [.int th, .ref im, .int (bI tr), .ref rc, .ref bg, .int ro, .ref oa, .ref xa, .ref ya, .ref rg, .ref me, .ref sa, .ref pa, .ref za, .ref ca, .int (bI kp), .ref ta, .ref na])), (rg, .inl (cI, 6, .inl (rg6 a x d (b0 &&& 255) b1 b2))), (za, .inl (cZ, 2, .inl (p2 (bI z0) (bI (decide ((b0 - v) &&& 255 = 0)))))), (ca, .inl (cZ, 2, .inl (p2 (bI c0) (bI false))))] := hD.sub [2, 3, 1, 0] (by decide) rfl
      exact W.vret hx hb hr (fun t ht hW => ⟨⟨(b0 &&& 255, decide ((b0 - v) &&& 255 = 0), false), rfl, by first | (simp only [h20, h41, ↓reduceIte, not_true_eq_false, not_false_eq_true, and_true, true_and, and_false, false_and, and_self, or_true, true_or, or_false, false_or, decide_true, decide_false, Bool.false_eq_true, reduceCtorEq]; done) | (simp_all []; done), by rw [ht]; exact hP9, va_K.moved hW.alike hK, hD9⟩, hS.F ht⟩) hS.2.2 d_MO_subtracts_52
  · refine lv_iconst (v := 1) hx hb d_MO_subtracts_23 (by decide) ?_
    refine lv_goto (tgt := 28) hx hb d_MO_subtracts_24 rfl ?_
    refine va_zast hx hb hK hP hD hS 3 1 rfl rfl (vp_in_nI (n := 1) (by decide) (by decide)) d_MO_subtracts_28 (fun H locs hP hD hS => ?_)
    have hP : va_P D vwCl [(o, .inr (5, [.int th, .ref im, .int (bI tr), .ref rc, .ref bg, .int ro, .ref oa, .ref xa, .ref ya, .ref rg, .ref me, .ref sa, .ref pa, .ref za, .ref ca, .int (bI kp), .ref ta, .ref na])), (rg, .inl (cI, 6, .inl (rg6 a x d b0 b1 b2))), (za, .inl (cZ, 2, .inl (p2 (bI z0) (bI z1)))), (ca, .inl (cZ, 2, .inl (upd (p2 (bI c0) (bI c1)) 1 (bI true))))] H := hP
    have hD : va_D A [(o, .inr (5, [.int th, .ref im, .int (bI tr), .ref rc, .ref bg, .int ro, .ref oa, .ref xa, .ref ya, .ref rg, .ref me, .ref sa, .ref pa, .ref za, .ref ca, .int (bI kp), .ref ta, .ref na])), (rg, .inl (cI, 6, .inl (rg6 a x d b0 b1 b2))), (za, .inl (cZ, 2, .inl (p2 (bI z0) (bI z1)))), (ca, .inl (cZ, 2, .inl (upd (p2 (bI c0) (bI c1)) 1 (bI true))))] := hD
    rw [show upd (p2 (bI c0) (bI c1)) 1 (bI true) = p2 (bI c0) (bI true) from p2_1] at hP hD
    have hP : va_P D vwCl [(o, .inr (5, [.int th, .ref im, .int (bI tr), .ref rc, .ref bg, .int ro, .ref oa, .ref xa, .ref ya, .ref rg, .ref me, .ref sa, .ref pa, .ref za, .ref ca, .int (bI kp), .ref ta, .ref na])), (rg, .inl (cI, 6, .inl (rg6 a x d b0 b1 b2))), (za, .inl (cZ, 2, .inl (p2 (bI z0) (bI z1)))), (ca, .inl (cZ, 2, .inl (p2 (bI c0) (bI true))))] H := hP
    have hD : va_D A [(o, .inr (5, [.int th, .ref im, .int (bI tr), .ref rc, .ref bg, .int ro, .ref oa, .ref xa, .ref ya, .ref rg, .ref me, .ref sa, .ref pa, .ref za, .ref ca, .int (bI kp), .ref ta, .ref na])), (rg, .inl (cI, 6, .inl (rg6 a x d b0 b1 b2))), (za, .inl (cZ, 2, .inl (p2 (bI z0) (bI z1)))), (ca, .inl (cZ, 2, .inl (p2 (bI c0) (bI true))))] := hD
    refine lv_aload_n hx hb d_MO_subtracts_29 rfl (lv_at hl 1 rfl) ?_
    refine lv_iload_n hx hb d_MO_subtracts_30 rfl (lv_at hl 2 rfl) ?_
    refine lv_iload_n hx hb d_MO_subtracts_31 rfl (lv_at hl 3 rfl) ?_
    refine lv_iload hx hb d_MO_subtracts_32 (lv_at hl 0 rfl) ?_
    refine lv_iload_n hx hb d_MO_subtracts_34 rfl (lv_at hl 4 rfl) ?_
    refine lv_isub hx hb d_MO_subtracts_35 ?_
    have hPc := hP.sub (ws' := [(o, .inr (5, [.int th, .ref im, .int (bI tr), .ref rc, .ref bg, .int ro, .ref oa, .ref xa, .ref ya, .ref rg, .ref me, .ref sa, .ref pa, .ref za, .ref ca, .int (bI kp), .ref ta, .ref na])), (rg, .inl (cI, 6, .inl (rg6 a x d b0 b1 b2))), (za, .inl (cZ, 2, .inl (p2 (bI z0) (bI z1))))]) [0, 1, 2] rfl
    have hDc := hD.sub (ws' := [(o, .inr (5, [.int th, .ref im, .int (bI tr), .ref rc, .ref bg, .int ro, .ref oa, .ref xa, .ref ya, .ref rg, .ref me, .ref sa, .ref pa, .ref za, .ref ca, .int (bI kp), .ref ta, .ref na])), (rg, .inl (cI, 6, .inl (rg6 a x d b0 b1 b2))), (za, .inl (cZ, 2, .inl (p2 (bI z0) (bI z1))))]) [0, 1, 2] (by decide) rfl
    have hFc := va_free (wc := [(o, .inr (5, [.int th, .ref im, .int (bI tr), .ref rc, .ref bg, .int ro, .ref oa, .ref xa, .ref ya, .ref rg, .ref me, .ref sa, .ref pa, .ref za, .ref ca, .int (bI kp), .ref ta, .ref na])), (rg, .inl (cI, 6, .inl (rg6 a x d b0 b1 b2))), (za, .inl (cZ, 2, .inl (p2 (bI z0) (bI z1))))]) hD hS hA [0, 1, 2] rfl
    refine va_callv (va_runV (As := [.int 1, .int 0, .int (b0 - v)]) (rest := []) ⟨hx, hb, hml, hown, hts⟩ (q_setZ10 l D cI cZ o th im tr rc bg ro oa xa ya rg me sa pa za ca kp ta na a x d b0 b1 b2 z0 z1 (b0 - v) H.size) ⟨cB 3 hts k_845 k_62 k_842 hd_MO_setZ ⟨Nat.le_of_ble_eq_true rfl, Nat.le_of_ble_eq_true rfl⟩ rfl rfl, hts _ k_844, hts _ k_42⟩ (PcW.preV (va_recv hK hP (q0 := 0) (ci := 5) rfl rfl) hPc hK hDc hN) rfl rfl hl.1 rfl (lv_room (Nat.le_of_ble_eq_true rfl)) d_MO_subtracts_36 ⟨Nat.le_of_ble_eq_true rfl, Nat.le_of_ble_eq_true rfl⟩) hS (fun q _ h => hFc q h) hFc (fun u t H1 locs ht hvm e36 hB hz1 hk1 hS => ?_)
    obtain ⟨v136, zz36⟩ := u
    obtain ⟨hP1, hK1, hD1⟩ := hB
    rw [ht] at hP1
    obtain ⟨hP, hD⟩ := va_join (wr := [(ca, .inl (cZ, 2, .inl (p2 (bI c0) (bI true))))]) (w1 := [(o, .inr (5, [.int th, .ref im, .int (bI tr), .ref rc, .ref bg, .int ro, .ref oa, .ref xa, .ref ya, .ref rg, .ref me, .ref sa, .ref pa, .ref za, .ref ca, .int (bI kp), .ref ta, .ref na])), (rg, .inl (cI, 6, .inl (rg6 a x d v136 b1 b2))), (za, .inl (cZ, 2, .inl (p2 (bI z0) (bI zz36))))]) hP hD [0, 1, 2] [3] rfl rfl (by decide) (by decide) hk1 hFc hP1 hD1
    generalize H1 = H at hP hS ⊢
    try dsimp only at e36
    obtain ⟨e36_0, e36_1⟩ := e36
    replace e36_0 := e36_0.symm
    subst e36_0
    replace e36_1 := e36_1.symm
    subst e36_1
    have hP : va_P D vwCl [(ca, .inl (cZ, 2, .inl (p2 (bI c0) (bI true)))), (o, .inr (5, [.int th, .ref im, .int (bI tr), .ref rc, .ref bg, .int ro, .ref oa, .ref xa, .ref ya, .ref rg, .ref me, .ref sa, .ref pa, .ref za, .ref ca, .int (bI kp), .ref ta, .ref na])), (rg, .inl (cI, 6, .inl (rg6 a x d ((b0 - v) &&& 255) b1 b2))), (za, .inl (cZ, 2, .inl (p2 (bI z0) (bI (decide ((b0 - v) &&& 255 = 0))))))] H := hP
    have hD : va_D A [(ca, .inl (cZ, 2, .inl (p2 (bI c0) (bI true)))), (o, .inr (5, [.int th, .ref im, .int (bI tr), .ref rc, .ref bg, .int ro, .ref oa, .ref xa, .ref ya, .ref rg, .ref me, .ref sa, .ref pa, .ref za, .ref ca, .int (bI kp), .ref ta, .ref na])), (rg, .inl (cI, 6, .inl (rg6 a x d ((b0 - v) &&& 255) b1 b2))), (za, .inl (cZ, 2, .inl (p2 (bI z0) (bI (decide ((b0 - v) &&& 255 = 0))))))] := hD
    refine lv_iload hx hb d_MO_subtracts_39 (lv_at hl 5 rfl) ?_
    refine lv_if_eq (tgt := 52) hx hb d_MO_subtracts_41 rfl (fun h41 => ?_) (fun h41 => ?_)
    · have h41 : sy = false := bI_f h41
      have hP9 : va_P D vwCl [(o, .inr (5, [.int th, .ref im, .int (bI tr), .ref rc, .ref bg, .int ro, .ref oa, .ref xa, .ref ya, .ref rg, .ref me, .ref sa, .ref pa, .ref za, .ref ca, .int (bI kp), .ref ta, .ref na])), (rg, .inl (cI, 6, .inl (rg6 a x d ((b0 - v) &&& 255) b1 b2))), (za, .inl (cZ, 2, .inl (p2 (bI z0) (bI (decide ((b0 - v) &&& 255 = 0)))))), (ca, .inl (cZ, 2, .inl (p2 (bI c0) (bI true))))] H := hP.sub [1, 2, 3, 0] rfl
      have hD9 : va_D A [(o, .inr (5, [.int th, .ref im, .int (bI tr), .ref rc, .ref bg, .int ro, .ref oa, .ref xa, .ref ya, .ref rg, .ref me, .ref sa, .ref pa, .ref za, .ref ca, .int (bI kp), .ref ta, .ref na])), (rg, .inl (cI, 6, .inl (rg6 a x d ((b0 - v) &&& 255) b1 b2))), (za, .inl (cZ, 2, .inl (p2 (bI z0) (bI (decide ((b0 - v) &&& 255 = 0)))))), (ca, .inl (cZ, 2, .inl (p2 (bI c0) (bI true))))] := hD.sub [1, 2, 3, 0] (by decide) rfl
      exact W.vret hx hb hr (fun t ht hW => ⟨⟨((b0 - v) &&& 255, decide ((b0 - v) &&& 255 = 0), true), rfl, by first | (simp only [h20, h41, ↓reduceIte, not_true_eq_false, not_false_eq_true, and_true, true_and, and_false, false_and, and_self, or_true, true_or, or_false, false_or, decide_true, decide_false, Bool.false_eq_true, reduceCtorEq]; done) | (simp_all []; done), by rw [ht]; exact hP9, va_K.moved hW.alike hK, hD9⟩, hS.F ht⟩) hS.2.2 d_MO_subtracts_52
    · have h41 : sy = true := bI_t h41
      refine lv_aload_n hx hb d_MO_subtracts_44 rfl (lv_at hl 1 rfl) ?_
      refine lv_iload_n hx hb d_MO_subtracts_45 rfl (lv_at hl 2 rfl) ?_
      refine lv_iload_n hx hb d_MO_subtracts_46 rfl (lv_at hl 3 rfl) ?_
      refine lv_iload hx hb d_MO_subtracts_47 (lv_at hl 0 rfl) ?_
      have hPc := hP.sub (ws' := [(o, .inr (5, [.int th, .ref im, .int (bI tr), .ref rc, .ref bg, .int ro, .ref oa, .ref xa, .ref ya, .ref rg, .ref me, .ref sa, .ref pa, .ref za, .ref ca, .int (bI kp), .ref ta, .ref na])), (rg, .inl (cI, 6, .inl (rg6 a x d ((b0 - v) &&& 255) b1 b2)))]) [1, 2] rfl
      have hDc := hD.sub (ws' := [(o, .inr (5, [.int th, .ref im, .int (bI tr), .ref rc, .ref bg, .int ro, .ref oa, .ref xa, .ref ya, .ref rg, .ref me, .ref sa, .ref pa, .ref za, .ref ca, .int (bI kp), .ref ta, .ref na])), (rg, .inl (cI, 6, .inl (rg6 a x d ((b0 - v) &&& 255) b1 b2)))]) [1, 2] (by decide) rfl
      have hFc := va_free (wc := [(o, .inr (5, [.int th, .ref im, .int (bI tr), .ref rc, .ref bg, .int ro, .ref oa, .ref xa, .ref ya, .ref rg, .ref me, .ref sa, .ref pa, .ref za, .ref ca, .int (bI kp), .ref ta, .ref na])), (rg, .inl (cI, 6, .inl (rg6 a x d ((b0 - v) &&& 255) b1 b2)))]) hD hS hA [1, 2] rfl
      refine va_callv (va_runV (As := [.int 1, .int 0, .int b0]) (rest := []) ⟨hx, hb, hml, hown, hts⟩ (q_set10 l D cI cZ o th im tr rc bg ro oa xa ya rg me sa pa za ca kp ta na a x d ((b0 - v) &&& 255) b1 b2 b0 H.size) ⟨cB 3 hts k_849 k_62 k_846 hd_MO_set ⟨Nat.le_of_ble_eq_true rfl, Nat.le_of_ble_eq_true rfl⟩ rfl rfl, hts _ k_848, hts _ k_43⟩ (PcW.preV (va_recv hK hP (q0 := 1) (ci := 5) rfl rfl) hPc hK hDc hN) rfl rfl hl.1 rfl (lv_room (Nat.le_of_ble_eq_true rfl)) d_MO_subtracts_49 ⟨Nat.le_of_ble_eq_true rfl, Nat.le_of_ble_eq_true rfl⟩) hS (fun q _ h => hFc q h) hFc (fun u t H1 locs ht hvm e49 hB hz1 hk1 hS => ?_)
      obtain ⟨v149, rfl⟩ : ∃ z, z = u := ⟨_, rfl⟩
      obtain ⟨hP1, hK1, hD1⟩ := hB
      rw [ht] at hP1
      obtain ⟨hP, hD⟩ := va_join (wr := [(ca, .inl (cZ, 2, .inl (p2 (bI c0) (bI true)))), (za, .inl (cZ, 2, .inl (p2 (bI z0) (bI (decide ((b0 - v) &&& 255 = 0))))))]) (w1 := [(o, .inr (5, [.int th, .ref im, .int (bI tr), .ref rc, .ref bg, .int ro, .ref oa, .ref xa, .ref ya, .ref rg, .ref me, .ref sa, .ref pa, .ref za, .ref ca, .int (bI kp), .ref ta, .ref na])), (rg, .inl (cI, 6, .inl (rg6 a x d v149 b1 b2)))]) hP hD [1, 2] [0, 3] rfl rfl (by decide) (by decide) hk1 hFc hP1 hD1
      generalize H1 = H at hP hS ⊢
      try dsimp only at e49
      have e49_0 := e49
      replace e49_0 := e49_0.symm
      subst e49_0
      have hP : va_P D vwCl [(ca, .inl (cZ, 2, .inl (p2 (bI c0) (bI true)))), (za, .inl (cZ, 2, .inl (p2 (bI z0) (bI (decide ((b0 - v) &&& 255 = 0)))))), (o, .inr (5, [.int th, .ref im, .int (bI tr), .ref rc, .ref bg, .int ro, .ref oa, .ref xa, .ref ya, .ref rg, .ref me, .ref sa, .ref pa, .ref za, .ref ca, .int (bI kp), .ref ta, .ref na])), (rg, .inl (cI, 6, .inl (rg6 a x d (b0 &&& 255) b1 b2)))] H := hP
      have hD : va_D A [(ca, .inl (cZ, 2, .inl (p2 (bI c0) (bI true)))), (za, .inl (cZ, 2, .inl (p2 (bI z0) (bI (decide ((b0 - v) &&& 255 = 0)))))), (o, .inr (5, [.int th, .ref im, .int (bI tr), .ref rc, .ref bg, .int ro, .ref oa, .ref xa, .ref ya, .ref rg, .ref me, .ref sa, .ref pa, .ref za, .ref ca, .int (bI kp), .ref ta, .ref na])), (rg, .inl (cI, 6, .inl (rg6 a x d (b0 &&& 255) b1 b2)))] := hD
      have hP9 : va_P D vwCl [(o, .inr (5, [.int th, .ref im, .int (bI tr), .ref rc, .ref bg, .int ro, .ref oa, .ref xa, .ref ya, .ref rg, .ref me, .ref sa, .ref pa, .ref za, .ref ca, .int (bI kp), .ref ta, .ref na])), (rg, .inl (cI, 6, .inl (rg6 a x d (b0 &&& 255) b1 b2))), (za, .inl (cZ, 2, .inl (p2 (bI z0) (bI (decide ((b0 - v) &&& 255 = 0)))))), (ca, .inl (cZ, 2, .inl (p2 (bI c0) (bI true))))] H := hP.sub [2, 3, 1, 0] rfl
      have hD9 : va_D A [(o, .inr (5, [.int th, .ref im, .int (bI tr), .ref rc, .ref bg, .int ro, .ref oa, .ref xa, .ref ya, .ref rg, .ref me, .ref sa, .ref pa, .ref za, .ref ca, .int (bI kp), .ref ta, .ref na])), (rg, .inl (cI, 6, .inl (rg6 a x d (b0 &&& 255) b1 b2))), (za, .inl (cZ, 2, .inl (p2 (bI z0) (bI (decide ((b0 - v) &&& 255 = 0)))))), (ca, .inl (cZ, 2, .inl (p2 (bI c0) (bI true))))] := hD.sub [2, 3, 1, 0] (by decide) rfl
      exact W.vret hx hb hr (fun t ht hW => ⟨⟨(b0 &&& 255, decide ((b0 - v) &&& 255 = 0), true), rfl, by first | (simp only [h20, h41, ↓reduceIte, not_true_eq_false, not_false_eq_true, and_true, true_and, and_false, false_and, and_self, or_true, true_or, or_false, false_or, decide_true, decide_false, Bool.false_eq_true, reduceCtorEq]; done) | (simp_all []; done), by rw [ht]; exact hP9, va_K.moved hW.alike hK, hD9⟩, hS.F ht⟩) hS.2.2 d_MO_subtracts_52
set_option maxHeartbeats 4000000 in
set_option maxRecDepth 100000 in
theorem q_plain10 (l : Launch) (D : va_G) (cI cZ : ClassId) (o : Nat) (th : Int32) (im : Nat) (tr : Bool) (rc : Nat) (bg : Nat) (ro : Int32) (oa : Nat) (xa : Nat) (ya : Nat) (rg : Nat) (me : Nat) (sa : Nat) (pa : Nat) (za : Nat) (ca : Nat) (kp : Bool) (ta : Nat) (na : Nat) (a : Int32) (x : Int32) (d : Int32) (b0 : Int32) (b1 : Int32) (b2 : Int32) (z0 : Bool) (z1 : Bool) (c0 : Bool) (c1 : Bool) (v : Int32) (sz : Nat) : MetV l y_MO_plain w_MO_plain { frames := 2, cells := 0, slots := 0, locals := 46 } D cI cZ [.ref o, .int 1, .int 0, .int v] [(o, .inr (5, [.int th, .ref im, .int (bI tr), .ref rc, .ref bg, .int ro, .ref oa, .ref xa, .ref ya, .ref rg, .ref me, .ref sa, .ref pa, .ref za, .ref ca, .int (bI kp), .ref ta, .ref na])), (rg, .inl (cI, 6, .inl (rg6 a x d b0 b1 b2))), (za, .inl (cZ, 2, .inl (p2 (bI z0) (bI z1)))), (ca, .inl (cZ, 2, .inl (p2 (bI c0) (bI c1))))] sz (fun (u : Int32 × Bool × Bool) => match u with | (v1, zz, cy) => v1 = v &&& 255 ∧ zz = decide (v &&& 255 = 0) ∧ cy = false) (fun (u : Int32 × Bool × Bool) => match u with | (v1, zz, cy) => [(o, .inr (5, [.int th, .ref im, .int (bI tr), .ref rc, .ref bg, .int ro, .ref oa, .ref xa, .ref ya, .ref rg, .ref me, .ref sa, .ref pa, .ref za, .ref ca, .int (bI kp), .ref ta, .ref na])), (rg, .inl (cI, 6, .inl (rg6 a x d v1 b1 b2))), (za, .inl (cZ, 2, .inl (p2 (bI z0) (bI zz)))), (ca, .inl (cZ, 2, .inl (p2 (bI c0) (bI cy))))]) 0 0 := by
  refine ofV (cc := c_MO_plain) (maxL := 4) (ret := none) (by decide) rfl (Nat.le_of_ble_eq_true rfl) ?_
  intro p e s m args below meth c A H hH0 hx hb hr hlocks hts hown hnm hml ls hl hP hK hD hA hS hN
  have hown : s.vm.findClass R_MO = some m.cls := hown
  have hl : lv_has ls 4 [(0, .ref o), (1, .int 1), (2, .int 0), (3, .int v)] := hl
  refine lv_aload_n hx hb d_MO_plain_0 rfl (lv_at hl 0 rfl) ?_
  refine va_get (D := D) (ci := 5) (v := .ref ca) (C := R_MO) (T := T_MO) (N := 18) hx hb hts iw_MO hown hK hP 0 rfl rfl 14 (by decide) (hts _ k_709) (fun _ h9 => h9) rfl d_MO_plain_1 ?_
  refine lv_iload_n hx hb d_MO_plain_4 rfl (lv_at hl 1 rfl) ?_
  refine lv_iconst (v := 0) hx hb d_MO_plain_5 (by decide) ?_
  refine va_zast hx hb hK hP hD hS 3 1 rfl rfl (vp_in_nI (n := 1) (by decide) (by decide)) d_MO_plain_6 (fun H locs hP hD hS => ?_)
  have hP : va_P D vwCl [(o, .inr (5, [.int th, .ref im, .int (bI tr), .ref rc, .ref bg, .int ro, .ref oa, .ref xa, .ref ya, .ref rg, .ref me, .ref sa, .ref pa, .ref za, .ref ca, .int (bI kp), .ref ta, .ref na])), (rg, .inl (cI, 6, .inl (rg6 a x d b0 b1 b2))), (za, .inl (cZ, 2, .inl (p2 (bI z0) (bI z1)))), (ca, .inl (cZ, 2, .inl (upd (p2 (bI c0) (bI c1)) 1 (bI false))))] H := hP
  have hD : va_D A [(o, .inr (5, [.int th, .ref im, .int (bI tr), .ref rc, .ref bg, .int ro, .ref oa, .ref xa, .ref ya, .ref rg, .ref me, .ref sa, .ref pa, .ref za, .ref ca, .int (bI kp), .ref ta, .ref na])), (rg, .inl (cI, 6, .inl (rg6 a x d b0 b1 b2))), (za, .inl (cZ, 2, .inl (p2 (bI z0) (bI z1)))), (ca, .inl (cZ, 2, .inl (upd (p2 (bI c0) (bI c1)) 1 (bI false))))] := hD
  rw [show upd (p2 (bI c0) (bI c1)) 1 (bI false) = p2 (bI c0) (bI false) from p2_1] at hP hD
  have hP : va_P D vwCl [(o, .inr (5, [.int th, .ref im, .int (bI tr), .ref rc, .ref bg, .int ro, .ref oa, .ref xa, .ref ya, .ref rg, .ref me, .ref sa, .ref pa, .ref za, .ref ca, .int (bI kp), .ref ta, .ref na])), (rg, .inl (cI, 6, .inl (rg6 a x d b0 b1 b2))), (za, .inl (cZ, 2, .inl (p2 (bI z0) (bI z1)))), (ca, .inl (cZ, 2, .inl (p2 (bI c0) (bI false))))] H := hP
  have hD : va_D A [(o, .inr (5, [.int th, .ref im, .int (bI tr), .ref rc, .ref bg, .int ro, .ref oa, .ref xa, .ref ya, .ref rg, .ref me, .ref sa, .ref pa, .ref za, .ref ca, .int (bI kp), .ref ta, .ref na])), (rg, .inl (cI, 6, .inl (rg6 a x d b0 b1 b2))), (za, .inl (cZ, 2, .inl (p2 (bI z0) (bI z1)))), (ca, .inl (cZ, 2, .inl (p2 (bI c0) (bI false))))] := hD
  refine lv_aload_n hx hb d_MO_plain_7 rfl (lv_at hl 0 rfl) ?_
  refine lv_iload_n hx hb d_MO_plain_8 rfl (lv_at hl 1 rfl) ?_
  refine lv_iload_n hx hb d_MO_plain_9 rfl (lv_at hl 2 rfl) ?_
  refine lv_iload_n hx hb d_MO_plain_10 rfl (lv_at hl 3 rfl) ?_
  have hPc := hP.sub (ws' := [(o, .inr (5, [.int th, .ref im, .int (bI tr), .ref rc, .ref bg, .int ro, .ref oa, .ref xa, .ref ya, .ref rg, .ref me, .ref sa, .ref pa, .ref za, .ref ca, .int (bI kp), .ref ta, .ref na])), (rg, .inl (cI, 6, .inl (rg6 a x d b0 b1 b2))), (za, .inl (cZ, 2, .inl (p2 (bI z0) (bI z1))))]) [0, 1, 2] rfl
  have hDc := hD.sub (ws' := [(o, .inr (5, [.int th, .ref im, .int (bI tr), .ref rc, .ref bg, .int ro, .ref oa, .ref xa, .ref ya, .ref rg, .ref me, .ref sa, .ref pa, .ref za, .ref ca, .int (bI kp), .ref ta, .ref na])), (rg, .inl (cI, 6, .inl (rg6 a x d b0 b1 b2))), (za, .inl (cZ, 2, .inl (p2 (bI z0) (bI z1))))]) [0, 1, 2] (by decide) rfl
  have hFc := va_free (wc := [(o, .inr (5, [.int th, .ref im, .int (bI tr), .ref rc, .ref bg, .int ro, .ref oa, .ref xa, .ref ya, .ref rg, .ref me, .ref sa, .ref pa, .ref za, .ref ca, .int (bI kp), .ref ta, .ref na])), (rg, .inl (cI, 6, .inl (rg6 a x d b0 b1 b2))), (za, .inl (cZ, 2, .inl (p2 (bI z0) (bI z1))))]) hD hS hA [0, 1, 2] rfl
  refine va_callv (va_runV (As := [.int 1, .int 0, .int v]) (rest := []) ⟨hx, hb, hml, hown, hts⟩ (q_setZ10 l D cI cZ o th im tr rc bg ro oa xa ya rg me sa pa za ca kp ta na a x d b0 b1 b2 z0 z1 v H.size) ⟨cB 3 hts k_845 k_62 k_842 hd_MO_setZ ⟨Nat.le_of_ble_eq_true rfl, Nat.le_of_ble_eq_true rfl⟩ rfl rfl, hts _ k_844, hts _ k_42⟩ (PcW.preV (va_recv hK hP (q0 := 0) (ci := 5) rfl rfl) hPc hK hDc hN) rfl rfl hl.1 rfl (lv_room (Nat.le_of_ble_eq_true rfl)) d_MO_plain_11 ⟨Nat.le_of_ble_eq_true rfl, Nat.le_of_ble_eq_true rfl⟩) hS (fun q _ h => hFc q h) hFc (fun u t H1 locs ht hvm e11 hB hz1 hk1 hS => ?_)
  obtain ⟨v111, zz11⟩ := u
  obtain ⟨hP1, hK1, hD1⟩ := hB
  rw [ht] at hP1
  obtain ⟨hP, hD⟩ := va_join (wr := [(ca, .inl (cZ, 2, .inl (p2 (bI c0) (bI false))))]) (w1 := [(o, .inr (5, [.int th, .ref im, .int (bI tr), .ref rc, .ref bg, .int ro, .ref oa, .ref xa, .ref ya, .ref rg, .ref me, .ref sa, .ref pa, .ref za, .ref ca, .int (bI kp), .ref ta, .ref na])), (rg, .inl (cI, 6, .inl (rg6 a x d v111 b1 b2))), (za, .inl (cZ, 2, .inl (p2 (bI z0) (bI zz11))))]) hP hD [0, 1, 2] [3] rfl rfl (by decide) (by decide) hk1 hFc hP1 hD1
  generalize H1 = H at hP hS ⊢
  try dsimp only at e11
  obtain ⟨e11_0, e11_1⟩ := e11
  replace e11_0 := e11_0.symm
  subst e11_0
  replace e11_1 := e11_1.symm
  subst e11_1
  have hP : va_P D vwCl [(ca, .inl (cZ, 2, .inl (p2 (bI c0) (bI false)))), (o, .inr (5, [.int th, .ref im, .int (bI tr), .ref rc, .ref bg, .int ro, .ref oa, .ref xa, .ref ya, .ref rg, .ref me, .ref sa, .ref pa, .ref za, .ref ca, .int (bI kp), .ref ta, .ref na])), (rg, .inl (cI, 6, .inl (rg6 a x d (v &&& 255) b1 b2))), (za, .inl (cZ, 2, .inl (p2 (bI z0) (bI (decide (v &&& 255 = 0))))))] H := hP
  have hD : va_D A [(ca, .inl (cZ, 2, .inl (p2 (bI c0) (bI false)))), (o, .inr (5, [.int th, .ref im, .int (bI tr), .ref rc, .ref bg, .int ro, .ref oa, .ref xa, .ref ya, .ref rg, .ref me, .ref sa, .ref pa, .ref za, .ref ca, .int (bI kp), .ref ta, .ref na])), (rg, .inl (cI, 6, .inl (rg6 a x d (v &&& 255) b1 b2))), (za, .inl (cZ, 2, .inl (p2 (bI z0) (bI (decide (v &&& 255 = 0))))))] := hD
  have hP9 : va_P D vwCl [(o, .inr (5, [.int th, .ref im, .int (bI tr), .ref rc, .ref bg, .int ro, .ref oa, .ref xa, .ref ya, .ref rg, .ref me, .ref sa, .ref pa, .ref za, .ref ca, .int (bI kp), .ref ta, .ref na])), (rg, .inl (cI, 6, .inl (rg6 a x d (v &&& 255) b1 b2))), (za, .inl (cZ, 2, .inl (p2 (bI z0) (bI (decide (v &&& 255 = 0)))))), (ca, .inl (cZ, 2, .inl (p2 (bI c0) (bI false))))] H := hP.sub [1, 2, 3, 0] rfl
  have hD9 : va_D A [(o, .inr (5, [.int th, .ref im, .int (bI tr), .ref rc, .ref bg, .int ro, .ref oa, .ref xa, .ref ya, .ref rg, .ref me, .ref sa, .ref pa, .ref za, .ref ca, .int (bI kp), .ref ta, .ref na])), (rg, .inl (cI, 6, .inl (rg6 a x d (v &&& 255) b1 b2))), (za, .inl (cZ, 2, .inl (p2 (bI z0) (bI (decide (v &&& 255 = 0)))))), (ca, .inl (cZ, 2, .inl (p2 (bI c0) (bI false))))] := hD.sub [1, 2, 3, 0] (by decide) rfl
  exact W.vret hx hb hr (fun t ht hW => ⟨⟨(v &&& 255, decide (v &&& 255 = 0), false), rfl, ⟨rfl, rfl, rfl⟩, by rw [ht]; exact hP9, va_K.moved hW.alike hK, hD9⟩, hS.F ht⟩) hS.2.2 d_MO_plain_14
set_option maxHeartbeats 4000000 in
set_option maxRecDepth 100000 in
theorem q_dbl10 (l : Launch) (D : va_G) (cI cZ : ClassId) (o : Nat) (th : Int32) (im : Nat) (tr : Bool) (rc : Nat) (bg : Nat) (ro : Int32) (oa : Nat) (xa : Nat) (ya : Nat) (rg : Nat) (me : Nat) (sa : Nat) (pa : Nat) (za : Nat) (ca : Nat) (kp : Bool) (ta : Nat) (na : Nat) (a : Int32) (x : Int32) (d : Int32) (b0 : Int32) (b1 : Int32) (b2 : Int32) (z0 : Bool) (z1 : Bool) (c0 : Bool) (c1 : Bool) (sz : Nat) : MetV l y_MO_doubles w_MO_doubles { frames := 2, cells := 0, slots := 0, locals := 46 } D cI cZ [.ref o, .int 1, .int 0] [(o, .inr (5, [.int th, .ref im, .int (bI tr), .ref rc, .ref bg, .int ro, .ref oa, .ref xa, .ref ya, .ref rg, .ref me, .ref sa, .ref pa, .ref za, .ref ca, .int (bI kp), .ref ta, .ref na])), (rg, .inl (cI, 6, .inl (rg6 a x d b0 b1 b2))), (za, .inl (cZ, 2, .inl (p2 (bI z0) (bI z1)))), (ca, .inl (cZ, 2, .inl (p2 (bI c0) (bI c1))))] sz (fun (u : Int32 × Bool × Bool) => match u with | (v1, zz, cy) => v1 = (2 * b0) &&& 255 ∧ zz = decide ((2 * b0) &&& 255 = 0) ∧ cy = decide (¬ b0 ≤ 127)) (fun (u : Int32 × Bool × Bool) => match u with | (v1, zz, cy) => [(o, .inr (5, [.int th, .ref im, .int (bI tr), .ref rc, .ref bg, .int ro, .ref oa, .ref xa, .ref ya, .ref rg, .ref me, .ref sa, .ref pa, .ref za, .ref ca, .int (bI kp), .ref ta, .ref na])), (rg, .inl (cI, 6, .inl (rg6 a x d v1 b1 b2))), (za, .inl (cZ, 2, .inl (p2 (bI z0) (bI zz)))), (ca, .inl (cZ, 2, .inl (p2 (bI c0) (bI cy))))]) 0 0 := by
  refine ofV (cc := c_MO_doubles) (maxL := 4) (ret := none) (by decide) rfl (Nat.le_of_ble_eq_true rfl) ?_
  intro p e s m args below meth c A H hH0 hx hb hr hlocks hts hown hnm hml ls hl hP hK hD hA hS hN
  have hown : s.vm.findClass R_MO = some m.cls := hown
  have hl : lv_has ls 4 [(0, .ref o), (1, .int 1), (2, .int 0)] := hl
  refine lv_aload_n hx hb d_MO_doubles_0 rfl (lv_at hl 0 rfl) ?_
  refine va_get (D := D) (ci := 5) (v := .ref rg) (C := R_MO) (T := T_MO) (N := 18) hx hb hts iw_MO hown hK hP 0 rfl rfl 9 (by decide) (hts _ k_704) (fun _ h9 => h9) rfl d_MO_doubles_1 ?_
  refine lv_iconst (v := 3) hx hb d_MO_doubles_4 (by decide) ?_
  refine lv_iload_n hx hb d_MO_doubles_5 rfl (lv_at hl 1 rfl) ?_
  refine lv_imul hx hb d_MO_doubles_6 ?_
  refine lv_iload_n hx hb d_MO_doubles_7 rfl (lv_at hl 2 rfl) ?_
  refine lv_iadd hx hb d_MO_doubles_8 ?_
  refine va_iald hx hb hK hP 1 0 rfl rfl (vp_in_nI (n := 3) (by decide) (by decide)) d_MO_doubles_9 ?_
  refine lv_istore_n hx hb d_MO_doubles_10 rfl hl (by decide) rfl (fun ls hl => ?_)
  have hl : lv_has ls 4 [(3, .int b0), (0, .ref o), (1, .int 1), (2, .int 0)] := hl
  refine lv_aload_n hx hb d_MO_doubles_11 rfl (lv_at hl 1 rfl) ?_
  refine va_get (D := D) (ci := 5) (v := .ref ca) (C := R_MO) (T := T_MO) (N := 18) hx hb hts iw_MO hown hK hP 0 rfl rfl 14 (by decide) (hts _ k_709) (fun _ h9 => h9) rfl d_MO_doubles_12 ?_
  refine lv_iload_n hx hb d_MO_doubles_15 rfl (lv_at hl 2 rfl) ?_
  refine lv_iload_n hx hb d_MO_doubles_16 rfl (lv_at hl 0 rfl) ?_
  refine lv_bipush (v := 127) hx hb d_MO_doubles_17 (by decide) ?_
  refine lv_icmp_le (tgt := 26) hx hb d_MO_doubles_19 rfl (fun h19 => ?_) (fun h19 => ?_)
  · refine lv_iconst (v := 0) hx hb d_MO_doubles_26 (by decide) ?_
    refine va_zast hx hb hK hP hD hS 3 1 rfl rfl (vp_in_nI (n := 1) (by decide) (by decide)) d_MO_doubles_27 (fun H locs hP hD hS => ?_)
    have hP : va_P D vwCl [(o, .inr (5, [.int th, .ref im, .int (bI tr), .ref rc, .ref bg, .int ro, .ref oa, .ref xa, .ref ya, .ref rg, .ref me, .ref sa, .ref pa, .ref za, .ref ca, .int (bI kp), .ref ta, .ref na])), (rg, .inl (cI, 6, .inl (rg6 a x d b0 b1 b2))), (za, .inl (cZ, 2, .inl (p2 (bI z0) (bI z1)))), (ca, .inl (cZ, 2, .inl (upd (p2 (bI c0) (bI c1)) 1 (bI false))))] H := hP
    have hD : va_D A [(o, .inr (5, [.int th, .ref im, .int (bI tr), .ref rc, .ref bg, .int ro, .ref oa, .ref xa, .ref ya, .ref rg, .ref me, .ref sa, .ref pa, .ref za, .ref ca, .int (bI kp), .ref ta, .ref na])), (rg, .inl (cI, 6, .inl (rg6 a x d b0 b1 b2))), (za, .inl (cZ, 2, .inl (p2 (bI z0) (bI z1)))), (ca, .inl (cZ, 2, .inl (upd (p2 (bI c0) (bI c1)) 1 (bI false))))] := hD
    rw [show upd (p2 (bI c0) (bI c1)) 1 (bI false) = p2 (bI c0) (bI false) from p2_1] at hP hD
    have hP : va_P D vwCl [(o, .inr (5, [.int th, .ref im, .int (bI tr), .ref rc, .ref bg, .int ro, .ref oa, .ref xa, .ref ya, .ref rg, .ref me, .ref sa, .ref pa, .ref za, .ref ca, .int (bI kp), .ref ta, .ref na])), (rg, .inl (cI, 6, .inl (rg6 a x d b0 b1 b2))), (za, .inl (cZ, 2, .inl (p2 (bI z0) (bI z1)))), (ca, .inl (cZ, 2, .inl (p2 (bI c0) (bI false))))] H := hP
    have hD : va_D A [(o, .inr (5, [.int th, .ref im, .int (bI tr), .ref rc, .ref bg, .int ro, .ref oa, .ref xa, .ref ya, .ref rg, .ref me, .ref sa, .ref pa, .ref za, .ref ca, .int (bI kp), .ref ta, .ref na])), (rg, .inl (cI, 6, .inl (rg6 a x d b0 b1 b2))), (za, .inl (cZ, 2, .inl (p2 (bI z0) (bI z1)))), (ca, .inl (cZ, 2, .inl (p2 (bI c0) (bI false))))] := hD
    refine lv_aload_n hx hb d_MO_doubles_28 rfl (lv_at hl 1 rfl) ?_
    refine lv_iload_n hx hb d_MO_doubles_29 rfl (lv_at hl 2 rfl) ?_
    refine lv_iload_n hx hb d_MO_doubles_30 rfl (lv_at hl 3 rfl) ?_
    refine lv_iconst (v := 2) hx hb d_MO_doubles_31 (by decide) ?_
    refine lv_iload_n hx hb d_MO_doubles_32 rfl (lv_at hl 0 rfl) ?_
    refine lv_imul hx hb d_MO_doubles_33 ?_
    have hPc := hP.sub (ws' := [(o, .inr (5, [.int th, .ref im, .int (bI tr), .ref rc, .ref bg, .int ro, .ref oa, .ref xa, .ref ya, .ref rg, .ref me, .ref sa, .ref pa, .ref za, .ref ca, .int (bI kp), .ref ta, .ref na])), (rg, .inl (cI, 6, .inl (rg6 a x d b0 b1 b2))), (za, .inl (cZ, 2, .inl (p2 (bI z0) (bI z1))))]) [0, 1, 2] rfl
    have hDc := hD.sub (ws' := [(o, .inr (5, [.int th, .ref im, .int (bI tr), .ref rc, .ref bg, .int ro, .ref oa, .ref xa, .ref ya, .ref rg, .ref me, .ref sa, .ref pa, .ref za, .ref ca, .int (bI kp), .ref ta, .ref na])), (rg, .inl (cI, 6, .inl (rg6 a x d b0 b1 b2))), (za, .inl (cZ, 2, .inl (p2 (bI z0) (bI z1))))]) [0, 1, 2] (by decide) rfl
    have hFc := va_free (wc := [(o, .inr (5, [.int th, .ref im, .int (bI tr), .ref rc, .ref bg, .int ro, .ref oa, .ref xa, .ref ya, .ref rg, .ref me, .ref sa, .ref pa, .ref za, .ref ca, .int (bI kp), .ref ta, .ref na])), (rg, .inl (cI, 6, .inl (rg6 a x d b0 b1 b2))), (za, .inl (cZ, 2, .inl (p2 (bI z0) (bI z1))))]) hD hS hA [0, 1, 2] rfl
    refine va_callv (va_runV (As := [.int 1, .int 0, .int (2 * b0)]) (rest := []) ⟨hx, hb, hml, hown, hts⟩ (q_setZ10 l D cI cZ o th im tr rc bg ro oa xa ya rg me sa pa za ca kp ta na a x d b0 b1 b2 z0 z1 (2 * b0) H.size) ⟨cB 3 hts k_845 k_62 k_842 hd_MO_setZ ⟨Nat.le_of_ble_eq_true rfl, Nat.le_of_ble_eq_true rfl⟩ rfl rfl, hts _ k_844, hts _ k_42⟩ (PcW.preV (va_recv hK hP (q0 := 0) (ci := 5) rfl rfl) hPc hK hDc hN) rfl rfl hl.1 rfl (lv_room (Nat.le_of_ble_eq_true rfl)) d_MO_doubles_34 ⟨Nat.le_of_ble_eq_true rfl, Nat.le_of_ble_eq_true rfl⟩) hS (fun q _ h => hFc q h) hFc (fun u t H1 locs ht hvm e34 hB hz1 hk1 hS => ?_)
    obtain ⟨v134, zz34⟩ := u
    obtain ⟨hP1, hK1, hD1⟩ := hB
    rw [ht] at hP1
    obtain ⟨hP, hD⟩ := va_join (wr := [(ca, .inl (cZ, 2, .inl (p2 (bI c0) (bI false))))]) (w1 := [(o, .inr (5, [.int th, .ref im, .int (bI tr), .ref rc, .ref bg, .int ro, .ref oa, .ref xa, .ref ya, .ref rg, .ref me, .ref sa, .ref pa, .ref za, .ref ca, .int (bI kp), .ref ta, .ref na])), (rg, .inl (cI, 6, .inl (rg6 a x d v134 b1 b2))), (za, .inl (cZ, 2, .inl (p2 (bI z0) (bI zz34))))]) hP hD [0, 1, 2] [3] rfl rfl (by decide) (by decide) hk1 hFc hP1 hD1
    generalize H1 = H at hP hS ⊢
    try dsimp only at e34
    obtain ⟨e34_0, e34_1⟩ := e34
    replace e34_0 := e34_0.symm
    subst e34_0
    replace e34_1 := e34_1.symm
    subst e34_1
    have hP : va_P D vwCl [(ca, .inl (cZ, 2, .inl (p2 (bI c0) (bI false)))), (o, .inr (5, [.int th, .ref im, .int (bI tr), .ref rc, .ref bg, .int ro, .ref oa, .ref xa, .ref ya, .ref rg, .ref me, .ref sa, .ref pa, .ref za, .ref ca, .int (bI kp), .ref ta, .ref na])), (rg, .inl (cI, 6, .inl (rg6 a x d ((2 * b0) &&& 255) b1 b2))), (za, .inl (cZ, 2, .inl (p2 (bI z0) (bI (decide ((2 * b0) &&& 255 = 0))))))] H := hP
    have hD : va_D A [(ca, .inl (cZ, 2, .inl (p2 (bI c0) (bI false)))), (o, .inr (5, [.int th, .ref im, .int (bI tr), .ref rc, .ref bg, .int ro, .ref oa, .ref xa, .ref ya, .ref rg, .ref me, .ref sa, .ref pa, .ref za, .ref ca, .int (bI kp), .ref ta, .ref na])), (rg, .inl (cI, 6, .inl (rg6 a x d ((2 * b0) &&& 255) b1 b2))), (za, .inl (cZ, 2, .inl (p2 (bI z0) (bI (decide ((2 * b0) &&& 255 = 0))))))] := hD
    have hP9 : va_P D vwCl [(o, .inr (5, [.int th, .ref im, .int (bI tr), .ref rc, .ref bg, .int ro, .ref oa, .ref xa, .ref ya, .ref rg, .ref me, .ref sa, .ref pa, .ref za, .ref ca, .int (bI kp), .ref ta, .ref na])), (rg, .inl (cI, 6, .inl (rg6 a x d ((2 * b0) &&& 255) b1 b2))), (za, .inl (cZ, 2, .inl (p2 (bI z0) (bI (decide ((2 * b0) &&& 255 = 0)))))), (ca, .inl (cZ, 2, .inl (p2 (bI c0) (bI false))))] H := hP.sub [1, 2, 3, 0] rfl
    have hD9 : va_D A [(o, .inr (5, [.int th, .ref im, .int (bI tr), .ref rc, .ref bg, .int ro, .ref oa, .ref xa, .ref ya, .ref rg, .ref me, .ref sa, .ref pa, .ref za, .ref ca, .int (bI kp), .ref ta, .ref na])), (rg, .inl (cI, 6, .inl (rg6 a x d ((2 * b0) &&& 255) b1 b2))), (za, .inl (cZ, 2, .inl (p2 (bI z0) (bI (decide ((2 * b0) &&& 255 = 0)))))), (ca, .inl (cZ, 2, .inl (p2 (bI c0) (bI false))))] := hD.sub [1, 2, 3, 0] (by decide) rfl
    exact W.vret hx hb hr (fun t ht hW => ⟨⟨((2 * b0) &&& 255, decide ((2 * b0) &&& 255 = 0), false), rfl, by first | (simp only [h19, ↓reduceIte, not_true_eq_false, not_false_eq_true, and_true, true_and, and_false, false_and, and_self, or_true, true_or, or_false, false_or, decide_true, decide_false, Bool.false_eq_true, reduceCtorEq]; done) | (simp_all []; done), by rw [ht]; exact hP9, va_K.moved hW.alike hK, hD9⟩, hS.F ht⟩) hS.2.2 d_MO_doubles_37
  · refine lv_iconst (v := 1) hx hb d_MO_doubles_22 (by decide) ?_
    refine lv_goto (tgt := 27) hx hb d_MO_doubles_23 rfl ?_
    refine va_zast hx hb hK hP hD hS 3 1 rfl rfl (vp_in_nI (n := 1) (by decide) (by decide)) d_MO_doubles_27 (fun H locs hP hD hS => ?_)
    have hP : va_P D vwCl [(o, .inr (5, [.int th, .ref im, .int (bI tr), .ref rc, .ref bg, .int ro, .ref oa, .ref xa, .ref ya, .ref rg, .ref me, .ref sa, .ref pa, .ref za, .ref ca, .int (bI kp), .ref ta, .ref na])), (rg, .inl (cI, 6, .inl (rg6 a x d b0 b1 b2))), (za, .inl (cZ, 2, .inl (p2 (bI z0) (bI z1)))), (ca, .inl (cZ, 2, .inl (upd (p2 (bI c0) (bI c1)) 1 (bI true))))] H := hP
    have hD : va_D A [(o, .inr (5, [.int th, .ref im, .int (bI tr), .ref rc, .ref bg, .int ro, .ref oa, .ref xa, .ref ya, .ref rg, .ref me, .ref sa, .ref pa, .ref za, .ref ca, .int (bI kp), .ref ta, .ref na])), (rg, .inl (cI, 6, .inl (rg6 a x d b0 b1 b2))), (za, .inl (cZ, 2, .inl (p2 (bI z0) (bI z1)))), (ca, .inl (cZ, 2, .inl (upd (p2 (bI c0) (bI c1)) 1 (bI true))))] := hD
    rw [show upd (p2 (bI c0) (bI c1)) 1 (bI true) = p2 (bI c0) (bI true) from p2_1] at hP hD
    have hP : va_P D vwCl [(o, .inr (5, [.int th, .ref im, .int (bI tr), .ref rc, .ref bg, .int ro, .ref oa, .ref xa, .ref ya, .ref rg, .ref me, .ref sa, .ref pa, .ref za, .ref ca, .int (bI kp), .ref ta, .ref na])), (rg, .inl (cI, 6, .inl (rg6 a x d b0 b1 b2))), (za, .inl (cZ, 2, .inl (p2 (bI z0) (bI z1)))), (ca, .inl (cZ, 2, .inl (p2 (bI c0) (bI true))))] H := hP
    have hD : va_D A [(o, .inr (5, [.int th, .ref im, .int (bI tr), .ref rc, .ref bg, .int ro, .ref oa, .ref xa, .ref ya, .ref rg, .ref me, .ref sa, .ref pa, .ref za, .ref ca, .int (bI kp), .ref ta, .ref na])), (rg, .inl (cI, 6, .inl (rg6 a x d b0 b1 b2))), (za, .inl (cZ, 2, .inl (p2 (bI z0) (bI z1)))), (ca, .inl (cZ, 2, .inl (p2 (bI c0) (bI true))))] := hD
    refine lv_aload_n hx hb d_MO_doubles_28 rfl (lv_at hl 1 rfl) ?_
    refine lv_iload_n hx hb d_MO_doubles_29 rfl (lv_at hl 2 rfl) ?_
    refine lv_iload_n hx hb d_MO_doubles_30 rfl (lv_at hl 3 rfl) ?_
    refine lv_iconst (v := 2) hx hb d_MO_doubles_31 (by decide) ?_
    refine lv_iload_n hx hb d_MO_doubles_32 rfl (lv_at hl 0 rfl) ?_
    refine lv_imul hx hb d_MO_doubles_33 ?_
    have hPc := hP.sub (ws' := [(o, .inr (5, [.int th, .ref im, .int (bI tr), .ref rc, .ref bg, .int ro, .ref oa, .ref xa, .ref ya, .ref rg, .ref me, .ref sa, .ref pa, .ref za, .ref ca, .int (bI kp), .ref ta, .ref na])), (rg, .inl (cI, 6, .inl (rg6 a x d b0 b1 b2))), (za, .inl (cZ, 2, .inl (p2 (bI z0) (bI z1))))]) [0, 1, 2] rfl
    have hDc := hD.sub (ws' := [(o, .inr (5, [.int th, .ref im, .int (bI tr), .ref rc, .ref bg, .int ro, .ref oa, .ref xa, .ref ya, .ref rg, .ref me, .ref sa, .ref pa, .ref za, .ref ca, .int (bI kp), .ref ta, .ref na])), (rg, .inl (cI, 6, .inl (rg6 a x d b0 b1 b2))), (za, .inl (cZ, 2, .inl (p2 (bI z0) (bI z1))))]) [0, 1, 2] (by decide) rfl
    have hFc := va_free (wc := [(o, .inr (5, [.int th, .ref im, .int (bI tr), .ref rc, .ref bg, .int ro, .ref oa, .ref xa, .ref ya, .ref rg, .ref me, .ref sa, .ref pa, .ref za, .ref ca, .int (bI kp), .ref ta, .ref na])), (rg, .inl (cI, 6, .inl (rg6 a x d b0 b1 b2))), (za, .inl (cZ, 2, .inl (p2 (bI z0) (bI z1))))]) hD hS hA [0, 1, 2] rfl
    refine va_callv (va_runV (As := [.int 1, .int 0, .int (2 * b0)]) (rest := []) ⟨hx, hb, hml, hown, hts⟩ (q_setZ10 l D cI cZ o th im tr rc bg ro oa xa ya rg me sa pa za ca kp ta na a x d b0 b1 b2 z0 z1 (2 * b0) H.size) ⟨cB 3 hts k_845 k_62 k_842 hd_MO_setZ ⟨Nat.le_of_ble_eq_true rfl, Nat.le_of_ble_eq_true rfl⟩ rfl rfl, hts _ k_844, hts _ k_42⟩ (PcW.preV (va_recv hK hP (q0 := 0) (ci := 5) rfl rfl) hPc hK hDc hN) rfl rfl hl.1 rfl (lv_room (Nat.le_of_ble_eq_true rfl)) d_MO_doubles_34 ⟨Nat.le_of_ble_eq_true rfl, Nat.le_of_ble_eq_true rfl⟩) hS (fun q _ h => hFc q h) hFc (fun u t H1 locs ht hvm e34 hB hz1 hk1 hS => ?_)
    obtain ⟨v134, zz34⟩ := u
    obtain ⟨hP1, hK1, hD1⟩ := hB
    rw [ht] at hP1
    obtain ⟨hP, hD⟩ := va_join (wr := [(ca, .inl (cZ, 2, .inl (p2 (bI c0) (bI true))))]) (w1 := [(o, .inr (5, [.int th, .ref im, .int (bI tr), .ref rc, .ref bg, .int ro, .ref oa, .ref xa, .ref ya, .ref rg, .ref me, .ref sa, .ref pa, .ref za, .ref ca, .int (bI kp), .ref ta, .ref na])), (rg, .inl (cI, 6, .inl (rg6 a x d v134 b1 b2))), (za, .inl (cZ, 2, .inl (p2 (bI z0) (bI zz34))))]) hP hD [0, 1, 2] [3] rfl rfl (by decide) (by decide) hk1 hFc hP1 hD1
    generalize H1 = H at hP hS ⊢
    try dsimp only at e34
    obtain ⟨e34_0, e34_1⟩ := e34
    replace e34_0 := e34_0.symm
    subst e34_0
    replace e34_1 := e34_1.symm
    subst e34_1
    have hP : va_P D vwCl [(ca, .inl (cZ, 2, .inl (p2 (bI c0) (bI true)))), (o, .inr (5, [.int th, .ref im, .int (bI tr), .ref rc, .ref bg, .int ro, .ref oa, .ref xa, .ref ya, .ref rg, .ref me, .ref sa, .ref pa, .ref za, .ref ca, .int (bI kp), .ref ta, .ref na])), (rg, .inl (cI, 6, .inl (rg6 a x d ((2 * b0) &&& 255) b1 b2))), (za, .inl (cZ, 2, .inl (p2 (bI z0) (bI (decide ((2 * b0) &&& 255 = 0))))))] H := hP
    have hD : va_D A [(ca, .inl (cZ, 2, .inl (p2 (bI c0) (bI true)))), (o, .inr (5, [.int th, .ref im, .int (bI tr), .ref rc, .ref bg, .int ro, .ref oa, .ref xa, .ref ya, .ref rg, .ref me, .ref sa, .ref pa, .ref za, .ref ca, .int (bI kp), .ref ta, .ref na])), (rg, .inl (cI, 6, .inl (rg6 a x d ((2 * b0) &&& 255) b1 b2))), (za, .inl (cZ, 2, .inl (p2 (bI z0) (bI (decide ((2 * b0) &&& 255 = 0))))))] := hD
    have hP9 : va_P D vwCl [(o, .inr (5, [.int th, .ref im, .int (bI tr), .ref rc, .ref bg, .int ro, .ref oa, .ref xa, .ref ya, .ref rg, .ref me, .ref sa, .ref pa, .ref za, .ref ca, .int (bI kp), .ref ta, .ref na])), (rg, .inl (cI, 6, .inl (rg6 a x d ((2 * b0) &&& 255) b1 b2))), (za, .inl (cZ, 2, .inl (p2 (bI z0) (bI (decide ((2 * b0) &&& 255 = 0)))))), (ca, .inl (cZ, 2, .inl (p2 (bI c0) (bI true))))] H := hP.sub [1, 2, 3, 0] rfl
    have hD9 : va_D A [(o, .inr (5, [.int th, .ref im, .int (bI tr), .ref rc, .ref bg, .int ro, .ref oa, .ref xa, .ref ya, .ref rg, .ref me, .ref sa, .ref pa, .ref za, .ref ca, .int (bI kp), .ref ta, .ref na])), (rg, .inl (cI, 6, .inl (rg6 a x d ((2 * b0) &&& 255) b1 b2))), (za, .inl (cZ, 2, .inl (p2 (bI z0) (bI (decide ((2 * b0) &&& 255 = 0)))))), (ca, .inl (cZ, 2, .inl (p2 (bI c0) (bI true))))] := hD.sub [1, 2, 3, 0] (by decide) rfl
    exact W.vret hx hb hr (fun t ht hW => ⟨⟨((2 * b0) &&& 255, decide ((2 * b0) &&& 255 = 0), true), rfl, by first | (simp only [h19, ↓reduceIte, not_true_eq_false, not_false_eq_true, and_true, true_and, and_false, false_and, and_self, or_true, true_or, or_false, false_or, decide_true, decide_false, Bool.false_eq_true, reduceCtorEq]; done) | (simp_all []; done), by rw [ht]; exact hP9, va_K.moved hW.alike hK, hD9⟩, hS.F ht⟩) hS.2.2 d_MO_doubles_37
set_option maxHeartbeats 4000000 in
set_option maxRecDepth 100000 in
theorem q_hlv10 (l : Launch) (D : va_G) (cI cZ : ClassId) (o : Nat) (th : Int32) (im : Nat) (tr : Bool) (rc : Nat) (bg : Nat) (ro : Int32) (oa : Nat) (xa : Nat) (ya : Nat) (rg : Nat) (me : Nat) (sa : Nat) (pa : Nat) (za : Nat) (ca : Nat) (kp : Bool) (ta : Nat) (na : Nat) (a : Int32) (x : Int32) (d : Int32) (b0 : Int32) (b1 : Int32) (b2 : Int32) (z0 : Bool) (z1 : Bool) (c0 : Bool) (c1 : Bool) (sz : Nat) : MetV l y_MO_halves w_MO_halves { frames := 2, cells := 0, slots := 0, locals := 46 } D cI cZ [.ref o, .int 1, .int 0] [(o, .inr (5, [.int th, .ref im, .int (bI tr), .ref rc, .ref bg, .int ro, .ref oa, .ref xa, .ref ya, .ref rg, .ref me, .ref sa, .ref pa, .ref za, .ref ca, .int (bI kp), .ref ta, .ref na])), (rg, .inl (cI, 6, .inl (rg6 a x d b0 b1 b2))), (za, .inl (cZ, 2, .inl (p2 (bI z0) (bI z1)))), (ca, .inl (cZ, 2, .inl (p2 (bI c0) (bI c1))))] sz (fun (u : Int32 × Bool × Bool) => match u with | (v1, zz, cy) => v1 = (b0 / 2) &&& 255 ∧ zz = decide ((b0 / 2) &&& 255 = 0) ∧ cy = decide (b0 - b0 / 2 * 2 = 1)) (fun (u : Int32 × Bool × Bool) => match u with | (v1, zz, cy) => [(o, .inr (5, [.int th, .ref im, .int (bI tr), .ref rc, .ref bg, .int ro, .ref oa, .ref xa, .ref ya, .ref rg, .ref me, .ref sa, .ref pa, .ref za, .ref ca, .int (bI kp), .ref ta, .ref na])), (rg, .inl (cI, 6, .inl (rg6 a x d v1 b1 b2))), (za, .inl (cZ, 2, .inl (p2 (bI z0) (bI zz)))), (ca, .inl (cZ, 2, .inl (p2 (bI c0) (bI cy))))]) 0 0 := by
  refine ofV (cc := c_MO_halves) (maxL := 4) (ret := none) (by decide) rfl (Nat.le_of_ble_eq_true rfl) ?_
  intro p e s m args below meth c A H hH0 hx hb hr hlocks hts hown hnm hml ls hl hP hK hD hA hS hN
  have hown : s.vm.findClass R_MO = some m.cls := hown
  have hl : lv_has ls 4 [(0, .ref o), (1, .int 1), (2, .int 0)] := hl
  refine lv_aload_n hx hb d_MO_halves_0 rfl (lv_at hl 0 rfl) ?_
  refine va_get (D := D) (ci := 5) (v := .ref rg) (C := R_MO) (T := T_MO) (N := 18) hx hb hts iw_MO hown hK hP 0 rfl rfl 9 (by decide) (hts _ k_704) (fun _ h9 => h9) rfl d_MO_halves_1 ?_
  refine lv_iconst (v := 3) hx hb d_MO_halves_4 (by decide) ?_
  refine lv_iload_n hx hb d_MO_halves_5 rfl (lv_at hl 1 rfl) ?_
  refine lv_imul hx hb d_MO_halves_6 ?_
  refine lv_iload_n hx hb d_MO_halves_7 rfl (lv_at hl 2 rfl) ?_
  refine lv_iadd hx hb d_MO_halves_8 ?_
  refine va_iald hx hb hK hP 1 0 rfl rfl (vp_in_nI (n := 3) (by decide) (by decide)) d_MO_halves_9 ?_
  refine lv_istore_n hx hb d_MO_halves_10 rfl hl (by decide) rfl (fun ls hl => ?_)
  have hl : lv_has ls 4 [(3, .int b0), (0, .ref o), (1, .int 1), (2, .int 0)] := hl
  refine lv_aload_n hx hb d_MO_halves_11 rfl (lv_at hl 1 rfl) ?_
  refine va_get (D := D) (ci := 5) (v := .ref ca) (C := R_MO) (T := T_MO) (N := 18) hx hb hts iw_MO hown hK hP 0 rfl rfl 14 (by decide) (hts _ k_709) (fun _ h9 => h9) rfl d_MO_halves_12 ?_
  refine lv_iload_n hx hb d_MO_halves_15 rfl (lv_at hl 2 rfl) ?_
  refine lv_iload_n hx hb d_MO_halves_16 rfl (lv_at hl 0 rfl) ?_
  refine lv_iconst (v := 2) hx hb d_MO_halves_17 (by decide) ?_
  refine lv_irem hx hb d_MO_halves_18 (by decide) ?_
  refine lv_iconst (v := 1) hx hb d_MO_halves_19 (by decide) ?_
  refine lv_icmp_ne (tgt := 27) hx hb d_MO_halves_20 rfl (fun h20 => ?_) (fun h20 => ?_)
  · refine lv_iconst (v := 0) hx hb d_MO_halves_27 (by decide) ?_
    refine va_zast hx hb hK hP hD hS 3 1 rfl rfl (vp_in_nI (n := 1) (by decide) (by decide)) d_MO_halves_28 (fun H locs hP hD hS => ?_)
    have hP : va_P D vwCl [(o, .inr (5, [.int th, .ref im, .int (bI tr), .ref rc, .ref bg, .int ro, .ref oa, .ref xa, .ref ya, .ref rg, .ref me, .ref sa, .ref pa, .ref za, .ref ca, .int (bI kp), .ref ta, .ref na])), (rg, .inl (cI, 6, .inl (rg6 a x d b0 b1 b2))), (za, .inl (cZ, 2, .inl (p2 (bI z0) (bI z1)))), (ca, .inl (cZ, 2, .inl (upd (p2 (bI c0) (bI c1)) 1 (bI false))))] H := hP
    have hD : va_D A [(o, .inr (5, [.int th, .ref im, .int (bI tr), .ref rc, .ref bg, .int ro, .ref oa, .ref xa, .ref ya, .ref rg, .ref me, .ref sa, .ref pa, .ref za, .ref ca, .int (bI kp), .ref ta, .ref na])), (rg, .inl (cI, 6, .inl (rg6 a x d b0 b1 b2))), (za, .inl (cZ, 2, .inl (p2 (bI z0) (bI z1)))), (ca, .inl (cZ, 2, .inl (upd (p2 (bI c0) (bI c1)) 1 (bI false))))] := hD
    rw [show upd (p2 (bI c0) (bI c1)) 1 (bI false) = p2 (bI c0) (bI false) from p2_1] at hP hD
    have hP : va_P D vwCl [(o, .inr (5, [.int th, .ref im, .int (bI tr), .ref rc, .ref bg, .int ro, .ref oa, .ref xa, .ref ya, .ref rg, .ref me, .ref sa, .ref pa, .ref za, .ref ca, .int (bI kp), .ref ta, .ref na])), (rg, .inl (cI, 6, .inl (rg6 a x d b0 b1 b2))), (za, .inl (cZ, 2, .inl (p2 (bI z0) (bI z1)))), (ca, .inl (cZ, 2, .inl (p2 (bI c0) (bI false))))] H := hP
    have hD : va_D A [(o, .inr (5, [.int th, .ref im, .int (bI tr), .ref rc, .ref bg, .int ro, .ref oa, .ref xa, .ref ya, .ref rg, .ref me, .ref sa, .ref pa, .ref za, .ref ca, .int (bI kp), .ref ta, .ref na])), (rg, .inl (cI, 6, .inl (rg6 a x d b0 b1 b2))), (za, .inl (cZ, 2, .inl (p2 (bI z0) (bI z1)))), (ca, .inl (cZ, 2, .inl (p2 (bI c0) (bI false))))] := hD
    refine lv_aload_n hx hb d_MO_halves_29 rfl (lv_at hl 1 rfl) ?_
    refine lv_iload_n hx hb d_MO_halves_30 rfl (lv_at hl 2 rfl) ?_
    refine lv_iload_n hx hb d_MO_halves_31 rfl (lv_at hl 3 rfl) ?_
    refine lv_iload_n hx hb d_MO_halves_32 rfl (lv_at hl 0 rfl) ?_
    refine lv_iconst (v := 2) hx hb d_MO_halves_33 (by decide) ?_
    refine lv_idiv hx hb d_MO_halves_34 (by decide) ?_
    have hPc := hP.sub (ws' := [(o, .inr (5, [.int th, .ref im, .int (bI tr), .ref rc, .ref bg, .int ro, .ref oa, .ref xa, .ref ya, .ref rg, .ref me, .ref sa, .ref pa, .ref za, .ref ca, .int (bI kp), .ref ta, .ref na])), (rg, .inl (cI, 6, .inl (rg6 a x d b0 b1 b2))), (za, .inl (cZ, 2, .inl (p2 (bI z0) (bI z1))))]) [0, 1, 2] rfl
    have hDc := hD.sub (ws' := [(o, .inr (5, [.int th, .ref im, .int (bI tr), .ref rc, .ref bg, .int ro, .ref oa, .ref xa, .ref ya, .ref rg, .ref me, .ref sa, .ref pa, .ref za, .ref ca, .int (bI kp), .ref ta, .ref na])), (rg, .inl (cI, 6, .inl (rg6 a x d b0 b1 b2))), (za, .inl (cZ, 2, .inl (p2 (bI z0) (bI z1))))]) [0, 1, 2] (by decide) rfl
    have hFc := va_free (wc := [(o, .inr (5, [.int th, .ref im, .int (bI tr), .ref rc, .ref bg, .int ro, .ref oa, .ref xa, .ref ya, .ref rg, .ref me, .ref sa, .ref pa, .ref za, .ref ca, .int (bI kp), .ref ta, .ref na])), (rg, .inl (cI, 6, .inl (rg6 a x d b0 b1 b2))), (za, .inl (cZ, 2, .inl (p2 (bI z0) (bI z1))))]) hD hS hA [0, 1, 2] rfl
    refine va_callv (va_runV (As := [.int 1, .int 0, .int (b0 / 2)]) (rest := []) ⟨hx, hb, hml, hown, hts⟩ (q_setZ10 l D cI cZ o th im tr rc bg ro oa xa ya rg me sa pa za ca kp ta na a x d b0 b1 b2 z0 z1 (b0 / 2) H.size) ⟨cB 3 hts k_845 k_62 k_842 hd_MO_setZ ⟨Nat.le_of_ble_eq_true rfl, Nat.le_of_ble_eq_true rfl⟩ rfl rfl, hts _ k_844, hts _ k_42⟩ (PcW.preV (va_recv hK hP (q0 := 0) (ci := 5) rfl rfl) hPc hK hDc hN) rfl rfl hl.1 rfl (lv_room (Nat.le_of_ble_eq_true rfl)) d_MO_halves_35 ⟨Nat.le_of_ble_eq_true rfl, Nat.le_of_ble_eq_true rfl⟩) hS (fun q _ h => hFc q h) hFc (fun u t H1 locs ht hvm e35 hB hz1 hk1 hS => ?_)
    obtain ⟨v135, zz35⟩ := u
    obtain ⟨hP1, hK1, hD1⟩ := hB
    rw [ht] at hP1
    obtain ⟨hP, hD⟩ := va_join (wr := [(ca, .inl (cZ, 2, .inl (p2 (bI c0) (bI false))))]) (w1 := [(o, .inr (5, [.int th, .ref im, .int (bI tr), .ref rc, .ref bg, .int ro, .ref oa, .ref xa, .ref ya, .ref rg, .ref me, .ref sa, .ref pa, .ref za, .ref ca, .int (bI kp), .ref ta, .ref na])), (rg, .inl (cI, 6, .inl (rg6 a x d v135 b1 b2))), (za, .inl (cZ, 2, .inl (p2 (bI z0) (bI zz35))))]) hP hD [0, 1, 2] [3] rfl rfl (by decide) (by decide) hk1 hFc hP1 hD1
    generalize H1 = H at hP hS ⊢
    try dsimp only at e35
    obtain ⟨e35_0, e35_1⟩ := e35
    replace e35_0 := e35_0.symm
    subst e35_0
    replace e35_1 := e35_1.symm
    subst e35_1
    have hP : va_P D vwCl [(ca, .inl (cZ, 2, .inl (p2 (bI c0) (bI false)))), (o, .inr (5, [.int th, .ref im, .int (bI tr), .ref rc, .ref bg, .int ro, .ref oa, .ref xa, .ref ya, .ref rg, .ref me, .ref sa, .ref pa, .ref za, .ref ca, .int (bI kp), .ref ta, .ref na])), (rg, .inl (cI, 6, .inl (rg6 a x d ((b0 / 2) &&& 255) b1 b2))), (za, .inl (cZ, 2, .inl (p2 (bI z0) (bI (decide ((b0 / 2) &&& 255 = 0))))))] H := hP
    have hD : va_D A [(ca, .inl (cZ, 2, .inl (p2 (bI c0) (bI false)))), (o, .inr (5, [.int th, .ref im, .int (bI tr), .ref rc, .ref bg, .int ro, .ref oa, .ref xa, .ref ya, .ref rg, .ref me, .ref sa, .ref pa, .ref za, .ref ca, .int (bI kp), .ref ta, .ref na])), (rg, .inl (cI, 6, .inl (rg6 a x d ((b0 / 2) &&& 255) b1 b2))), (za, .inl (cZ, 2, .inl (p2 (bI z0) (bI (decide ((b0 / 2) &&& 255 = 0))))))] := hD
    have hP9 : va_P D vwCl [(o, .inr (5, [.int th, .ref im, .int (bI tr), .ref rc, .ref bg, .int ro, .ref oa, .ref xa, .ref ya, .ref rg, .ref me, .ref sa, .ref pa, .ref za, .ref ca, .int (bI kp), .ref ta, .ref na])), (rg, .inl (cI, 6, .inl (rg6 a x d ((b0 / 2) &&& 255) b1 b2))), (za, .inl (cZ, 2, .inl (p2 (bI z0) (bI (decide ((b0 / 2) &&& 255 = 0)))))), (ca, .inl (cZ, 2, .inl (p2 (bI c0) (bI false))))] H := hP.sub [1, 2, 3, 0] rfl
    have hD9 : va_D A [(o, .inr (5, [.int th, .ref im, .int (bI tr), .ref rc, .ref bg, .int ro, .ref oa, .ref xa, .ref ya, .ref rg, .ref me, .ref sa, .ref pa, .ref za, .ref ca, .int (bI kp), .ref ta, .ref na])), (rg, .inl (cI, 6, .inl (rg6 a x d ((b0 / 2) &&& 255) b1 b2))), (za, .inl (cZ, 2, .inl (p2 (bI z0) (bI (decide ((b0 / 2) &&& 255 = 0)))))), (ca, .inl (cZ, 2, .inl (p2 (bI c0) (bI false))))] := hD.sub [1, 2, 3, 0] (by decide) rfl
    exact W.vret hx hb hr (fun t ht hW => ⟨⟨((b0 / 2) &&& 255, decide ((b0 / 2) &&& 255 = 0), false), rfl, by first | (simp only [h20, ↓reduceIte, not_true_eq_false, not_false_eq_true, and_true, true_and, and_false, false_and, and_self, or_true, true_or, or_false, false_or, decide_true, decide_false, Bool.false_eq_true, reduceCtorEq]; done) | (simp_all []; done), by rw [ht]; exact hP9, va_K.moved hW.alike hK, hD9⟩, hS.F ht⟩) hS.2.2 d_MO_halves_38
  · refine lv_iconst (v := 1) hx hb d_MO_halves_23 (by decide) ?_
    refine lv_goto (tgt := 28) hx hb d_MO_halves_24 rfl ?_
    refine va_zast hx hb hK hP hD hS 3 1 rfl rfl (vp_in_nI (n := 1) (by decide) (by decide)) d_MO_halves_28 (fun H locs hP hD hS => ?_)
    have hP : va_P D vwCl [(o, .inr (5, [.int th, .ref im, .int (bI tr), .ref rc, .ref bg, .int ro, .ref oa, .ref xa, .ref ya, .ref rg, .ref me, .ref sa, .ref pa, .ref za, .ref ca, .int (bI kp), .ref ta, .ref na])), (rg, .inl (cI, 6, .inl (rg6 a x d b0 b1 b2))), (za, .inl (cZ, 2, .inl (p2 (bI z0) (bI z1)))), (ca, .inl (cZ, 2, .inl (upd (p2 (bI c0) (bI c1)) 1 (bI true))))] H := hP
    have hD : va_D A [(o, .inr (5, [.int th, .ref im, .int (bI tr), .ref rc, .ref bg, .int ro, .ref oa, .ref xa, .ref ya, .ref rg, .ref me, .ref sa, .ref pa, .ref za, .ref ca, .int (bI kp), .ref ta, .ref na])), (rg, .inl (cI, 6, .inl (rg6 a x d b0 b1 b2))), (za, .inl (cZ, 2, .inl (p2 (bI z0) (bI z1)))), (ca, .inl (cZ, 2, .inl (upd (p2 (bI c0) (bI c1)) 1 (bI true))))] := hD
    rw [show upd (p2 (bI c0) (bI c1)) 1 (bI true) = p2 (bI c0) (bI true) from p2_1] at hP hD
    have hP : va_P D vwCl [(o, .inr (5, [.int th, .ref im, .int (bI tr), .ref rc, .ref bg, .int ro, .ref oa, .ref xa, .ref ya, .ref rg, .ref me, .ref sa, .ref pa, .ref za, .ref ca, .int (bI kp), .ref ta, .ref na])), (rg, .inl (cI, 6, .inl (rg6 a x d b0 b1 b2))), (za, .inl (cZ, 2, .inl (p2 (bI z0) (bI z1)))), (ca, .inl (cZ, 2, .inl (p2 (bI c0) (bI true))))] H := hP
    have hD : va_D A [(o, .inr (5, [.int th, .ref im, .int (bI tr), .ref rc, .ref bg, .int ro, .ref oa, .ref xa, .ref ya, .ref rg, .ref me, .ref sa, .ref pa, .ref za, .ref ca, .int (bI kp), .ref ta, .ref na])), (rg, .inl (cI, 6, .inl (rg6 a x d b0 b1 b2))), (za, .inl (cZ, 2, .inl (p2 (bI z0) (bI z1)))), (ca, .inl (cZ, 2, .inl (p2 (bI c0) (bI true))))] := hD
    refine lv_aload_n hx hb d_MO_halves_29 rfl (lv_at hl 1 rfl) ?_
    refine lv_iload_n hx hb d_MO_halves_30 rfl (lv_at hl 2 rfl) ?_
    refine lv_iload_n hx hb d_MO_halves_31 rfl (lv_at hl 3 rfl) ?_
    refine lv_iload_n hx hb d_MO_halves_32 rfl (lv_at hl 0 rfl) ?_
    refine lv_iconst (v := 2) hx hb d_MO_halves_33 (by decide) ?_
    refine lv_idiv hx hb d_MO_halves_34 (by decide) ?_
    have hPc := hP.sub (ws' := [(o, .inr (5, [.int th, .ref im, .int (bI tr), .ref rc, .ref bg, .int ro, .ref oa, .ref xa, .ref ya, .ref rg, .ref me, .ref sa, .ref pa, .ref za, .ref ca, .int (bI kp), .ref ta, .ref na])), (rg, .inl (cI, 6, .inl (rg6 a x d b0 b1 b2))), (za, .inl (cZ, 2, .inl (p2 (bI z0) (bI z1))))]) [0, 1, 2] rfl
    have hDc := hD.sub (ws' := [(o, .inr (5, [.int th, .ref im, .int (bI tr), .ref rc, .ref bg, .int ro, .ref oa, .ref xa, .ref ya, .ref rg, .ref me, .ref sa, .ref pa, .ref za, .ref ca, .int (bI kp), .ref ta, .ref na])), (rg, .inl (cI, 6, .inl (rg6 a x d b0 b1 b2))), (za, .inl (cZ, 2, .inl (p2 (bI z0) (bI z1))))]) [0, 1, 2] (by decide) rfl
    have hFc := va_free (wc := [(o, .inr (5, [.int th, .ref im, .int (bI tr), .ref rc, .ref bg, .int ro, .ref oa, .ref xa, .ref ya, .ref rg, .ref me, .ref sa, .ref pa, .ref za, .ref ca, .int (bI kp), .ref ta, .ref na])), (rg, .inl (cI, 6, .inl (rg6 a x d b0 b1 b2))), (za, .inl (cZ, 2, .inl (p2 (bI z0) (bI z1))))]) hD hS hA [0, 1, 2] rfl
    refine va_callv (va_runV (As := [.int 1, .int 0, .int (b0 / 2)]) (rest := []) ⟨hx, hb, hml, hown, hts⟩ (q_setZ10 l D cI cZ o th im tr rc bg ro oa xa ya rg me sa pa za ca kp ta na a x d b0 b1 b2 z0 z1 (b0 / 2) H.size) ⟨cB 3 hts k_845 k_62 k_842 hd_MO_setZ ⟨Nat.le_of_ble_eq_true rfl, Nat.le_of_ble_eq_true rfl⟩ rfl rfl, hts _ k_844, hts _ k_42⟩ (PcW.preV (va_recv hK hP (q0 := 0) (ci := 5) rfl rfl) hPc hK hDc hN) rfl rfl hl.1 rfl (lv_room (Nat.le_of_ble_eq_true rfl)) d_MO_halves_35 ⟨Nat.le_of_ble_eq_true rfl, Nat.le_of_ble_eq_true rfl⟩) hS (fun q _ h => hFc q h) hFc (fun u t H1 locs ht hvm e35 hB hz1 hk1 hS => ?_)
    obtain ⟨v135, zz35⟩ := u
    obtain ⟨hP1, hK1, hD1⟩ := hB
    rw [ht] at hP1
    obtain ⟨hP, hD⟩ := va_join (wr := [(ca, .inl (cZ, 2, .inl (p2 (bI c0) (bI true))))]) (w1 := [(o, .inr (5, [.int th, .ref im, .int (bI tr), .ref rc, .ref bg, .int ro, .ref oa, .ref xa, .ref ya, .ref rg, .ref me, .ref sa, .ref pa, .ref za, .ref ca, .int (bI kp), .ref ta, .ref na])), (rg, .inl (cI, 6, .inl (rg6 a x d v135 b1 b2))), (za, .inl (cZ, 2, .inl (p2 (bI z0) (bI zz35))))]) hP hD [0, 1, 2] [3] rfl rfl (by decide) (by decide) hk1 hFc hP1 hD1
    generalize H1 = H at hP hS ⊢
    try dsimp only at e35
    obtain ⟨e35_0, e35_1⟩ := e35
    replace e35_0 := e35_0.symm
    subst e35_0
    replace e35_1 := e35_1.symm
    subst e35_1
    have hP : va_P D vwCl [(ca, .inl (cZ, 2, .inl (p2 (bI c0) (bI true)))), (o, .inr (5, [.int th, .ref im, .int (bI tr), .ref rc, .ref bg, .int ro, .ref oa, .ref xa, .ref ya, .ref rg, .ref me, .ref sa, .ref pa, .ref za, .ref ca, .int (bI kp), .ref ta, .ref na])), (rg, .inl (cI, 6, .inl (rg6 a x d ((b0 / 2) &&& 255) b1 b2))), (za, .inl (cZ, 2, .inl (p2 (bI z0) (bI (decide ((b0 / 2) &&& 255 = 0))))))] H := hP
    have hD : va_D A [(ca, .inl (cZ, 2, .inl (p2 (bI c0) (bI true)))), (o, .inr (5, [.int th, .ref im, .int (bI tr), .ref rc, .ref bg, .int ro, .ref oa, .ref xa, .ref ya, .ref rg, .ref me, .ref sa, .ref pa, .ref za, .ref ca, .int (bI kp), .ref ta, .ref na])), (rg, .inl (cI, 6, .inl (rg6 a x d ((b0 / 2) &&& 255) b1 b2))), (za, .inl (cZ, 2, .inl (p2 (bI z0) (bI (decide ((b0 / 2) &&& 255 = 0))))))] := hD
    have hP9 : va_P D vwCl [(o, .inr (5, [.int th, .ref im, .int (bI tr), .ref rc, .ref bg, .int ro, .ref oa, .ref xa, .ref ya, .ref rg, .ref me, .ref sa, .ref pa, .ref za, .ref ca, .int (bI kp), .ref ta, .ref na])), (rg, .inl (cI, 6, .inl (rg6 a x d ((b0 / 2) &&& 255) b1 b2))), (za, .inl (cZ, 2, .inl (p2 (bI z0) (bI (decide ((b0 / 2) &&& 255 = 0)))))), (ca, .inl (cZ, 2, .inl (p2 (bI c0) (bI true))))] H := hP.sub [1, 2, 3, 0] rfl
    have hD9 : va_D A [(o, .inr (5, [.int th, .ref im, .int (bI tr), .ref rc, .ref bg, .int ro, .ref oa, .ref xa, .ref ya, .ref rg, .ref me, .ref sa, .ref pa, .ref za, .ref ca, .int (bI kp), .ref ta, .ref na])), (rg, .inl (cI, 6, .inl (rg6 a x d ((b0 / 2) &&& 255) b1 b2))), (za, .inl (cZ, 2, .inl (p2 (bI z0) (bI (decide ((b0 / 2) &&& 255 = 0)))))), (ca, .inl (cZ, 2, .inl (p2 (bI c0) (bI true))))] := hD.sub [1, 2, 3, 0] (by decide) rfl
    exact W.vret hx hb hr (fun t ht hW => ⟨⟨((b0 / 2) &&& 255, decide ((b0 / 2) &&& 255 = 0), true), rfl, by first | (simp only [h20, ↓reduceIte, not_true_eq_false, not_false_eq_true, and_true, true_and, and_false, false_and, and_self, or_true, true_or, or_false, false_or, decide_true, decide_false, Bool.false_eq_true, reduceCtorEq]; done) | (simp_all []; done), by rw [ht]; exact hP9, va_K.moved hW.alike hK, hD9⟩, hS.F ht⟩) hS.2.2 d_MO_halves_38
set_option maxHeartbeats 4000000 in
set_option maxRecDepth 100000 in
theorem q_adds11 (l : Launch) (D : va_G) (cI cZ : ClassId) (o : Nat) (th : Int32) (im : Nat) (tr : Bool) (rc : Nat) (bg : Nat) (ro : Int32) (oa : Nat) (xa : Nat) (ya : Nat) (rg : Nat) (me : Nat) (sa : Nat) (pa : Nat) (za : Nat) (ca : Nat) (kp : Bool) (ta : Nat) (na : Nat) (a : Int32) (x : Int32) (d : Int32) (b0 : Int32) (b1 : Int32) (b2 : Int32) (z0 : Bool) (z1 : Bool) (c0 : Bool) (c1 : Bool) (v : Int32) (cc : Int32) (sz : Nat) : MetV l y_MO_adds w_MO_adds { frames := 2, cells := 0, slots := 0, locals := 46 } D cI cZ [.ref o, .int 1, .int 1, .int v, .int cc] [(o, .inr (5, [.int th, .ref im, .int (bI tr), .ref rc, .ref bg, .int ro, .ref oa, .ref xa, .ref ya, .ref rg, .ref me, .ref sa, .ref pa, .ref za, .ref ca, .int (bI kp), .ref ta, .ref na])), (rg, .inl (cI, 6, .inl (rg6 a x d b0 b1 b2))), (za, .inl (cZ, 2, .inl (p2 (bI z0) (bI z1)))), (ca, .inl (cZ, 2, .inl (p2 (bI c0) (bI c1))))] sz (fun (u : Int32 × Bool × Bool) => match u with | (v1, zz, cy) => v1 = (b1 + v + cc) &&& 255 ∧ zz = decide ((b1 + v + cc) &&& 255 = 0) ∧ cy = decide (¬ b1 + v + cc ≤ 255)) (fun (u : Int32 × Bool × Bool) => match u with | (v1, zz, cy) => [(o, .inr (5, [.int th, .ref im, .int (bI tr), .ref rc, .ref bg, .int ro, .ref oa, .ref xa, .ref ya, .ref rg, .ref me, .ref sa, .ref pa, .ref za, .ref ca, .int (bI kp), .ref ta, .ref na])), (rg, .inl (cI, 6, .inl (rg6 a x d b0 v1 b2))), (za, .inl (cZ, 2, .inl (p2 (bI z0) (bI zz)))), (ca, .inl (cZ, 2, .inl (p2 (bI c0) (bI cy))))]) 0 0 := by
  refine ofV (cc := c_MO_adds) (maxL := 6) (ret := none) (by decide) rfl (Nat.le_of_ble_eq_true rfl) ?_
  intro p e s m args below meth c A H hH0 hx hb hr hlocks hts hown hnm hml ls hl hP hK hD hA hS hN
  have hown : s.vm.findClass R_MO = some m.cls := hown
  have hl : lv_has ls 6 [(0, .ref o), (1, .int 1), (2, .int 1), (3, .int v), (4, .int cc)] := hl
  refine lv_aload_n hx hb d_MO_adds_0 rfl (lv_at hl 0 rfl) ?_
  refine va_get (D := D) (ci := 5) (v := .ref rg) (C := R_MO) (T := T_MO) (N := 18) hx hb hts iw_MO hown hK hP 0 rfl rfl 9 (by decide) (hts _ k_704) (fun _ h9 => h9) rfl d_MO_adds_1 ?_
  refine lv_iconst (v := 3) hx hb d_MO_adds_4 (by decide) ?_
  refine lv_iload_n hx hb d_MO_adds_5 rfl (lv_at hl 1 rfl) ?_
  refine lv_imul hx hb d_MO_adds_6 ?_
  refine lv_iload_n hx hb d_MO_adds_7 rfl (lv_at hl 2 rfl) ?_
  refine lv_iadd hx hb d_MO_adds_8 ?_
  refine va_iald hx hb hK hP 1 0 rfl rfl (vp_in_nI (n := 4) (by decide) (by decide)) d_MO_adds_9 ?_
  refine lv_iload_n hx hb d_MO_adds_10 rfl (lv_at hl 3 rfl) ?_
  refine lv_iadd hx hb d_MO_adds_11 ?_
  refine lv_iload hx hb d_MO_adds_12 (lv_at hl 4 rfl) ?_
  refine lv_iadd hx hb d_MO_adds_14 ?_
  refine lv_istore hx hb d_MO_adds_15 hl (by decide) rfl (fun ls hl => ?_)
  have hl : lv_has ls 6 [(5, .int ((b1 + v) + cc)), (0, .ref o), (1, .int 1), (2, .int 1), (3, .int v), (4, .int cc)] := hl
  refine lv_aload_n hx hb d_MO_adds_17 rfl (lv_at hl 1 rfl) ?_
  refine va_get (D := D) (ci := 5) (v := .ref ca) (C := R_MO) (T := T_MO) (N := 18) hx hb hts iw_MO hown hK hP 0 rfl rfl 14 (by decide) (hts _ k_709) (fun _ h9 => h9) rfl d_MO_adds_18 ?_
  refine lv_iload_n hx hb d_MO_adds_21 rfl (lv_at hl 2 rfl) ?_
  refine lv_iload hx hb d_MO_adds_22 (lv_at hl 0 rfl) ?_
  refine lv_sipush (v := 255) hx hb d_MO_adds_24 (by decide) ?_
  refine lv_icmp_le (tgt := 34) hx hb d_MO_adds_27 rfl (fun h27 => ?_) (fun h27 => ?_)
  · refine lv_iconst (v := 0) hx hb d_MO_adds_34 (by decide) ?_
    refine va_zast hx hb hK hP hD hS 3 1 rfl rfl (vp_in_nI (n := 1) (by decide) (by decide)) d_MO_adds_35 (fun H locs hP hD hS => ?_)
    have hP : va_P D vwCl [(o, .inr (5, [.int th, .ref im, .int (bI tr), .ref rc, .ref bg, .int ro, .ref oa, .ref xa, .ref ya, .ref rg, .ref me, .ref sa, .ref pa, .ref za, .ref ca, .int (bI kp), .ref ta, .ref na])), (rg, .inl (cI, 6, .inl (rg6 a x d b0 b1 b2))), (za, .inl (cZ, 2, .inl (p2 (bI z0) (bI z1)))), (ca, .inl (cZ, 2, .inl (upd (p2 (bI c0) (bI c1)) 1 (bI false))))] H := hP
    have hD : va_D A [(o, .inr (5, [.int th, .ref im, .int (bI tr), .ref rc, .ref bg, .int ro, .ref oa, .ref xa, .ref ya, .ref rg, .ref me, .ref sa, .ref pa, .ref za, .ref ca, .int (bI kp), .ref ta, .ref na])), (rg, .inl (cI, 6, .inl (rg6 a x d b0 b1 b2))), (za, .inl (cZ, 2, .inl (p2 (bI z0) (bI z1)))), (ca, .inl (cZ, 2, .inl (upd (p2 (bI c0) (bI c1)) 1 (bI false))))] := hD
    rw [show upd (p2 (bI c0) (bI c1)) 1 (bI false) = p2 (bI c0) (bI false) from p2_1] at hP hD
    have hP : va_P D vwCl [(o, .inr (5, [.int th, .ref im, .int (bI tr), .ref rc, .ref bg, .int ro, .ref oa, .ref xa, .ref ya, .ref rg, .ref me, .ref sa, .ref pa, .ref za, .ref ca, .int (bI kp), .ref ta, .ref na])), (rg, .inl (cI, 6, .inl (rg6 a x d b0 b1 b2))), (za, .inl (cZ, 2, .inl (p2 (bI z0) (bI z1)))), (ca, .inl (cZ, 2, .inl (p2 (bI c0) (bI false))))] H := hP
    have hD : va_D A [(o, .inr (5, [.int th, .ref im, .int (bI tr), .ref rc, .ref bg, .int ro, .ref oa, .ref xa, .ref ya, .ref rg, .ref me, .ref sa, .ref pa, .ref za, .ref ca, .int (bI kp), .ref ta, .ref na])), (rg, .inl (cI, 6, .inl (rg6 a x d b0 b1 b2))), (za, .inl (cZ, 2, .inl (p2 (bI z0) (bI z1)))), (ca, .inl (cZ, 2, .inl (p2 (bI c0) (bI false))))] := hD
    refine lv_aload_n hx hb d_MO_adds_36 rfl (lv_at hl 1 rfl) ?_
    refine lv_iload_n hx hb d_MO_adds_37 rfl (lv_at hl 2 rfl) ?_
    refine lv_iload_n hx hb d_MO_adds_38 rfl (lv_at hl 3 rfl) ?_
    refine lv_iload hx hb d_MO_adds_39 (lv_at hl 0 rfl) ?_
    have hPc := hP.sub (ws' := [(o, .inr (5, [.int th, .ref im, .int (bI tr), .ref rc, .ref bg, .int ro, .ref oa, .ref xa, .ref ya, .ref rg, .ref me, .ref sa, .ref pa, .ref za, .ref ca, .int (bI kp), .ref ta, .ref na])), (rg, .inl (cI, 6, .inl (rg6 a x d b0 b1 b2))), (za, .inl (cZ, 2, .inl (p2 (bI z0) (bI z1))))]) [0, 1, 2] rfl
    have hDc := hD.sub (ws' := [(o, .inr (5, [.int th, .ref im, .int (bI tr), .ref rc, .ref bg, .int ro, .ref oa, .ref xa, .ref ya, .ref rg, .ref me, .ref sa, .ref pa, .ref za, .ref ca, .int (bI kp), .ref ta, .ref na])), (rg, .inl (cI, 6, .inl (rg6 a x d b0 b1 b2))), (za, .inl (cZ, 2, .inl (p2 (bI z0) (bI z1))))]) [0, 1, 2] (by decide) rfl
    have hFc := va_free (wc := [(o, .inr (5, [.int th, .ref im, .int (bI tr), .ref rc, .ref bg, .int ro, .ref oa, .ref xa, .ref ya, .ref rg, .ref me, .ref sa, .ref pa, .ref za, .ref ca, .int (bI kp), .ref ta, .ref na])), (rg, .inl (cI, 6, .inl (rg6 a x d b0 b1 b2))), (za, .inl (cZ, 2, .inl (p2 (bI z0) (bI z1))))]) hD hS hA [0, 1, 2] rfl
    refine va_callv (va_runV (As := [.int 1, .int 1, .int ((b1 + v) + cc)]) (rest := []) ⟨hx, hb, hml, hown, hts⟩ (q_setZ11 l D cI cZ o th im tr rc bg ro oa xa ya rg me sa pa za ca kp ta na a x d b0 b1 b2 z0 z1 ((b1 + v) + cc) H.size) ⟨cB 3 hts k_845 k_62 k_842 hd_MO_setZ ⟨Nat.le_of_ble_eq_true rfl, Nat.le_of_ble_eq_true rfl⟩ rfl rfl, hts _ k_844, hts _ k_42⟩ (PcW.preV (va_recv hK hP (q0 := 0) (ci := 5) rfl rfl) hPc hK hDc hN) rfl rfl hl.1 rfl (lv_room (Nat.le_of_ble_eq_true rfl)) d_MO_adds_41 ⟨Nat.le_of_ble_eq_true rfl, Nat.le_of_ble_eq_true rfl⟩) hS (fun q _ h => hFc q h) hFc (fun u t H1 locs ht hvm e41 hB hz1 hk1 hS => ?_)
    obtain ⟨v141, zz41⟩ := u
    obtain ⟨hP1, hK1, hD1⟩ := hB
    rw [ht] at hP1
    obtain ⟨hP, hD⟩ := va_join (wr := [(ca, .inl (cZ, 2, .inl (p2 (bI c0) (bI false))))]) (w1 := [(o, .inr (5, [.int th, .ref im, .int (bI tr), .ref rc, .ref bg, .int ro, .ref oa, .ref xa, .ref ya, .ref rg, .ref me, .ref sa, .ref pa, .ref za, .ref ca, .int (bI kp), .ref ta, .ref na])), (rg, .inl (cI, 6, .inl (rg6 a x d b0 v141 b2))), (za, .inl (cZ, 2, .inl (p2 (bI z0) (bI zz41))))]) hP hD [0, 1, 2] [3] rfl rfl (by decide) (by decide) hk1 hFc hP1 hD1
    generalize H1 = H at hP hS ⊢
    try dsimp only at e41
    obtain ⟨e41_0, e41_1⟩ := e41
    replace e41_0 := e41_0.symm
    subst e41_0
    replace e41_1 := e41_1.symm
    subst e41_1
    have hP : va_P D vwCl [(ca, .inl (cZ, 2, .inl (p2 (bI c0) (bI false)))), (o, .inr (5, [.int th, .ref im, .int (bI tr), .ref rc, .ref bg, .int ro, .ref oa, .ref xa, .ref ya, .ref rg, .ref me, .ref sa, .ref pa, .ref za, .ref ca, .int (bI kp), .ref ta, .ref na])), (rg, .inl (cI, 6, .inl (rg6 a x d b0 (((b1 + v) + cc) &&& 255) b2))), (za, .inl (cZ, 2, .inl (p2 (bI z0) (bI (decide (((b1 + v) + cc) &&& 255 = 0))))))] H := hP
    have hD : va_D A [(ca, .inl (cZ, 2, .inl (p2 (bI c0) (bI false)))), (o, .inr (5, [.int th, .ref im, .int (bI tr), .ref rc, .ref bg, .int ro, .ref oa, .ref xa, .ref ya, .ref rg, .ref me, .ref sa, .ref pa, .ref za, .ref ca, .int (bI kp), .ref ta, .ref na])), (rg, .inl (cI, 6, .inl (rg6 a x d b0 (((b1 + v) + cc) &&& 255) b2))), (za, .inl (cZ, 2, .inl (p2 (bI z0) (bI (decide (((b1 + v) + cc) &&& 255 = 0))))))] := hD
    have hP9 : va_P D vwCl [(o, .inr (5, [.int th, .ref im, .int (bI tr), .ref rc, .ref bg, .int ro, .ref oa, .ref xa, .ref ya, .ref rg, .ref me, .ref sa, .ref pa, .ref za, .ref ca, .int (bI kp), .ref ta, .ref na])), (rg, .inl (cI, 6, .inl (rg6 a x d b0 (((b1 + v) + cc) &&& 255) b2))), (za, .inl (cZ, 2, .inl (p2 (bI z0) (bI (decide (((b1 + v) + cc) &&& 255 = 0)))))), (ca, .inl (cZ, 2, .inl (p2 (bI c0) (bI false))))] H := hP.sub [1, 2, 3, 0] rfl
    have hD9 : va_D A [(o, .inr (5, [.int th, .ref im, .int (bI tr), .ref rc, .ref bg, .int ro, .ref oa, .ref xa, .ref ya, .ref rg, .ref me, .ref sa, .ref pa, .ref za, .ref ca, .int (bI kp), .ref ta, .ref na])), (rg, .inl (cI, 6, .inl (rg6 a x d b0 (((b1 + v) + cc) &&& 255) b2))), (za, .inl (cZ, 2, .inl (p2 (bI z0) (bI (decide (((b1 + v) + cc) &&& 255 = 0)))))), (ca, .inl (cZ, 2, .inl (p2 (bI c0) (bI false))))] := hD.sub [1, 2, 3, 0] (by decide) rfl
    exact W.vret hx hb hr (fun t ht hW => ⟨⟨(((b1 + v) + cc) &&& 255, decide (((b1 + v) + cc) &&& 255 = 0), false), rfl, by first | (simp only [h27, ↓reduceIte, not_true_eq_false, not_false_eq_true, and_true, true_and, and_false, false_and, and_self, or_true, true_or, or_false, false_or, decide_true, decide_false, Bool.false_eq_true, reduceCtorEq]; done) | (simp_all []; done), by rw [ht]; exact hP9, va_K.moved hW.alike hK, hD9⟩, hS.F ht⟩) hS.2.2 d_MO_adds_44
  · refine lv_iconst (v := 1) hx hb d_MO_adds_30 (by decide) ?_
    refine lv_goto (tgt := 35) hx hb d_MO_adds_31 rfl ?_
    refine va_zast hx hb hK hP hD hS 3 1 rfl rfl (vp_in_nI (n := 1) (by decide) (by decide)) d_MO_adds_35 (fun H locs hP hD hS => ?_)
    have hP : va_P D vwCl [(o, .inr (5, [.int th, .ref im, .int (bI tr), .ref rc, .ref bg, .int ro, .ref oa, .ref xa, .ref ya, .ref rg, .ref me, .ref sa, .ref pa, .ref za, .ref ca, .int (bI kp), .ref ta, .ref na])), (rg, .inl (cI, 6, .inl (rg6 a x d b0 b1 b2))), (za, .inl (cZ, 2, .inl (p2 (bI z0) (bI z1)))), (ca, .inl (cZ, 2, .inl (upd (p2 (bI c0) (bI c1)) 1 (bI true))))] H := hP
    have hD : va_D A [(o, .inr (5, [.int th, .ref im, .int (bI tr), .ref rc, .ref bg, .int ro, .ref oa, .ref xa, .ref ya, .ref rg, .ref me, .ref sa, .ref pa, .ref za, .ref ca, .int (bI kp), .ref ta, .ref na])), (rg, .inl (cI, 6, .inl (rg6 a x d b0 b1 b2))), (za, .inl (cZ, 2, .inl (p2 (bI z0) (bI z1)))), (ca, .inl (cZ, 2, .inl (upd (p2 (bI c0) (bI c1)) 1 (bI true))))] := hD
    rw [show upd (p2 (bI c0) (bI c1)) 1 (bI true) = p2 (bI c0) (bI true) from p2_1] at hP hD
    have hP : va_P D vwCl [(o, .inr (5, [.int th, .ref im, .int (bI tr), .ref rc, .ref bg, .int ro, .ref oa, .ref xa, .ref ya, .ref rg, .ref me, .ref sa, .ref pa, .ref za, .ref ca, .int (bI kp), .ref ta, .ref na])), (rg, .inl (cI, 6, .inl (rg6 a x d b0 b1 b2))), (za, .inl (cZ, 2, .inl (p2 (bI z0) (bI z1)))), (ca, .inl (cZ, 2, .inl (p2 (bI c0) (bI true))))] H := hP
    have hD : va_D A [(o, .inr (5, [.int th, .ref im, .int (bI tr), .ref rc, .ref bg, .int ro, .ref oa, .ref xa, .ref ya, .ref rg, .ref me, .ref sa, .ref pa, .ref za, .ref ca, .int (bI kp), .ref ta, .ref na])), (rg, .inl (cI, 6, .inl (rg6 a x d b0 b1 b2))), (za, .inl (cZ, 2, .inl (p2 (bI z0) (bI z1)))), (ca, .inl (cZ, 2, .inl (p2 (bI c0) (bI true))))] := hD
    refine lv_aload_n hx hb d_MO_adds_36 rfl (lv_at hl 1 rfl) ?_
    refine lv_iload_n hx hb d_MO_adds_37 rfl (lv_at hl 2 rfl) ?_
    refine lv_iload_n hx hb d_MO_adds_38 rfl (lv_at hl 3 rfl) ?_
    refine lv_iload hx hb d_MO_adds_39 (lv_at hl 0 rfl) ?_
    have hPc := hP.sub (ws' := [(o, .inr (5, [.int th, .ref im, .int (bI tr), .ref rc, .ref bg, .int ro, .ref oa, .ref xa, .ref ya, .ref rg, .ref me, .ref sa, .ref pa, .ref za, .ref ca, .int (bI kp), .ref ta, .ref na])), (rg, .inl (cI, 6, .inl (rg6 a x d b0 b1 b2))), (za, .inl (cZ, 2, .inl (p2 (bI z0) (bI z1))))]) [0, 1, 2] rfl
    have hDc := hD.sub (ws' := [(o, .inr (5, [.int th, .ref im, .int (bI tr), .ref rc, .ref bg, .int ro, .ref oa, .ref xa, .ref ya, .ref rg, .ref me, .ref sa, .ref pa, .ref za, .ref ca, .int (bI kp), .ref ta, .ref na])), (rg, .inl (cI, 6, .inl (rg6 a x d b0 b1 b2))), (za, .inl (cZ, 2, .inl (p2 (bI z0) (bI z1))))]) [0, 1, 2] (by decide) rfl
    have hFc := va_free (wc := [(o, .inr (5, [.int th, .ref im, .int (bI tr), .ref rc, .ref bg, .int ro, .ref oa, .ref xa, .ref ya, .ref rg, .ref me, .ref sa, .ref pa, .ref za, .ref ca, .int (bI kp), .ref ta, .ref na])), (rg, .inl (cI, 6, .inl (rg6 a x d b0 b1 b2))), (za, .inl (cZ, 2, .inl (p2 (bI z0) (bI z1))))]) hD hS hA [0, 1, 2] rfl
    refine va_callv (va_runV (As := [.int 1, .int 1, .int ((b1 + v) + cc)]) (rest := []) ⟨hx, hb, hml, hown, hts⟩ (q_setZ11 l D cI cZ o th im tr rc bg ro oa xa ya rg me sa pa za ca kp ta na a x d b0 b1 b2 z0 z1 ((b1 + v) + cc) H.size) ⟨cB 3 hts k_845 k_62 k_842 hd_MO_setZ ⟨Nat.le_of_ble_eq_true rfl, Nat.le_of_ble_eq_true rfl⟩ rfl rfl, hts _ k_844, hts _ k_42⟩ (PcW.preV (va_recv hK hP (q0 := 0) (ci := 5) rfl rfl) hPc hK hDc hN) rfl rfl hl.1 rfl (lv_room (Nat.le_of_ble_eq_true rfl)) d_MO_adds_41 ⟨Nat.le_of_ble_eq_true rfl, Nat.le_of_ble_eq_true rfl⟩) hS (fun q _ h => hFc q h) hFc (fun u t H1 locs ht hvm e41 hB hz1 hk1 hS => ?_)
    obtain ⟨v141, zz41⟩ := u
    obtain ⟨hP1, hK1, hD1⟩ := hB
    rw [ht] at hP1
    obtain ⟨hP, hD⟩ := va_join (wr := [(ca, .inl (cZ, 2, .inl (p2 (bI c0) (bI true))))]) (w1 := [(o, .inr (5, [.int th, .ref im, .int (bI tr), .ref rc, .ref bg, .int ro, .ref oa, .ref xa, .ref ya, .ref rg, .ref me, .ref sa, .ref pa, .ref za, .ref ca, .int (bI kp), .ref ta, .ref na])), (rg, .inl (cI, 6, .inl (rg6 a x d b0 v141 b2))), (za, .inl (cZ, 2, .inl (p2 (bI z0) (bI zz41))))]) hP hD [0, 1, 2] [3] rfl rfl (by decide) (by decide) hk1 hFc hP1 hD1
    generalize H1 = H at hP hS ⊢
    try dsimp only at e41
    obtain ⟨e41_0, e41_1⟩ := e41
    replace e41_0 := e41_0.symm
    subst e41_0
    replace e41_1 := e41_1.symm
    subst e41_1
    have hP : va_P D vwCl [(ca, .inl (cZ, 2, .inl (p2 (bI c0) (bI true)))), (o, .inr (5, [.int th, .ref im, .int (bI tr), .ref rc, .ref bg, .int ro, .ref oa, .ref xa, .ref ya, .ref rg, .ref me, .ref sa, .ref pa, .ref za, .ref ca, .int (bI kp), .ref ta, .ref na])), (rg, .inl (cI, 6, .inl (rg6 a x d b0 (((b1 + v) + cc) &&& 255) b2))), (za, .inl (cZ, 2, .inl (p2 (bI z0) (bI (decide (((b1 + v) + cc) &&& 255 = 0))))))] H := hP
    have hD : va_D A [(ca, .inl (cZ, 2, .inl (p2 (bI c0) (bI true)))), (o, .inr (5, [.int th, .ref im, .int (bI tr), .ref rc, .ref bg, .int ro, .ref oa, .ref xa, .ref ya, .ref rg, .ref me, .ref sa, .ref pa, .ref za, .ref ca, .int (bI kp), .ref ta, .ref na])), (rg, .inl (cI, 6, .inl (rg6 a x d b0 (((b1 + v) + cc) &&& 255) b2))), (za, .inl (cZ, 2, .inl (p2 (bI z0) (bI (decide (((b1 + v) + cc) &&& 255 = 0))))))] := hD
    have hP9 : va_P D vwCl [(o, .inr (5, [.int th, .ref im, .int (bI tr), .ref rc, .ref bg, .int ro, .ref oa, .ref xa, .ref ya, .ref rg, .ref me, .ref sa, .ref pa, .ref za, .ref ca, .int (bI kp), .ref ta, .ref na])), (rg, .inl (cI, 6, .inl (rg6 a x d b0 (((b1 + v) + cc) &&& 255) b2))), (za, .inl (cZ, 2, .inl (p2 (bI z0) (bI (decide (((b1 + v) + cc) &&& 255 = 0)))))), (ca, .inl (cZ, 2, .inl (p2 (bI c0) (bI true))))] H := hP.sub [1, 2, 3, 0] rfl
    have hD9 : va_D A [(o, .inr (5, [.int th, .ref im, .int (bI tr), .ref rc, .ref bg, .int ro, .ref oa, .ref xa, .ref ya, .ref rg, .ref me, .ref sa, .ref pa, .ref za, .ref ca, .int (bI kp), .ref ta, .ref na])), (rg, .inl (cI, 6, .inl (rg6 a x d b0 (((b1 + v) + cc) &&& 255) b2))), (za, .inl (cZ, 2, .inl (p2 (bI z0) (bI (decide (((b1 + v) + cc) &&& 255 = 0)))))), (ca, .inl (cZ, 2, .inl (p2 (bI c0) (bI true))))] := hD.sub [1, 2, 3, 0] (by decide) rfl
    exact W.vret hx hb hr (fun t ht hW => ⟨⟨(((b1 + v) + cc) &&& 255, decide (((b1 + v) + cc) &&& 255 = 0), true), rfl, by first | (simp only [h27, ↓reduceIte, not_true_eq_false, not_false_eq_true, and_true, true_and, and_false, false_and, and_self, or_true, true_or, or_false, false_or, decide_true, decide_false, Bool.false_eq_true, reduceCtorEq]; done) | (simp_all []; done), by rw [ht]; exact hP9, va_K.moved hW.alike hK, hD9⟩, hS.F ht⟩) hS.2.2 d_MO_adds_44
set_option maxHeartbeats 4000000 in
set_option maxRecDepth 100000 in
theorem q_subs11 (l : Launch) (D : va_G) (cI cZ : ClassId) (o : Nat) (th : Int32) (im : Nat) (tr : Bool) (rc : Nat) (bg : Nat) (ro : Int32) (oa : Nat) (xa : Nat) (ya : Nat) (rg : Nat) (me : Nat) (sa : Nat) (pa : Nat) (za : Nat) (ca : Nat) (kp : Bool) (ta : Nat) (na : Nat) (a : Int32) (x : Int32) (d : Int32) (b0 : Int32) (b1 : Int32) (b2 : Int32) (z0 : Bool) (z1 : Bool) (c0 : Bool) (c1 : Bool) (v : Int32) (sy : Bool) (sz : Nat) : MetV l y_MO_subtracts w_MO_subtracts { frames := 2, cells := 0, slots := 0, locals := 46 } D cI cZ [.ref o, .int 1, .int 1, .int v, .int (bI sy)] [(o, .inr (5, [.int th, .ref im, .int (bI tr), .ref rc, .ref bg, .int ro, .ref oa, .ref xa, .ref ya, .ref rg, .ref me, .ref sa, .ref pa, .ref za, .ref ca, .int (bI kp), .ref ta, .ref na])), (rg, .inl (cI, 6, .inl (rg6 a x d b0 b1 b2))), (za, .inl (cZ, 2, .inl (p2 (bI z0) (bI z1)))), (ca, .inl (cZ, 2, .inl (p2 (bI c0) (bI c1))))] sz (fun (u : Int32 × Bool × Bool) => match u with | (v1, zz, cy) => v1 = (if sy = true then b1 &&& 255 else (b1 - v) &&& 255) ∧ zz = decide ((b1 - v) &&& 255 = 0) ∧ cy = decide (¬ v ≤ b1)) (fun (u : Int32 × Bool × Bool) => match u with | (v1, zz, cy) => [(o, .inr (5, [.int th, .ref im, .int (bI tr), .ref rc, .ref bg, .int ro, .ref oa, .ref xa, .ref ya, .ref rg, .ref me, .ref sa, .ref pa, .ref za, .ref ca, .int (bI kp), .ref ta, .ref na])), (rg, .inl (cI, 6, .inl (rg6 a x d b0 v1 b2))), (za, .inl (cZ, 2, .inl (p2 (bI z0) (bI zz)))), (ca, .inl (cZ, 2, .inl (p2 (bI c0) (bI cy))))]) 0 0 := by
  refine ofV (cc := c_MO_subtracts) (maxL := 6) (ret := none) (by decide) rfl (Nat.le_of_ble_eq_true rfl) ?_
  intro p e s m args below meth c A H hH0 hx hb hr hlocks hts hown hnm hml ls hl hP hK hD hA hS hN
  have hown : s.vm.findClass R_MO = some m.cls := hown
  have hl : lv_has ls 6 [(0, .ref o), (1, .int 1), (2, .int 1), (3, .int v), (4, .int (bI sy))] := hl
  refine lv_aload_n hx hb d_MO_subtracts_0 rfl (lv_at hl 0 rfl) ?_
  refine va_get (D := D) (ci := 5) (v := .ref rg) (C := R_MO) (T := T_MO) (N := 18) hx hb hts iw_MO hown hK hP 0 rfl rfl 9 (by decide) (hts _ k_704) (fun _ h9 => h9) rfl d_MO_subtracts_1 ?_
  refine lv_iconst (v := 3) hx hb d_MO_subtracts_4 (by decide) ?_
  refine lv_iload_n hx hb d_MO_subtracts_5 rfl (lv_at hl 1 rfl) ?_
  refine lv_imul hx hb d_MO_subtracts_6 ?_
  refine lv_iload_n hx hb d_MO_subtracts_7 rfl (lv_at hl 2 rfl) ?_
  refine lv_iadd hx hb d_MO_subtracts_8 ?_
  refine va_iald hx hb hK hP 1 0 rfl rfl (vp_in_nI (n := 4) (by decide) (by decide)) d_MO_subtracts_9 ?_
  refine lv_istore hx hb d_MO_subtracts_10 hl (by decide) rfl (fun ls hl => ?_)
  have hl : lv_has ls 6 [(5, .int b1), (0, .ref o), (1, .int 1), (2, .int 1), (3, .int v), (4, .int (bI sy))] := hl
  refine lv_aload_n hx hb d_MO_subtracts_12 rfl (lv_at hl 1 rfl) ?_
  refine va_get (D := D) (ci := 5) (v := .ref ca) (C := R_MO) (T := T_MO) (N := 18) hx hb hts iw_MO hown hK hP 0 rfl rfl 14 (by decide) (hts _ k_709) (fun _ h9 => h9) rfl d_MO_subtracts_13 ?_
  refine lv_iload_n hx hb d_MO_subtracts_16 rfl (lv_at hl 2 rfl) ?_
  refine lv_iload_n hx hb d_MO_subtracts_17 rfl (lv_at hl 4 rfl) ?_
  refine lv_iload hx hb d_MO_subtracts_18 (lv_at hl 0 rfl) ?_
  refine lv_icmp_le (tgt := 27) hx hb d_MO_subtracts_20 rfl (fun h20 => ?_) (fun h20 => ?_)
  · refine lv_iconst (v := 0) hx hb d_MO_subtracts_27 (by decide) ?_
    refine va_zast hx hb hK hP hD hS 3 1 rfl rfl (vp_in_nI (n := 1) (by decide) (by decide)) d_MO_subtracts_28 (fun H locs hP hD hS => ?_)
    have hP : va_P D vwCl [(o, .inr (5, [.int th, .ref im, .int (bI tr), .ref rc, .ref bg, .int ro, .ref oa, .ref xa, .ref ya, .ref rg, .ref me, .ref sa, .ref pa, .ref za, .ref ca, .int (bI kp), .ref ta, .ref na])), (rg, .inl (cI, 6, .inl (rg6 a x d b0 b1 b2))), (za, .inl (cZ, 2, .inl (p2 (bI z0) (bI z1)))), (ca, .inl (cZ, 2, .inl (upd (p2 (bI c0) (bI c1)) 1 (bI false))))] H := hP
    have hD : va_D A [(o, .inr (5, [.int th, .ref im, .int (bI tr), .ref rc, .ref bg, .int ro, .ref oa, .ref xa, .ref ya, .ref rg, .ref me, .ref sa, .ref pa, .ref za, .ref ca, .int (bI kp), .ref ta, .ref na])), (rg, .inl (cI, 6, .inl (rg6 a x d b0 b1 b2))), (za, .inl (cZ, 2, .inl (p2 (bI z0) (bI z1)))), (ca, .inl (cZ, 2, .inl (upd (p2 (bI c0) (bI c1)) 1 (bI false))))] := hD
    rw [show upd (p2 (bI c0) (bI c1)) 1 (bI false) = p2 (bI c0) (bI false) from p2_1] at hP hD
    have hP : va_P D vwCl [(o, .inr (5, [.int th, .ref im, .int (bI tr), .ref rc, .ref bg, .int ro, .ref oa, .ref xa, .ref ya, .ref rg, .ref me, .ref sa, .ref pa, .ref za, .ref ca, .int (bI kp), .ref ta, .ref na])), (rg, .inl (cI, 6, .inl (rg6 a x d b0 b1 b2))), (za, .inl (cZ, 2, .inl (p2 (bI z0) (bI z1)))), (ca, .inl (cZ, 2, .inl (p2 (bI c0) (bI false))))] H := hP
    have hD : va_D A [(o, .inr (5, [.int th, .ref im, .int (bI tr), .ref rc, .ref bg, .int ro, .ref oa, .ref xa, .ref ya, .ref rg, .ref me, .ref sa, .ref pa, .ref za, .ref ca, .int (bI kp), .ref ta, .ref na])), (rg, .inl (cI, 6, .inl (rg6 a x d b0 b1 b2))), (za, .inl (cZ, 2, .inl (p2 (bI z0) (bI z1)))), (ca, .inl (cZ, 2, .inl (p2 (bI c0) (bI false))))] := hD
    refine lv_aload_n hx hb d_MO_subtracts_29 rfl (lv_at hl 1 rfl) ?_
    refine lv_iload_n hx hb d_MO_subtracts_30 rfl (lv_at hl 2 rfl) ?_
    refine lv_iload_n hx hb d_MO_subtracts_31 rfl (lv_at hl 3 rfl) ?_
    refine lv_iload hx hb d_MO_subtracts_32 (lv_at hl 0 rfl) ?_
    refine lv_iload_n hx hb d_MO_subtracts_34 rfl (lv_at hl 4 rfl) ?_
    refine lv_isub hx hb d_MO_subtracts_35 ?_
    have hPc := hP.sub (ws' := [(o, .inr (5, [.int th, .ref im, .int (bI tr), .ref rc, .ref bg, .int ro, .ref oa, .ref xa, .ref ya, .ref rg, .ref me, .ref sa, .ref pa, .ref za, .ref ca, .int (bI kp), .ref ta, .ref na])), (rg, .inl (cI, 6, .inl (rg6 a x d b0 b1 b2))), (za, .inl (cZ, 2, .inl (p2 (bI z0) (bI z1))))]) [0, 1, 2] rfl
    have hDc := hD.sub (ws' := [(o, .inr (5, [.int th, .ref im, .int (bI tr), .ref rc, .ref bg, .int ro, .ref oa, .ref xa, .ref ya, .ref rg, .ref me, .ref sa, .ref pa, .ref za, .ref ca, .int (bI kp), .ref ta, .ref na])), (rg, .inl (cI, 6, .inl (rg6 a x d b0 b1 b2))), (za, .inl (cZ, 2, .inl (p2 (bI z0) (bI z1))))]) [0, 1, 2] (by decide) rfl
    have hFc := va_free (wc := [(o, .inr (5, [.int th, .ref im, .int (bI tr), .ref rc, .ref bg, .int ro, .ref oa, .ref xa, .ref ya, .ref rg, .ref me, .ref sa, .ref pa, .ref za, .ref ca, .int (bI kp), .ref ta, .ref na])), (rg, .inl (cI, 6, .inl (rg6 a x d b0 b1 b2))), (za, .inl (cZ, 2, .inl (p2 (bI z0) (bI z1))))]) hD hS hA [0, 1, 2] rfl
    refine va_callv (va_runV (As := [.int 1, .int 1, .int (b1 - v)]) (rest := []) ⟨hx, hb, hml, hown, hts⟩ (q_setZ11 l D cI cZ o th im tr rc bg ro oa xa ya rg me sa pa za ca kp ta na a x d b0 b1 b2 z0 z1 (b1 - v) H.size) ⟨cB 3 hts k_845 k_62 k_842 hd_MO_setZ ⟨Nat.le_of_ble_eq_true rfl, Nat.le_of_ble_eq_true rfl⟩ rfl rfl, hts _ k_844, hts _ k_42⟩ (PcW.preV (va_recv hK hP (q0 := 0) (ci := 5) rfl rfl) hPc hK hDc hN) rfl rfl hl.1 rfl (lv_room (Nat.le_of_ble_eq_true rfl)) d_MO_subtracts_36 ⟨Nat.le_of_ble_eq_true rfl, Nat.le_of_ble_eq_true rfl⟩) hS (fun q _ h => hFc q h) hFc (fun u t H1 locs ht hvm e36 hB hz1 hk1 hS => ?_)
    obtain ⟨v136, zz36⟩ := u
    obtain ⟨hP1, hK1, hD1⟩ := hB
    rw [ht] at hP1
    obtain ⟨hP, hD⟩ := va_join (wr := [(ca, .inl (cZ, 2, .inl (p2 (bI c0) (bI false))))]) (w1 := [(o, .inr (5, [.int th, .ref im, .int (bI tr), .ref rc, .ref bg, .int ro, .ref oa, .ref xa, .ref ya, .ref rg, .ref me, .ref sa, .ref pa, .ref za, .ref ca, .int (bI kp), .ref ta, .ref na])), (rg, .inl (cI, 6, .inl (rg6 a x d b0 v136 b2))), (za, .inl (cZ, 2, .inl (p2 (bI z0) (bI zz36))))]) hP hD [0, 1, 2] [3] rfl rfl (by decide) (by decide) hk1 hFc hP1 hD1
    generalize H1 = H at hP hS ⊢
    try dsimp only at e36
    obtain ⟨e36_0, e36_1⟩ := e36
    replace e36_0 := e36_0.symm
    subst e36_0
    replace e36_1 := e36_1.symm
    subst e36_1
    have hP : va_P D vwCl [(ca, .inl (cZ, 2, .inl (p2 (bI c0) (bI false)))), (o, .inr (5, [.int th, .ref im, .int (bI tr), .ref rc, .ref bg, .int ro, .ref oa, .ref xa, .ref ya, .ref rg, .ref me, .ref sa, .ref pa, .ref za, .ref ca, .int (bI kp), .ref ta, .ref na])), (rg, .inl (cI, 6, .inl (rg6 a x d b0 ((b1 - v) &&& 255) b2))), (za, .inl (cZ, 2, .inl (p2 (bI z0) (bI (decide ((b1 - v) &&& 255 = 0))))))] H := hP
    have hD : va_D A [(ca, .inl (cZ, 2, .inl (p2 (bI c0) (bI false)))), (o, .inr (5, [.int th, .ref im, .int (bI tr), .ref rc, .ref bg, .int ro, .ref oa, .ref xa, .ref ya, .ref rg, .ref me, .ref sa, .ref pa, .ref za, .ref ca, .int (bI kp), .ref ta, .ref na])), (rg, .inl (cI, 6, .inl (rg6 a x d b0 ((b1 - v) &&& 255) b2))), (za, .inl (cZ, 2, .inl (p2 (bI z0) (bI (decide ((b1 - v) &&& 255 = 0))))))] := hD
    refine lv_iload hx hb d_MO_subtracts_39 (lv_at hl 5 rfl) ?_
    refine lv_if_eq (tgt := 52) hx hb d_MO_subtracts_41 rfl (fun h41 => ?_) (fun h41 => ?_)
    · have h41 : sy = false := bI_f h41
      have hP9 : va_P D vwCl [(o, .inr (5, [.int th, .ref im, .int (bI tr), .ref rc, .ref bg, .int ro, .ref oa, .ref xa, .ref ya, .ref rg, .ref me, .ref sa, .ref pa, .ref za, .ref ca, .int (bI kp), .ref ta, .ref na])), (rg, .inl (cI, 6, .inl (rg6 a x d b0 ((b1 - v) &&& 255) b2))), (za, .inl (cZ, 2, .inl (p2 (bI z0) (bI (decide ((b1 - v) &&& 255 = 0)))))), (ca, .inl (cZ, 2, .inl (p2 (bI c0) (bI false))))] H := hP.sub [1, 2, 3, 0] rfl
      have hD9 : va_D A [(o, .inr (5, [.int th, .ref im, .int (bI tr), .ref rc, .ref bg, .int ro, .ref oa, .ref xa, .ref ya, .ref rg, .ref me, .ref sa, .ref pa, .ref za, .ref ca, .int (bI kp), .ref ta, .ref na])), (rg, .inl (cI, 6, .inl (rg6 a x d b0 ((b1 - v) &&& 255) b2))), (za, .inl (cZ, 2, .inl (p2 (bI z0) (bI (decide ((b1 - v) &&& 255 = 0)))))), (ca, .inl (cZ, 2, .inl (p2 (bI c0) (bI false))))] := hD.sub [1, 2, 3, 0] (by decide) rfl
      exact W.vret hx hb hr (fun t ht hW => ⟨⟨((b1 - v) &&& 255, decide ((b1 - v) &&& 255 = 0), false), rfl, by first | (simp only [h20, h41, ↓reduceIte, not_true_eq_false, not_false_eq_true, and_true, true_and, and_false, false_and, and_self, or_true, true_or, or_false, false_or, decide_true, decide_false, Bool.false_eq_true, reduceCtorEq]; done) | (simp_all []; done), by rw [ht]; exact hP9, va_K.moved hW.alike hK, hD9⟩, hS.F ht⟩) hS.2.2 d_MO_subtracts_52
    · have h41 : sy = true := bI_t h41
      refine lv_aload_n hx hb d_MO_subtracts_44 rfl (lv_at hl 1 rfl) ?_
      refine lv_iload_n hx hb d_MO_subtracts_45 rfl (lv_at hl 2 rfl) ?_
      refine lv_iload_n hx hb d_MO_subtracts_46 rfl (lv_at hl 3 rfl) ?_
      refine lv_iload hx hb d_MO_subtracts_47 (lv_at hl 0 rfl) ?_
      have hPc := hP.sub (ws' := [(o, .inr (5, [.int th, .ref im, .int (bI tr), .ref rc, .ref bg, .int ro, .ref oa, .ref xa, .ref ya, .ref rg, .ref me, .ref sa, .ref pa, .ref za, .ref ca, .int (bI kp), .ref ta, .ref na])), (rg, .inl (cI, 6, .inl (rg6 a x d b0 ((b1 - v) &&& 255) b2)))]) [1, 2] rfl
      have hDc := hD.sub (ws' := [(o, .inr (5, [.int th, .ref im, .int (bI tr), .ref rc, .ref bg, .int ro, .ref oa, .ref xa, .ref ya, .ref rg, .ref me, .ref sa, .ref pa, .ref za, .ref ca, .int (bI kp), .ref ta, .ref na])), (rg, .inl (cI, 6, .inl (rg6 a x d b0 ((b1 - v) &&& 255) b2)))]) [1, 2] (by decide) rfl
      have hFc := va_free (wc := [(o, .inr (5, [.int th, .ref im, .int (bI tr), .ref rc, .ref bg, .int ro, .ref oa, .ref xa, .ref ya, .ref rg, .ref me, .ref sa, .ref pa, .ref za, .ref ca, .int (bI kp), .ref ta, .ref na])), (rg, .inl (cI, 6, .inl (rg6 a x d b0 ((b1 - v) &&& 255) b2)))]) hD hS hA [1, 2] rfl
      refine va_callv (va_runV (As := [.int 1, .int 1, .int b1]) (rest := []) ⟨hx, hb, hml, hown, hts⟩ (q_set11 l D cI cZ o th im tr rc bg ro oa xa ya rg me sa pa za ca kp ta na a x d b0 ((b1 - v) &&& 255) b2 b1 H.size) ⟨cB 3 hts k_849 k_62 k_846 hd_MO_set ⟨Nat.le_of_ble_eq_true rfl, Nat.le_of_ble_eq_true rfl⟩ rfl rfl, hts _ k_848, hts _ k_43⟩ (PcW.preV (va_recv hK hP (q0 := 1) (ci := 5) rfl rfl) hPc hK hDc hN) rfl rfl hl.1 rfl (lv_room (Nat.le_of_ble_eq_true rfl)) d_MO_subtracts_49 ⟨Nat.le_of_ble_eq_true rfl, Nat.le_of_ble_eq_true rfl⟩) hS (fun q _ h => hFc q h) hFc (fun u t H1 locs ht hvm e49 hB hz1 hk1 hS => ?_)
      obtain ⟨v149, rfl⟩ : ∃ z, z = u := ⟨_, rfl⟩
      obtain ⟨hP1, hK1, hD1⟩ := hB
      rw [ht] at hP1
      obtain ⟨hP, hD⟩ := va_join (wr := [(ca, .inl (cZ, 2, .inl (p2 (bI c0) (bI false)))), (za, .inl (cZ, 2, .inl (p2 (bI z0) (bI (decide ((b1 - v) &&& 255 = 0))))))]) (w1 := [(o, .inr (5, [.int th, .ref im, .int (bI tr), .ref rc, .ref bg, .int ro, .ref oa, .ref xa, .ref ya, .ref rg, .ref me, .ref sa, .ref pa, .ref za, .ref ca, .int (bI kp), .ref ta, .ref na])), (rg, .inl (cI, 6, .inl (rg6 a x d b0 v149 b2)))]) hP hD [1, 2] [0, 3] rfl rfl (by decide) (by decide) hk1 hFc hP1 hD1
      generalize H1 = H at hP hS ⊢
      try dsimp only at e49
      have e49_0 := e49
      replace e49_0 := e49_0.symm
      subst e49_0
      have hP : va_P D vwCl [(ca, .inl (cZ, 2, .inl (p2 (bI c0) (bI false)))), (za, .inl (cZ, 2, .inl (p2 (bI z0) (bI (decide ((b1 - v) &&& 255 = 0)))))), (o, .inr (5, [.int th, .ref im, .int (bI tr), .ref rc, .ref bg, .int ro, .ref oa, .ref xa, .ref ya, .ref rg, .ref me, .ref sa, .ref pa, .ref za, .ref ca, .int (bI kp), .ref ta, .ref na])), (rg, .inl (cI, 6, .inl (rg6 a x d b0 (b1 &&& 255) b2)))] H := hP
      have hD : va_D A [(ca, .inl (cZ, 2, .inl (p2 (bI c0) (bI false)))), (za, .inl (cZ, 2, .inl (p2 (bI z0) (bI (decide ((b1 - v) &&& 255 = 0)))))), (o, .inr (5, [.int th, .ref im, .int (bI tr), .ref rc, .ref bg, .int ro, .ref oa, .ref xa, .ref ya, .ref rg, .ref me, .ref sa, .ref pa, .ref za, .ref ca, .int (bI kp), .ref ta, .ref na])), (rg, .inl (cI, 6, .inl (rg6 a x d b0 (b1 &&& 255) b2)))] := hD
      have hP9 : va_P D vwCl [(o, .inr (5, [.int th, .ref im, .int (bI tr), .ref rc, .ref bg, .int ro, .ref oa, .ref xa, .ref ya, .ref rg, .ref me, .ref sa, .ref pa, .ref za, .ref ca, .int (bI kp), .ref ta, .ref na])), (rg, .inl (cI, 6, .inl (rg6 a x d b0 (b1 &&& 255) b2))), (za, .inl (cZ, 2, .inl (p2 (bI z0) (bI (decide ((b1 - v) &&& 255 = 0)))))), (ca, .inl (cZ, 2, .inl (p2 (bI c0) (bI false))))] H := hP.sub [2, 3, 1, 0] rfl
      have hD9 : va_D A [(o, .inr (5, [.int th, .ref im, .int (bI tr), .ref rc, .ref bg, .int ro, .ref oa, .ref xa, .ref ya, .ref rg, .ref me, .ref sa, .ref pa, .ref za, .ref ca, .int (bI kp), .ref ta, .ref na])), (rg, .inl (cI, 6, .inl (rg6 a x d b0 (b1 &&& 255) b2))), (za, .inl (cZ, 2, .inl (p2 (bI z0) (bI (decide ((b1 - v) &&& 255 = 0)))))), (ca, .inl (cZ, 2, .inl (p2 (bI c0) (bI false))))] := hD.sub [2, 3, 1, 0] (by decide) rfl
      exact W.vret hx hb hr (fun t ht hW => ⟨⟨(b1 &&& 255, decide ((b1 - v) &&& 255 = 0), false), rfl, by first | (simp only [h20, h41, ↓reduceIte, not_true_eq_false, not_false_eq_true, and_true, true_and, and_false, false_and, and_self, or_true, true_or, or_false, false_or, decide_true, decide_false, Bool.false_eq_true, reduceCtorEq]; done) | (simp_all []; done), by rw [ht]; exact hP9, va_K.moved hW.alike hK, hD9⟩, hS.F ht⟩) hS.2.2 d_MO_subtracts_52
  · refine lv_iconst (v := 1) hx hb d_MO_subtracts_23 (by decide) ?_
    refine lv_goto (tgt := 28) hx hb d_MO_subtracts_24 rfl ?_
    refine va_zast hx hb hK hP hD hS 3 1 rfl rfl (vp_in_nI (n := 1) (by decide) (by decide)) d_MO_subtracts_28 (fun H locs hP hD hS => ?_)
    have hP : va_P D vwCl [(o, .inr (5, [.int th, .ref im, .int (bI tr), .ref rc, .ref bg, .int ro, .ref oa, .ref xa, .ref ya, .ref rg, .ref me, .ref sa, .ref pa, .ref za, .ref ca, .int (bI kp), .ref ta, .ref na])), (rg, .inl (cI, 6, .inl (rg6 a x d b0 b1 b2))), (za, .inl (cZ, 2, .inl (p2 (bI z0) (bI z1)))), (ca, .inl (cZ, 2, .inl (upd (p2 (bI c0) (bI c1)) 1 (bI true))))] H := hP
    have hD : va_D A [(o, .inr (5, [.int th, .ref im, .int (bI tr), .ref rc, .ref bg, .int ro, .ref oa, .ref xa, .ref ya, .ref rg, .ref me, .ref sa, .ref pa, .ref za, .ref ca, .int (bI kp), .ref ta, .ref na])), (rg, .inl (cI, 6, .inl (rg6 a x d b0 b1 b2))), (za, .inl (cZ, 2, .inl (p2 (bI z0) (bI z1)))), (ca, .inl (cZ, 2, .inl (upd (p2 (bI c0) (bI c1)) 1 (bI true))))] := hD
    rw [show upd (p2 (bI c0) (bI c1)) 1 (bI true) = p2 (bI c0) (bI true) from p2_1] at hP hD
    have hP : va_P D vwCl [(o, .inr (5, [.int th, .ref im, .int (bI tr), .ref rc, .ref bg, .int ro, .ref oa, .ref xa, .ref ya, .ref rg, .ref me, .ref sa, .ref pa, .ref za, .ref ca, .int (bI kp), .ref ta, .ref na])), (rg, .inl (cI, 6, .inl (rg6 a x d b0 b1 b2))), (za, .inl (cZ, 2, .inl (p2 (bI z0) (bI z1)))), (ca, .inl (cZ, 2, .inl (p2 (bI c0) (bI true))))] H := hP
    have hD : va_D A [(o, .inr (5, [.int th, .ref im, .int (bI tr), .ref rc, .ref bg, .int ro, .ref oa, .ref xa, .ref ya, .ref rg, .ref me, .ref sa, .ref pa, .ref za, .ref ca, .int (bI kp), .ref ta, .ref na])), (rg, .inl (cI, 6, .inl (rg6 a x d b0 b1 b2))), (za, .inl (cZ, 2, .inl (p2 (bI z0) (bI z1)))), (ca, .inl (cZ, 2, .inl (p2 (bI c0) (bI true))))] := hD
    refine lv_aload_n hx hb d_MO_subtracts_29 rfl (lv_at hl 1 rfl) ?_
    refine lv_iload_n hx hb d_MO_subtracts_30 rfl (lv_at hl 2 rfl) ?_
    refine lv_iload_n hx hb d_MO_subtracts_31 rfl (lv_at hl 3 rfl) ?_
    refine lv_iload hx hb d_MO_subtracts_32 (lv_at hl 0 rfl) ?_
    refine lv_iload_n hx hb d_MO_subtracts_34 rfl (lv_at hl 4 rfl) ?_
    refine lv_isub hx hb d_MO_subtracts_35 ?_
    have hPc := hP.sub (ws' := [(o, .inr (5, [.int th, .ref im, .int (bI tr), .ref rc, .ref bg, .int ro, .ref oa, .ref xa, .ref ya, .ref rg, .ref me, .ref sa, .ref pa, .ref za, .ref ca, .int (bI kp), .ref ta, .ref na])), (rg, .inl (cI, 6, .inl (rg6 a x d b0 b1 b2))), (za, .inl (cZ, 2, .inl (p2 (bI z0) (bI z1))))]) [0, 1, 2] rfl
    have hDc := hD.sub (ws' := [(o, .inr (5, [.int th, .ref im, .int (bI tr), .ref rc, .ref bg, .int ro, .ref oa, .ref xa, .ref ya, .ref rg, .ref me, .ref sa, .ref pa, .ref za, .ref ca, .int (bI kp), .ref ta, .ref na])), (rg, .inl (cI, 6, .inl (rg6 a x d b0 b1 b2))), (za, .inl (cZ, 2, .inl (p2 (bI z0) (bI z1))))]) [0, 1, 2] (by decide) rfl
    have hFc := va_free (wc := [(o, .inr (5, [.int th, .ref im, .int (bI tr), .ref rc, .ref bg, .int ro, .ref oa, .ref xa, .ref ya, .ref rg, .ref me, .ref sa, .ref pa, .ref za, .ref ca, .int (bI kp), .ref ta, .ref na])), (rg, .inl (cI, 6, .inl (rg6 a x d b0 b1 b2))), (za, .inl (cZ, 2, .inl (p2 (bI z0) (bI z1))))]) hD hS hA [0, 1, 2] rfl
    refine va_callv (va_runV (As := [.int 1, .int 1, .int (b1 - v)]) (rest := []) ⟨hx, hb, hml, hown, hts⟩ (q_setZ11 l D cI cZ o th im tr rc bg ro oa xa ya rg me sa pa za ca kp ta na a x d b0 b1 b2 z0 z1 (b1 - v) H.size) ⟨cB 3 hts k_845 k_62 k_842 hd_MO_setZ ⟨Nat.le_of_ble_eq_true rfl, Nat.le_of_ble_eq_true rfl⟩ rfl rfl, hts _ k_844, hts _ k_42⟩ (PcW.preV (va_recv hK hP (q0 := 0) (ci := 5) rfl rfl) hPc hK hDc hN) rfl rfl hl.1 rfl (lv_room (Nat.le_of_ble_eq_true rfl)) d_MO_subtracts_36 ⟨Nat.le_of_ble_eq_true rfl, Nat.le_of_ble_eq_true rfl⟩) hS (fun q _ h => hFc q h) hFc (fun u t H1 locs ht hvm e36 hB hz1 hk1 hS => ?_)
    obtain ⟨v136, zz36⟩ := u
    obtain ⟨hP1, hK1, hD1⟩ := hB
    rw [ht] at hP1
    obtain ⟨hP, hD⟩ := va_join (wr := [(ca, .inl (cZ, 2, .inl (p2 (bI c0) (bI true))))]) (w1 := [(o, .inr (5, [.int th, .ref im, .int (bI tr), .ref rc, .ref bg, .int ro, .ref oa, .ref xa, .ref ya, .ref rg, .ref me, .ref sa, .ref pa, .ref za, .ref ca, .int (bI kp), .ref ta, .ref na])), (rg, .inl (cI, 6, .inl (rg6 a x d b0 v136 b2))), (za, .inl (cZ, 2, .inl (p2 (bI z0) (bI zz36))))]) hP hD [0, 1, 2] [3] rfl rfl (by decide) (by decide) hk1 hFc hP1 hD1
    generalize H1 = H at hP hS ⊢
    try dsimp only at e36
    obtain ⟨e36_0, e36_1⟩ := e36
    replace e36_0 := e36_0.symm
    subst e36_0
    replace e36_1 := e36_1.symm
    subst e36_1
    have hP : va_P D vwCl [(ca, .inl (cZ, 2, .inl (p2 (bI c0) (bI true)))), (o, .inr (5, [.int th, .ref im, .int (bI tr), .ref rc, .ref bg, .int ro, .ref oa, .ref xa, .ref ya, .ref rg, .ref me, .ref sa, .ref pa, .ref za, .ref ca, .int (bI kp), .ref ta, .ref na])), (rg, .inl (cI, 6, .inl (rg6 a x d b0 ((b1 - v) &&& 255) b2))), (za, .inl (cZ, 2, .inl (p2 (bI z0) (bI (decide ((b1 - v) &&& 255 = 0))))))] H := hP
    have hD : va_D A [(ca, .inl (cZ, 2, .inl (p2 (bI c0) (bI true)))), (o, .inr (5, [.int th, .ref im, .int (bI tr), .ref rc, .ref bg, .int ro, .ref oa, .ref xa, .ref ya, .ref rg, .ref me, .ref sa, .ref pa, .ref za, .ref ca, .int (bI kp), .ref ta, .ref na])), (rg, .inl (cI, 6, .inl (rg6 a x d b0 ((b1 - v) &&& 255) b2))), (za, .inl (cZ, 2, .inl (p2 (bI z0) (bI (decide ((b1 - v) &&& 255 = 0))))))] := hD
    refine lv_iload hx hb d_MO_subtracts_39 (lv_at hl 5 rfl) ?_
    refine lv_if_eq (tgt := 52) hx hb d_MO_subtracts_41 rfl (fun h41 => ?_) (fun h41 => ?_)
    · have h41 : sy = false := bI_f h41
      have hP9 : va_P D vwCl [(o, .inr (5, [.int th, .ref im, .int (bI tr), .ref rc, .ref bg, .int ro, .ref oa, .ref xa, .ref ya, .ref rg, .ref me, .ref sa, .ref pa, .ref za, .ref ca, .int (bI kp), .ref ta, .ref na])), (rg, .inl (cI, 6, .inl (rg6 a x d b0 ((b1 - v) &&& 255) b2))), (za, .inl (cZ, 2, .inl (p2 (bI z0) (bI (decide ((b1 - v) &&& 255 = 0)))))), (ca, .inl (cZ, 2, .inl (p2 (bI c0) (bI true))))] H := hP.sub [1, 2, 3, 0] rfl
      have hD9 : va_D A [(o, .inr (5, [.int th, .ref im, .int (bI tr), .ref rc, .ref bg, .int ro, .ref oa, .ref xa, .ref ya, .ref rg, .ref me, .ref sa, .ref pa, .ref za, .ref ca, .int (bI kp), .ref ta, .ref na])), (rg, .inl (cI, 6, .inl (rg6 a x d b0 ((b1 - v) &&& 255) b2))), (za, .inl (cZ, 2, .inl (p2 (bI z0) (bI (decide ((b1 - v) &&& 255 = 0)))))), (ca, .inl (cZ, 2, .inl (p2 (bI c0) (bI true))))] := hD.sub [1, 2, 3, 0] (by decide) rfl
      exact W.vret hx hb hr (fun t ht hW => ⟨⟨((b1 - v) &&& 255, decide ((b1 - v) &&& 255 = 0), true), rfl, by first | (simp only [h20, h41, ↓reduceIte, not_true_eq_false, not_false_eq_true, and_true, true_and, and_false, false_and, and_self, or_true, true_or, or_false, false_or, decide_true, decide_false, Bool.false_eq_true, reduceCtorEq]; done) | (simp_all []; done), by rw [ht]; exact hP9, va_K.moved hW.alike hK, hD9⟩, hS.F ht⟩) hS.2.2 d_MO_subtracts_52
    · have h41 : sy = true := bI_t h41
      refine lv_aload_n hx hb d_MO_subtracts_44 rfl (lv_at hl 1 rfl) ?_
      refine lv_iload_n hx hb d_MO_subtracts_45 rfl (lv_at hl 2 rfl) ?_
      refine lv_iload_n hx hb d_MO_subtracts_46 rfl (lv_at hl 3 rfl) ?_
      refine lv_iload hx hb d_MO_subtracts_47 (lv_at hl 0 rfl) ?_
      have hPc := hP.sub (ws' := [(o, .inr (5, [.int th, .ref im, .int (bI tr), .ref rc, .ref bg, .int ro, .ref oa, .ref xa, .ref ya, .ref rg, .ref me, .ref sa, .ref pa, .ref za, .ref ca, .int (bI kp), .ref ta, .ref na])), (rg, .inl (cI, 6, .inl (rg6 a x d b0 ((b1 - v) &&& 255) b2)))]) [1, 2] rfl
      have hDc := hD.sub (ws' := [(o, .inr (5, [.int th, .ref im, .int (bI tr), .ref rc, .ref bg, .int ro, .ref oa, .ref xa, .ref ya, .ref rg, .ref me, .ref sa, .ref pa, .ref za, .ref ca, .int (bI kp), .ref ta, .ref na])), (rg, .inl (cI, 6, .inl (rg6 a x d b0 ((b1 - v) &&& 255) b2)))]) [1, 2] (by decide) rfl
      have hFc := va_free (wc := [(o, .inr (5, [.int th, .ref im, .int (bI tr), .ref rc, .ref bg, .int ro, .ref oa, .ref xa, .ref ya, .ref rg, .ref me, .ref sa, .ref pa, .ref za, .ref ca, .int (bI kp), .ref ta, .ref na])), (rg, .inl (cI, 6, .inl (rg6 a x d b0 ((b1 - v) &&& 255) b2)))]) hD hS hA [1, 2] rfl
      refine va_callv (va_runV (As := [.int 1, .int 1, .int b1]) (rest := []) ⟨hx, hb, hml, hown, hts⟩ (q_set11 l D cI cZ o th im tr rc bg ro oa xa ya rg me sa pa za ca kp ta na a x d b0 ((b1 - v) &&& 255) b2 b1 H.size) ⟨cB 3 hts k_849 k_62 k_846 hd_MO_set ⟨Nat.le_of_ble_eq_true rfl, Nat.le_of_ble_eq_true rfl⟩ rfl rfl, hts _ k_848, hts _ k_43⟩ (PcW.preV (va_recv hK hP (q0 := 1) (ci := 5) rfl rfl) hPc hK hDc hN) rfl rfl hl.1 rfl (lv_room (Nat.le_of_ble_eq_true rfl)) d_MO_subtracts_49 ⟨Nat.le_of_ble_eq_true rfl, Nat.le_of_ble_eq_true rfl⟩) hS (fun q _ h => hFc q h) hFc (fun u t H1 locs ht hvm e49 hB hz1 hk1 hS => ?_)
      obtain ⟨v149, rfl⟩ : ∃ z, z = u := ⟨_, rfl⟩
      obtain ⟨hP1, hK1, hD1⟩ := hB
      rw [ht] at hP1
      obtain ⟨hP, hD⟩ := va_join (wr := [(ca, .inl (cZ, 2, .inl (p2 (bI c0) (bI true)))), (za, .inl (cZ, 2, .inl (p2 (bI z0) (bI (decide ((b1 - v) &&& 255 = 0))))))]) (w1 := [(o, .inr (5, [.int th, .ref im, .int (bI tr), .ref rc, .ref bg, .int ro, .ref oa, .ref xa, .ref ya, .ref rg, .ref me, .ref sa, .ref pa, .ref za, .ref ca, .int (bI kp), .ref ta, .ref na])), (rg, .inl (cI, 6, .inl (rg6 a x d b0 v149 b2)))]) hP hD [1, 2] [0, 3] rfl rfl (by decide) (by decide) hk1 hFc hP1 hD1
      generalize H1 = H at hP hS ⊢
      try dsimp only at e49
      have e49_0 := e49
      replace e49_0 := e49_0.symm
      subst e49_0
      have hP : va_P D vwCl [(ca, .inl (cZ, 2, .inl (p2 (bI c0) (bI true)))), (za, .inl (cZ, 2, .inl (p2 (bI z0) (bI (decide ((b1 - v) &&& 255 = 0)))))), (o, .inr (5, [.int th, .ref im, .int (bI tr), .ref rc, .ref bg, .int ro, .ref oa, .ref xa, .ref ya, .ref rg, .ref me, .ref sa, .ref pa, .ref za, .ref ca, .int (bI kp), .ref ta, .ref na])), (rg, .inl (cI, 6, .inl (rg6 a x d b0 (b1 &&& 255) b2)))] H := hP
      have hD : va_D A [(ca, .inl (cZ, 2, .inl (p2 (bI c0) (bI true)))), (za, .inl (cZ, 2, .inl (p2 (bI z0) (bI (decide ((b1 - v) &&& 255 = 0)))))), (o, .inr (5, [.int th, .ref im, .int (bI tr), .ref rc, .ref bg, .int ro, .ref oa, .ref xa, .ref ya, .ref rg, .ref me, .ref sa, .ref pa, .ref za, .ref ca, .int (bI kp), .ref ta, .ref na])), (rg, .inl (cI, 6, .inl (rg6 a x d b0 (b1 &&& 255) b2)))] := hD
      have hP9 : va_P D vwCl [(o, .inr (5, [.int th, .ref im, .int (bI tr), .ref rc, .ref bg, .int ro, .ref oa, .ref xa, .ref ya, .ref rg, .ref me, .ref sa, .ref pa, .ref za, .ref ca, .int (bI kp), .ref ta, .ref na])), (rg, .inl (cI, 6, .inl (rg6 a x d b0 (b1 &&& 255) b2))), (za, .inl (cZ, 2, .inl (p2 (bI z0) (bI (decide ((b1 - v) &&& 255 = 0)))))), (ca, .inl (cZ, 2, .inl (p2 (bI c0) (bI true))))] H := hP.sub [2, 3, 1, 0] rfl
      have hD9 : va_D A [(o, .inr (5, [.int th, .ref im, .int (bI tr), .ref rc, .ref bg, .int ro, .ref oa, .ref xa, .ref ya, .ref rg, .ref me, .ref sa, .ref pa, .ref za, .ref ca, .int (bI kp), .ref ta, .ref na])), (rg, .inl (cI, 6, .inl (rg6 a x d b0 (b1 &&& 255) b2))), (za, .inl (cZ, 2, .inl (p2 (bI z0) (bI (decide ((b1 - v) &&& 255 = 0)))))), (ca, .inl (cZ, 2, .inl (p2 (bI c0) (bI true))))] := hD.sub [2, 3, 1, 0] (by decide) rfl
      exact W.vret hx hb hr (fun t ht hW => ⟨⟨(b1 &&& 255, decide ((b1 - v) &&& 255 = 0), true), rfl, by first | (simp only [h20, h41, ↓reduceIte, not_true_eq_false, not_false_eq_true, and_true, true_and, and_false, false_and, and_self, or_true, true_or, or_false, false_or, decide_true, decide_false, Bool.false_eq_true, reduceCtorEq]; done) | (simp_all []; done), by rw [ht]; exact hP9, va_K.moved hW.alike hK, hD9⟩, hS.F ht⟩) hS.2.2 d_MO_subtracts_52
set_option maxHeartbeats 4000000 in
set_option maxRecDepth 100000 in
theorem q_plain11 (l : Launch) (D : va_G) (cI cZ : ClassId) (o : Nat) (th : Int32) (im : Nat) (tr : Bool) (rc : Nat) (bg : Nat) (ro : Int32) (oa : Nat) (xa : Nat) (ya : Nat) (rg : Nat) (me : Nat) (sa : Nat) (pa : Nat) (za : Nat) (ca : Nat) (kp : Bool) (ta : Nat) (na : Nat) (a : Int32) (x : Int32) (d : Int32) (b0 : Int32) (b1 : Int32) (b2 : Int32) (z0 : Bool) (z1 : Bool) (c0 : Bool) (c1 : Bool) (v : Int32) (sz : Nat) : MetV l y_MO_plain w_MO_plain { frames := 2, cells := 0, slots := 0, locals := 46 } D cI cZ [.ref o, .int 1, .int 1, .int v] [(o, .inr (5, [.int th, .ref im, .int (bI tr), .ref rc, .ref bg, .int ro, .ref oa, .ref xa, .ref ya, .ref rg, .ref me, .ref sa, .ref pa, .ref za, .ref ca, .int (bI kp), .ref ta, .ref na])), (rg, .inl (cI, 6, .inl (rg6 a x d b0 b1 b2))), (za, .inl (cZ, 2, .inl (p2 (bI z0) (bI z1)))), (ca, .inl (cZ, 2, .inl (p2 (bI c0) (bI c1))))] sz (fun (u : Int32 × Bool × Bool) => match u with | (v1, zz, cy) => v1 = v &&& 255 ∧ zz = decide (v &&& 255 = 0) ∧ cy = false) (fun (u : Int32 × Bool × Bool) => match u with | (v1, zz, cy) => [(o, .inr (5, [.int th, .ref im, .int (bI tr), .ref rc, .ref bg, .int ro, .ref oa, .ref xa, .ref ya, .ref rg, .ref me, .ref sa, .ref pa, .ref za, .ref ca, .int (bI kp), .ref ta, .ref na])), (rg, .inl (cI, 6, .inl (rg6 a x d b0 v1 b2))), (za, .inl (cZ, 2, .inl (p2 (bI z0) (bI zz)))), (ca, .inl (cZ, 2, .inl (p2 (bI c0) (bI cy))))]) 0 0 := by
  refine ofV (cc := c_MO_plain) (maxL := 4) (ret := none) (by decide) rfl (Nat.le_of_ble_eq_true rfl) ?_
  intro p e s m args below meth c A H hH0 hx hb hr hlocks hts hown hnm hml ls hl hP hK hD hA hS hN
  have hown : s.vm.findClass R_MO = some m.cls := hown
  have hl : lv_has ls 4 [(0, .ref o), (1, .int 1), (2, .int 1), (3, .int v)] := hl
  refine lv_aload_n hx hb d_MO_plain_0 rfl (lv_at hl 0 rfl) ?_
  refine va_get (D := D) (ci := 5) (v := .ref ca) (C := R_MO) (T := T_MO) (N := 18) hx hb hts iw_MO hown hK hP 0 rfl rfl 14 (by decide) (hts _ k_709) (fun _ h9 => h9) rfl d_MO_plain_1 ?_
  refine lv_iload_n hx hb d_MO_plain_4 rfl (lv_at hl 1 rfl) ?_
  refine lv_iconst (v := 0) hx hb d_MO_plain_5 (by decide) ?_
  refine va_zast hx hb hK hP hD hS 3 1 rfl rfl (vp_in_nI (n := 1) (by decide) (by decide)) d_MO_plain_6 (fun H locs hP hD hS => ?_)
  have hP : va_P D vwCl [(o, .inr (5, [.int th, .ref im, .int (bI tr), .ref rc, .ref bg, .int ro, .ref oa, .ref xa, .ref ya, .ref rg, .ref me, .ref sa, .ref pa, .ref za, .ref ca, .int (bI kp), .ref ta, .ref na])), (rg, .inl (cI, 6, .inl (rg6 a x d b0 b1 b2))), (za, .inl (cZ, 2, .inl (p2 (bI z0) (bI z1)))), (ca, .inl (cZ, 2, .inl (upd (p2 (bI c0) (bI c1)) 1 (bI false))))] H := hP
  have hD : va_D A [(o, .inr (5, [.int th, .ref im, .int (bI tr), .ref rc, .ref bg, .int ro, .ref oa, .ref xa, .ref ya, .ref rg, .ref me, .ref sa, .ref pa, .ref za, .ref ca, .int (bI kp), .ref ta, .ref na])), (rg, .inl (cI, 6, .inl (rg6 a x d b0 b1 b2))), (za, .inl (cZ, 2, .inl (p2 (bI z0) (bI z1)))), (ca, .inl (cZ, 2, .inl (upd (p2 (bI c0) (bI c1)) 1 (bI false))))] := hD
  rw [show upd (p2 (bI c0) (bI c1)) 1 (bI false) = p2 (bI c0) (bI false) from p2_1] at hP hD
  have hP : va_P D vwCl [(o, .inr (5, [.int th, .ref im, .int (bI tr), .ref rc, .ref bg, .int ro, .ref oa, .ref xa, .ref ya, .ref rg, .ref me, .ref sa, .ref pa, .ref za, .ref ca, .int (bI kp), .ref ta, .ref na])), (rg, .inl (cI, 6, .inl (rg6 a x d b0 b1 b2))), (za, .inl (cZ, 2, .inl (p2 (bI z0) (bI z1)))), (ca, .inl (cZ, 2, .inl (p2 (bI c0) (bI false))))] H := hP
  have hD : va_D A [(o, .inr (5, [.int th, .ref im, .int (bI tr), .ref rc, .ref bg, .int ro, .ref oa, .ref xa, .ref ya, .ref rg, .ref me, .ref sa, .ref pa, .ref za, .ref ca, .int (bI kp), .ref ta, .ref na])), (rg, .inl (cI, 6, .inl (rg6 a x d b0 b1 b2))), (za, .inl (cZ, 2, .inl (p2 (bI z0) (bI z1)))), (ca, .inl (cZ, 2, .inl (p2 (bI c0) (bI false))))] := hD
  refine lv_aload_n hx hb d_MO_plain_7 rfl (lv_at hl 0 rfl) ?_
  refine lv_iload_n hx hb d_MO_plain_8 rfl (lv_at hl 1 rfl) ?_
  refine lv_iload_n hx hb d_MO_plain_9 rfl (lv_at hl 2 rfl) ?_
  refine lv_iload_n hx hb d_MO_plain_10 rfl (lv_at hl 3 rfl) ?_
  have hPc := hP.sub (ws' := [(o, .inr (5, [.int th, .ref im, .int (bI tr), .ref rc, .ref bg, .int ro, .ref oa, .ref xa, .ref ya, .ref rg, .ref me, .ref sa, .ref pa, .ref za, .ref ca, .int (bI kp), .ref ta, .ref na])), (rg, .inl (cI, 6, .inl (rg6 a x d b0 b1 b2))), (za, .inl (cZ, 2, .inl (p2 (bI z0) (bI z1))))]) [0, 1, 2] rfl
  have hDc := hD.sub (ws' := [(o, .inr (5, [.int th, .ref im, .int (bI tr), .ref rc, .ref bg, .int ro, .ref oa, .ref xa, .ref ya, .ref rg, .ref me, .ref sa, .ref pa, .ref za, .ref ca, .int (bI kp), .ref ta, .ref na])), (rg, .inl (cI, 6, .inl (rg6 a x d b0 b1 b2))), (za, .inl (cZ, 2, .inl (p2 (bI z0) (bI z1))))]) [0, 1, 2] (by decide) rfl
  have hFc := va_free (wc := [(o, .inr (5, [.int th, .ref im, .int (bI tr), .ref rc, .ref bg, .int ro, .ref oa, .ref xa, .ref ya, .ref rg, .ref me, .ref sa, .ref pa, .ref za, .ref ca, .int (bI kp), .ref ta, .ref na])), (rg, .inl (cI, 6, .inl (rg6 a x d b0 b1 b2))), (za, .inl (cZ, 2, .inl (p2 (bI z0) (bI z1))))]) hD hS hA [0, 1, 2] rfl
  refine va_callv (va_runV (As := [.int 1, .int 1, .int v]) (rest := []) ⟨hx, hb, hml, hown, hts⟩ (q_setZ11 l D cI cZ o th im tr rc bg ro oa xa ya rg me sa pa za ca kp ta na a x d b0 b1 b2 z0 z1 v H.size) ⟨cB 3 hts k_845 k_62 k_842 hd_MO_setZ ⟨Nat.le_of_ble_eq_true rfl, Nat.le_of_ble_eq_true rfl⟩ rfl rfl, hts _ k_844, hts _ k_42⟩ (PcW.preV (va_recv hK hP (q0 := 0) (ci := 5) rfl rfl) hPc hK hDc hN) rfl rfl hl.1 rfl (lv_room (Nat.le_of_ble_eq_true rfl)) d_MO_plain_11 ⟨Nat.le_of_ble_eq_true rfl, Nat.le_of_ble_eq_true rfl⟩) hS (fun q _ h => hFc q h) hFc (fun u t H1 locs ht hvm e11 hB hz1 hk1 hS => ?_)
  obtain ⟨v111, zz11⟩ := u
  obtain ⟨hP1, hK1, hD1⟩ := hB
  rw [ht] at hP1
  obtain ⟨hP, hD⟩ := va_join (wr := [(ca, .inl (cZ, 2, .inl (p2 (bI c0) (bI false))))]) (w1 := [(o, .inr (5, [.int th, .ref im, .int (bI tr), .ref rc, .ref bg, .int ro, .ref oa, .ref xa, .ref ya, .ref rg, .ref me, .ref sa, .ref pa, .ref za, .ref ca, .int (bI kp), .ref ta, .ref na])), (rg, .inl (cI, 6, .inl (rg6 a x d b0 v111 b2))), (za, .inl (cZ, 2, .inl (p2 (bI z0) (bI zz11))))]) hP hD [0, 1, 2] [3] rfl rfl (by decide) (by decide) hk1 hFc hP1 hD1
  generalize H1 = H at hP hS ⊢
  try dsimp only at e11
  obtain ⟨e11_0, e11_1⟩ := e11
  replace e11_0 := e11_0.symm
  subst e11_0
  replace e11_1 := e11_1.symm
  subst e11_1
  have hP : va_P D vwCl [(ca, .inl (cZ, 2, .inl (p2 (bI c0) (bI false)))), (o, .inr (5, [.int th, .ref im, .int (bI tr), .ref rc, .ref bg, .int ro, .ref oa, .ref xa, .ref ya, .ref rg, .ref me, .ref sa, .ref pa, .ref za, .ref ca, .int (bI kp), .ref ta, .ref na])), (rg, .inl (cI, 6, .inl (rg6 a x d b0 (v &&& 255) b2))), (za, .inl (cZ, 2, .inl (p2 (bI z0) (bI (decide (v &&& 255 = 0))))))] H := hP
  have hD : va_D A [(ca, .inl (cZ, 2, .inl (p2 (bI c0) (bI false)))), (o, .inr (5, [.int th, .ref im, .int (bI tr), .ref rc, .ref bg, .int ro, .ref oa, .ref xa, .ref ya, .ref rg, .ref me, .ref sa, .ref pa, .ref za, .ref ca, .int (bI kp), .ref ta, .ref na])), (rg, .inl (cI, 6, .inl (rg6 a x d b0 (v &&& 255) b2))), (za, .inl (cZ, 2, .inl (p2 (bI z0) (bI (decide (v &&& 255 = 0))))))] := hD
  have hP9 : va_P D vwCl [(o, .inr (5, [.int th, .ref im, .int (bI tr), .ref rc, .ref bg, .int ro, .ref oa, .ref xa, .ref ya, .ref rg, .ref me, .ref sa, .ref pa, .ref za, .ref ca, .int (bI kp), .ref ta, .ref na])), (rg, .inl (cI, 6, .inl (rg6 a x d b0 (v &&& 255) b2))), (za, .inl (cZ, 2, .inl (p2 (bI z0) (bI (decide (v &&& 255 = 0)))))), (ca, .inl (cZ, 2, .inl (p2 (bI c0) (bI false))))] H := hP.sub [1, 2, 3, 0] rfl
  have hD9 : va_D A [(o, .inr (5, [.int th, .ref im, .int (bI tr), .ref rc, .ref bg, .int ro, .ref oa, .ref xa, .ref ya, .ref rg, .ref me, .ref sa, .ref pa, .ref za, .ref ca, .int (bI kp), .ref ta, .ref na])), (rg, .inl (cI, 6, .inl (rg6 a x d b0 (v &&& 255) b2))), (za, .inl (cZ, 2, .inl (p2 (bI z0) (bI (decide (v &&& 255 = 0)))))), (ca, .inl (cZ, 2, .inl (p2 (bI c0) (bI false))))] := hD.sub [1, 2, 3, 0] (by decide) rfl
  exact W.vret hx hb hr (fun t ht hW => ⟨⟨(v &&& 255, decide (v &&& 255 = 0), false), rfl, ⟨rfl, rfl, rfl⟩, by rw [ht]; exact hP9, va_K.moved hW.alike hK, hD9⟩, hS.F ht⟩) hS.2.2 d_MO_plain_14
set_option maxHeartbeats 4000000 in
set_option maxRecDepth 100000 in
theorem q_dbl11 (l : Launch) (D : va_G) (cI cZ : ClassId) (o : Nat) (th : Int32) (im : Nat) (tr : Bool) (rc : Nat) (bg : Nat) (ro : Int32) (oa : Nat) (xa : Nat) (ya : Nat) (rg : Nat) (me : Nat) (sa : Nat) (pa : Nat) (za : Nat) (ca : Nat) (kp : Bool) (ta : Nat) (na : Nat) (a : Int32) (x : Int32) (d : Int32) (b0 : Int32) (b1 : Int32) (b2 : Int32) (z0 : Bool) (z1 : Bool) (c0 : Bool) (c1 : Bool) (sz : Nat) : MetV l y_MO_doubles w_MO_doubles { frames := 2, cells := 0, slots := 0, locals := 46 } D cI cZ [.ref o, .int 1, .int 1] [(o, .inr (5, [.int th, .ref im, .int (bI tr), .ref rc, .ref bg, .int ro, .ref oa, .ref xa, .ref ya, .ref rg, .ref me, .ref sa, .ref pa, .ref za, .ref ca, .int (bI kp), .ref ta, .ref na])), (rg, .inl (cI, 6, .inl (rg6 a x d b0 b1 b2))), (za, .inl (cZ, 2, .inl (p2 (bI z0) (bI z1)))), (ca, .inl (cZ, 2, .inl (p2 (bI c0) (bI c1))))] sz (fun (u : Int32 × Bool × Bool) => match u with | (v1, zz, cy) => v1 = (2 * b1) &&& 255 ∧ zz = decide ((2 * b1) &&& 255 = 0) ∧ cy = decide (¬ b1 ≤ 127)) (fun (u : Int32 × Bool × Bool) => match u with | (v1, zz, cy) => [(o, .inr (5, [.int th, .ref im, .int (bI tr), .ref rc, .ref bg, .int ro, .ref oa, .ref xa, .ref ya, .ref rg, .ref me, .ref sa, .ref pa, .ref za, .ref ca, .int (bI kp), .ref ta, .ref na])), (rg, .inl (cI, 6, .inl (rg6 a x d b0 v1 b2))), (za, .inl (cZ, 2, .inl (p2 (bI z0) (bI zz)))), (ca, .inl (cZ, 2, .inl (p2 (bI c0) (bI cy))))]) 0 0 := by
  refine ofV (cc := c_MO_doubles) (maxL := 4) (ret := none) (by decide) rfl (Nat.le_of_ble_eq_true rfl) ?_
  intro p e s m args below meth c A H hH0 hx hb hr hlocks hts hown hnm hml ls hl hP hK hD hA hS hN
  have hown : s.vm.findClass R_MO = some m.cls := hown
  have hl : lv_has ls 4 [(0, .ref o), (1, .int 1), (2, .int 1)] := hl
  refine lv_aload_n hx hb d_MO_doubles_0 rfl (lv_at hl 0 rfl) ?_
  refine va_get (D := D) (ci := 5) (v := .ref rg) (C := R_MO) (T := T_MO) (N := 18) hx hb hts iw_MO hown hK hP 0 rfl rfl 9 (by decide) (hts _ k_704) (fun _ h9 => h9) rfl d_MO_doubles_1 ?_
  refine lv_iconst (v := 3) hx hb d_MO_doubles_4 (by decide) ?_
  refine lv_iload_n hx hb d_MO_doubles_5 rfl (lv_at hl 1 rfl) ?_
  refine lv_imul hx hb d_MO_doubles_6 ?_
  refine lv_iload_n hx hb d_MO_doubles_7 rfl (lv_at hl 2 rfl) ?_
  refine lv_iadd hx hb d_MO_doubles_8 ?_
  refine va_iald hx hb hK hP 1 0 rfl rfl (vp_in_nI (n := 4) (by decide) (by decide)) d_MO_doubles_9 ?_
  refine lv_istore_n hx hb d_MO_doubles_10 rfl hl (by decide) rfl (fun ls hl => ?_)
  have hl : lv_has ls 4 [(3, .int b1), (0, .ref o), (1, .int 1), (2, .int 1)] := hl
  refine lv_aload_n hx hb d_MO_doubles_11 rfl (lv_at hl 1 rfl) ?_
  refine va_get (D := D) (ci := 5) (v := .ref ca) (C := R_MO) (T := T_MO) (N := 18) hx hb hts iw_MO hown hK hP 0 rfl rfl 14 (by decide) (hts _ k_709) (fun _ h9 => h9) rfl d_MO_doubles_12 ?_
  refine lv_iload_n hx hb d_MO_doubles_15 rfl (lv_at hl 2 rfl) ?_
  refine lv_iload_n hx hb d_MO_doubles_16 rfl (lv_at hl 0 rfl) ?_
  refine lv_bipush (v := 127) hx hb d_MO_doubles_17 (by decide) ?_
  refine lv_icmp_le (tgt := 26) hx hb d_MO_doubles_19 rfl (fun h19 => ?_) (fun h19 => ?_)
  · refine lv_iconst (v := 0) hx hb d_MO_doubles_26 (by decide) ?_
    refine va_zast hx hb hK hP hD hS 3 1 rfl rfl (vp_in_nI (n := 1) (by decide) (by decide)) d_MO_doubles_27 (fun H locs hP hD hS => ?_)
    have hP : va_P D vwCl [(o, .inr (5, [.int th, .ref im, .int (bI tr), .ref rc, .ref bg, .int ro, .ref oa, .ref xa, .ref ya, .ref rg, .ref me, .ref sa, .ref pa, .ref za, .ref ca, .int (bI kp), .ref ta, .ref na])), (rg, .inl (cI, 6, .inl (rg6 a x d b0 b1 b2))), (za, .inl (cZ, 2, .inl (p2 (bI z0) (bI z1)))), (ca, .inl (cZ, 2, .inl (upd (p2 (bI c0) (bI c1)) 1 (bI false))))] H := hP
    have hD : va_D A [(o, .inr (5, [.int th, .ref im, .int (bI tr), .ref rc, .ref bg, .int ro, .ref oa, .ref xa, .ref ya, .ref rg, .ref me, .ref sa, .ref pa, .ref za, .ref ca, .int (bI kp), .ref ta, .ref na])), (rg, .inl (cI, 6, .inl (rg6 a x d b0 b1 b2))), (za, .inl (cZ, 2, .inl (p2 (bI z0) (bI z1)))), (ca, .inl (cZ, 2, .inl (upd (p2 (bI c0) (bI c1)) 1 (bI false))))] := hD
    rw [show upd (p2 (bI c0) (bI c1)) 1 (bI false) = p2 (bI c0) (bI false) from p2_1] at hP hD
    have hP : va_P D vwCl [(o, .inr (5, [.int th, .ref im, .int (bI tr), .ref rc, .ref bg, .int ro, .ref oa, .ref xa, .ref ya, .ref rg, .ref me, .ref sa, .ref pa, .ref za, .ref ca, .int (bI kp), .ref ta, .ref na])), (rg, .inl (cI, 6, .inl (rg6 a x d b0 b1 b2))), (za, .inl (cZ, 2, .inl (p2 (bI z0) (bI z1)))), (ca, .inl (cZ, 2, .inl (p2 (bI c0) (bI false))))] H := hP
    have hD : va_D A [(o, .inr (5, [.int th, .ref im, .int (bI tr), .ref rc, .ref bg, .int ro, .ref oa, .ref xa, .ref ya, .ref rg, .ref me, .ref sa, .ref pa, .ref za, .ref ca, .int (bI kp), .ref ta, .ref na])), (rg, .inl (cI, 6, .inl (rg6 a x d b0 b1 b2))), (za, .inl (cZ, 2, .inl (p2 (bI z0) (bI z1)))), (ca, .inl (cZ, 2, .inl (p2 (bI c0) (bI false))))] := hD
    refine lv_aload_n hx hb d_MO_doubles_28 rfl (lv_at hl 1 rfl) ?_
    refine lv_iload_n hx hb d_MO_doubles_29 rfl (lv_at hl 2 rfl) ?_
    refine lv_iload_n hx hb d_MO_doubles_30 rfl (lv_at hl 3 rfl) ?_
    refine lv_iconst (v := 2) hx hb d_MO_doubles_31 (by decide) ?_
    refine lv_iload_n hx hb d_MO_doubles_32 rfl (lv_at hl 0 rfl) ?_
    refine lv_imul hx hb d_MO_doubles_33 ?_
    have hPc := hP.sub (ws' := [(o, .inr (5, [.int th, .ref im, .int (bI tr), .ref rc, .ref bg, .int ro, .ref oa, .ref xa, .ref ya, .ref rg, .ref me, .ref sa, .ref pa, .ref za, .ref ca, .int (bI kp), .ref ta, .ref na])), (rg, .inl (cI, 6, .inl (rg6 a x d b0 b1 b2))), (za, .inl (cZ, 2, .inl (p2 (bI z0) (bI z1))))]) [0, 1, 2] rfl
    have hDc := hD.sub (ws' := [(o, .inr (5, [.int th, .ref im, .int (bI tr), .ref rc, .ref bg, .int ro, .ref oa, .ref xa, .ref ya, .ref rg, .ref me, .ref sa, .ref pa, .ref za, .ref ca, .int (bI kp), .ref ta, .ref na])), (rg, .inl (cI, 6, .inl (rg6 a x d b0 b1 b2))), (za, .inl (cZ, 2, .inl (p2 (bI z0) (bI z1))))]) [0, 1, 2] (by decide) rfl
    have hFc := va_free (wc := [(o, .inr (5, [.int th, .ref im, .int (bI tr), .ref rc, .ref bg, .int ro, .ref oa, .ref xa, .ref ya, .ref rg, .ref me, .ref sa, .ref pa, .ref za, .ref ca, .int (bI kp), .ref ta, .ref na])), (rg, .inl (cI, 6, .inl (rg6 a x d b0 b1 b2))), (za, .inl (cZ, 2, .inl (p2 (bI z0) (bI z1))))]) hD hS hA [0, 1, 2] rfl
    refine va_callv (va_runV (As := [.int 1, .int 1, .int (2 * b1)]) (rest := []) ⟨hx, hb, hml, hown, hts⟩ (q_setZ11 l D cI cZ o th im tr rc bg ro oa xa ya rg me sa pa za ca kp ta na a x d b0 b1 b2 z0 z1 (2 * b1) H.size) ⟨cB 3 hts k_845 k_62 k_842 hd_MO_setZ ⟨Nat.le_of_ble_eq_true rfl, Nat.le_of_ble_eq_true rfl⟩ rfl rfl, hts _ k_844, hts _ k_42⟩ (PcW.preV (va_recv hK hP (q0 := 0) (ci := 5) rfl rfl) hPc hK hDc hN) rfl rfl hl.1 rfl (lv_room (Nat.le_of_ble_eq_true rfl)) d_MO_doubles_34 ⟨Nat.le_of_ble_eq_true rfl, Nat.le_of_ble_eq_true rfl⟩) hS (fun q _ h => hFc q h) hFc (fun u t H1 locs ht hvm e34 hB hz1 hk1 hS => ?_)
    obtain ⟨v134, zz34⟩ := u
    obtain ⟨hP1, hK1, hD1⟩ := hB
    rw [ht] at hP1
    obtain ⟨hP, hD⟩ := va_join (wr := [(ca, .inl (cZ, 2, .inl (p2 (bI c0) (bI false))))]) (w1 := [(o, .inr (5, [.int th, .ref im, .int (bI tr), .ref rc, .ref bg, .int ro, .ref oa, .ref xa, .ref ya, .ref rg, .ref me, .ref sa, .ref pa, .ref za, .ref ca, .int (bI kp), .ref ta, .ref na])), (rg, .inl (cI, 6, .inl (rg6 a x d b0 v134 b2))), (za, .inl (cZ, 2, .inl (p2 (bI z0) (bI zz34))))]) hP hD [0, 1, 2] [3] rfl rfl (by decide) (by decide) hk1 hFc hP1 hD1
    generalize H1 = H at hP hS ⊢
    try dsimp only at e34
    obtain ⟨e34_0, e34_1⟩ := e34
    replace e34_0 := e34_0.symm
    subst e34_0
    replace e34_1 := e34_1.symm
    subst e34_1
    have hP : va_P D vwCl [(ca, .inl (cZ, 2, .inl (p2 (bI c0) (bI false)))), (o, .inr (5, [.int th, .ref im, .int (bI tr), .ref rc, .ref bg, .int ro, .ref oa, .ref xa, .ref ya, .ref rg, .ref me, .ref sa, .ref pa, .ref za, .ref ca, .int (bI kp), .ref ta, .ref na])), (rg, .inl (cI, 6, .inl (rg6 a x d b0 ((2 * b1) &&& 255) b2))), (za, .inl (cZ, 2, .inl (p2 (bI z0) (bI (decide ((2 * b1) &&& 255 = 0))))))] H := hP
    have hD : va_D A [(ca, .inl (cZ, 2, .inl (p2 (bI c0) (bI false)))), (o, .inr (5, [.int th, .ref im, .int (bI tr), .ref rc, .ref bg, .int ro, .ref oa, .ref xa, .ref ya, .ref rg, .ref me, .ref sa, .ref pa, .ref za, .ref ca, .int (bI kp), .ref ta, .ref na])), (rg, .inl (cI, 6, .inl (rg6 a x d b0 ((2 * b1) &&& 255) b2))), (za, .inl (cZ, 2, .inl (p2 (bI z0) (bI (decide ((2 * b1) &&& 255 = 0))))))] := hD
    have hP9 : va_P D vwCl [(o, .inr (5, [.int th, .ref im, .int (bI tr), .ref rc, .ref bg, .int ro, .ref oa, .ref xa, .ref ya, .ref rg, .ref me, .ref sa, .ref pa, .ref za, .ref ca, .int (bI kp), .ref ta, .ref na])), (rg, .inl (cI, 6, .inl (rg6 a x d b0 ((2 * b1) &&& 255) b2))), (za, .inl (cZ, 2, .inl (p2 (bI z0) (bI (decide ((2 * b1) &&& 255 = 0)))))), (ca, .inl (cZ, 2, .inl (p2 (bI c0) (bI false))))] H := hP.sub [1, 2, 3, 0] rfl
    have hD9 : va_D A [(o, .inr (5, [.int th, .ref im, .int (bI tr), .ref rc, .ref bg, .int ro, .ref oa, .ref xa, .ref ya, .ref rg, .ref me, .ref sa, .ref pa, .ref za, .ref ca, .int (bI kp), .ref ta, .ref na])), (rg, .inl (cI, 6, .inl (rg6 a x d b0 ((2 * b1) &&& 255) b2))), (za, .inl (cZ, 2, .inl (p2 (bI z0) (bI (decide ((2 * b1) &&& 255 = 0)))))), (ca, .inl (cZ, 2, .inl (p2 (bI c0) (bI false))))] := hD.sub [1, 2, 3, 0] (by decide) rfl
    exact W.vret hx hb hr (fun t ht hW => ⟨⟨((2 * b1) &&& 255, decide ((2 * b1) &&& 255 = 0), false), rfl, by first | (simp only [h19, ↓reduceIte, not_true_eq_false, not_false_eq_true, and_true, true_and, and_false, false_and, and_self, or_true, true_or, or_false, false_or, decide_true, decide_false, Bool.false_eq_true, reduceCtorEq]; done) | (simp_all []; done), by rw [ht]; exact hP9, va_K.moved hW.alike hK, hD9⟩, hS.F ht⟩) hS.2.2 d_MO_doubles_37
  · refine lv_iconst (v := 1) hx hb d_MO_doubles_22 (by decide) ?_
    refine lv_goto (tgt := 27) hx hb d_MO_doubles_23 rfl ?_
    refine va_zast hx hb hK hP hD hS 3 1 rfl rfl (vp_in_nI (n := 1) (by decide) (by decide)) d_MO_doubles_27 (fun H locs hP hD hS => ?_)
    have hP : va_P D vwCl [(o, .inr (5, [.int th, .ref im, .int (bI tr), .ref rc, .ref bg, .int ro, .ref oa, .ref xa, .ref ya, .ref rg, .ref me, .ref sa, .ref pa, .ref za, .ref ca, .int (bI kp), .ref ta, .ref na])), (rg, .inl (cI, 6, .inl (rg6 a x d b0 b1 b2))), (za, .inl (cZ, 2, .inl (p2 (bI z0) (bI z1)))), (ca, .inl (cZ, 2, .inl (upd (p2 (bI c0) (bI c1)) 1 (bI true))))] H := hP
    have hD : va_D A [(o, .inr (5, [.int th, .ref im, .int (bI tr), .ref rc, .ref bg, .int ro, .ref oa, .ref xa, .ref ya, .ref rg, .ref me, .ref sa, .ref pa, .ref za, .ref ca, .int (bI kp), .ref ta, .ref na])), (rg, .inl (cI, 6, .inl (rg6 a x d b0 b1 b2))), (za, .inl (cZ, 2, .inl (p2 (bI z0) (bI z1)))), (ca, .inl (cZ, 2, .inl (upd (p2 (bI c0) (bI c1)) 1 (bI true))))] := hD
    rw [show upd (p2 (bI c0) (bI c1)) 1 (bI true) = p2 (bI c0) (bI true) from p2_1] at hP hD
    have hP : va_P D vwCl [(o, .inr (5, [.int th, .ref im, .int (bI tr), .ref rc, .ref bg, .int ro, .ref oa, .ref xa, .ref ya, .ref rg, .ref me, .ref sa, .ref pa, .ref za, .ref ca, .int (bI kp), .ref ta, .ref na])), (rg, .inl (cI, 6, .inl (rg6 a x d b0 b1 b2))), (za, .inl (cZ, 2, .inl (p2 (bI z0) (bI z1)))), (ca, .inl (cZ, 2, .inl (p2 (bI c0) (bI true))))] H := hP
    have hD : va_D A [(o, .inr (5, [.int th, .ref im, .int (bI tr), .ref rc, .ref bg, .int ro, .ref oa, .ref xa, .ref ya, .ref rg, .ref me, .ref sa, .ref pa, .ref za, .ref ca, .int (bI kp), .ref ta, .ref na])), (rg, .inl (cI, 6, .inl (rg6 a x d b0 b1 b2))), (za, .inl (cZ, 2, .inl (p2 (bI z0) (bI z1)))), (ca, .inl (cZ, 2, .inl (p2 (bI c0) (bI true))))] := hD
    refine lv_aload_n hx hb d_MO_doubles_28 rfl (lv_at hl 1 rfl) ?_
    refine lv_iload_n hx hb d_MO_doubles_29 rfl (lv_at hl 2 rfl) ?_
    refine lv_iload_n hx hb d_MO_doubles_30 rfl (lv_at hl 3 rfl) ?_
    refine lv_iconst (v := 2) hx hb d_MO_doubles_31 (by decide) ?_
    refine lv_iload_n hx hb d_MO_doubles_32 rfl (lv_at hl 0 rfl) ?_
    refine lv_imul hx hb d_MO_doubles_33 ?_
    have hPc := hP.sub (ws' := [(o, .inr (5, [.int th, .ref im, .int (bI tr), .ref rc, .ref bg, .int ro, .ref oa, .ref xa, .ref ya, .ref rg, .ref me, .ref sa, .ref pa, .ref za, .ref ca, .int (bI kp), .ref ta, .ref na])), (rg, .inl (cI, 6, .inl (rg6 a x d b0 b1 b2))), (za, .inl (cZ, 2, .inl (p2 (bI z0) (bI z1))))]) [0, 1, 2] rfl
    have hDc := hD.sub (ws' := [(o, .inr (5, [.int th, .ref im, .int (bI tr), .ref rc, .ref bg, .int ro, .ref oa, .ref xa, .ref ya, .ref rg, .ref me, .ref sa, .ref pa, .ref za, .ref ca, .int (bI kp), .ref ta, .ref na])), (rg, .inl (cI, 6, .inl (rg6 a x d b0 b1 b2))), (za, .inl (cZ, 2, .inl (p2 (bI z0) (bI z1))))]) [0, 1, 2] (by decide) rfl
    have hFc := va_free (wc := [(o, .inr (5, [.int th, .ref im, .int (bI tr), .ref rc, .ref bg, .int ro, .ref oa, .ref xa, .ref ya, .ref rg, .ref me, .ref sa, .ref pa, .ref za, .ref ca, .int (bI kp), .ref ta, .ref na])), (rg, .inl (cI, 6, .inl (rg6 a x d b0 b1 b2))), (za, .inl (cZ, 2, .inl (p2 (bI z0) (bI z1))))]) hD hS hA [0, 1, 2] rfl
    refine va_callv (va_runV (As := [.int 1, .int 1, .int (2 * b1)]) (rest := []) ⟨hx, hb, hml, hown, hts⟩ (q_setZ11 l D cI cZ o th im tr rc bg ro oa xa ya rg me sa pa za ca kp ta na a x d b0 b1 b2 z0 z1 (2 * b1) H.size) ⟨cB 3 hts k_845 k_62 k_842 hd_MO_setZ ⟨Nat.le_of_ble_eq_true rfl, Nat.le_of_ble_eq_true rfl⟩ rfl rfl, hts _ k_844, hts _ k_42⟩ (PcW.preV (va_recv hK hP (q0 := 0) (ci := 5) rfl rfl) hPc hK hDc hN) rfl rfl hl.1 rfl (lv_room (Nat.le_of_ble_eq_true rfl)) d_MO_doubles_34 ⟨Nat.le_of_ble_eq_true rfl, Nat.le_of_ble_eq_true rfl⟩) hS (fun q _ h => hFc q h) hFc (fun u t H1 locs ht hvm e34 hB hz1 hk1 hS => ?_)
    obtain ⟨v134, zz34⟩ := u
    obtain ⟨hP1, hK1, hD1⟩ := hB
    rw [ht] at hP1
    obtain ⟨hP, hD⟩ := va_join (wr := [(ca, .inl (cZ, 2, .inl (p2 (bI c0) (bI true))))]) (w1 := [(o, .inr (5, [.int th, .ref im, .int (bI tr), .ref rc, .ref bg, .int ro, .ref oa, .ref xa, .ref ya, .ref rg, .ref me, .ref sa, .ref pa, .ref za, .ref ca, .int (bI kp), .ref ta, .ref na])), (rg, .inl (cI, 6, .inl (rg6 a x d b0 v134 b2))), (za, .inl (cZ, 2, .inl (p2 (bI z0) (bI zz34))))]) hP hD [0, 1, 2] [3] rfl rfl (by decide) (by decide) hk1 hFc hP1 hD1
    generalize H1 = H at hP hS ⊢
    try dsimp only at e34
    obtain ⟨e34_0, e34_1⟩ := e34
    replace e34_0 := e34_0.symm
    subst e34_0
    replace e34_1 := e34_1.symm
    subst e34_1
    have hP : va_P D vwCl [(ca, .inl (cZ, 2, .inl (p2 (bI c0) (bI true)))), (o, .inr (5, [.int th, .ref im, .int (bI tr), .ref rc, .ref bg, .int ro, .ref oa, .ref xa, .ref ya, .ref rg, .ref me, .ref sa, .ref pa, .ref za, .ref ca, .int (bI kp), .ref ta, .ref na])), (rg, .inl (cI, 6, .inl (rg6 a x d b0 ((2 * b1) &&& 255) b2))), (za, .inl (cZ, 2, .inl (p2 (bI z0) (bI (decide ((2 * b1) &&& 255 = 0))))))] H := hP
    have hD : va_D A [(ca, .inl (cZ, 2, .inl (p2 (bI c0) (bI true)))), (o, .inr (5, [.int th, .ref im, .int (bI tr), .ref rc, .ref bg, .int ro, .ref oa, .ref xa, .ref ya, .ref rg, .ref me, .ref sa, .ref pa, .ref za, .ref ca, .int (bI kp), .ref ta, .ref na])), (rg, .inl (cI, 6, .inl (rg6 a x d b0 ((2 * b1) &&& 255) b2))), (za, .inl (cZ, 2, .inl (p2 (bI z0) (bI (decide ((2 * b1) &&& 255 = 0))))))] := hD
    have hP9 : va_P D vwCl [(o, .inr (5, [.int th, .ref im, .int (bI tr), .ref rc, .ref bg, .int ro, .ref oa, .ref xa, .ref ya, .ref rg, .ref me, .ref sa, .ref pa, .ref za, .ref ca, .int (bI kp), .ref ta, .ref na])), (rg, .inl (cI, 6, .inl (rg6 a x d b0 ((2 * b1) &&& 255) b2))), (za, .inl (cZ, 2, .inl (p2 (bI z0) (bI (decide ((2 * b1) &&& 255 = 0)))))), (ca, .inl (cZ, 2, .inl (p2 (bI c0) (bI true))))] H := hP.sub [1, 2, 3, 0] rfl
    have hD9 : va_D A [(o, .inr (5, [.int th, .ref im, .int (bI tr), .ref rc, .ref bg, .int ro, .ref oa, .ref xa, .ref ya, .ref rg, .ref me, .ref sa, .ref pa, .ref za, .ref ca, .int (bI kp), .ref ta, .ref na])), (rg, .inl (cI, 6, .inl (rg6 a x d b0 ((2 * b1) &&& 255) b2))), (za, .inl (cZ, 2, .inl (p2 (bI z0) (bI (decide ((2 * b1) &&& 255 = 0)))))), (ca, .inl (cZ, 2, .inl (p2 (bI c0) (bI true))))] := hD.sub [1, 2, 3, 0] (by decide) rfl
    exact W.vret hx hb hr (fun t ht hW => ⟨⟨((2 * b1) &&& 255, decide ((2 * b1) &&& 255 = 0), true), rfl, by first | (simp only [h19, ↓reduceIte, not_true_eq_false, not_false_eq_true, and_true, true_and, and_false, false_and, and_self, or_true, true_or, or_false, false_or, decide_true, decide_false, Bool.false_eq_true, reduceCtorEq]; done) | (simp_all []; done), by rw [ht]; exact hP9, va_K.moved hW.alike hK, hD9⟩, hS.F ht⟩) hS.2.2 d_MO_doubles_37
set_option maxHeartbeats 4000000 in
set_option maxRecDepth 100000 in
theorem q_hlv11 (l : Launch) (D : va_G) (cI cZ : ClassId) (o : Nat) (th : Int32) (im : Nat) (tr : Bool) (rc : Nat) (bg : Nat) (ro : Int32) (oa : Nat) (xa : Nat) (ya : Nat) (rg : Nat) (me : Nat) (sa : Nat) (pa : Nat) (za : Nat) (ca : Nat) (kp : Bool) (ta : Nat) (na : Nat) (a : Int32) (x : Int32) (d : Int32) (b0 : Int32) (b1 : Int32) (b2 : Int32) (z0 : Bool) (z1 : Bool) (c0 : Bool) (c1 : Bool) (sz : Nat) : MetV l y_MO_halves w_MO_halves { frames := 2, cells := 0, slots := 0, locals := 46 } D cI cZ [.ref o, .int 1, .int 1] [(o, .inr (5, [.int th, .ref im, .int (bI tr), .ref rc, .ref bg, .int ro, .ref oa, .ref xa, .ref ya, .ref rg, .ref me, .ref sa, .ref pa, .ref za, .ref ca, .int (bI kp), .ref ta, .ref na])), (rg, .inl (cI, 6, .inl (rg6 a x d b0 b1 b2))), (za, .inl (cZ, 2, .inl (p2 (bI z0) (bI z1)))), (ca, .inl (cZ, 2, .inl (p2 (bI c0) (bI c1))))] sz (fun (u : Int32 × Bool × Bool) => match u with | (v1, zz, cy) => v1 = (b1 / 2) &&& 255 ∧ zz = decide ((b1 / 2) &&& 255 = 0) ∧ cy = decide (b1 - b1 / 2 * 2 = 1)) (fun (u : Int32 × Bool × Bool) => match u with | (v1, zz, cy) => [(o, .inr (5, [.int th, .ref im, .int (bI tr), .ref rc, .ref bg, .int ro, .ref oa, .ref xa, .ref ya, .ref rg, .ref me, .ref sa, .ref pa, .ref za, .ref ca, .int (bI kp), .ref ta, .ref na])), (rg, .inl (cI, 6, .inl (rg6 a x d b0 v1 b2))), (za, .inl (cZ, 2, .inl (p2 (bI z0) (bI zz)))), (ca, .inl (cZ, 2, .inl (p2 (bI c0) (bI cy))))]) 0 0 := by
  refine ofV (cc := c_MO_halves) (maxL := 4) (ret := none) (by decide) rfl (Nat.le_of_ble_eq_true rfl) ?_
  intro p e s m args below meth c A H hH0 hx hb hr hlocks hts hown hnm hml ls hl hP hK hD hA hS hN
  have hown : s.vm.findClass R_MO = some m.cls := hown
  have hl : lv_has ls 4 [(0, .ref o), (1, .int 1), (2, .int 1)] := hl
  refine lv_aload_n hx hb d_MO_halves_0 rfl (lv_at hl 0 rfl) ?_
  refine va_get (D := D) (ci := 5) (v := .ref rg) (C := R_MO) (T := T_MO) (N := 18) hx hb hts iw_MO hown hK hP 0 rfl rfl 9 (by decide) (hts _ k_704) (fun _ h9 => h9) rfl d_MO_halves_1 ?_
  refine lv_iconst (v := 3) hx hb d_MO_halves_4 (by decide) ?_
  refine lv_iload_n hx hb d_MO_halves_5 rfl (lv_at hl 1 rfl) ?_
  refine lv_imul hx hb d_MO_halves_6 ?_
  refine lv_iload_n hx hb d_MO_halves_7 rfl (lv_at hl 2 rfl) ?_
  refine lv_iadd hx hb d_MO_halves_8 ?_
  refine va_iald hx hb hK hP 1 0 rfl rfl (vp_in_nI (n := 4) (by decide) (by decide)) d_MO_halves_9 ?_
  refine lv_istore_n hx hb d_MO_halves_10 rfl hl (by decide) rfl (fun ls hl => ?_)
  have hl : lv_has ls 4 [(3, .int b1), (0, .ref o), (1, .int 1), (2, .int 1)] := hl
  refine lv_aload_n hx hb d_MO_halves_11 rfl (lv_at hl 1 rfl) ?_
  refine va_get (D := D) (ci := 5) (v := .ref ca) (C := R_MO) (T := T_MO) (N := 18) hx hb hts iw_MO hown hK hP 0 rfl rfl 14 (by decide) (hts _ k_709) (fun _ h9 => h9) rfl d_MO_halves_12 ?_
  refine lv_iload_n hx hb d_MO_halves_15 rfl (lv_at hl 2 rfl) ?_
  refine lv_iload_n hx hb d_MO_halves_16 rfl (lv_at hl 0 rfl) ?_
  refine lv_iconst (v := 2) hx hb d_MO_halves_17 (by decide) ?_
  refine lv_irem hx hb d_MO_halves_18 (by decide) ?_
  refine lv_iconst (v := 1) hx hb d_MO_halves_19 (by decide) ?_
  refine lv_icmp_ne (tgt := 27) hx hb d_MO_halves_20 rfl (fun h20 => ?_) (fun h20 => ?_)
  · refine lv_iconst (v := 0) hx hb d_MO_halves_27 (by decide) ?_
    refine va_zast hx hb hK hP hD hS 3 1 rfl rfl (vp_in_nI (n := 1) (by decide) (by decide)) d_MO_halves_28 (fun H locs hP hD hS => ?_)
    have hP : va_P D vwCl [(o, .inr (5, [.int th, .ref im, .int (bI tr), .ref rc, .ref bg, .int ro, .ref oa, .ref xa, .ref ya, .ref rg, .ref me, .ref sa, .ref pa, .ref za, .ref ca, .int (bI kp), .ref ta, .ref na])), (rg, .inl (cI, 6, .inl (rg6 a x d b0 b1 b2))), (za, .inl (cZ, 2, .inl (p2 (bI z0) (bI z1)))), (ca, .inl (cZ, 2, .inl (upd (p2 (bI c0) (bI c1)) 1 (bI false))))] H := hP
    have hD : va_D A [(o, .inr (5, [.int th, .ref im, .int (bI tr), .ref rc, .ref bg, .int ro, .ref oa, .ref xa, .ref ya, .ref rg, .ref me, .ref sa, .ref pa, .ref za, .ref ca, .int (bI kp), .ref ta, .ref na])), (rg, .inl (cI, 6, .inl (rg6 a x d b0 b1 b2))), (za, .inl (cZ, 2, .inl (p2 (bI z0) (bI z1)))), (ca, .inl (cZ, 2, .inl (upd (p2 (bI c0) (bI c1)) 1 (bI false))))] := hD
    rw [show upd (p2 (bI c0) (bI c1)) 1 (bI false) = p2 (bI c0) (bI false) from p2_1] at hP hD
    have hP : va_P D vwCl [(o, .inr (5, [.int th, .ref im, .int (bI tr), .ref rc, .ref bg, .int ro, .ref oa, .ref xa, .ref ya, .ref rg, .ref me, .ref sa, .ref pa, .ref za, .ref ca, .int (bI kp), .ref ta, .ref na])), (rg, .inl (cI, 6, .inl (rg6 a x d b0 b1 b2))), (za, .inl (cZ, 2, .inl (p2 (bI z0) (bI z1)))), (ca, .inl (cZ, 2, .inl (p2 (bI c0) (bI false))))] H := hP
    have hD : va_D A [(o, .inr (5, [.int th, .ref im, .int (bI tr), .ref rc, .ref bg, .int ro, .ref oa, .ref xa, .ref ya, .ref rg, .ref me, .ref sa, .ref pa, .ref za, .ref ca, .int (bI kp), .ref ta, .ref na])), (rg, .inl (cI, 6, .inl (rg6 a x d b0 b1 b2))), (za, .inl (cZ, 2, .inl (p2 (bI z0) (bI z1)))), (ca, .inl (cZ, 2, .inl (p2 (bI c0) (bI false))))] := hD
    refine lv_aload_n hx hb d_MO_halves_29 rfl (lv_at hl 1 rfl) ?_
    refine lv_iload_n hx hb d_MO_halves_30 rfl (lv_at hl 2 rfl) ?_
    refine lv_iload_n hx hb d_MO_halves_31 rfl (lv_at hl 3 rfl) ?_
    refine lv_iload_n hx hb d_MO_halves_32 rfl (lv_at hl 0 rfl) ?_
    refine lv_iconst (v := 2) hx hb d_MO_halves_33 (by decide) ?_
    refine lv_idiv hx hb d_MO_halves_34 (by decide) ?_
    have hPc := hP.sub (ws' := [(o, .inr (5, [.int th, .ref im, .int (bI tr), .ref rc, .ref bg, .int ro, .ref oa, .ref xa, .ref ya, .ref rg, .ref me, .ref sa, .ref pa, .ref za, .ref ca, .int (bI kp), .ref ta, .ref na])), (rg, .inl (cI, 6, .inl (rg6 a x d b0 b1 b2))), (za, .inl (cZ, 2, .inl (p2 (bI z0) (bI z1))))]) [0, 1, 2] rfl
    have hDc := hD.sub (ws' := [(o, .inr (5, [.int th, .ref im, .int (bI tr), .ref rc, .ref bg, .int ro, .ref oa, .ref xa, .ref ya, .ref rg, .ref me, .ref sa, .ref pa, .ref za, .ref ca, .int (bI kp), .ref ta, .ref na])), (rg, .inl (cI, 6, .inl (rg6 a x d b0 b1 b2))), (za, .inl (cZ, 2, .inl (p2 (bI z0) (bI z1))))]) [0, 1, 2] (by decide) rfl
    have hFc := va_free (wc := [(o, .inr (5, [.int th, .ref im, .int (bI tr), .ref rc, .ref bg, .int ro, .ref oa, .ref xa, .ref ya, .ref rg, .ref me, .ref sa, .ref pa, .ref za, .ref ca, .int (bI kp), .ref ta, .ref na])), (rg, .inl (cI, 6, .inl (rg6 a x d b0 b1 b2))), (za, .inl (cZ, 2, .inl (p2 (bI z0) (bI z1))))]) hD hS hA [0, 1, 2] rfl
    refine va_callv (va_runV (As := [.int 1, .int 1, .int (b1 / 2)]) (rest := []) ⟨hx, hb, hml, hown, hts⟩ (q_setZ11 l D cI cZ o th im tr rc bg ro oa xa ya rg me sa pa za ca kp ta na a x d b0 b1 b2 z0 z1 (b1 / 2) H.size) ⟨cB 3 hts k_845 k_62 k_842 hd_MO_setZ ⟨Nat.le_of_ble_eq_true rfl, Nat.le_of_ble_eq_true rfl⟩ rfl rfl, hts _ k_844, hts _ k_42⟩ (PcW.preV (va_recv hK hP (q0 := 0) (ci := 5) rfl rfl) hPc hK hDc hN) rfl rfl hl.1 rfl (lv_room (Nat.le_of_ble_eq_true rfl)) d_MO_halves_35 ⟨Nat.le_of_ble_eq_true rfl, Nat.le_of_ble_eq_true rfl⟩) hS (fun q _ h => hFc q h) hFc (fun u t H1 locs ht hvm e35 hB hz1 hk1 hS => ?_)
    obtain ⟨v135, zz35⟩ := u
    obtain ⟨hP1, hK1, hD1⟩ := hB
    rw [ht] at hP1
    obtain ⟨hP, hD⟩ := va_join (wr := [(ca, .inl (cZ, 2, .inl (p2 (bI c0) (bI false))))]) (w1 := [(o, .inr (5, [.int th, .ref im, .int (bI tr), .ref rc, .ref bg, .int ro, .ref oa, .ref xa, .ref ya, .ref rg, .ref me, .ref sa, .ref pa, .ref za, .ref ca, .int (bI kp), .ref ta, .ref na])), (rg, .inl (cI, 6, .inl (rg6 a x d b0 v135 b2))), (za, .inl (cZ, 2, .inl (p2 (bI z0) (bI zz35))))]) hP hD [0, 1, 2] [3] rfl rfl (by decide) (by decide) hk1 hFc hP1 hD1
    generalize H1 = H at hP hS ⊢
    try dsimp only at e35
    obtain ⟨e35_0, e35_1⟩ := e35
    replace e35_0 := e35_0.symm
    subst e35_0
    replace e35_1 := e35_1.symm
    subst e35_1
    have hP : va_P D vwCl [(ca, .inl (cZ, 2, .inl (p2 (bI c0) (bI false)))), (o, .inr (5, [.int th, .ref im, .int (bI tr), .ref rc, .ref bg, .int ro, .ref oa, .ref xa, .ref ya, .ref rg, .ref me, .ref sa, .ref pa, .ref za, .ref ca, .int (bI kp), .ref ta, .ref na])), (rg, .inl (cI, 6, .inl (rg6 a x d b0 ((b1 / 2) &&& 255) b2))), (za, .inl (cZ, 2, .inl (p2 (bI z0) (bI (decide ((b1 / 2) &&& 255 = 0))))))] H := hP
    have hD : va_D A [(ca, .inl (cZ, 2, .inl (p2 (bI c0) (bI false)))), (o, .inr (5, [.int th, .ref im, .int (bI tr), .ref rc, .ref bg, .int ro, .ref oa, .ref xa, .ref ya, .ref rg, .ref me, .ref sa, .ref pa, .ref za, .ref ca, .int (bI kp), .ref ta, .ref na])), (rg, .inl (cI, 6, .inl (rg6 a x d b0 ((b1 / 2) &&& 255) b2))), (za, .inl (cZ, 2, .inl (p2 (bI z0) (bI (decide ((b1 / 2) &&& 255 = 0))))))] := hD
    have hP9 : va_P D vwCl [(o, .inr (5, [.int th, .ref im, .int (bI tr), .ref rc, .ref bg, .int ro, .ref oa, .ref xa, .ref ya, .ref rg, .ref me, .ref sa, .ref pa, .ref za, .ref ca, .int (bI kp), .ref ta, .ref na])), (rg, .inl (cI, 6, .inl (rg6 a x d b0 ((b1 / 2) &&& 255) b2))), (za, .inl (cZ, 2, .inl (p2 (bI z0) (bI (decide ((b1 / 2) &&& 255 = 0)))))), (ca, .inl (cZ, 2, .inl (p2 (bI c0) (bI false))))] H := hP.sub [1, 2, 3, 0] rfl
    have hD9 : va_D A [(o, .inr (5, [.int th, .ref im, .int (bI tr), .ref rc, .ref bg, .int ro, .ref oa, .ref xa, .ref ya, .ref rg, .ref me, .ref sa, .ref pa, .ref za, .ref ca, .int (bI kp), .ref ta, .ref na])), (rg, .inl (cI, 6, .inl (rg6 a x d b0 ((b1 / 2) &&& 255) b2))), (za, .inl (cZ, 2, .inl (p2 (bI z0) (bI (decide ((b1 / 2) &&& 255 = 0)))))), (ca, .inl (cZ, 2, .inl (p2 (bI c0) (bI false))))] := hD.sub [1, 2, 3, 0] (by decide) rfl
    exact W.vret hx hb hr (fun t ht hW => ⟨⟨((b1 / 2) &&& 255, decide ((b1 / 2) &&& 255 = 0), false), rfl, by first | (simp only [h20, ↓reduceIte, not_true_eq_false, not_false_eq_true, and_true, true_and, and_false, false_and, and_self, or_true, true_or, or_false, false_or, decide_true, decide_false, Bool.false_eq_true, reduceCtorEq]; done) | (simp_all []; done), by rw [ht]; exact hP9, va_K.moved hW.alike hK, hD9⟩, hS.F ht⟩) hS.2.2 d_MO_halves_38
  · refine lv_iconst (v := 1) hx hb d_MO_halves_23 (by decide) ?_
    refine lv_goto (tgt := 28) hx hb d_MO_halves_24 rfl ?_
    refine va_zast hx hb hK hP hD hS 3 1 rfl rfl (vp_in_nI (n := 1) (by decide) (by decide)) d_MO_halves_28 (fun H locs hP hD hS => ?_)
    have hP : va_P D vwCl [(o, .inr (5, [.int th, .ref im, .int (bI tr), .ref rc, .ref bg, .int ro, .ref oa, .ref xa, .ref ya, .ref rg, .ref me, .ref sa, .ref pa, .ref za, .ref ca, .int (bI kp), .ref ta, .ref na])), (rg, .inl (cI, 6, .inl (rg6 a x d b0 b1 b2))), (za, .inl (cZ, 2, .inl (p2 (bI z0) (bI z1)))), (ca, .inl (cZ, 2, .inl (upd (p2 (bI c0) (bI c1)) 1 (bI true))))] H := hP
    have hD : va_D A [(o, .inr (5, [.int th, .ref im, .int (bI tr), .ref rc, .ref bg, .int ro, .ref oa, .ref xa, .ref ya, .ref rg, .ref me, .ref sa, .ref pa, .ref za, .ref ca, .int (bI kp), .ref ta, .ref na])), (rg, .inl (cI, 6, .inl (rg6 a x d b0 b1 b2))), (za, .inl (cZ, 2, .inl (p2 (bI z0) (bI z1)))), (ca, .inl (cZ, 2, .inl (upd (p2 (bI c0) (bI c1)) 1 (bI true))))] := hD
    rw [show upd (p2 (bI c0) (bI c1)) 1 (bI true) = p2 (bI c0) (bI true) from p2_1] at hP hD
    have hP : va_P D vwCl [(o, .inr (5, [.int th, .ref im, .int (bI tr), .ref rc, .ref bg, .int ro, .ref oa, .ref xa, .ref ya, .ref rg, .ref me, .ref sa, .ref pa, .ref za, .ref ca, .int (bI kp), .ref ta, .ref na])), (rg, .inl (cI, 6, .inl (rg6 a x d b0 b1 b2))), (za, .inl (cZ, 2, .inl (p2 (bI z0) (bI z1)))), (ca, .inl (cZ, 2, .inl (p2 (bI c0) (bI true))))] H := hP
    have hD : va_D A [(o, .inr (5, [.int th, .ref im, .int (bI tr), .ref rc, .ref bg, .int ro, .ref oa, .ref xa, .ref ya, .ref rg, .ref me, .ref sa, .ref pa, .ref za, .ref ca, .int (bI kp), .ref ta, .ref na])), (rg, .inl (cI, 6, .inl (rg6 a x d b0 b1 b2))), (za, .inl (cZ, 2, .inl (p2 (bI z0) (bI z1)))), (ca, .inl (cZ, 2, .inl (p2 (bI c0) (bI true))))] := hD
    refine lv_aload_n hx hb d_MO_halves_29 rfl (lv_at hl 1 rfl) ?_
    refine lv_iload_n hx hb d_MO_halves_30 rfl (lv_at hl 2 rfl) ?_
    refine lv_iload_n hx hb d_MO_halves_31 rfl (lv_at hl 3 rfl) ?_
    refine lv_iload_n hx hb d_MO_halves_32 rfl (lv_at hl 0 rfl) ?_
    refine lv_iconst (v := 2) hx hb d_MO_halves_33 (by decide) ?_
    refine lv_idiv hx hb d_MO_halves_34 (by decide) ?_
    have hPc := hP.sub (ws' := [(o, .inr (5, [.int th, .ref im, .int (bI tr), .ref rc, .ref bg, .int ro, .ref oa, .ref xa, .ref ya, .ref rg, .ref me, .ref sa, .ref pa, .ref za, .ref ca, .int (bI kp), .ref ta, .ref na])), (rg, .inl (cI, 6, .inl (rg6 a x d b0 b1 b2))), (za, .inl (cZ, 2, .inl (p2 (bI z0) (bI z1))))]) [0, 1, 2] rfl
    have hDc := hD.sub (ws' := [(o, .inr (5, [.int th, .ref im, .int (bI tr), .ref rc, .ref bg, .int ro, .ref oa, .ref xa, .ref ya, .ref rg, .ref me, .ref sa, .ref pa, .ref za, .ref ca, .int (bI kp), .ref ta, .ref na])), (rg, .inl (cI, 6, .inl (rg6 a x d b0 b1 b2))), (za, .inl (cZ, 2, .inl (p2 (bI z0) (bI z1))))]) [0, 1, 2] (by decide) rfl
    have hFc := va_free (wc := [(o, .inr (5, [.int th, .ref im, .int (bI tr), .ref rc, .ref bg, .int ro, .ref oa, .ref xa, .ref ya, .ref rg, .ref me, .ref sa, .ref pa, .ref za, .ref ca, .int (bI kp), .ref ta, .ref na])), (rg, .inl (cI, 6, .inl (rg6 a x d b0 b1 b2))), (za, .inl (cZ, 2, .inl (p2 (bI z0) (bI z1))))]) hD hS hA [0, 1, 2] rfl
    refine va_callv (va_runV (As := [.int 1, .int 1, .int (b1 / 2)]) (rest := []) ⟨hx, hb, hml, hown, hts⟩ (q_setZ11 l D cI cZ o th im tr rc bg ro oa xa ya rg me sa pa za ca kp ta na a x d b0 b1 b2 z0 z1 (b1 / 2) H.size) ⟨cB 3 hts k_845 k_62 k_842 hd_MO_setZ ⟨Nat.le_of_ble_eq_true rfl, Nat.le_of_ble_eq_true rfl⟩ rfl rfl, hts _ k_844, hts _ k_42⟩ (PcW.preV (va_recv hK hP (q0 := 0) (ci := 5) rfl rfl) hPc hK hDc hN) rfl rfl hl.1 rfl (lv_room (Nat.le_of_ble_eq_true rfl)) d_MO_halves_35 ⟨Nat.le_of_ble_eq_true rfl, Nat.le_of_ble_eq_true rfl⟩) hS (fun q _ h => hFc q h) hFc (fun u t H1 locs ht hvm e35 hB hz1 hk1 hS => ?_)
    obtain ⟨v135, zz35⟩ := u
    obtain ⟨hP1, hK1, hD1⟩ := hB
    rw [ht] at hP1
    obtain ⟨hP, hD⟩ := va_join (wr := [(ca, .inl (cZ, 2, .inl (p2 (bI c0) (bI true))))]) (w1 := [(o, .inr (5, [.int th, .ref im, .int (bI tr), .ref rc, .ref bg, .int ro, .ref oa, .ref xa, .ref ya, .ref rg, .ref me, .ref sa, .ref pa, .ref za, .ref ca, .int (bI kp), .ref ta, .ref na])), (rg, .inl (cI, 6, .inl (rg6 a x d b0 v135 b2))), (za, .inl (cZ, 2, .inl (p2 (bI z0) (bI zz35))))]) hP hD [0, 1, 2] [3] rfl rfl (by decide) (by decide) hk1 hFc hP1 hD1
    generalize H1 = H at hP hS ⊢
    try dsimp only at e35
    obtain ⟨e35_0, e35_1⟩ := e35
    replace e35_0 := e35_0.symm
    subst e35_0
    replace e35_1 := e35_1.symm
    subst e35_1
    have hP : va_P D vwCl [(ca, .inl (cZ, 2, .inl (p2 (bI c0) (bI true)))), (o, .inr (5, [.int th, .ref im, .int (bI tr), .ref rc, .ref bg, .int ro, .ref oa, .ref xa, .ref ya, .ref rg, .ref me, .ref sa, .ref pa, .ref za, .ref ca, .int (bI kp), .ref ta, .ref na])), (rg, .inl (cI, 6, .inl (rg6 a x d b0 ((b1 / 2) &&& 255) b2))), (za, .inl (cZ, 2, .inl (p2 (bI z0) (bI (decide ((b1 / 2) &&& 255 = 0))))))] H := hP
    have hD : va_D A [(ca, .inl (cZ, 2, .inl (p2 (bI c0) (bI true)))), (o, .inr (5, [.int th, .ref im, .int (bI tr), .ref rc, .ref bg, .int ro, .ref oa, .ref xa, .ref ya, .ref rg, .ref me, .ref sa, .ref pa, .ref za, .ref ca, .int (bI kp), .ref ta, .ref na])), (rg, .inl (cI, 6, .inl (rg6 a x d b0 ((b1 / 2) &&& 255) b2))), (za, .inl (cZ, 2, .inl (p2 (bI z0) (bI (decide ((b1 / 2) &&& 255 = 0))))))] := hD
    have hP9 : va_P D vwCl [(o, .inr (5, [.int th, .ref im, .int (bI tr), .ref rc, .ref bg, .int ro, .ref oa, .ref xa, .ref ya, .ref rg, .ref me, .ref sa, .ref pa, .ref za, .ref ca, .int (bI kp), .ref ta, .ref na])), (rg, .inl (cI, 6, .inl (rg6 a x d b0 ((b1 / 2) &&& 255) b2))), (za, .inl (cZ, 2, .inl (p2 (bI z0) (bI (decide ((b1 / 2) &&& 255 = 0)))))), (ca, .inl (cZ, 2, .inl (p2 (bI c0) (bI true))))] H := hP.sub [1, 2, 3, 0] rfl
    have hD9 : va_D A [(o, .inr (5, [.int th, .ref im, .int (bI tr), .ref rc, .ref bg, .int ro, .ref oa, .ref xa, .ref ya, .ref rg, .ref me, .ref sa, .ref pa, .ref za, .ref ca, .int (bI kp), .ref ta, .ref na])), (rg, .inl (cI, 6, .inl (rg6 a x d b0 ((b1 / 2) &&& 255) b2))), (za, .inl (cZ, 2, .inl (p2 (bI z0) (bI (decide ((b1 / 2) &&& 255 = 0)))))), (ca, .inl (cZ, 2, .inl (p2 (bI c0) (bI true))))] := hD.sub [1, 2, 3, 0] (by decide) rfl
    exact W.vret hx hb hr (fun t ht hW => ⟨⟨((b1 / 2) &&& 255, decide ((b1 / 2) &&& 255 = 0), true), rfl, by first | (simp only [h20, ↓reduceIte, not_true_eq_false, not_false_eq_true, and_true, true_and, and_false, false_and, and_self, or_true, true_or, or_false, false_or, decide_true, decide_false, Bool.false_eq_true, reduceCtorEq]; done) | (simp_all []; done), by rw [ht]; exact hP9, va_K.moved hW.alike hK, hD9⟩, hS.F ht⟩) hS.2.2 d_MO_halves_38
set_option maxHeartbeats 4000000 in
set_option maxRecDepth 100000 in
theorem q_adds12 (l : Launch) (D : va_G) (cI cZ : ClassId) (o : Nat) (th : Int32) (im : Nat) (tr : Bool) (rc : Nat) (bg : Nat) (ro : Int32) (oa : Nat) (xa : Nat) (ya : Nat) (rg : Nat) (me : Nat) (sa : Nat) (pa : Nat) (za : Nat) (ca : Nat) (kp : Bool) (ta : Nat) (na : Nat) (a : Int32) (x : Int32) (d : Int32) (b0 : Int32) (b1 : Int32) (b2 : Int32) (z0 : Bool) (z1 : Bool) (c0 : Bool) (c1 : Bool) (v : Int32) (cc : Int32) (sz : Nat) : MetV l y_MO_adds w_MO_adds { frames := 2, cells := 0, slots := 0, locals := 46 } D cI cZ [.ref o, .int 1, .int 2, .int v, .int cc] [(o, .inr (5, [.int th, .ref im, .int (bI tr), .ref rc, .ref bg, .int ro, .ref oa, .ref xa, .ref ya, .ref rg, .ref me, .ref sa, .ref pa, .ref za, .ref ca, .int (bI kp), .ref ta, .ref na])), (rg, .inl (cI, 6, .inl (rg6 a x d b0 b1 b2))), (za, .inl (cZ, 2, .inl (p2 (bI z0) (bI z1)))), (ca, .inl (cZ, 2, .inl (p2 (bI c0) (bI c1))))] sz (fun (u : Int32 × Bool × Bool) => match u with | (v1, zz, cy) => v1 = (b2 + v + cc) &&& 255 ∧ zz = decide ((b2 + v + cc) &&& 255 = 0) ∧ cy = decide (¬ b2 + v + cc ≤ 255)) (fun (u : Int32 × Bool × Bool) => match u with | (v1, zz, cy) => [(o, .inr (5, [.int th, .ref im, .int (bI tr), .ref rc, .ref bg, .int ro, .ref oa, .ref xa, .ref ya, .ref rg, .ref me, .ref sa, .ref pa, .ref za, .ref ca, .int (bI kp), .ref ta, .ref na])), (rg, .inl (cI, 6, .inl (rg6 a x d b0 b1 v1))), (za, .inl (cZ, 2, .inl (p2 (bI z0) (bI zz)))), (ca, .inl (cZ, 2, .inl (p2 (bI c0) (bI cy))))]) 0 0 := by
  refine ofV (cc := c_MO_adds) (maxL := 6) (ret := none) (by decide) rfl (Nat.le_of_ble_eq_true rfl) ?_
  intro p e s m args below meth c A H hH0 hx hb hr hlocks hts hown hnm hml ls hl hP hK hD hA hS hN
  have hown : s.vm.findClass R_MO = some m.cls := hown
  have hl : lv_has ls 6 [(0, .ref o), (1, .int 1), (2, .int 2), (3, .int v), (4, .int cc)] := hl
  refine lv_aload_n hx hb d_MO_adds_0 rfl (lv_at hl 0 rfl) ?_
  refine va_get (D := D) (ci := 5) (v := .ref rg) (C := R_MO) (T := T_MO) (N := 18) hx hb hts iw_MO hown hK hP 0 rfl rfl 9 (by decide) (hts _ k_704) (fun _ h9 => h9) rfl d_MO_adds_1 ?_
  refine lv_iconst (v := 3) hx hb d_MO_adds_4 (by decide) ?_
  refine lv_iload_n hx hb d_MO_adds_5 rfl (lv_at hl 1 rfl) ?_
  refine lv_imul hx hb d_MO_adds_6 ?_
  refine lv_iload_n hx hb d_MO_adds_7 rfl (lv_at hl 2 rfl) ?_
  refine lv_iadd hx hb d_MO_adds_8 ?_
  refine va_iald hx hb hK hP 1 0 rfl rfl (vp_in_nI (n := 5) (by decide) (by decide)) d_MO_adds_9 ?_
  refine lv_iload_n hx hb d_MO_adds_10 rfl (lv_at hl 3 rfl) ?_
  refine lv_iadd hx hb d_MO_adds_11 ?_
  refine lv_iload hx hb d_MO_adds_12 (lv_at hl 4 rfl) ?_
  refine lv_iadd hx hb d_MO_adds_14 ?_
  refine lv_istore hx hb d_MO_adds_15 hl (by decide) rfl (fun ls hl => ?_)
  have hl : lv_has ls 6 [(5, .int ((b2 + v) + cc)), (0, .ref o), (1, .int 1), (2, .int 2), (3, .int v), (4, .int cc)] := hl
  refine lv_aload_n hx hb d_MO_adds_17 rfl (lv_at hl 1 rfl) ?_
  refine va_get (D := D) (ci := 5) (v := .ref ca) (C := R_MO) (T := T_MO) (N := 18) hx hb hts iw_MO hown hK hP 0 rfl rfl 14 (by decide) (hts _ k_709) (fun _ h9 => h9) rfl d_MO_adds_18 ?_
  refine lv_iload_n hx hb d_MO_adds_21 rfl (lv_at hl 2 rfl) ?_
  refine lv_iload hx hb d_MO_adds_22 (lv_at hl 0 rfl) ?_
  refine lv_sipush (v := 255) hx hb d_MO_adds_24 (by decide) ?_
  refine lv_icmp_le (tgt := 34) hx hb d_MO_adds_27 rfl (fun h27 => ?_) (fun h27 => ?_)
  · refine lv_iconst (v := 0) hx hb d_MO_adds_34 (by decide) ?_
    refine va_zast hx hb hK hP hD hS 3 1 rfl rfl (vp_in_nI (n := 1) (by decide) (by decide)) d_MO_adds_35 (fun H locs hP hD hS => ?_)
    have hP : va_P D vwCl [(o, .inr (5, [.int th, .ref im, .int (bI tr), .ref rc, .ref bg, .int ro, .ref oa, .ref xa, .ref ya, .ref rg, .ref me, .ref sa, .ref pa, .ref za, .ref ca, .int (bI kp), .ref ta, .ref na])), (rg, .inl (cI, 6, .inl (rg6 a x d b0 b1 b2))), (za, .inl (cZ, 2, .inl (p2 (bI z0) (bI z1)))), (ca, .inl (cZ, 2, .inl (upd (p2 (bI c0) (bI c1)) 1 (bI false))))] H := hP
    have hD : va_D A [(o, .inr (5, [.int th, .ref im, .int (bI tr), .ref rc, .ref bg, .int ro, .ref oa, .ref xa, .ref ya, .ref rg, .ref me, .ref sa, .ref pa, .ref za, .ref ca, .int (bI kp), .ref ta, .ref na])), (rg, .inl (cI, 6, .inl (rg6 a x d b0 b1 b2))), (za, .inl (cZ, 2, .inl (p2 (bI z0) (bI z1)))), (ca, .inl (cZ, 2, .inl (upd (p2 (bI c0) (bI c1)) 1 (bI false))))] := hD
    rw [show upd (p2 (bI c0) (bI c1)) 1 (bI false) = p2 (bI c0) (bI false) from p2_1] at hP hD
    have hP : va_P D vwCl [(o, .inr (5, [.int th, .ref im, .int (bI tr), .ref rc, .ref bg, .int ro, .ref oa, .ref xa, .ref ya, .ref rg, .ref me, .ref sa, .ref pa, .ref za, .ref ca, .int (bI kp), .ref ta, .ref na])), (rg, .inl (cI, 6, .inl (rg6 a x d b0 b1 b2))), (za, .inl (cZ, 2, .inl (p2 (bI z0) (bI z1)))), (ca, .inl (cZ, 2, .inl (p2 (bI c0) (bI false))))] H := hP
    have hD : va_D A [(o, .inr (5, [.int th, .ref im, .int (bI tr), .ref rc, .ref bg, .int ro, .ref oa, .ref xa, .ref ya, .ref rg, .ref me, .ref sa, .ref pa, .ref za, .ref ca, .int (bI kp), .ref ta, .ref na])), (rg, .inl (cI, 6, .inl (rg6 a x d b0 b1 b2))), (za, .inl (cZ, 2, .inl (p2 (bI z0) (bI z1)))), (ca, .inl (cZ, 2, .inl (p2 (bI c0) (bI false))))] := hD
    refine lv_aload_n hx hb d_MO_adds_36 rfl (lv_at hl 1 rfl) ?_
    refine lv_iload_n hx hb d_MO_adds_37 rfl (lv_at hl 2 rfl) ?_
    refine lv_iload_n hx hb d_MO_adds_38 rfl (lv_at hl 3 rfl) ?_
    refine lv_iload hx hb d_MO_adds_39 (lv_at hl 0 rfl) ?_
    have hPc := hP.sub (ws' := [(o, .inr (5, [.int th, .ref im, .int (bI tr), .ref rc, .ref bg, .int ro, .ref oa, .ref xa, .ref ya, .ref rg, .ref me, .ref sa, .ref pa, .ref za, .ref ca, .int (bI kp), .ref ta, .ref na])), (rg, .inl (cI, 6, .inl (rg6 a x d b0 b1 b2))), (za, .inl (cZ, 2, .inl (p2 (bI z0) (bI z1))))]) [0, 1, 2] rfl
    have hDc := hD.sub (ws' := [(o, .inr (5, [.int th, .ref im, .int (bI tr), .ref rc, .ref bg, .int ro, .ref oa, .ref xa, .ref ya, .ref rg, .ref me, .ref sa, .ref pa, .ref za, .ref ca, .int (bI kp), .ref ta, .ref na])), (rg, .inl (cI, 6, .inl (rg6 a x d b0 b1 b2))), (za, .inl (cZ, 2, .inl (p2 (bI z0) (bI z1))))]) [0, 1, 2] (by decide) rfl
    have hFc := va_free (wc := [(o, .inr (5, [.int th, .ref im, .int (bI tr), .ref rc, .ref bg, .int ro, .ref oa, .ref xa, .ref ya, .ref rg, .ref me, .ref sa, .ref pa, .ref za, .ref ca, .int (bI kp), .ref ta, .ref na])), (rg, .inl (cI, 6, .inl (rg6 a x d b0 b1 b2))), (za, .inl (cZ, 2, .inl (p2 (bI z0) (bI z1))))]) hD hS hA [0, 1, 2] rfl
    refine va_callv (va_runV (As := [.int 1, .int 2, .int ((b2 + v) + cc)]) (rest := []) ⟨hx, hb, hml, hown, hts⟩ (q_setZ12 l D cI cZ o th im tr rc bg ro oa xa ya rg me sa pa za ca kp ta na a x d b0 b1 b2 z0 z1 ((b2 + v) + cc) H.size) ⟨cB 3 hts k_845 k_62 k_842 hd_MO_setZ ⟨Nat.le_of_ble_eq_true rfl, Nat.le_of_ble_eq_true rfl⟩ rfl rfl, hts _ k_844, hts _ k_42⟩ (PcW.preV (va_recv hK hP (q0 := 0) (ci := 5) rfl rfl) hPc hK hDc hN) rfl rfl hl.1 rfl (lv_room (Nat.le_of_ble_eq_true rfl)) d_MO_adds_41 ⟨Nat.le_of_ble_eq_true rfl, Nat.le_of_ble_eq_true rfl⟩) hS (fun q _ h => hFc q h) hFc (fun u t H1 locs ht hvm e41 hB hz1 hk1 hS => ?_)
    obtain ⟨v141, zz41⟩ := u
    obtain ⟨hP1, hK1, hD1⟩ := hB
    rw [ht] at hP1
    obtain ⟨hP, hD⟩ := va_join (wr := [(ca, .inl (cZ, 2, .inl (p2 (bI c0) (bI false))))]) (w1 := [(o, .inr (5, [.int th, .ref im, .int (bI tr), .ref rc, .ref bg, .int ro, .ref oa, .ref xa, .ref ya, .ref rg, .ref me, .ref sa, .ref pa, .ref za, .ref ca, .int (bI kp), .ref ta, .ref na])), (rg, .inl (cI, 6, .inl (rg6 a x d b0 b1 v141))), (za, .inl (cZ, 2, .inl (p2 (bI z0) (bI zz41))))]) hP hD [0, 1, 2] [3] rfl rfl (by decide) (by decide) hk1 hFc hP1 hD1
    generalize H1 = H at hP hS ⊢
    try dsimp only at e41
    obtain ⟨e41_0, e41_1⟩ := e41
    replace e41_0 := e41_0.symm
    subst e41_0
    replace e41_1 := e41_1.symm
    subst e41_1
    have hP : va_P D vwCl [(ca, .inl (cZ, 2, .inl (p2 (bI c0) (bI false)))), (o, .inr (5, [.int th, .ref im, .int (bI tr), .ref rc, .ref bg, .int ro, .ref oa, .ref xa, .ref ya, .ref rg, .ref me, .ref sa, .ref pa, .ref za, .ref ca, .int (bI kp), .ref ta, .ref na])), (rg, .inl (cI, 6, .inl (rg6 a x d b0 b1 (((b2 + v) + cc) &&& 255)))), (za, .inl (cZ, 2, .inl (p2 (bI z0) (bI (decide (((b2 + v) + cc) &&& 255 = 0))))))] H := hP
    have hD : va_D A [(ca, .inl (cZ, 2, .inl (p2 (bI c0) (bI false)))), (o, .inr (5, [.int th, .ref im, .int (bI tr), .ref rc, .ref bg, .int ro, .ref oa, .ref xa, .ref ya, .ref rg, .ref me, .ref sa, .ref pa, .ref za, .ref ca, .int (bI kp), .ref ta, .ref na])), (rg, .inl (cI, 6, .inl (rg6 a x d b0 b1 (((b2 + v) + cc) &&& 255)))), (za, .inl (cZ, 2, .inl (p2 (bI z0) (bI (decide (((b2 + v) + cc) &&& 255 = 0))))))] := hD
    have hP9 : va_P D vwCl [(o, .inr (5, [.int th, .ref im, .int (bI tr), .ref rc, .ref bg, .int ro, .ref oa, .ref xa, .ref ya, .ref rg, .ref me, .ref sa, .ref pa, .ref za, .ref ca, .int (bI kp), .ref ta, .ref na])), (rg, .inl (cI, 6, .inl (rg6 a x d b0 b1 (((b2 + v) + cc) &&& 255)))), (za, .inl (cZ, 2, .inl (p2 (bI z0) (bI (decide (((b2 + v) + cc) &&& 255 = 0)))))), (ca, .inl (cZ, 2, .inl (p2 (bI c0) (bI false))))] H := hP.sub [1, 2, 3, 0] rfl
    have hD9 : va_D A [(o, .inr (5, [.int th, .ref im, .int (bI tr), .ref rc, .ref bg, .int ro, .ref oa, .ref xa, .ref ya, .ref rg, .ref me, .ref sa, .ref pa, .ref za, .ref ca, .int (bI kp), .ref ta, .ref na])), (rg, .inl (cI, 6, .inl (rg6 a x d b0 b1 (((b2 + v) + cc) &&& 255)))), (za, .inl (cZ, 2, .inl (p2 (bI z0) (bI (decide (((b2 + v) + cc) &&& 255 = 0)))))), (ca, .inl (cZ, 2, .inl (p2 (bI c0) (bI false))))] := hD.sub [1, 2, 3, 0] (by decide) rfl
    exact W.vret hx hb hr (fun t ht hW => ⟨⟨(((b2 + v) + cc) &&& 255, decide (((b2 + v) + cc) &&& 255 = 0), false), rfl, by first | (simp only [h27, ↓reduceIte, not_true_eq_false, not_false_eq_true, and_true, true_and, and_false, false_and, and_self, or_true, true_or, or_false, false_or, decide_true, decide_false, Bool.false_eq_true, reduceCtorEq]; done) | (simp_all []; done), by rw [ht]; exact hP9, va_K.moved hW.alike hK, hD9⟩, hS.F ht⟩) hS.2.2 d_MO_adds_44
  · refine lv_iconst (v := 1) hx hb d_MO_adds_30 (by decide) ?_
    refine lv_goto (tgt := 35) hx hb d_MO_adds_31 rfl ?_
    refine va_zast hx hb hK hP hD hS 3 1 rfl rfl (vp_in_nI (n := 1) (by decide) (by decide)) d_MO_adds_35 (fun H locs hP hD hS => ?_)
    have hP : va_P D vwCl [(o, .inr (5, [.int th, .ref im, .int (bI tr), .ref rc, .ref bg, .int ro, .ref oa, .ref xa, .ref ya, .ref rg, .ref me, .ref sa, .ref pa, .ref za, .ref ca, .int (bI kp), .ref ta, .ref na])), (rg, .inl (cI, 6, .inl (rg6 a x d b0 b1 b2))), (za, .inl (cZ, 2, .inl (p2 (bI z0) (bI z1)))), (ca, .inl (cZ, 2, .inl (upd (p2 (bI c0) (bI c1)) 1 (bI true))))] H := hP
    have hD : va_D A [(o, .inr (5, [.int th, .ref im, .int (bI tr), .ref rc, .ref bg, .int ro, .ref oa, .ref xa, .ref ya, .ref rg, .ref me, .ref sa, .ref pa, .ref za, .ref ca, .int (bI kp), .ref ta, .ref na])), (rg, .inl (cI, 6, .inl (rg6 a x d b0 b1 b2))), (za, .inl (cZ, 2, .inl (p2 (bI z0) (bI z1)))), (ca, .inl (cZ, 2, .inl (upd (p2 (bI c0) (bI c1)) 1 (bI true))))] := hD
    rw [show upd (p2 (bI c0) (bI c1)) 1 (bI true) = p2 (bI c0) (bI true) from p2_1] at hP hD
    have hP : va_P D vwCl [(o, .inr (5, [.int th, .ref im, .int (bI tr), .ref rc, .ref bg, .int ro, .ref oa, .ref xa, .ref ya, .ref rg, .ref me, .ref sa, .ref pa, .ref za, .ref ca, .int (bI kp), .ref ta, .ref na])), (rg, .inl (cI, 6, .inl (rg6 a x d b0 b1 b2))), (za, .inl (cZ, 2, .inl (p2 (bI z0) (bI z1)))), (ca, .inl (cZ, 2, .inl (p2 (bI c0) (bI true))))] H := hP
    have hD : va_D A [(o, .inr (5, [.int th, .ref im, .int (bI tr), .ref rc, .ref bg, .int ro, .ref oa, .ref xa, .ref ya, .ref rg, .ref me, .ref sa, .ref pa, .ref za, .ref ca, .int (bI kp), .ref ta, .ref na])), (rg, .inl (cI, 6, .inl (rg6 a x d b0 b1 b2))), (za, .inl (cZ, 2, .inl (p2 (bI z0) (bI z1)))), (ca, .inl (cZ, 2, .inl (p2 (bI c0) (bI true))))] := hD
    refine lv_aload_n hx hb d_MO_adds_36 rfl (lv_at hl 1 rfl) ?_
    refine lv_iload_n hx hb d_MO_adds_37 rfl (lv_at hl 2 rfl) ?_
    refine lv_iload_n hx hb d_MO_adds_38 rfl (lv_at hl 3 rfl) ?_
    refine lv_iload hx hb d_MO_adds_39 (lv_at hl 0 rfl) ?_
    have hPc := hP.sub (ws' := [(o, .inr (5, [.int th, .ref im, .int (bI tr), .ref rc, .ref bg, .int ro, .ref oa, .ref xa, .ref ya, .ref rg, .ref me, .ref sa, .ref pa, .ref za, .ref ca, .int (bI kp), .ref ta, .ref na])), (rg, .inl (cI, 6, .inl (rg6 a x d b0 b1 b2))), (za, .inl (cZ, 2, .inl (p2 (bI z0) (bI z1))))]) [0, 1, 2] rfl
    have hDc := hD.sub (ws' := [(o, .inr (5, [.int th, .ref im, .int (bI tr), .ref rc, .ref bg, .int ro, .ref oa, .ref xa, .ref ya, .ref rg, .ref me, .ref sa, .ref pa, .ref za, .ref ca, .int (bI kp), .ref ta, .ref na])), (rg, .inl (cI, 6, .inl (rg6 a x d b0 b1 b2))), (za, .inl (cZ, 2, .inl (p2 (bI z0) (bI z1))))]) [0, 1, 2] (by decide) rfl
    have hFc := va_free (wc := [(o, .inr (5, [.int th, .ref im, .int (bI tr), .ref rc, .ref bg, .int ro, .ref oa, .ref xa, .ref ya, .ref rg, .ref me, .ref sa, .ref pa, .ref za, .ref ca, .int (bI kp), .ref ta, .ref na])), (rg, .inl (cI, 6, .inl (rg6 a x d b0 b1 b2))), (za, .inl (cZ, 2, .inl (p2 (bI z0) (bI z1))))]) hD hS hA [0, 1, 2] rfl
    refine va_callv (va_runV (As := [.int 1, .int 2, .int ((b2 + v) + cc)]) (rest := []) ⟨hx, hb, hml, hown, hts⟩ (q_setZ12 l D cI cZ o th im tr rc bg ro oa xa ya rg me sa pa za ca kp ta na a x d b0 b1 b2 z0 z1 ((b2 + v) + cc) H.size) ⟨cB 3 hts k_845 k_62 k_842 hd_MO_setZ ⟨Nat.le_of_ble_eq_true rfl, Nat.le_of_ble_eq_true rfl⟩ rfl rfl, hts _ k_844, hts _ k_42⟩ (PcW.preV (va_recv hK hP (q0 := 0) (ci := 5) rfl rfl) hPc hK hDc hN) rfl rfl hl.1 rfl (lv_room (Nat.le_of_ble_eq_true rfl)) d_MO_adds_41 ⟨Nat.le_of_ble_eq_true rfl, Nat.le_of_ble_eq_true rfl⟩) hS (fun q _ h => hFc q h) hFc (fun u t H1 locs ht hvm e41 hB hz1 hk1 hS => ?_)
    obtain ⟨v141, zz41⟩ := u
    obtain ⟨hP1, hK1, hD1⟩ := hB
    rw [ht] at hP1
    obtain ⟨hP, hD⟩ := va_join (wr := [(ca, .inl (cZ, 2, .inl (p2 (bI c0) (bI true))))]) (w1 := [(o, .inr (5, [.int th, .ref im, .int (bI tr), .ref rc, .ref bg, .int ro, .ref oa, .ref xa, .ref ya, .ref rg, .ref me, .ref sa, .ref pa, .ref za, .ref ca, .int (bI kp), .ref ta, .ref na])), (rg, .inl (cI, 6, .inl (rg6 a x d b0 b1 v141))), (za, .inl (cZ, 2, .inl (p2 (bI z0) (bI zz41))))]) hP hD [0, 1, 2] [3] rfl rfl (by decide) (by decide) hk1 hFc hP1 hD1
    generalize H1 = H at hP hS ⊢
    try dsimp only at e41
    obtain ⟨e41_0, e41_1⟩ := e41
    replace e41_0 := e41_0.symm
    subst e41_0
    replace e41_1 := e41_1.symm
    subst e41_1
    have hP : va_P D vwCl [(ca, .inl (cZ, 2, .inl (p2 (bI c0) (bI true)))), (o, .inr (5, [.int th, .ref im, .int (bI tr), .ref rc, .ref bg, .int ro, .ref oa, .ref xa, .ref ya, .ref rg, .ref me, .ref sa, .ref pa, .ref za, .ref ca, .int (bI kp), .ref ta, .ref na])), (rg, .inl (cI, 6, .inl (rg6 a x d b0 b1 (((b2 + v) + cc) &&& 255)))), (za, .inl (cZ, 2, .inl (p2 (bI z0) (bI (decide (((b2 + v) + cc) &&& 255 = 0))))))] H := hP
    have hD : va_D A [(ca, .inl (cZ, 2, .inl (p2 (bI c0) (bI true)))), (o, .inr (5, [.int th, .ref im, .int (bI tr), .ref rc, .ref bg, .int ro, .ref oa, .ref xa, .ref ya, .ref rg, .ref me, .ref sa, .ref pa, .ref za, .ref ca, .int (bI kp), .ref ta, .ref na])), (rg, .inl (cI, 6, .inl (rg6 a x d b0 b1 (((b2 + v) + cc) &&& 255)))), (za, .inl (cZ, 2, .inl (p2 (bI z0) (bI (decide (((b2 + v) + cc) &&& 255 = 0))))))] := hD
    have hP9 : va_P D vwCl [(o, .inr (5, [.int th, .ref im, .int (bI tr), .ref rc, .ref bg, .int ro, .ref oa, .ref xa, .ref ya, .ref rg, .ref me, .ref sa, .ref pa, .ref za, .ref ca, .int (bI kp), .ref ta, .ref na])), (rg, .inl (cI, 6, .inl (rg6 a x d b0 b1 (((b2 + v) + cc) &&& 255)))), (za, .inl (cZ, 2, .inl (p2 (bI z0) (bI (decide (((b2 + v) + cc) &&& 255 = 0)))))), (ca, .inl (cZ, 2, .inl (p2 (bI c0) (bI true))))] H := hP.sub [1, 2, 3, 0] rfl
    have hD9 : va_D A [(o, .inr (5, [.int th, .ref im, .int (bI tr), .ref rc, .ref bg, .int ro, .ref oa, .ref xa, .ref ya, .ref rg, .ref me, .ref sa, .ref pa, .ref za, .ref ca, .int (bI kp), .ref ta, .ref na])), (rg, .inl (cI, 6, .inl (rg6 a x d b0 b1 (((b2 + v) + cc) &&& 255)))), (za, .inl (cZ, 2, .inl (p2 (bI z0) (bI (decide (((b2 + v) + cc) &&& 255 = 0)))))), (ca, .inl (cZ, 2, .inl (p2 (bI c0) (bI true))))] := hD.sub [1, 2, 3, 0] (by decide) rfl
    exact W.vret hx hb hr (fun t ht hW => ⟨⟨(((b2 + v) + cc) &&& 255, decide (((b2 + v) + cc) &&& 255 = 0), true), rfl, by first | (simp only [h27, ↓reduceIte, not_true_eq_false, not_false_eq_true, and_true, true_and, and_false, false_and, and_self, or_true, true_or, or_false, false_or, decide_true, decide_false, Bool.false_eq_true, reduceCtorEq]; done) | (simp_all []; done), by rw [ht]; exact hP9, va_K.moved hW.alike hK, hD9⟩, hS.F ht⟩) hS.2.2 d_MO_adds_44
set_option maxHeartbeats 4000000 in
set_option maxRecDepth 100000 in
theorem q_subs12 (l : Launch) (D : va_G) (cI cZ : ClassId) (o : Nat) (th : Int32) (im : Nat) (tr : Bool) (rc : Nat) (bg : Nat) (ro : Int32) (oa : Nat) (xa : Nat) (ya : Nat) (rg : Nat) (me : Nat) (sa : Nat) (pa : Nat) (za : Nat) (ca : Nat) (kp : Bool) (ta : Nat) (na : Nat) (a : Int32) (x : Int32) (d : Int32) (b0 : Int32) (b1 : Int32) (b2 : Int32) (z0 : Bool) (z1 : Bool) (c0 : Bool) (c1 : Bool) (v : Int32) (sy : Bool) (sz : Nat) : MetV l y_MO_subtracts w_MO_subtracts { frames := 2, cells := 0, slots := 0, locals := 46 } D cI cZ [.ref o, .int 1, .int 2, .int v, .int (bI sy)] [(o, .inr (5, [.int th, .ref im, .int (bI tr), .ref rc, .ref bg, .int ro, .ref oa, .ref xa, .ref ya, .ref rg, .ref me, .ref sa, .ref pa, .ref za, .ref ca, .int (bI kp), .ref ta, .ref na])), (rg, .inl (cI, 6, .inl (rg6 a x d b0 b1 b2))), (za, .inl (cZ, 2, .inl (p2 (bI z0) (bI z1)))), (ca, .inl (cZ, 2, .inl (p2 (bI c0) (bI c1))))] sz (fun (u : Int32 × Bool × Bool) => match u with | (v1, zz, cy) => v1 = (if sy = true then b2 &&& 255 else (b2 - v) &&& 255) ∧ zz = decide ((b2 - v) &&& 255 = 0) ∧ cy = decide (¬ v ≤ b2)) (fun (u : Int32 × Bool × Bool) => match u with | (v1, zz, cy) => [(o, .inr (5, [.int th, .ref im, .int (bI tr), .ref rc, .ref bg, .int ro, .ref oa, .ref xa, .ref ya, .ref rg, .ref me, .ref sa, .ref pa, .ref za, .ref ca, .int (bI kp), .ref ta, .ref na])), (rg, .inl (cI, 6, .inl (rg6 a x d b0 b1 v1))), (za, .inl (cZ, 2, .inl (p2 (bI z0) (bI zz)))), (ca, .inl (cZ, 2, .inl (p2 (bI c0) (bI cy))))]) 0 0 := by
  refine ofV (cc := c_MO_subtracts) (maxL := 6) (ret := none) (by decide) rfl (Nat.le_of_ble_eq_true rfl) ?_
  intro p e s m args below meth c A H hH0 hx hb hr hlocks hts hown hnm hml ls hl hP hK hD hA hS hN
  have hown : s.vm.findClass R_MO = some m.cls := hown
  have hl : lv_has ls 6 [(0, .ref o), (1, .int 1), (2, .int 2), (3, .int v), (4, .int (bI sy))] := hl
  refine lv_aload_n hx hb d_MO_subtracts_0 rfl (lv_at hl 0 rfl) ?_
  refine va_get (D := D) (ci := 5) (v := .ref rg) (C := R_MO) (T := T_MO) (N := 18) hx hb hts iw_MO hown hK hP 0 rfl rfl 9 (by decide) (hts _ k_704) (fun _ h9 => h9) rfl d_MO_subtracts_1 ?_
  refine lv_iconst (v := 3) hx hb d_MO_subtracts_4 (by decide) ?_
  refine lv_iload_n hx hb d_MO_subtracts_5 rfl (lv_at hl 1 rfl) ?_
  refine lv_imul hx hb d_MO_subtracts_6 ?_
  refine lv_iload_n hx hb d_MO_subtracts_7 rfl (lv_at hl 2 rfl) ?_
  refine lv_iadd hx hb d_MO_subtracts_8 ?_
  refine va_iald hx hb hK hP 1 0 rfl rfl (vp_in_nI (n := 5) (by decide) (by decide)) d_MO_subtracts_9 ?_
  refine lv_istore hx hb d_MO_subtracts_10 hl (by decide) rfl (fun ls hl => ?_)
  have hl : lv_has ls 6 [(5, .int b2), (0, .ref o), (1, .int 1), (2, .int 2), (3, .int v), (4, .int (bI sy))] := hl
  refine lv_aload_n hx hb d_MO_subtracts_12 rfl (lv_at hl 1 rfl) ?_
  refine va_get (D := D) (ci := 5) (v := .ref ca) (C := R_MO) (T := T_MO) (N := 18) hx hb hts iw_MO hown hK hP 0 rfl rfl 14 (by decide) (hts _ k_709) (fun _ h9 => h9) rfl d_MO_subtracts_13 ?_
  refine lv_iload_n hx hb d_MO_subtracts_16 rfl (lv_at hl 2 rfl) ?_
  refine lv_iload_n hx hb d_MO_subtracts_17 rfl (lv_at hl 4 rfl) ?_
  refine lv_iload hx hb d_MO_subtracts_18 (lv_at hl 0 rfl) ?_
  refine lv_icmp_le (tgt := 27) hx hb d_MO_subtracts_20 rfl (fun h20 => ?_) (fun h20 => ?_)
  · refine lv_iconst (v := 0) hx hb d_MO_subtracts_27 (by decide) ?_
    refine va_zast hx hb hK hP hD hS 3 1 rfl rfl (vp_in_nI (n := 1) (by decide) (by decide)) d_MO_subtracts_28 (fun H locs hP hD hS => ?_)
    have hP : va_P D vwCl [(o, .inr (5, [.int th, .ref im, .int (bI tr), .ref rc, .ref bg, .int ro, .ref oa, .ref xa, .ref ya, .ref rg, .ref me, .ref sa, .ref pa, .ref za, .ref ca, .int (bI kp), .ref ta, .ref na])), (rg, .inl (cI, 6, .inl (rg6 a x d b0 b1 b2))), (za, .inl (cZ, 2, .inl (p2 (bI z0) (bI z1)))), (ca, .inl (cZ, 2, .inl (upd (p2 (bI c0) (bI c1)) 1 (bI false))))] H := hP
    have hD : va_D A [(o, .inr (5, [.int th, .ref im, .int (bI tr), .ref rc, .ref bg, .int ro, .ref oa, .ref xa, .ref ya, .ref rg, .ref me, .ref sa, .ref pa, .ref za, .ref ca, .int (bI kp), .ref ta, .ref na])), (rg, .inl (cI, 6, .inl (rg6 a x d b0 b1 b2))), (za, .inl (cZ, 2, .inl (p2 (bI z0) (bI z1)))), (ca, .inl (cZ, 2, .inl (upd (p2 (bI c0) (bI c1)) 1 (bI false))))] := hD
    rw [show upd (p2 (bI c0) (bI c1)) 1 (bI false) = p2 (bI c0) (bI false) from p2_1] at hP hD
    have hP : va_P D vwCl [(o, .inr (5, [.int th, .ref im, .int (bI tr), .ref rc, .ref bg, .int ro, .ref oa, .ref xa, .ref ya, .ref rg, .ref me, .ref sa, .ref pa, .ref za, .ref ca, .int (bI kp), .ref ta, .ref na])), (rg, .inl (cI, 6, .inl (rg6 a x d b0 b1 b2))), (za, .inl (cZ, 2, .inl (p2 (bI z0) (bI z1)))), (ca, .inl (cZ, 2, .inl (p2 (bI c0) (bI false))))] H := hP
    have hD : va_D A [(o, .inr (5, [.int th, .ref im, .int (bI tr), .ref rc, .ref bg, .int ro, .ref oa, .ref xa, .ref ya, .ref rg, .ref me, .ref sa, .ref pa, .ref za, .ref ca, .int (bI kp), .ref ta, .ref na])), (rg, .inl (cI, 6, .inl (rg6 a x d b0 b1 b2))), (za, .inl (cZ, 2, .inl (p2 (bI z0) (bI z1)))), (ca, .inl (cZ, 2, .inl (p2 (bI c0) (bI false))))] := hD
    refine lv_aload_n hx hb d_MO_subtracts_29 rfl (lv_at hl 1 rfl) ?_
    refine lv_iload_n hx hb d_MO_subtracts_30 rfl (lv_at hl 2 rfl) ?_
    refine lv_iload_n hx hb d_MO_subtracts_31 rfl (lv_at hl 3 rfl) ?_
    refine lv_iload hx hb d_MO_subtracts_32 (lv_at hl 0 rfl) ?_
    refine lv_iload_n hx hb d_MO_subtracts_34 rfl (lv_at hl 4 rfl) ?_
    refine lv_isub hx hb d_MO_subtracts_35 ?_
    have hPc := hP.sub (ws' := [(o, .inr (5, [.int th, .ref im, .int (bI tr), .ref rc, .ref bg, .int ro, .ref oa, .ref xa, .ref ya, .ref rg, .ref me, .ref sa, .ref pa, .ref za, .ref ca, .int (bI kp), .ref ta, .ref na])), (rg, .inl (cI, 6, .inl (rg6 a x d b0 b1 b2))), (za, .inl (cZ, 2, .inl (p2 (bI z0) (bI z1))))]) [0, 1, 2] rfl
    have hDc := hD.sub (ws' := [(o, .inr (5, [.int th, .ref im, .int (bI tr), .ref rc, .ref bg, .int ro, .ref oa, .ref xa, .ref ya, .ref rg, .ref me, .ref sa, .ref pa, .ref za, .ref ca, .int (bI kp), .ref ta, .ref na])), (rg, .inl (cI, 6, .inl (rg6 a x d b0 b1 b2))), (za, .inl (cZ, 2, .inl (p2 (bI z0) (bI z1))))]) [0, 1, 2] (by decide) rfl
    have hFc := va_free (wc := [(o, .inr (5, [.int th, .ref im, .int (bI tr), .ref rc, .ref bg, .int ro, .ref oa, .ref xa, .ref ya, .ref rg, .ref me, .ref sa, .ref pa, .ref za, .ref ca, .int (bI kp), .ref ta, .ref na])), (rg, .inl (cI, 6, .inl (rg6 a x d b0 b1 b2))), (za, .inl (cZ, 2, .inl (p2 (bI z0) (bI z1))))]) hD hS hA [0, 1, 2] rfl
    refine va_callv (va_runV (As := [.int 1, .int 2, .int (b2 - v)]) (rest := []) ⟨hx, hb, hml, hown, hts⟩ (q_setZ12 l D cI cZ o th im tr rc bg ro oa xa ya rg me sa pa za ca kp ta na a x d b0 b1 b2 z0 z1 (b2 - v) H.size) ⟨cB 3 hts k_845 k_62 k_842 hd_MO_setZ ⟨Nat.le_of_ble_eq_true rfl, Nat.le_of_ble_eq_true rfl⟩ rfl rfl, hts _ k_844, hts _ k_42⟩ (PcW.preV (va_recv hK hP (q0 := 0) (ci := 5) rfl rfl) hPc hK hDc hN) rfl rfl hl.1 rfl (lv_room (Nat.le_of_ble_eq_true rfl)) d_MO_subtracts_36 ⟨Nat.le_of_ble_eq_true rfl, Nat.le_of_ble_eq_true rfl⟩) hS (fun q _ h => hFc q h) hFc (fun u t H1 locs ht hvm e36 hB hz1 hk1 hS => ?_)
    obtain ⟨v136, zz36⟩ := u
    obtain ⟨hP1, hK1, hD1⟩ := hB
    rw [ht] at hP1
    obtain ⟨hP, hD⟩ := va_join (wr := [(ca, .inl (cZ, 2, .inl (p2 (bI c0) (bI false))))]) (w1 := [(o, .inr (5, [.int th, .ref im, .int (bI tr), .ref rc, .ref bg, .int ro, .ref oa, .ref xa, .ref ya, .ref rg, .ref me, .ref sa, .ref pa, .ref za, .ref ca, .int (bI kp), .ref ta, .ref na])), (rg, .inl (cI, 6, .inl (rg6 a x d b0 b1 v136))), (za, .inl (cZ, 2, .inl (p2 (bI z0) (bI zz36))))]) hP hD [0, 1, 2] [3] rfl rfl (by decide) (by decide) hk1 hFc hP1 hD1
    generalize H1 = H at hP hS ⊢
    try dsimp only at e36
    obtain ⟨e36_0, e36_1⟩ := e36
    replace e36_0 := e36_0.symm
    subst e36_0
    replace e36_1 := e36_1.symm
    subst e36_1
    have hP : va_P D vwCl [(ca, .inl (cZ, 2, .inl (p2 (bI c0) (bI false)))), (o, .inr (5, [.int th, .ref im, .int (bI tr), .ref rc, .ref bg, .int ro, .ref oa, .ref xa, .ref ya, .ref rg, .ref me, .ref sa, .ref pa, .ref za, .ref ca, .int (bI kp), .ref ta, .ref na])), (rg, .inl (cI, 6, .inl (rg6 a x d b0 b1 ((b2 - v) &&& 255)))), (za, .inl (cZ, 2, .inl (p2 (bI z0) (bI (decide ((b2 - v) &&& 255 = 0))))))] H := hP
    have hD : va_D A [(ca, .inl (cZ, 2, .inl (p2 (bI c0) (bI false)))), (o, .inr (5, [.int th, .ref im, .int (bI tr), .ref rc, .ref bg, .int ro, .ref oa, .ref xa, .ref ya, .ref rg, .ref me, .ref sa, .ref pa, .ref za, .ref ca, .int (bI kp), .ref ta, .ref na])), (rg, .inl (cI, 6, .inl (rg6 a x d b0 b1 ((b2 - v) &&& 255)))), (za, .inl (cZ, 2, .inl (p2 (bI z0) (bI (decide ((b2 - v) &&& 255 = 0))))))] := hD
    refine lv_iload hx hb d_MO_subtracts_39 (lv_at hl 5 rfl) ?_
    refine lv_if_eq (tgt := 52) hx hb d_MO_subtracts_41 rfl (fun h41 => ?_) (fun h41 => ?_)
    · have h41 : sy = false := bI_f h41
      have hP9 : va_P D vwCl [(o, .inr (5, [.int th, .ref im, .int (bI tr), .ref rc, .ref bg, .int ro, .ref oa, .ref xa, .ref ya, .ref rg, .ref me, .ref sa, .ref pa, .ref za, .ref ca, .int (bI kp), .ref ta, .ref na])), (rg, .inl (cI, 6, .inl (rg6 a x d b0 b1 ((b2 - v) &&& 255)))), (za, .inl (cZ, 2, .inl (p2 (bI z0) (bI (decide ((b2 - v) &&& 255 = 0)))))), (ca, .inl (cZ, 2, .inl (p2 (bI c0) (bI false))))] H := hP.sub [1, 2, 3, 0] rfl
      have hD9 : va_D A [(o, .inr (5, [.int th, .ref im, .int (bI tr), .ref rc, .ref bg, .int ro, .ref oa, .ref xa, .ref ya, .ref rg, .ref me, .ref sa, .ref pa, .ref za, .ref ca, .int (bI kp), .ref ta, .ref na])), (rg, .inl (cI, 6, .inl (rg6 a x d b0 b1 ((b2 - v) &&& 255)))), (za, .inl (cZ, 2, .inl (p2 (bI z0) (bI (decide ((b2 - v) &&& 255 = 0)))))), (ca, .inl (cZ, 2, .inl (p2 (bI c0) (bI false))))] := hD.sub [1, 2, 3, 0] (by decide) rfl
      exact W.vret hx hb hr (fun t ht hW => ⟨⟨((b2 - v) &&& 255, decide ((b2 - v) &&& 255 = 0), false), rfl, by first | (simp only [h20, h41, ↓reduceIte, not_true_eq_false, not_false_eq_true, and_true, true_and, and_false, false_and, and_self, or_true, true_or, or_false, false_or, decide_true, decide_false, Bool.false_eq_true, reduceCtorEq]; done) | (simp_all []; done), by rw [ht]; exact hP9, va_K.moved hW.alike hK, hD9⟩, hS.F ht⟩) hS.2.2 d_MO_subtracts_52
    · have h41 : sy = true := bI_t h41
      refine lv_aload_n hx hb d_MO_subtracts_44 rfl (lv_at hl 1 rfl) ?_
      refine lv_iload_n hx hb d_MO_subtracts_45 rfl (lv_at hl 2 rfl) ?_
      refine lv_iload_n hx hb d_MO_subtracts_46 rfl (lv_at hl 3 rfl) ?_
      refine lv_iload hx hb d_MO_subtracts_47 (lv_at hl 0 rfl) ?_
      have hPc := hP.sub (ws' := [(o, .inr (5, [.int th, .ref im, .int (bI tr), .ref rc, .ref bg, .int ro, .ref oa, .ref xa, .ref ya, .ref rg, .ref me, .ref sa, .ref pa, .ref za, .ref ca, .int (bI kp), .ref ta, .ref na])), (rg, .inl (cI, 6, .inl (rg6 a x d b0 b1 ((b2 - v) &&& 255))))]) [1, 2] rfl
      have hDc := hD.sub (ws' := [(o, .inr (5, [.int th, .ref im, .int (bI tr), .ref rc, .ref bg, .int ro, .ref oa, .ref xa, .ref ya, .ref rg, .ref me, .ref sa, .ref pa, .ref za, .ref ca, .int (bI kp), .ref ta, .ref na])), (rg, .inl (cI, 6, .inl (rg6 a x d b0 b1 ((b2 - v) &&& 255))))]) [1, 2] (by decide) rfl
      have hFc := va_free (wc := [(o, .inr (5, [.int th, .ref im, .int (bI tr), .ref rc, .ref bg, .int ro, .ref oa, .ref xa, .ref ya, .ref rg, .ref me, .ref sa, .ref pa, .ref za, .ref ca, .int (bI kp), .ref ta, .ref na])), (rg, .inl (cI, 6, .inl (rg6 a x d b0 b1 ((b2 - v) &&& 255))))]) hD hS hA [1, 2] rfl
      refine va_callv (va_runV (As := [.int 1, .int 2, .int b2]) (rest := []) ⟨hx, hb, hml, hown, hts⟩ (q_set12 l D cI cZ o th im tr rc bg ro oa xa ya rg me sa pa za ca kp ta na a x d b0 b1 ((b2 - v) &&& 255) b2 H.size) ⟨cB 3 hts k_849 k_62 k_846 hd_MO_set ⟨Nat.le_of_ble_eq_true rfl, Nat.le_of_ble_eq_true rfl⟩ rfl rfl, hts _ k_848, hts _ k_43⟩ (PcW.preV (va_recv hK hP (q0 := 1) (ci := 5) rfl rfl) hPc hK hDc hN) rfl rfl hl.1 rfl (lv_room (Nat.le_of_ble_eq_true rfl)) d_MO_subtracts_49 ⟨Nat.le_of_ble_eq_true rfl, Nat.le_of_ble_eq_true rfl⟩) hS (fun q _ h => hFc q h) hFc (fun u t H1 locs ht hvm e49 hB hz1 hk1 hS => ?_)
      obtain ⟨v149, rfl⟩ : ∃ z, z = u := ⟨_, rfl⟩
      obtain ⟨hP1, hK1, hD1⟩ := hB
      rw [ht] at hP1
      obtain ⟨hP, hD⟩ := va_join (wr := [(ca, .inl (cZ, 2, .inl (p2 (bI c0) (bI false)))), (za, .inl (cZ, 2, .inl (p2 (bI z0) (bI (decide ((b2 - v) &&& 255 = 0))))))]) (w1 := [(o, .inr (5, [.int th, .ref im, .int (bI tr), .ref rc, .ref bg, .int ro, .ref oa, .ref xa, .ref ya, .ref rg, .ref me, .ref sa, .ref pa, .ref za, .ref ca, .int (bI kp), .ref ta, .ref na])), (rg, .inl (cI, 6, .inl (rg6 a x d b0 b1 v149)))]) hP hD [1, 2] [0, 3] rfl rfl (by decide) (by decide) hk1 hFc hP1 hD1
      generalize H1 = H at hP hS ⊢
      try dsimp only at e49
      have e49_0 := e49
      replace e49_0 := e49_0.symm
      subst e49_0
      have hP : va_P D vwCl [(ca, .inl (cZ, 2, .inl (p2 (bI c0) (bI false)))), (za, .inl (cZ, 2, .inl (p2 (bI z0) (bI (decide ((b2 - v) &&& 255 = 0)))))), (o, .inr (5, [.int th, .ref im, .int (bI tr), .ref rc, .ref bg, .int ro, .ref oa, .ref xa, .ref ya, .ref rg, .ref me, .ref sa, .ref pa, .ref za, .ref ca, .int (bI kp), .ref ta, .ref na])), (rg, .inl (cI, 6, .inl (rg6 a x d b0 b1 (b2 &&& 255))))] H := hP
      have hD : va_D A [(ca, .inl (cZ, 2, .inl (p2 (bI c0) (bI false)))), (za, .inl (cZ, 2, .inl (p2 (bI z0) (bI (decide ((b2 - v) &&& 255 = 0)))))), (o, .inr (5, [.int th, .ref im, .int (bI tr), .ref rc, .ref bg, .int ro, .ref oa, .ref xa, .ref ya, .ref rg, .ref me, .ref sa, .ref pa, .ref za, .ref ca, .int (bI kp), .ref ta, .ref na])), (rg, .inl (cI, 6, .inl (rg6 a x d b0 b1 (b2 &&& 255))))] := hD
      have hP9 : va_P D vwCl [(o, .inr (5, [.int th, .ref im, .int (bI tr), .ref rc, .ref bg, .int ro, .ref oa, .ref xa, .ref ya, .ref rg, .ref me, .ref sa, .ref pa, .ref za, .ref ca, .int (bI kp), .ref ta, .ref na])), (rg, .inl (cI, 6, .inl (rg6 a x d b0 b1 (b2 &&& 255)))), (za, .inl (cZ, 2, .inl (p2 (bI z0) (bI (decide ((b2 - v) &&& 255 = 0)))))), (ca, .inl (cZ, 2, .inl (p2 (bI c0) (bI false))))] H := hP.sub [2, 3, 1, 0] rfl
      have hD9 : va_D A [(o, .inr (5, [.int th, .ref im, .int (bI tr), .ref rc, .ref bg, .int ro, .ref oa, .ref xa, .ref ya, .ref rg, .ref me, .ref sa, .ref pa, .ref za, .ref ca, .int (bI kp), .ref ta, .ref na])), (rg, .inl (cI, 6, .inl (rg6 a x d b0 b1 (b2 &&& 255)))), (za, .inl (cZ, 2, .inl (p2 (bI z0) (bI (decide ((b2 - v) &&& 255 = 0)))))), (ca, .inl (cZ, 2, .inl (p2 (bI c0) (bI false))))] := hD.sub [2, 3, 1, 0] (by decide) rfl
      exact W.vret hx hb hr (fun t ht hW => ⟨⟨(b2 &&& 255, decide ((b2 - v) &&& 255 = 0), false), rfl, by first | (simp only [h20, h41, ↓reduceIte, not_true_eq_false, not_false_eq_true, and_true, true_and, and_false, false_and, and_self, or_true, true_or, or_false, false_or, decide_true, decide_false, Bool.false_eq_true, reduceCtorEq]; done) | (simp_all []; done), by rw [ht]; exact hP9, va_K.moved hW.alike hK, hD9⟩, hS.F ht⟩) hS.2.2 d_MO_subtracts_52
  · refine lv_iconst (v := 1) hx hb d_MO_subtracts_23 (by decide) ?_
    refine lv_goto (tgt := 28) hx hb d_MO_subtracts_24 rfl ?_
    refine va_zast hx hb hK hP hD hS 3 1 rfl rfl (vp_in_nI (n := 1) (by decide) (by decide)) d_MO_subtracts_28 (fun H locs hP hD hS => ?_)
    have hP : va_P D vwCl [(o, .inr (5, [.int th, .ref im, .int (bI tr), .ref rc, .ref bg, .int ro, .ref oa, .ref xa, .ref ya, .ref rg, .ref me, .ref sa, .ref pa, .ref za, .ref ca, .int (bI kp), .ref ta, .ref na])), (rg, .inl (cI, 6, .inl (rg6 a x d b0 b1 b2))), (za, .inl (cZ, 2, .inl (p2 (bI z0) (bI z1)))), (ca, .inl (cZ, 2, .inl (upd (p2 (bI c0) (bI c1)) 1 (bI true))))] H := hP
    have hD : va_D A [(o, .inr (5, [.int th, .ref im, .int (bI tr), .ref rc, .ref bg, .int ro, .ref oa, .ref xa, .ref ya, .ref rg, .ref me, .ref sa, .ref pa, .ref za, .ref ca, .int (bI kp), .ref ta, .ref na])), (rg, .inl (cI, 6, .inl (rg6 a x d b0 b1 b2))), (za, .inl (cZ, 2, .inl (p2 (bI z0) (bI z1)))), (ca, .inl (cZ, 2, .inl (upd (p2 (bI c0) (bI c1)) 1 (bI true))))] := hD
    rw [show upd (p2 (bI c0) (bI c1)) 1 (bI true) = p2 (bI c0) (bI true) from p2_1] at hP hD
    have hP : va_P D vwCl [(o, .inr (5, [.int th, .ref im, .int (bI tr), .ref rc, .ref bg, .int ro, .ref oa, .ref xa, .ref ya, .ref rg, .ref me, .ref sa, .ref pa, .ref za, .ref ca, .int (bI kp), .ref ta, .ref na])), (rg, .inl (cI, 6, .inl (rg6 a x d b0 b1 b2))), (za, .inl (cZ, 2, .inl (p2 (bI z0) (bI z1)))), (ca, .inl (cZ, 2, .inl (p2 (bI c0) (bI true))))] H := hP
    have hD : va_D A [(o, .inr (5, [.int th, .ref im, .int (bI tr), .ref rc, .ref bg, .int ro, .ref oa, .ref xa, .ref ya, .ref rg, .ref me, .ref sa, .ref pa, .ref za, .ref ca, .int (bI kp), .ref ta, .ref na])), (rg, .inl (cI, 6, .inl (rg6 a x d b0 b1 b2))), (za, .inl (cZ, 2, .inl (p2 (bI z0) (bI z1)))), (ca, .inl (cZ, 2, .inl (p2 (bI c0) (bI true))))] := hD
    refine lv_aload_n hx hb d_MO_subtracts_29 rfl (lv_at hl 1 rfl) ?_
    refine lv_iload_n hx hb d_MO_subtracts_30 rfl (lv_at hl 2 rfl) ?_
    refine lv_iload_n hx hb d_MO_subtracts_31 rfl (lv_at hl 3 rfl) ?_
    refine lv_iload hx hb d_MO_subtracts_32 (lv_at hl 0 rfl) ?_
    refine lv_iload_n hx hb d_MO_subtracts_34 rfl (lv_at hl 4 rfl) ?_
    refine lv_isub hx hb d_MO_subtracts_35 ?_
    have hPc := hP.sub (ws' := [(o, .inr (5, [.int th, .ref im, .int (bI tr), .ref rc, .ref bg, .int ro, .ref oa, .ref xa, .ref ya, .ref rg, .ref me, .ref sa, .ref pa, .ref za, .ref ca, .int (bI kp), .ref ta, .ref na])), (rg, .inl (cI, 6, .inl (rg6 a x d b0 b1 b2))), (za, .inl (cZ, 2, .inl (p2 (bI z0) (bI z1))))]) [0, 1, 2] rfl
    have hDc := hD.sub (ws' := [(o, .inr (5, [.int th, .ref im, .int (bI tr), .ref rc, .ref bg, .int ro, .ref oa, .ref xa, .ref ya, .ref rg, .ref me, .ref sa, .ref pa, .ref za, .ref ca, .int (bI kp), .ref ta, .ref na])), (rg, .inl (cI, 6, .inl (rg6 a x d b0 b1 b2))), (za, .inl (cZ, 2, .inl (p2 (bI z0) (bI z1))))]) [0, 1, 2] (by decide) rfl
    have hFc := va_free (wc := [(o, .inr (5, [.int th, .ref im, .int (bI tr), .ref rc, .ref bg, .int ro, .ref oa, .ref xa, .ref ya, .ref rg, .ref me, .ref sa, .ref pa, .ref za, .ref ca, .int (bI kp), .ref ta, .ref na])), (rg, .inl (cI, 6, .inl (rg6 a x d b0 b1 b2))), (za, .inl (cZ, 2, .inl (p2 (bI z0) (bI z1))))]) hD hS hA [0, 1, 2] rfl
    refine va_callv (va_runV (As := [.int 1, .int 2, .int (b2 - v)]) (rest := []) ⟨hx, hb, hml, hown, hts⟩ (q_setZ12 l D cI cZ o th im tr rc bg ro oa xa ya rg me sa pa za ca kp ta na a x d b0 b1 b2 z0 z1 (b2 - v) H.size) ⟨cB 3 hts k_845 k_62 k_842 hd_MO_setZ ⟨Nat.le_of_ble_eq_true rfl, Nat.le_of_ble_eq_true rfl⟩ rfl rfl, hts _ k_844, hts _ k_42⟩ (PcW.preV (va_recv hK hP (q0 := 0) (ci := 5) rfl rfl) hPc hK hDc hN) rfl rfl hl.1 rfl (lv_room (Nat.le_of_ble_eq_true rfl)) d_MO_subtracts_36 ⟨Nat.le_of_ble_eq_true rfl, Nat.le_of_ble_eq_true rfl⟩) hS (fun q _ h => hFc q h) hFc (fun u t H1 locs ht hvm e36 hB hz1 hk1 hS => ?_)
    obtain ⟨v136, zz36⟩ := u
    obtain ⟨hP1, hK1, hD1⟩ := hB
    rw [ht] at hP1
    obtain ⟨hP, hD⟩ := va_join (wr := [(ca, .inl (cZ, 2, .inl (p2 (bI c0) (bI true))))]) (w1 := [(o, .inr (5, [.int th, .ref im, .int (bI tr), .ref rc, .ref bg, .int ro, .ref oa, .ref xa, .ref ya, .ref rg, .ref me, .ref sa, .ref pa, .ref za, .ref ca, .int (bI kp), .ref ta, .ref na])), (rg, .inl (cI, 6, .inl (rg6 a x d b0 b1 v136))), (za, .inl (cZ, 2, .inl (p2 (bI z0) (bI zz36))))]) hP hD [0, 1, 2] [3] rfl rfl (by decide) (by decide) hk1 hFc hP1 hD1
    generalize H1 = H at hP hS ⊢
    try dsimp only at e36
    obtain ⟨e36_0, e36_1⟩ := e36
    replace e36_0 := e36_0.symm
    subst e36_0
    replace e36_1 := e36_1.symm
    subst e36_1
    have hP : va_P D vwCl [(ca, .inl (cZ, 2, .inl (p2 (bI c0) (bI true)))), (o, .inr (5, [.int th, .ref im, .int (bI tr), .ref rc, .ref bg, .int ro, .ref oa, .ref xa, .ref ya, .ref rg, .ref me, .ref sa, .ref pa, .ref za, .ref ca, .int (bI kp), .ref ta, .ref na])), (rg, .inl (cI, 6, .inl (rg6 a x d b0 b1 ((b2 - v) &&& 255)))), (za, .inl (cZ, 2, .inl (p2 (bI z0) (bI (decide ((b2 - v) &&& 255 = 0))))))] H := hP
    have hD : va_D A [(ca, .inl (cZ, 2, .inl (p2 (bI c0) (bI true)))), (o, .inr (5, [.int th, .ref im, .int (bI tr), .ref rc, .ref bg, .int ro, .ref oa, .ref xa, .ref ya, .ref rg, .ref me, .ref sa, .ref pa, .ref za, .ref ca, .int (bI kp), .ref ta, .ref na])), (rg, .inl (cI, 6, .inl (rg6 a x d b0 b1 ((b2 - v) &&& 255)))), (za, .inl (cZ, 2, .inl (p2 (bI z0) (bI (decide ((b2 - v) &&& 255 = 0))))))] := hD
    refine lv_iload hx hb d_MO_subtracts_39 (lv_at hl 5 rfl) ?_
    refine lv_if_eq (tgt := 52) hx hb d_MO_subtracts_41 rfl (fun h41 => ?_) (fun h41 => ?_)
    · have h41 : sy = false := bI_f h41
      have hP9 : va_P D vwCl [(o, .inr (5, [.int th, .ref im, .int (bI tr), .ref rc, .ref bg, .int ro, .ref oa, .ref xa, .ref ya, .ref rg, .ref me, .ref sa, .ref pa, .ref za, .ref ca, .int (bI kp), .ref ta, .ref na])), (rg, .inl (cI, 6, .inl (rg6 a x d b0 b1 ((b2 - v) &&& 255)))), (za, .inl (cZ, 2, .inl (p2 (bI z0) (bI (decide ((b2 - v) &&& 255 = 0)))))), (ca, .inl (cZ, 2, .inl (p2 (bI c0) (bI true))))] H := hP.sub [1, 2, 3, 0] rfl
      have hD9 : va_D A [(o, .inr (5, [.int th, .ref im, .int (bI tr), .ref rc, .ref bg, .int ro, .ref oa, .ref xa, .ref ya, .ref rg, .ref me, .ref sa, .ref pa, .ref za, .ref ca, .int (bI kp), .ref ta, .ref na])), (rg, .inl (cI, 6, .inl (rg6 a x d b0 b1 ((b2 - v) &&& 255)))), (za, .inl (cZ, 2, .inl (p2 (bI z0) (bI (decide ((b2 - v) &&& 255 = 0)))))), (ca, .inl (cZ, 2, .inl (p2 (bI c0) (bI true))))] := hD.sub [1, 2, 3, 0] (by decide) rfl
      exact W.vret hx hb hr (fun t ht hW => ⟨⟨((b2 - v) &&& 255, decide ((b2 - v) &&& 255 = 0), true), rfl, by first | (simp only [h20, h41, ↓reduceIte, not_true_eq_false, not_false_eq_true, and_true, true_and, and_false, false_and, and_self, or_true, true_or, or_false, false_or, decide_true, decide_false, Bool.false_eq_true, reduceCtorEq]; done) | (simp_all []; done), by rw [ht]; exact hP9, va_K.moved hW.alike hK, hD9⟩, hS.F ht⟩) hS.2.2 d_MO_subtracts_52
    · have h41 : sy = true := bI_t h41
      refine lv_aload_n hx hb d_MO_subtracts_44 rfl (lv_at hl 1 rfl) ?_
      refine lv_iload_n hx hb d_MO_subtracts_45 rfl (lv_at hl 2 rfl) ?_
      refine lv_iload_n hx hb d_MO_subtracts_46 rfl (lv_at hl 3 rfl) ?_
      refine lv_iload hx hb d_MO_subtracts_47 (lv_at hl 0 rfl) ?_
      have hPc := hP.sub (ws' := [(o, .inr (5, [.int th, .ref im, .int (bI tr), .ref rc, .ref bg, .int ro, .ref oa, .ref xa, .ref ya, .ref rg, .ref me, .ref sa, .ref pa, .ref za, .ref ca, .int (bI kp), .ref ta, .ref na])), (rg, .inl (cI, 6, .inl (rg6 a x d b0 b1 ((b2 - v) &&& 255))))]) [1, 2] rfl
      have hDc := hD.sub (ws' := [(o, .inr (5, [.int th, .ref im, .int (bI tr), .ref rc, .ref bg, .int ro, .ref oa, .ref xa, .ref ya, .ref rg, .ref me, .ref sa, .ref pa, .ref za, .ref ca, .int (bI kp), .ref ta, .ref na])), (rg, .inl (cI, 6, .inl (rg6 a x d b0 b1 ((b2 - v) &&& 255))))]) [1, 2] (by decide) rfl
      have hFc := va_free (wc := [(o, .inr (5, [.int th, .ref im, .int (bI tr), .ref rc, .ref bg, .int ro, .ref oa, .ref xa, .ref ya, .ref rg, .ref me, .ref sa, .ref pa, .ref za, .ref ca, .int (bI kp), .ref ta, .ref na])), (rg, .inl (cI, 6, .inl (rg6 a x d b0 b1 ((b2 - v) &&& 255))))]) hD hS hA [1, 2] rfl
      refine va_callv (va_runV (As := [.int 1, .int 2, .int b2]) (rest := []) ⟨hx, hb, hml, hown, hts⟩ (q_set12 l D cI cZ o th im tr rc bg ro oa xa ya rg me sa pa za ca kp ta na a x d b0 b1 ((b2 - v) &&& 255) b2 H.size) ⟨cB 3 hts k_849 k_62 k_846 hd_MO_set ⟨Nat.le_of_ble_eq_true rfl, Nat.le_of_ble_eq_true rfl⟩ rfl rfl, hts _ k_848, hts _ k_43⟩ (PcW.preV (va_recv hK hP (q0 := 1) (ci := 5) rfl rfl) hPc hK hDc hN) rfl rfl hl.1 rfl (lv_room (Nat.le_of_ble_eq_true rfl)) d_MO_subtracts_49 ⟨Nat.le_of_ble_eq_true rfl, Nat.le_of_ble_eq_true rfl⟩) hS (fun q _ h => hFc q h) hFc (fun u t H1 locs ht hvm e49 hB hz1 hk1 hS => ?_)
      obtain ⟨v149, rfl⟩ : ∃ z, z = u := ⟨_, rfl⟩
      obtain ⟨hP1, hK1, hD1⟩ := hB
      rw [ht] at hP1
      obtain ⟨hP, hD⟩ := va_join (wr := [(ca, .inl (cZ, 2, .inl (p2 (bI c0) (bI true)))), (za, .inl (cZ, 2, .inl (p2 (bI z0) (bI (decide ((b2 - v) &&& 255 = 0))))))]) (w1 := [(o, .inr (5, [.int th, .ref im, .int (bI tr), .ref rc, .ref bg, .int ro, .ref oa, .ref xa, .ref ya, .ref rg, .ref me, .ref sa, .ref pa, .ref za, .ref ca, .int (bI kp), .ref ta, .ref na])), (rg, .inl (cI, 6, .inl (rg6 a x d b0 b1 v149)))]) hP hD [1, 2] [0, 3] rfl rfl (by decide) (by decide) hk1 hFc hP1 hD1
      generalize H1 = H at hP hS ⊢
      try dsimp only at e49
      have e49_0 := e49
      replace e49_0 := e49_0.symm
      subst e49_0
      have hP : va_P D vwCl [(ca, .inl (cZ, 2, .inl (p2 (bI c0) (bI true)))), (za, .inl (cZ, 2, .inl (p2 (bI z0) (bI (decide ((b2 - v) &&& 255 = 0)))))), (o, .inr (5, [.int th, .ref im, .int (bI tr), .ref rc, .ref bg, .int ro, .ref oa, .ref xa, .ref ya, .ref rg, .ref me, .ref sa, .ref pa, .ref za, .ref ca, .int (bI kp), .ref ta, .ref na])), (rg, .inl (cI, 6, .inl (rg6 a x d b0 b1 (b2 &&& 255))))] H := hP
      have hD : va_D A [(ca, .inl (cZ, 2, .inl (p2 (bI c0) (bI true)))), (za, .inl (cZ, 2, .inl (p2 (bI z0) (bI (decide ((b2 - v) &&& 255 = 0)))))), (o, .inr (5, [.int th, .ref im, .int (bI tr), .ref rc, .ref bg, .int ro, .ref oa, .ref xa, .ref ya, .ref rg, .ref me, .ref sa, .ref pa, .ref za, .ref ca, .int (bI kp), .ref ta, .ref na])), (rg, .inl (cI, 6, .inl (rg6 a x d b0 b1 (b2 &&& 255))))] := hD
      have hP9 : va_P D vwCl [(o, .inr (5, [.int th, .ref im, .int (bI tr), .ref rc, .ref bg, .int ro, .ref oa, .ref xa, .ref ya, .ref rg, .ref me, .ref sa, .ref pa, .ref za, .ref ca, .int (bI kp), .ref ta, .ref na])), (rg, .inl (cI, 6, .inl (rg6 a x d b0 b1 (b2 &&& 255)))), (za, .inl (cZ, 2, .inl (p2 (bI z0) (bI (decide ((b2 - v) &&& 255 = 0)))))), (ca, .inl (cZ, 2, .inl (p2 (bI c0) (bI true))))] H := hP.sub [2, 3, 1, 0] rfl
      have hD9 : va_D A [(o, .inr (5, [.int th, .ref im, .int (bI tr), .ref rc, .ref bg, .int ro, .ref oa, .ref xa, .ref ya, .ref rg, .ref me, .ref sa, .ref pa, .ref za, .ref ca, .int (bI kp), .ref ta, .ref na])), (rg, .inl (cI, 6, .inl (rg6 a x d b0 b1 (b2 &&& 255)))), (za, .inl (cZ, 2, .inl (p2 (bI z0) (bI (decide ((b2 - v) &&& 255 = 0)))))), (ca, .inl (cZ, 2, .inl (p2 (bI c0) (bI true))))] := hD.sub [2, 3, 1, 0] (by decide) rfl
      exact W.vret hx hb hr (fun t ht hW => ⟨⟨(b2 &&& 255, decide ((b2 - v) &&& 255 = 0), true), rfl, by first | (simp only [h20, h41, ↓reduceIte, not_true_eq_false, not_false_eq_true, and_true, true_and, and_false, false_and, and_self, or_true, true_or, or_false, false_or, decide_true, decide_false, Bool.false_eq_true, reduceCtorEq]; done) | (simp_all []; done), by rw [ht]; exact hP9, va_K.moved hW.alike hK, hD9⟩, hS.F ht⟩) hS.2.2 d_MO_subtracts_52
set_option maxHeartbeats 4000000 in
set_option maxRecDepth 100000 in
theorem q_plain12 (l : Launch) (D : va_G) (cI cZ : ClassId) (o : Nat) (th : Int32) (im : Nat) (tr : Bool) (rc : Nat) (bg : Nat) (ro : Int32) (oa : Nat) (xa : Nat) (ya : Nat) (rg : Nat) (me : Nat) (sa : Nat) (pa : Nat) (za : Nat) (ca : Nat) (kp : Bool) (ta : Nat) (na : Nat) (a : Int32) (x : Int32) (d : Int32) (b0 : Int32) (b1 : Int32) (b2 : Int32) (z0 : Bool) (z1 : Bool) (c0 : Bool) (c1 : Bool) (v : Int32) (sz : Nat) : MetV l y_MO_plain w_MO_plain { frames := 2, cells := 0, slots := 0, locals := 46 } D cI cZ [.ref o, .int 1, .int 2, .int v] [(o, .inr (5, [.int th, .ref im, .int (bI tr), .ref rc, .ref bg, .int ro, .ref oa, .ref xa, .ref ya, .ref rg, .ref me, .ref sa, .ref pa, .ref za, .ref ca, .int (bI kp), .ref ta, .ref na])), (rg, .inl (cI, 6, .inl (rg6 a x d b0 b1 b2))), (za, .inl (cZ, 2, .inl (p2 (bI z0) (bI z1)))), (ca, .inl (cZ, 2, .inl (p2 (bI c0) (bI c1))))] sz (fun (u : Int32 × Bool × Bool) => match u with | (v1, zz, cy) => v1 = v &&& 255 ∧ zz = decide (v &&& 255 = 0) ∧ cy = false) (fun (u : Int32 × Bool × Bool) => match u with | (v1, zz, cy) => [(o, .inr (5, [.int th, .ref im, .int (bI tr), .ref rc, .ref bg, .int ro, .ref oa, .ref xa, .ref ya, .ref rg, .ref me, .ref sa, .ref pa, .ref za, .ref ca, .int (bI kp), .ref ta, .ref na])), (rg, .inl (cI, 6, .inl (rg6 a x d b0 b1 v1))), (za, .inl (cZ, 2, .inl (p2 (bI z0) (bI zz)))), (ca, .inl (cZ, 2, .inl (p2 (bI c0) (bI cy))))]) 0 0 := by
  refine ofV (cc := c_MO_plain) (maxL := 4) (ret := none) (by decide) rfl (Nat.le_of_ble_eq_true rfl) ?_
  intro p e s m args below meth c A H hH0 hx hb hr hlocks hts hown hnm hml ls hl hP hK hD hA hS hN
  have hown : s.vm.findClass R_MO = some m.cls := hown
  have hl : lv_has ls 4 [(0, .ref o), (1, .int 1), (2, .int 2), (3, .int v)] := hl
  refine lv_aload_n hx hb d_MO_plain_0 rfl (lv_at hl 0 rfl) ?_
  refine va_get (D := D) (ci := 5) (v := .ref ca) (C := R_MO) (T := T_MO) (N := 18) hx hb hts iw_MO hown hK hP 0 rfl rfl 14 (by decide) (hts _ k_709) (fun _ h9 => h9) rfl d_MO_plain_1 ?_
  refine lv_iload_n hx hb d_MO_plain_4 rfl (lv_at hl 1 rfl) ?_
  refine lv_iconst (v := 0) hx hb d_MO_plain_5 (by decide) ?_
  refine va_zast hx hb hK hP hD hS 3 1 rfl rfl (vp_in_nI (n := 1) (by decide) (by decide)) d_MO_plain_6 (fun H locs hP hD hS => ?_)
  have hP : va_P D vwCl [(o, .inr (5, [.int th, .ref im, .int (bI tr), .ref rc, .ref bg, .int ro, .ref oa, .ref xa, .ref ya, .ref rg, .ref me, .ref sa, .ref pa, .ref za, .ref ca, .int (bI kp), .ref ta, .ref na])), (rg, .inl (cI, 6, .inl (rg6 a x d b0 b1 b2))), (za, .inl (cZ, 2, .inl (p2 (bI z0) (bI z1)))), (ca, .inl (cZ, 2, .inl (upd (p2 (bI c0) (bI c1)) 1 (bI false))))] H := hP
  have hD : va_D A [(o, .inr (5, [.int th, .ref im, .int (bI tr), .ref rc, .ref bg, .int ro, .ref oa, .ref xa, .ref ya, .ref rg, .ref me, .ref sa, .ref pa, .ref za, .ref ca, .int (bI kp), .ref ta, .ref na])), (rg, .inl (cI, 6, .inl (rg6 a x d b0 b1 b2))), (za, .inl (cZ, 2, .inl (p2 (bI z0) (bI z1)))), (ca, .inl (cZ, 2, .inl (upd (p2 (bI c0) (bI c1)) 1 (bI false))))] := hD
  rw [show upd (p2 (bI c0) (bI c1)) 1 (bI false) = p2 (bI c0) (bI false) from p2_1] at hP hD
  have hP : va_P D vwCl [(o, .inr (5, [.int th, .ref im, .int (bI tr), .ref rc, .ref bg, .int ro, .ref oa, .ref xa, .ref ya, .ref rg, .ref me, .ref sa, .ref pa, .ref za, .ref ca, .int (bI kp), .ref ta, .ref na])), (rg, .inl (cI, 6, .inl (rg6 a x d b0 b1 b2))), (za, .inl (cZ, 2, .inl (p2 (bI z0) (bI z1)))), (ca, .inl (cZ, 2, .inl (p2 (bI c0) (bI false))))] H := hP
  have hD : va_D A [(o, .inr (5, [.int th, .ref im, .int (bI tr), .ref rc, .ref bg, .int ro, .ref oa, .ref xa, .ref ya, .ref rg, .ref me, .ref sa, .ref pa, .ref za, .ref ca, .int (bI kp), .ref ta, .ref na])), (rg, .inl (cI, 6, .inl (rg6 a x d b0 b1 b2))), (za, .inl (cZ, 2, .inl (p2 (bI z0) (bI z1)))), (ca, .inl (cZ, 2, .inl (p2 (bI c0) (bI false))))] := hD
  refine lv_aload_n hx hb d_MO_plain_7 rfl (lv_at hl 0 rfl) ?_
  refine lv_iload_n hx hb d_MO_plain_8 rfl (lv_at hl 1 rfl) ?_
  refine lv_iload_n hx hb d_MO_plain_9 rfl (lv_at hl 2 rfl) ?_
  refine lv_iload_n hx hb d_MO_plain_10 rfl (lv_at hl 3 rfl) ?_
  have hPc := hP.sub (ws' := [(o, .inr (5, [.int th, .ref im, .int (bI tr), .ref rc, .ref bg, .int ro, .ref oa, .ref xa, .ref ya, .ref rg, .ref me, .ref sa, .ref pa, .ref za, .ref ca, .int (bI kp), .ref ta, .ref na])), (rg, .inl (cI, 6, .inl (rg6 a x d b0 b1 b2))), (za, .inl (cZ, 2, .inl (p2 (bI z0) (bI z1))))]) [0, 1, 2] rfl
  have hDc := hD.sub (ws' := [(o, .inr (5, [.int th, .ref im, .int (bI tr), .ref rc, .ref bg, .int ro, .ref oa, .ref xa, .ref ya, .ref rg, .ref me, .ref sa, .ref pa, .ref za, .ref ca, .int (bI kp), .ref ta, .ref na])), (rg, .inl (cI, 6, .inl (rg6 a x d b0 b1 b2))), (za, .inl (cZ, 2, .inl (p2 (bI z0) (bI z1))))]) [0, 1, 2] (by decide) rfl
  have hFc := va_free (wc := [(o, .inr (5, [.int th, .ref im, .int (bI tr), .ref rc, .ref bg, .int ro, .ref oa, .ref xa, .ref ya, .ref rg, .ref me, .ref sa, .ref pa, .ref za, .ref ca, .int (bI kp), .ref ta, .ref na])), (rg, .inl (cI, 6, .inl (rg6 a x d b0 b1 b2))), (za, .inl (cZ, 2, .inl (p2 (bI z0) (bI z1))))]) hD hS hA [0, 1, 2] rfl
  refine va_callv (va_runV (As := [.int 1, .int 2, .int v]) (rest := []) ⟨hx, hb, hml, hown, hts⟩ (q_setZ12 l D cI cZ o th im tr rc bg ro oa xa ya rg me sa pa za ca kp ta na a x d b0 b1 b2 z0 z1 v H.size) ⟨cB 3 hts k_845 k_62 k_842 hd_MO_setZ ⟨Nat.le_of_ble_eq_true rfl, Nat.le_of_ble_eq_true rfl⟩ rfl rfl, hts _ k_844, hts _ k_42⟩ (PcW.preV (va_recv hK hP (q0 := 0) (ci := 5) rfl rfl) hPc hK hDc hN) rfl rfl hl.1 rfl (lv_room (Nat.le_of_ble_eq_true rfl)) d_MO_plain_11 ⟨Nat.le_of_ble_eq_true rfl, Nat.le_of_ble_eq_true rfl⟩) hS (fun q _ h => hFc q h) hFc (fun u t H1 locs ht hvm e11 hB hz1 hk1 hS => ?_)
  obtain ⟨v111, zz11⟩ := u
  obtain ⟨hP1, hK1, hD1⟩ := hB
  rw [ht] at hP1
  obtain ⟨hP, hD⟩ := va_join (wr := [(ca, .inl (cZ, 2, .inl (p2 (bI c0) (bI false))))]) (w1 := [(o, .inr (5, [.int th, .ref im, .int (bI tr), .ref rc, .ref bg, .int ro, .ref oa, .ref xa, .ref ya, .ref rg, .ref me, .ref sa, .ref pa, .ref za, .ref ca, .int (bI kp), .ref ta, .ref na])), (rg, .inl (cI, 6, .inl (rg6 a x d b0 b1 v111))), (za, .inl (cZ, 2, .inl (p2 (bI z0) (bI zz11))))]) hP hD [0, 1, 2] [3] rfl rfl (by decide) (by decide) hk1 hFc hP1 hD1
  generalize H1 = H at hP hS ⊢
  try dsimp only at e11
  obtain ⟨e11_0, e11_1⟩ := e11
  replace e11_0 := e11_0.symm
  subst e11_0
  replace e11_1 := e11_1.symm
  subst e11_1
  have hP : va_P D vwCl [(ca, .inl (cZ, 2, .inl (p2 (bI c0) (bI false)))), (o, .inr (5, [.int th, .ref im, .int (bI tr), .ref rc, .ref bg, .int ro, .ref oa, .ref xa, .ref ya, .ref rg, .ref me, .ref sa, .ref pa, .ref za, .ref ca, .int (bI kp), .ref ta, .ref na])), (rg, .inl (cI, 6, .inl (rg6 a x d b0 b1 (v &&& 255)))), (za, .inl (cZ, 2, .inl (p2 (bI z0) (bI (decide (v &&& 255 = 0))))))] H := hP
  have hD : va_D A [(ca, .inl (cZ, 2, .inl (p2 (bI c0) (bI false)))), (o, .inr (5, [.int th, .ref im, .int (bI tr), .ref rc, .ref bg, .int ro, .ref oa, .ref xa, .ref ya, .ref rg, .ref me, .ref sa, .ref pa, .ref za, .ref ca, .int (bI kp), .ref ta, .ref na])), (rg, .inl (cI, 6, .inl (rg6 a x d b0 b1 (v &&& 255)))), (za, .inl (cZ, 2, .inl (p2 (bI z0) (bI (decide (v &&& 255 = 0))))))] := hD
  have hP9 : va_P D vwCl [(o, .inr (5, [.int th, .ref im, .int (bI tr), .ref rc, .ref bg, .int ro, .ref oa, .ref xa, .ref ya, .ref rg, .ref me, .ref sa, .ref pa, .ref za, .ref ca, .int (bI kp), .ref ta, .ref na])), (rg, .inl (cI, 6, .inl (rg6 a x d b0 b1 (v &&& 255)))), (za, .inl (cZ, 2, .inl (p2 (bI z0) (bI (decide (v &&& 255 = 0)))))), (ca, .inl (cZ, 2, .inl (p2 (bI c0) (bI false))))] H := hP.sub [1, 2, 3, 0] rfl
  have hD9 : va_D A [(o, .inr (5, [.int th, .ref im, .int (bI tr), .ref rc, .ref bg, .int ro, .ref oa, .ref xa, .ref ya, .ref rg, .ref me, .ref sa, .ref pa, .ref za, .ref ca, .int (bI kp), .ref ta, .ref na])), (rg, .inl (cI, 6, .inl (rg6 a x d b0 b1 (v &&& 255)))), (za, .inl (cZ, 2, .inl (p2 (bI z0) (bI (decide (v &&& 255 = 0)))))), (ca, .inl (cZ, 2, .inl (p2 (bI c0) (bI false))))] := hD.sub [1, 2, 3, 0] (by decide) rfl
  exact W.vret hx hb hr (fun t ht hW => ⟨⟨(v &&& 255, decide (v &&& 255 = 0), false), rfl, ⟨rfl, rfl, rfl⟩, by rw [ht]; exact hP9, va_K.moved hW.alike hK, hD9⟩, hS.F ht⟩) hS.2.2 d_MO_plain_14
set_option maxHeartbeats 4000000 in
set_option maxRecDepth 100000 in
theorem q_dbl12 (l : Launch) (D : va_G) (cI cZ : ClassId) (o : Nat) (th : Int32) (im : Nat) (tr : Bool) (rc : Nat) (bg : Nat) (ro : Int32) (oa : Nat) (xa : Nat) (ya : Nat) (rg : Nat) (me : Nat) (sa : Nat) (pa : Nat) (za : Nat) (ca : Nat) (kp : Bool) (ta : Nat) (na : Nat) (a : Int32) (x : Int32) (d : Int32) (b0 : Int32) (b1 : Int32) (b2 : Int32) (z0 : Bool) (z1 : Bool) (c0 : Bool) (c1 : Bool) (sz : Nat) : MetV l y_MO_doubles w_MO_doubles { frames := 2, cells := 0, slots := 0, locals := 46 } D cI cZ [.ref o, .int 1, .int 2] [(o, .inr (5, [.int th, .ref im, .int (bI tr), .ref rc, .ref bg, .int ro, .ref oa, .ref xa, .ref ya, .ref rg, .ref me, .ref sa, .ref pa, .ref za, .ref ca, .int (bI kp), .ref ta, .ref na])), (rg, .inl (cI, 6, .inl (rg6 a x d b0 b1 b2))), (za, .inl (cZ, 2, .inl (p2 (bI z0) (bI z1)))), (ca, .inl (cZ, 2, .inl (p2 (bI c0) (bI c1))))] sz (fun (u : Int32 × Bool × Bool) => match u with | (v1, zz, cy) => v1 = (2 * b2) &&& 255 ∧ zz = decide ((2 * b2) &&& 255 = 0) ∧ cy = decide (¬ b2 ≤ 127)) (fun (u : Int32 × Bool × Bool) => match u with | (v1, zz, cy) => [(o, .inr (5, [.int th, .ref im, .int (bI tr), .ref rc, .ref bg, .int ro, .ref oa, .ref xa, .ref ya, .ref rg, .ref me, .ref sa, .ref pa, .ref za, .ref ca, .int (bI kp), .ref ta, .ref na])), (rg, .inl (cI, 6, .inl (rg6 a x d b0 b1 v1))), (za, .inl (cZ, 2, .inl (p2 (bI z0) (bI zz)))), (ca, .inl (cZ, 2, .inl (p2 (bI c0) (bI cy))))]) 0 0 := by
  refine ofV (cc := c_MO_doubles) (maxL := 4) (ret := none) (by decide) rfl (Nat.le_of_ble_eq_true rfl) ?_
  intro p e s m args below meth c A H hH0 hx hb hr hlocks hts hown hnm hml ls hl hP hK hD hA hS hN
  have hown : s.vm.findClass R_MO = some m.cls := hown
  have hl : lv_has ls 4 [(0, .ref o), (1, .int 1), (2, .int 2)] := hl
  refine lv_aload_n hx hb d_MO_doubles_0 rfl (lv_at hl 0 rfl) ?_
  refine va_get (D := D) (ci := 5) (v := .ref rg) (C := R_MO) (T := T_MO) (N := 18) hx hb hts iw_MO hown hK hP 0 rfl rfl 9 (by decide) (hts _ k_704) (fun _ h9 => h9) rfl d_MO_doubles_1 ?_
  refine lv_iconst (v := 3) hx hb d_MO_doubles_4 (by decide) ?_
  refine lv_iload_n hx hb d_MO_doubles_5 rfl (lv_at hl 1 rfl) ?_
  refine lv_imul hx hb d_MO_doubles_6 ?_
  refine lv_iload_n hx hb d_MO_doubles_7 rfl (lv_at hl 2 rfl) ?_
  refine lv_iadd hx hb d_MO_doubles_8 ?_
  refine va_iald hx hb hK hP 1 0 rfl rfl (vp_in_nI (n := 5) (by decide) (by decide)) d_MO_doubles_9 ?_
  refine lv_istore_n hx hb d_MO_doubles_10 rfl hl (by decide) rfl (fun ls hl => ?_)
  have hl : lv_has ls 4 [(3, .int b2), (0, .ref o), (1, .int 1), (2, .int 2)] := hl
  refine lv_aload_n hx hb d_MO_doubles_11 rfl (lv_at hl 1 rfl) ?_
  refine va_get (D := D) (ci := 5) (v := .ref ca) (C := R_MO) (T := T_MO) (N := 18) hx hb hts iw_MO hown hK hP 0 rfl rfl 14 (by decide) (hts _ k_709) (fun _ h9 => h9) rfl d_MO_doubles_12 ?_
  refine lv_iload_n hx hb d_MO_doubles_15 rfl (lv_at hl 2 rfl) ?_
  refine lv_iload_n hx hb d_MO_doubles_16 rfl (lv_at hl 0 rfl) ?_
  refine lv_bipush (v := 127) hx hb d_MO_doubles_17 (by decide) ?_
  refine lv_icmp_le (tgt := 26) hx hb d_MO_doubles_19 rfl (fun h19 => ?_) (fun h19 => ?_)
  · refine lv_iconst (v := 0) hx hb d_MO_doubles_26 (by decide) ?_
    refine va_zast hx hb hK hP hD hS 3 1 rfl rfl (vp_in_nI (n := 1) (by decide) (by decide)) d_MO_doubles_27 (fun H locs hP hD hS => ?_)
    have hP : va_P D vwCl [(o, .inr (5, [.int th, .ref im, .int (bI tr), .ref rc, .ref bg, .int ro, .ref oa, .ref xa, .ref ya, .ref rg, .ref me, .ref sa, .ref pa, .ref za, .ref ca, .int (bI kp), .ref ta, .ref na])), (rg, .inl (cI, 6, .inl (rg6 a x d b0 b1 b2))), (za, .inl (cZ, 2, .inl (p2 (bI z0) (bI z1)))), (ca, .inl (cZ, 2, .inl (upd (p2 (bI c0) (bI c1)) 1 (bI false))))] H := hP
    have hD : va_D A [(o, .inr (5, [.int th, .ref im, .int (bI tr), .ref rc, .ref bg, .int ro, .ref oa, .ref xa, .ref ya, .ref rg, .ref me, .ref sa, .ref pa, .ref za, .ref ca, .int (bI kp), .ref ta, .ref na])), (rg, .inl (cI, 6, .inl (rg6 a x d b0 b1 b2))), (za, .inl (cZ, 2, .inl (p2 (bI z0) (bI z1)))), (ca, .inl (cZ, 2, .inl (upd (p2 (bI c0) (bI c1)) 1 (bI false))))] := hD
    rw [show upd (p2 (bI c0) (bI c1)) 1 (bI false) = p2 (bI c0) (bI false) from p2_1] at hP hD
    have hP : va_P D vwCl [(o, .inr (5, [.int th, .ref im, .int (bI tr), .ref rc, .ref bg, .int ro, .ref oa, .ref xa, .ref ya, .ref rg, .ref me, .ref sa, .ref pa, .ref za, .ref ca, .int (bI kp), .ref ta, .ref na])), (rg, .inl (cI, 6, .inl (rg6 a x d b0 b1 b2))), (za, .inl (cZ, 2, .inl (p2 (bI z0) (bI z1)))), (ca, .inl (cZ, 2, .inl (p2 (bI c0) (bI false))))] H := hP
    have hD : va_D A [(o, .inr (5, [.int th, .ref im, .int (bI tr), .ref rc, .ref bg, .int ro, .ref oa, .ref xa, .ref ya, .ref rg, .ref me, .ref sa, .ref pa, .ref za, .ref ca, .int (bI kp), .ref ta, .ref na])), (rg, .inl (cI, 6, .inl (rg6 a x d b0 b1 b2))), (za, .inl (cZ, 2, .inl (p2 (bI z0) (bI z1)))), (ca, .inl (cZ, 2, .inl (p2 (bI c0) (bI false))))] := hD
    refine lv_aload_n hx hb d_MO_doubles_28 rfl (lv_at hl 1 rfl) ?_
    refine lv_iload_n hx hb d_MO_doubles_29 rfl (lv_at hl 2 rfl) ?_
    refine lv_iload_n hx hb d_MO_doubles_30 rfl (lv_at hl 3 rfl) ?_
    refine lv_iconst (v := 2) hx hb d_MO_doubles_31 (by decide) ?_
    refine lv_iload_n hx hb d_MO_doubles_32 rfl (lv_at hl 0 rfl) ?_
    refine lv_imul hx hb d_MO_doubles_33 ?_
    have hPc := hP.sub (ws' := [(o, .inr (5, [.int th, .ref im, .int (bI tr), .ref rc, .ref bg, .int ro, .ref oa, .ref xa, .ref ya, .ref rg, .ref me, .ref sa, .ref pa, .ref za, .ref ca, .int (bI kp), .ref ta, .ref na])), (rg, .inl (cI, 6, .inl (rg6 a x d b0 b1 b2))), (za, .inl (cZ, 2, .inl (p2 (bI z0) (bI z1))))]) [0, 1, 2] rfl
    have hDc := hD.sub (ws' := [(o, .inr (5, [.int th, .ref im, .int (bI tr), .ref rc, .ref bg, .int ro, .ref oa, .ref xa, .ref ya, .ref rg, .ref me, .ref sa, .ref pa, .ref za, .ref ca, .int (bI kp), .ref ta, .ref na])), (rg, .inl (cI, 6, .inl (rg6 a x d b0 b1 b2))), (za, .inl (cZ, 2, .inl (p2 (bI z0) (bI z1))))]) [0, 1, 2] (by decide) rfl
    have hFc := va_free (wc := [(o, .inr (5, [.int th, .ref im, .int (bI tr), .ref rc, .ref bg, .int ro, .ref oa, .ref xa, .ref ya, .ref rg, .ref me, .ref sa, .ref pa, .ref za, .ref ca, .int (bI kp), .ref ta, .ref na])), (rg, .inl (cI, 6, .inl (rg6 a x d b0 b1 b2))), (za, .inl (cZ, 2, .inl (p2 (bI z0) (bI z1))))]) hD hS hA [0, 1, 2] rfl
    refine va_callv (va_runV (As := [.int 1, .int 2, .int (2 * b2)]) (rest := []) ⟨hx, hb, hml, hown, hts⟩ (q_setZ12 l D cI cZ o th im tr rc bg ro oa xa ya rg me sa pa za ca kp ta na a x d b0 b1 b2 z0 z1 (2 * b2) H.size) ⟨cB 3 hts k_845 k_62 k_842 hd_MO_setZ ⟨Nat.le_of_ble_eq_true rfl, Nat.le_of_ble_eq_true rfl⟩ rfl rfl, hts _ k_844, hts _ k_42⟩ (PcW.preV (va_recv hK hP (q0 := 0) (ci := 5) rfl rfl) hPc hK hDc hN) rfl rfl hl.1 rfl (lv_room (Nat.le_of_ble_eq_true rfl)) d_MO_doubles_34 ⟨Nat.le_of_ble_eq_true rfl, Nat.le_of_ble_eq_true rfl⟩) hS (fun q _ h => hFc q h) hFc (fun u t H1 locs ht hvm e34 hB hz1 hk1 hS => ?_)
    obtain ⟨v134, zz34⟩ := u
    obtain ⟨hP1, hK1, hD1⟩ := hB
    rw [ht] at hP1
    obtain ⟨hP, hD⟩ := va_join (wr := [(ca, .inl (cZ, 2, .inl (p2 (bI c0) (bI false))))]) (w1 := [(o, .inr (5, [.int th, .ref im, .int (bI tr), .ref rc, .ref bg, .int ro, .ref oa, .ref xa, .ref ya, .ref rg, .ref me, .ref sa, .ref pa, .ref za, .ref ca, .int (bI kp), .ref ta, .ref na])), (rg, .inl (cI, 6, .inl (rg6 a x d b0 b1 v134))), (za, .inl (cZ, 2, .inl (p2 (bI z0) (bI zz34))))]) hP hD [0, 1, 2] [3] rfl rfl (by decide) (by decide) hk1 hFc hP1 hD1
    generalize H1 = H at hP hS ⊢
    try dsimp only at e34
    obtain ⟨e34_0, e34_1⟩ := e34
    replace e34_0 := e34_0.symm
    subst e34_0
    replace e34_1 := e34_1.symm
    subst e34_1
    have hP : va_P D vwCl [(ca, .inl (cZ, 2, .inl (p2 (bI c0) (bI false)))), (o, .inr (5, [.int th, .ref im, .int (bI tr), .ref rc, .ref bg, .int ro, .ref oa, .ref xa, .ref ya, .ref rg, .ref me, .ref sa, .ref pa, .ref za, .ref ca, .int (bI kp), .ref ta, .ref na])), (rg, .inl (cI, 6, .inl (rg6 a x d b0 b1 ((2 * b2) &&& 255)))), (za, .inl (cZ, 2, .inl (p2 (bI z0) (bI (decide ((2 * b2) &&& 255 = 0))))))] H := hP
    have hD : va_D A [(ca, .inl (cZ, 2, .inl (p2 (bI c0) (bI false)))), (o, .inr (5, [.int th, .ref im, .int (bI tr), .ref rc, .ref bg, .int ro, .ref oa, .ref xa, .ref ya, .ref rg, .ref me, .ref sa, .ref pa, .ref za, .ref ca, .int (bI kp), .ref ta, .ref na])), (rg, .inl (cI, 6, .inl (rg6 a x d b0 b1 ((2 * b2) &&& 255)))), (za, .inl (cZ, 2, .inl (p2 (bI z0) (bI (decide ((2 * b2) &&& 255 = 0))))))] := hD
    have hP9 : va_P D vwCl [(o, .inr (5, [.int th, .ref im, .int (bI tr), .ref rc, .ref bg, .int ro, .ref oa, .ref xa, .ref ya, .ref rg, .ref me, .ref sa, .ref pa, .ref za, .ref ca, .int (bI kp), .ref ta, .ref na])), (rg, .inl (cI, 6, .inl (rg6 a x d b0 b1 ((2 * b2) &&& 255)))), (za, .inl (cZ, 2, .inl (p2 (bI z0) (bI (decide ((2 * b2) &&& 255 = 0)))))), (ca, .inl (cZ, 2, .inl (p2 (bI c0) (bI false))))] H := hP.sub [1, 2, 3, 0] rfl
    have hD9 : va_D A [(o, .inr (5, [.int th, .ref im, .int (bI tr), .ref rc, .ref bg, .int ro, .ref oa, .ref xa, .ref ya, .ref rg, .ref me, .ref sa, .ref pa, .ref za, .ref ca, .int (bI kp), .ref ta, .ref na])), (rg, .inl (cI, 6, .inl (rg6 a x d b0 b1 ((2 * b2) &&& 255)))), (za, .inl (cZ, 2, .inl (p2 (bI z0) (bI (decide ((2 * b2) &&& 255 = 0)))))), (ca, .inl (cZ, 2, .inl (p2 (bI c0) (bI false))))] := hD.sub [1, 2, 3, 0] (by decide) rfl
    exact W.vret hx hb hr (fun t ht hW => ⟨⟨((2 * b2) &&& 255, decide ((2 * b2) &&& 255 = 0), false), rfl, by first | (simp only [h19, ↓reduceIte, not_true_eq_false, not_false_eq_true, and_true, true_and, and_false, false_and, and_self, or_true, true_or, or_false, false_or, decide_true, decide_false, Bool.false_eq_true, reduceCtorEq]; done) | (simp_all []; done), by rw [ht]; exact hP9, va_K.moved hW.alike hK, hD9⟩, hS.F ht⟩) hS.2.2 d_MO_doubles_37
  · refine lv_iconst (v := 1) hx hb d_MO_doubles_22 (by decide) ?_
    refine lv_goto (tgt := 27) hx hb d_MO_doubles_23 rfl ?_
    refine va_zast hx hb hK hP hD hS 3 1 rfl rfl (vp_in_nI (n := 1) (by decide) (by decide)) d_MO_doubles_27 (fun H locs hP hD hS => ?_)
    have hP : va_P D vwCl [(o, .inr (5, [.int th, .ref im, .int (bI tr), .ref rc, .ref bg, .int ro, .ref oa, .ref xa, .ref ya, .ref rg, .ref me, .ref sa, .ref pa, .ref za, .ref ca, .int (bI kp), .ref ta, .ref na])), (rg, .inl (cI, 6, .inl (rg6 a x d b0 b1 b2))), (za, .inl (cZ, 2, .inl (p2 (bI z0) (bI z1)))), (ca, .inl (cZ, 2, .inl (upd (p2 (bI c0) (bI c1)) 1 (bI true))))] H := hP
    have hD : va_D A [(o, .inr (5, [.int th, .ref im, .int (bI tr), .ref rc, .ref bg, .int ro, .ref oa, .ref xa, .ref ya, .ref rg, .ref me, .ref sa, .ref pa, .ref za, .ref ca, .int (bI kp), .ref ta, .ref na])), (rg, .inl (cI, 6, .inl (rg6 a x d b0 b1 b2))), (za, .inl (cZ, 2, .inl (p2 (bI z0) (bI z1)))), (ca, .inl (cZ, 2, .inl (upd (p2 (bI c0) (bI c1)) 1 (bI true))))] := hD
    rw [show upd (p2 (bI c0) (bI c1)) 1 (bI true) = p2 (bI c0) (bI true) from p2_1] at hP hD
    have hP : va_P D vwCl [(o, .inr (5, [.int th, .ref im, .int (bI tr), .ref rc, .ref bg, .int ro, .ref oa, .ref xa, .ref ya, .ref rg, .ref me, .ref sa, .ref pa, .ref za, .ref ca, .int (bI kp), .ref ta, .ref na])), (rg, .inl (cI, 6, .inl (rg6 a x d b0 b1 b2))), (za, .inl (cZ, 2, .inl (p2 (bI z0) (bI z1)))), (ca, .inl (cZ, 2, .inl (p2 (bI c0) (bI true))))] H := hP
    have hD : va_D A [(o, .inr (5, [.int th, .ref im, .int (bI tr), .ref rc, .ref bg, .int ro, .ref oa, .ref xa, .ref ya, .ref rg, .ref me, .ref sa, .ref pa, .ref za, .ref ca, .int (bI kp), .ref ta, .ref na])), (rg, .inl (cI, 6, .inl (rg6 a x d b0 b1 b2))), (za, .inl (cZ, 2, .inl (p2 (bI z0) (bI z1)))), (ca, .inl (cZ, 2, .inl (p2 (bI c0) (bI true))))] := hD
    refine lv_aload_n hx hb d_MO_doubles_28 rfl (lv_at hl 1 rfl) ?_
    refine lv_iload_n hx hb d_MO_doubles_29 rfl (lv_at hl 2 rfl) ?_
    refine lv_iload_n hx hb d_MO_doubles_30 rfl (lv_at hl 3 rfl) ?_
    refine lv_iconst (v := 2) hx hb d_MO_doubles_31 (by decide) ?_
    refine lv_iload_n hx hb d_MO_doubles_32 rfl (lv_at hl 0 rfl) ?_
    refine lv_imul hx hb d_MO_doubles_33 ?_
    have hPc := hP.sub (ws' := [(o, .inr (5, [.int th, .ref im, .int (bI tr), .ref rc, .ref bg, .int ro, .ref oa, .ref xa, .ref ya, .ref rg, .ref me, .ref sa, .ref pa, .ref za, .ref ca, .int (bI kp), .ref ta, .ref na])), (rg, .inl (cI, 6, .inl (rg6 a x d b0 b1 b2))), (za, .inl (cZ, 2, .inl (p2 (bI z0) (bI z1))))]) [0, 1, 2] rfl
    have hDc := hD.sub (ws' := [(o, .inr (5, [.int th, .ref im, .int (bI tr), .ref rc, .ref bg, .int ro, .ref oa, .ref xa, .ref ya, .ref rg, .ref me, .ref sa, .ref pa, .ref za, .ref ca, .int (bI kp), .ref ta, .ref na])), (rg, .inl (cI, 6, .inl (rg6 a x d b0 b1 b2))), (za, .inl (cZ, 2, .inl (p2 (bI z0) (bI z1))))]) [0, 1, 2] (by decide) rfl
    have hFc := va_free (wc := [(o, .inr (5, [.int th, .ref im, .int (bI tr), .ref rc, .ref bg, .int ro, .ref oa, .ref xa, .ref ya, .ref rg, .ref me, .ref sa, .ref pa, .ref za, .ref ca, .int (bI kp), .ref ta, .ref na])), (rg, .inl (cI, 6, .inl (rg6 a x d b0 b1 b2))), (za, .inl (cZ, 2, .inl (p2 (bI z0) (bI z1))))]) hD hS hA [0, 1, 2] rfl
    refine va_callv (va_runV (As := [.int 1, .int 2, .int (2 * b2)]) (rest := []) ⟨hx, hb, hml, hown, hts⟩ (q_setZ12 l D cI cZ o th im tr rc bg ro oa xa ya rg me sa pa za ca kp ta na a x d b0 b1 b2 z0 z1 (2 * b2) H.size) ⟨cB 3 hts k_845 k_62 k_842 hd_MO_setZ ⟨Nat.le_of_ble_eq_true rfl, Nat.le_of_ble_eq_true rfl⟩ rfl rfl, hts _ k_844, hts _ k_42⟩ (PcW.preV (va_recv hK hP (q0 := 0) (ci := 5) rfl rfl) hPc hK hDc hN) rfl rfl hl.1 rfl (lv_room (Nat.le_of_ble_eq_true rfl)) d_MO_doubles_34 ⟨Nat.le_of_ble_eq_true rfl, Nat.le_of_ble_eq_true rfl⟩) hS (fun q _ h => hFc q h) hFc (fun u t H1 locs ht hvm e34 hB hz1 hk1 hS => ?_)
    obtain ⟨v134, zz34⟩ := u
    obtain ⟨hP1, hK1, hD1⟩ := hB
    rw [ht] at hP1
    obtain ⟨hP, hD⟩ := va_join (wr := [(ca, .inl (cZ, 2, .inl (p2 (bI c0) (bI true))))]) (w1 := [(o, .inr (5, [.int th, .ref im, .int (bI tr), .ref rc, .ref bg, .int ro, .ref oa, .ref xa, .ref ya, .ref rg, .ref me, .ref sa, .ref pa, .ref za, .ref ca, .int (bI kp), .ref ta, .ref na])), (rg, .inl (cI, 6, .inl (rg6 a x d b0 b1 v134))), (za, .inl (cZ, 2, .inl (p2 (bI z0) (bI zz34))))]) hP hD [0, 1, 2] [3] rfl rfl (by decide) (by decide) hk1 hFc hP1 hD1
    generalize H1 = H at hP hS ⊢
    try dsimp only at e34
    obtain ⟨e34_0, e34_1⟩ := e34
    replace e34_0 := e34_0.symm
    subst e34_0
    replace e34_1 := e34_1.symm
    subst e34_1
    have hP : va_P D vwCl [(ca, .inl (cZ, 2, .inl (p2 (bI c0) (bI true)))), (o, .inr (5, [.int th, .ref im, .int (bI tr), .ref rc, .ref bg, .int ro, .ref oa, .ref xa, .ref ya, .ref rg, .ref me, .ref sa, .ref pa, .ref za, .ref ca, .int (bI kp), .ref ta, .ref na])), (rg, .inl (cI, 6, .inl (rg6 a x d b0 b1 ((2 * b2) &&& 255)))), (za, .inl (cZ, 2, .inl (p2 (bI z0) (bI (decide ((2 * b2) &&& 255 = 0))))))] H := hP
    have hD : va_D A [(ca, .inl (cZ, 2, .inl (p2 (bI c0) (bI true)))), (o, .inr (5, [.int th, .ref im, .int (bI tr), .ref rc, .ref bg, .int ro, .ref oa, .ref xa, .ref ya, .ref rg, .ref me, .ref sa, .ref pa, .ref za, .ref ca, .int (bI kp), .ref ta, .ref na])), (rg, .inl (cI, 6, .inl (rg6 a x d b0 b1 ((2 * b2) &&& 255)))), (za, .inl (cZ, 2, .inl (p2 (bI z0) (bI (decide ((2 * b2) &&& 255 = 0))))))] := hD
    have hP9 : va_P D vwCl [(o, .inr (5, [.int th, .ref im, .int (bI tr), .ref rc, .ref bg, .int ro, .ref oa, .ref xa, .ref ya, .ref rg, .ref me, .ref sa, .ref pa, .ref za, .ref ca, .int (bI kp), .ref ta, .ref na])), (rg, .inl (cI, 6, .inl (rg6 a x d b0 b1 ((2 * b2) &&& 255)))), (za, .inl (cZ, 2, .inl (p2 (bI z0) (bI (decide ((2 * b2) &&& 255 = 0)))))), (ca, .inl (cZ, 2, .inl (p2 (bI c0) (bI true))))] H := hP.sub [1, 2, 3, 0] rfl
    have hD9 : va_D A [(o, .inr (5, [.int th, .ref im, .int (bI tr), .ref rc, .ref bg, .int ro, .ref oa, .ref xa, .ref ya, .ref rg, .ref me, .ref sa, .ref pa, .ref za, .ref ca, .int (bI kp), .ref ta, .ref na])), (rg, .inl (cI, 6, .inl (rg6 a x d b0 b1 ((2 * b2) &&& 255)))), (za, .inl (cZ, 2, .inl (p2 (bI z0) (bI (decide ((2 * b2) &&& 255 = 0)))))), (ca, .inl (cZ, 2, .inl (p2 (bI c0) (bI true))))] := hD.sub [1, 2, 3, 0] (by decide) rfl
    exact W.vret hx hb hr (fun t ht hW => ⟨⟨((2 * b2) &&& 255, decide ((2 * b2) &&& 255 = 0), true), rfl, by first | (simp only [h19, ↓reduceIte, not_true_eq_false, not_false_eq_true, and_true, true_and, and_false, false_and, and_self, or_true, true_or, or_false, false_or, decide_true, decide_false, Bool.false_eq_true, reduceCtorEq]; done) | (simp_all []; done), by rw [ht]; exact hP9, va_K.moved hW.alike hK, hD9⟩, hS.F ht⟩) hS.2.2 d_MO_doubles_37
set_option maxHeartbeats 4000000 in
set_option maxRecDepth 100000 in
theorem q_hlv12 (l : Launch) (D : va_G) (cI cZ : ClassId) (o : Nat) (th : Int32) (im : Nat) (tr : Bool) (rc : Nat) (bg : Nat) (ro : Int32) (oa : Nat) (xa : Nat) (ya : Nat) (rg : Nat) (me : Nat) (sa : Nat) (pa : Nat) (za : Nat) (ca : Nat) (kp : Bool) (ta : Nat) (na : Nat) (a : Int32) (x : Int32) (d : Int32) (b0 : Int32) (b1 : Int32) (b2 : Int32) (z0 : Bool) (z1 : Bool) (c0 : Bool) (c1 : Bool) (sz : Nat) : MetV l y_MO_halves w_MO_halves { frames := 2, cells := 0, slots := 0, locals := 46 } D cI cZ [.ref o, .int 1, .int 2] [(o, .inr (5, [.int th, .ref im, .int (bI tr), .ref rc, .ref bg, .int ro, .ref oa, .ref xa, .ref ya, .ref rg, .ref me, .ref sa, .ref pa, .ref za, .ref ca, .int (bI kp), .ref ta, .ref na])), (rg, .inl (cI, 6, .inl (rg6 a x d b0 b1 b2))), (za, .inl (cZ, 2, .inl (p2 (bI z0) (bI z1)))), (ca, .inl (cZ, 2, .inl (p2 (bI c0) (bI c1))))] sz (fun (u : Int32 × Bool × Bool) => match u with | (v1, zz, cy) => v1 = (b2 / 2) &&& 255 ∧ zz = decide ((b2 / 2) &&& 255 = 0) ∧ cy = decide (b2 - b2 / 2 * 2 = 1)) (fun (u : Int32 × Bool × Bool) => match u with | (v1, zz, cy) => [(o, .inr (5, [.int th, .ref im, .int (bI tr), .ref rc, .ref bg, .int ro, .ref oa, .ref xa, .ref ya, .ref rg, .ref me, .ref sa, .ref pa, .ref za, .ref ca, .int (bI kp), .ref ta, .ref na])), (rg, .inl (cI, 6, .inl (rg6 a x d b0 b1 v1))), (za, .inl (cZ, 2, .inl (p2 (bI z0) (bI zz)))), (ca, .inl (cZ, 2, .inl (p2 (bI c0) (bI cy))))]) 0 0 := by
  refine ofV (cc := c_MO_halves) (maxL := 4) (ret := none) (by decide) rfl (Nat.le_of_ble_eq_true rfl) ?_
  intro p e s m args below meth c A H hH0 hx hb hr hlocks hts hown hnm hml ls hl hP hK hD hA hS hN
  have hown : s.vm.findClass R_MO = some m.cls := hown
  have hl : lv_has ls 4 [(0, .ref o), (1, .int 1), (2, .int 2)] := hl
  refine lv_aload_n hx hb d_MO_halves_0 rfl (lv_at hl 0 rfl) ?_
  refine va_get (D := D) (ci := 5) (v := .ref rg) (C := R_MO) (T := T_MO) (N := 18) hx hb hts iw_MO hown hK hP 0 rfl rfl 9 (by decide) (hts _ k_704) (fun _ h9 => h9) rfl d_MO_halves_1 ?_
  refine lv_iconst (v := 3) hx hb d_MO_halves_4 (by decide) ?_
  refine lv_iload_n hx hb d_MO_halves_5 rfl (lv_at hl 1 rfl) ?_
  refine lv_imul hx hb d_MO_halves_6 ?_
  refine lv_iload_n hx hb d_MO_halves_7 rfl (lv_at hl 2 rfl) ?_
  refine lv_iadd hx hb d_MO_halves_8 ?_
  refine va_iald hx hb hK hP 1 0 rfl rfl (vp_in_nI (n := 5) (by decide) (by decide)) d_MO_halves_9 ?_
  refine lv_istore_n hx hb d_MO_halves_10 rfl hl (by decide) rfl (fun ls hl => ?_)
  have hl : lv_has ls 4 [(3, .int b2), (0, .ref o), (1, .int 1), (2, .int 2)] := hl
  refine lv_aload_n hx hb d_MO_halves_11 rfl (lv_at hl 1 rfl) ?_
  refine va_get (D := D) (ci := 5) (v := .ref ca) (C := R_MO) (T := T_MO) (N := 18) hx hb hts iw_MO hown hK hP 0 rfl rfl 14 (by decide) (hts _ k_709) (fun _ h9 => h9) rfl d_MO_halves_12 ?_
  refine lv_iload_n hx hb d_MO_halves_15 rfl (lv_at hl 2 rfl) ?_
  refine lv_iload_n hx hb d_MO_halves_16 rfl (lv_at hl 0 rfl) ?_
  refine lv_iconst (v := 2) hx hb d_MO_halves_17 (by decide) ?_
  refine lv_irem hx hb d_MO_halves_18 (by decide) ?_
  refine lv_iconst (v := 1) hx hb d_MO_halves_19 (by decide) ?_
  refine lv_icmp_ne (tgt := 27) hx hb d_MO_halves_20 rfl (fun h20 => ?_) (fun h20 => ?_)
  · refine lv_iconst (v := 0) hx hb d_MO_halves_27 (by decide) ?_
    refine va_zast hx hb hK hP hD hS 3 1 rfl rfl (vp_in_nI (n := 1) (by decide) (by decide)) d_MO_halves_28 (fun H locs hP hD hS => ?_)
    have hP : va_P D vwCl [(o, .inr (5, [.int th, .ref im, .int (bI tr), .ref rc, .ref bg, .int ro, .ref oa, .ref xa, .ref ya, .ref rg, .ref me, .ref sa, .ref pa, .ref za, .ref ca, .int (bI kp), .ref ta, .ref na])), (rg, .inl (cI, 6, .inl (rg6 a x d b0 b1 b2))), (za, .inl (cZ, 2, .inl (p2 (bI z0) (bI z1)))), (ca, .inl (cZ, 2, .inl (upd (p2 (bI c0) (bI c1)) 1 (bI false))))] H := hP
    have hD : va_D A [(o, .inr (5, [.int th, .ref im, .int (bI tr), .ref rc, .ref bg, .int ro, .ref oa, .ref xa, .ref ya, .ref rg, .ref me, .ref sa, .ref pa, .ref za, .ref ca, .int (bI kp), .ref ta, .ref na])), (rg, .inl (cI, 6, .inl (rg6 a x d b0 b1 b2))), (za, .inl (cZ, 2, .inl (p2 (bI z0) (bI z1)))), (ca, .inl (cZ, 2, .inl (upd (p2 (bI c0) (bI c1)) 1 (bI false))))] := hD
    rw [show upd (p2 (bI c0) (bI c1)) 1 (bI false) = p2 (bI c0) (bI false) from p2_1] at hP hD
    have hP : va_P D vwCl [(o, .inr (5, [.int th, .ref im, .int (bI tr), .ref rc, .ref bg, .int ro, .ref oa, .ref xa, .ref ya, .ref rg, .ref me, .ref sa, .ref pa, .ref za, .ref ca, .int (bI kp), .ref ta, .ref na])), (rg, .inl (cI, 6, .inl (rg6 a x d b0 b1 b2))), (za, .inl (cZ, 2, .inl (p2 (bI z0) (bI z1)))), (ca, .inl (cZ, 2, .inl (p2 (bI c0) (bI false))))] H := hP
    have hD : va_D A [(o, .inr (5, [.int th, .ref im, .int (bI tr), .ref rc, .ref bg, .int ro, .ref oa, .ref xa, .ref ya, .ref rg, .ref me, .ref sa, .ref pa, .ref za, .ref ca, .int (bI kp), .ref ta, .ref na])), (rg, .inl (cI, 6, .inl (rg6 a x d b0 b1 b2))), (za, .inl (cZ, 2, .inl (p2 (bI z0) (bI z1)))), (ca, .inl (cZ, 2, .inl (p2 (bI c0) (bI false))))] := hD
    refine lv_aload_n hx hb d_MO_halves_29 rfl (lv_at hl 1 rfl) ?_
    refine lv_iload_n hx hb d_MO_halves_30 rfl (lv_at hl 2 rfl) ?_
    refine lv_iload_n hx hb d_MO_halves_31 rfl (lv_at hl 3 rfl) ?_
    refine lv_iload_n hx hb d_MO_halves_32 rfl (lv_at hl 0 rfl) ?_
    refine lv_iconst (v := 2) hx hb d_MO_halves_33 (by decide) ?_
    refine lv_idiv hx hb d_MO_halves_34 (by decide) ?_
    have hPc := hP.sub (ws' := [(o, .inr (5, [.int th, .ref im, .int (bI tr), .ref rc, .ref bg, .int ro, .ref oa, .ref xa, .ref ya, .ref rg, .ref me, .ref sa, .ref pa, .ref za, .ref ca, .int (bI kp), .ref ta, .ref na])), (rg, .inl (cI, 6, .inl (rg6 a x d b0 b1 b2))), (za, .inl (cZ, 2, .inl (p2 (bI z0) (bI z1))))]) [0, 1, 2] rfl
    have hDc := hD.sub (ws' := [(o, .inr (5, [.int th, .ref im, .int (bI tr), .ref rc, .ref bg, .int ro, .ref oa, .ref xa, .ref ya, .ref rg, .ref me, .ref sa, .ref pa, .ref za, .ref ca, .int (bI kp), .ref ta, .ref na])), (rg, .inl (cI, 6, .inl (rg6 a x d b0 b1 b2))), (za, .inl (cZ, 2, .inl (p2 (bI z0) (bI z1))))]) [0, 1, 2] (by decide) rfl
    have hFc := va_free (wc := [(o, .inr (5, [.int th, .ref im, .int (bI tr), .ref rc, .ref bg, .int ro, .ref oa, .ref xa, .ref ya, .ref rg, .ref me, .ref sa, .ref pa, .ref za, .ref ca, .int (bI kp), .ref ta, .ref na])), (rg, .inl (cI, 6, .inl (rg6 a x d b0 b1 b2))), (za, .inl (cZ, 2, .inl (p2 (bI z0) (bI z1))))]) hD hS hA [0, 1, 2] rfl
    refine va_callv (va_runV (As := [.int 1, .int 2, .int (b2 / 2)]) (rest := []) ⟨hx, hb, hml, hown, hts⟩ (q_setZ12 l D cI cZ o th im tr rc bg ro oa xa ya rg me sa pa za ca kp ta na a x d b0 b1 b2 z0 z1 (b2 / 2) H.size) ⟨cB 3 hts k_845 k_62 k_842 hd_MO_setZ ⟨Nat.le_of_ble_eq_true rfl, Nat.le_of_ble_eq_true rfl⟩ rfl rfl, hts _ k_844, hts _ k_42⟩ (PcW.preV (va_recv hK hP (q0 := 0) (ci := 5) rfl rfl) hPc hK hDc hN) rfl rfl hl.1 rfl (lv_room (Nat.le_of_ble_eq_true rfl)) d_MO_halves_35 ⟨Nat.le_of_ble_eq_true rfl, Nat.le_of_ble_eq_true rfl⟩) hS (fun q _ h => hFc q h) hFc (fun u t H1 locs ht hvm e35 hB hz1 hk1 hS => ?_)
    obtain ⟨v135, zz35⟩ := u
    obtain ⟨hP1, hK1, hD1⟩ := hB
    rw [ht] at hP1
    obtain ⟨hP, hD⟩ := va_join (wr := [(ca, .inl (cZ, 2, .inl (p2 (bI c0) (bI false))))]) (w1 := [(o, .inr (5, [.int th, .ref im, .int (bI tr), .ref rc, .ref bg, .int ro, .ref oa, .ref xa, .ref ya, .ref rg, .ref me, .ref sa, .ref pa, .ref za, .ref ca, .int (bI kp), .ref ta, .ref na])), (rg, .inl (cI, 6, .inl (rg6 a x d b0 b1 v135))), (za, .inl (cZ, 2, .inl (p2 (bI z0) (bI zz35))))]) hP hD [0, 1, 2] [3] rfl rfl (by decide) (by decide) hk1 hFc hP1 hD1
    generalize H1 = H at hP hS ⊢
    try dsimp only at e35
    obtain ⟨e35_0, e35_1⟩ := e35
    replace e35_0 := e35_0.symm
    subst e35_0
    replace e35_1 := e35_1.symm
    subst e35_1
    have hP : va_P D vwCl [(ca, .inl (cZ, 2, .inl (p2 (bI c0) (bI false)))), (o, .inr (5, [.int th, .ref im, .int (bI tr), .ref rc, .ref bg, .int ro, .ref oa, .ref xa, .ref ya, .ref rg, .ref me, .ref sa, .ref pa, .ref za, .ref ca, .int (bI kp), .ref ta, .ref na])), (rg, .inl (cI, 6, .inl (rg6 a x d b0 b1 ((b2 / 2) &&& 255)))), (za, .inl (cZ, 2, .inl (p2 (bI z0) (bI (decide ((b2 / 2) &&& 255 = 0))))))] H := hP
    have hD : va_D A [(ca, .inl (cZ, 2, .inl (p2 (bI c0) (bI false)))), (o, .inr (5, [.int th, .ref im, .int (bI tr), .ref rc, .ref bg, .int ro, .ref oa, .ref xa, .ref ya, .ref rg, .ref me, .ref sa, .ref pa, .ref za, .ref ca, .int (bI kp), .ref ta, .ref na])), (rg, .inl (cI, 6, .inl (rg6 a x d b0 b1 ((b2 / 2) &&& 255)))), (za, .inl (cZ, 2, .inl (p2 (bI z0) (bI (decide ((b2 / 2) &&& 255 = 0))))))] := hD
    have hP9 : va_P D vwCl [(o, .inr (5, [.int th, .ref im, .int (bI tr), .ref rc, .ref bg, .int ro, .ref oa, .ref xa, .ref ya, .ref rg, .ref me, .ref sa, .ref pa, .ref za, .ref ca, .int (bI kp), .ref ta, .ref na])), (rg, .inl (cI, 6, .inl (rg6 a x d b0 b1 ((b2 / 2) &&& 255)))), (za, .inl (cZ, 2, .inl (p2 (bI z0) (bI (decide ((b2 / 2) &&& 255 = 0)))))), (ca, .inl (cZ, 2, .inl (p2 (bI c0) (bI false))))] H := hP.sub [1, 2, 3, 0] rfl
    have hD9 : va_D A [(o, .inr (5, [.int th, .ref im, .int (bI tr), .ref rc, .ref bg, .int ro, .ref oa, .ref xa, .ref ya, .ref rg, .ref me, .ref sa, .ref pa, .ref za, .ref ca, .int (bI kp), .ref ta, .ref na])), (rg, .inl (cI, 6, .inl (rg6 a x d b0 b1 ((b2 / 2) &&& 255)))), (za, .inl (cZ, 2, .inl (p2 (bI z0) (bI (decide ((b2 / 2) &&& 255 = 0)))))), (ca, .inl (cZ, 2, .inl (p2 (bI c0) (bI false))))] := hD.sub [1, 2, 3, 0] (by decide) rfl
    exact W.vret hx hb hr (fun t ht hW => ⟨⟨((b2 / 2) &&& 255, decide ((b2 / 2) &&& 255 = 0), false), rfl, by first | (simp only [h20, ↓reduceIte, not_true_eq_false, not_false_eq_true, and_true, true_and, and_false, false_and, and_self, or_true, true_or, or_false, false_or, decide_true, decide_false, Bool.false_eq_true, reduceCtorEq]; done) | (simp_all []; done), by rw [ht]; exact hP9, va_K.moved hW.alike hK, hD9⟩, hS.F ht⟩) hS.2.2 d_MO_halves_38
  · refine lv_iconst (v := 1) hx hb d_MO_halves_23 (by decide) ?_
    refine lv_goto (tgt := 28) hx hb d_MO_halves_24 rfl ?_
    refine va_zast hx hb hK hP hD hS 3 1 rfl rfl (vp_in_nI (n := 1) (by decide) (by decide)) d_MO_halves_28 (fun H locs hP hD hS => ?_)
    have hP : va_P D vwCl [(o, .inr (5, [.int th, .ref im, .int (bI tr), .ref rc, .ref bg, .int ro, .ref oa, .ref xa, .ref ya, .ref rg, .ref me, .ref sa, .ref pa, .ref za, .ref ca, .int (bI kp), .ref ta, .ref na])), (rg, .inl (cI, 6, .inl (rg6 a x d b0 b1 b2))), (za, .inl (cZ, 2, .inl (p2 (bI z0) (bI z1)))), (ca, .inl (cZ, 2, .inl (upd (p2 (bI c0) (bI c1)) 1 (bI true))))] H := hP
    have hD : va_D A [(o, .inr (5, [.int th, .ref im, .int (bI tr), .ref rc, .ref bg, .int ro, .ref oa, .ref xa, .ref ya, .ref rg, .ref me, .ref sa, .ref pa, .ref za, .ref ca, .int (bI kp), .ref ta, .ref na])), (rg, .inl (cI, 6, .inl (rg6 a x d b0 b1 b2))), (za, .inl (cZ, 2, .inl (p2 (bI z0) (bI z1)))), (ca, .inl (cZ, 2, .inl (upd (p2 (bI c0) (bI c1)) 1 (bI true))))] := hD
    rw [show upd (p2 (bI c0) (bI c1)) 1 (bI true) = p2 (bI c0) (bI true) from p2_1] at hP hD
    have hP : va_P D vwCl [(o, .inr (5, [.int th, .ref im, .int (bI tr), .ref rc, .ref bg, .int ro, .ref oa, .ref xa, .ref ya, .ref rg, .ref me, .ref sa, .ref pa, .ref za, .ref ca, .int (bI kp), .ref ta, .ref na])), (rg, .inl (cI, 6, .inl (rg6 a x d b0 b1 b2))), (za, .inl (cZ, 2, .inl (p2 (bI z0) (bI z1)))), (ca, .inl (cZ, 2, .inl (p2 (bI c0) (bI true))))] H := hP
    have hD : va_D A [(o, .inr (5, [.int th, .ref im, .int (bI tr), .ref rc, .ref bg, .int ro, .ref oa, .ref xa, .ref ya, .ref rg, .ref me, .ref sa, .ref pa, .ref za, .ref ca, .int (bI kp), .ref ta, .ref na])), (rg, .inl (cI, 6, .inl (rg6 a x d b0 b1 b2))), (za, .inl (cZ, 2, .inl (p2 (bI z0) (bI z1)))), (ca, .inl (cZ, 2, .inl (p2 (bI c0) (bI true))))] := hD
    refine lv_aload_n hx hb d_MO_halves_29 rfl (lv_at hl 1 rfl) ?_
    refine lv_iload_n hx hb d_MO_halves_30 rfl (lv_at hl 2 rfl) ?_
    refine lv_iload_n hx hb d_MO_halves_31 rfl (lv_at hl 3 rfl) ?_
    refine lv_iload_n hx hb d_MO_halves_32 rfl (lv_at hl 0 rfl) ?_
    refine lv_iconst (v := 2) hx hb d_MO_halves_33 (by decide) ?_
    refine lv_idiv hx hb d_MO_halves_34 (by decide) ?_
    have hPc := hP.sub (ws' := [(o, .inr (5, [.int th, .ref im, .int (bI tr), .ref rc, .ref bg, .int ro, .ref oa, .ref xa, .ref ya, .ref rg, .ref me, .ref sa, .ref pa, .ref za, .ref ca, .int (bI kp), .ref ta, .ref na])), (rg, .inl (cI, 6, .inl (rg6 a x d b0 b1 b2))), (za, .inl (cZ, 2, .inl (p2 (bI z0) (bI z1))))]) [0, 1, 2] rfl
    have hDc := hD.sub (ws' := [(o, .inr (5, [.int th, .ref im, .int (bI tr), .ref rc, .ref bg, .int ro, .ref oa, .ref xa, .ref ya, .ref rg, .ref me, .ref sa, .ref pa, .ref za, .ref ca, .int (bI kp), .ref ta, .ref na])), (rg, .inl (cI, 6, .inl (rg6 a x d b0 b1 b2))), (za, .inl (cZ, 2, .inl (p2 (bI z0) (bI z1))))]) [0, 1, 2] (by decide) rfl
    have hFc := va_free (wc := [(o, .inr (5, [.int th, .ref im, .int (bI tr), .ref rc, .ref bg, .int ro, .ref oa, .ref xa, .ref ya, .ref rg, .ref me, .ref sa, .ref pa, .ref za, .ref ca, .int (bI kp), .ref ta, .ref na])), (rg, .inl (cI, 6, .inl (rg6 a x d b0 b1 b2))), (za, .inl (cZ, 2, .inl (p2 (bI z0) (bI z1))))]) hD hS hA [0, 1, 2] rfl
    refine va_callv (va_runV (As := [.int 1, .int 2, .int (b2 / 2)]) (rest := []) ⟨hx, hb, hml, hown, hts⟩ (q_setZ12 l D cI cZ o th im tr rc bg ro oa xa ya rg me sa pa za ca kp ta na a x d b0 b1 b2 z0 z1 (b2 / 2) H.size) ⟨cB 3 hts k_845 k_62 k_842 hd_MO_setZ ⟨Nat.le_of_ble_eq_true rfl, Nat.le_of_ble_eq_true rfl⟩ rfl rfl, hts _ k_844, hts _ k_42⟩ (PcW.preV (va_recv hK hP (q0 := 0) (ci := 5) rfl rfl) hPc hK hDc hN) rfl rfl hl.1 rfl (lv_room (Nat.le_of_ble_eq_true rfl)) d_MO_halves_35 ⟨Nat.le_of_ble_eq_true rfl, Nat.le_of_ble_eq_true rfl⟩) hS (fun q _ h => hFc q h) hFc (fun u t H1 locs ht hvm e35 hB hz1 hk1 hS => ?_)
    obtain ⟨v135, zz35⟩ := u
    obtain ⟨hP1, hK1, hD1⟩ := hB
    rw [ht] at hP1
    obtain ⟨hP, hD⟩ := va_join (wr := [(ca, .inl (cZ, 2, .inl (p2 (bI c0) (bI true))))]) (w1 := [(o, .inr (5, [.int th, .ref im, .int (bI tr), .ref rc, .ref bg, .int ro, .ref oa, .ref xa, .ref ya, .ref rg, .ref me, .ref sa, .ref pa, .ref za, .ref ca, .int (bI kp), .ref ta, .ref na])), (rg, .inl (cI, 6, .inl (rg6 a x d b0 b1 v135))), (za, .inl (cZ, 2, .inl (p2 (bI z0) (bI zz35))))]) hP hD [0, 1, 2] [3] rfl rfl (by decide) (by decide) hk1 hFc hP1 hD1
    generalize H1 = H at hP hS ⊢
    try dsimp only at e35
    obtain ⟨e35_0, e35_1⟩ := e35
    replace e35_0 := e35_0.symm
    subst e35_0
    replace e35_1 := e35_1.symm
    subst e35_1
    have hP : va_P D vwCl [(ca, .inl (cZ, 2, .inl (p2 (bI c0) (bI true)))), (o, .inr (5, [.int th, .ref im, .int (bI tr), .ref rc, .ref bg, .int ro, .ref oa, .ref xa, .ref ya, .ref rg, .ref me, .ref sa, .ref pa, .ref za, .ref ca, .int (bI kp), .ref ta, .ref na])), (rg, .inl (cI, 6, .inl (rg6 a x d b0 b1 ((b2 / 2) &&& 255)))), (za, .inl (cZ, 2, .inl (p2 (bI z0) (bI (decide ((b2 / 2) &&& 255 = 0))))))] H := hP
    have hD : va_D A [(ca, .inl (cZ, 2, .inl (p2 (bI c0) (bI true)))), (o, .inr (5, [.int th, .ref im, .int (bI tr), .ref rc, .ref bg, .int ro, .ref oa, .ref xa, .ref ya, .ref rg, .ref me, .ref sa, .ref pa, .ref za, .ref ca, .int (bI kp), .ref ta, .ref na])), (rg, .inl (cI, 6, .inl (rg6 a x d b0 b1 ((b2 / 2) &&& 255)))), (za, .inl (cZ, 2, .inl (p2 (bI z0) (bI (decide ((b2 / 2) &&& 255 = 0))))))] := hD
    have hP9 : va_P D vwCl [(o, .inr (5, [.int th, .ref im, .int (bI tr), .ref rc, .ref bg, .int ro, .ref oa, .ref xa, .ref ya, .ref rg, .ref me, .ref sa, .ref pa, .ref za, .ref ca, .int (bI kp), .ref ta, .ref na])), (rg, .inl (cI, 6, .inl (rg6 a x d b0 b1 ((b2 / 2) &&& 255)))), (za, .inl (cZ, 2, .inl (p2 (bI z0) (bI (decide ((b2 / 2) &&& 255 = 0)))))), (ca, .inl (cZ, 2, .inl (p2 (bI c0) (bI true))))] H := hP.sub [1, 2, 3, 0] rfl
    have hD9 : va_D A [(o, .inr (5, [.int th, .ref im, .int (bI tr), .ref rc, .ref bg, .int ro, .ref oa, .ref xa, .ref ya, .ref rg, .ref me, .ref sa, .ref pa, .ref za, .ref ca, .int (bI kp), .ref ta, .ref na])), (rg, .inl (cI, 6, .inl (rg6 a x d b0 b1 ((b2 / 2) &&& 255)))), (za, .inl (cZ, 2, .inl (p2 (bI z0) (bI (decide ((b2 / 2) &&& 255 = 0)))))), (ca, .inl (cZ, 2, .inl (p2 (bI c0) (bI true))))] := hD.sub [1, 2, 3, 0] (by decide) rfl
    exact W.vret hx hb hr (fun t ht hW => ⟨⟨((b2 / 2) &&& 255, decide ((b2 / 2) &&& 255 = 0), true), rfl, by first | (simp only [h20, ↓reduceIte, not_true_eq_false, not_false_eq_true, and_true, true_and, and_false, false_and, and_self, or_true, true_or, or_false, false_or, decide_true, decide_false, Bool.false_eq_true, reduceCtorEq]; done) | (simp_all []; done), by rw [ht]; exact hP9, va_K.moved hW.alike hK, hD9⟩, hS.F ht⟩) hS.2.2 d_MO_halves_38
