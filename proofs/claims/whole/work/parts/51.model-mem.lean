set_option maxHeartbeats 4000000 in
set_option maxRecDepth 100000 in
theorem q_get0 (l : Launch) (D : va_G) (cI cZ : ClassId) (o : Nat) (th : Int32) (im : Nat) (tr : Bool) (rc : Nat) (bg : Nat) (ro : Int32) (oa : Nat) (xa : Nat) (ya : Nat) (rg : Nat) (me : Nat) (sa : Nat) (pa : Nat) (za : Nat) (ca : Nat) (kp : Bool) (ta : Nat) (na : Nat) (g : Nat → Int32) (h : Nat → Int32) (ad : Int32) : MetR l y_MO_get w_MO_get { frames := 0, cells := 0, slots := 0, locals := 0 } D cI cZ [.ref o, .int 0, .int ad] [(o, .inr (5, [.int th, .ref im, .int (bI tr), .ref rc, .ref bg, .int ro, .ref oa, .ref xa, .ref ya, .ref rg, .ref me, .ref sa, .ref pa, .ref za, .ref ca, .int (bI kp), .ref ta, .ref na])), (me, .inl (cI, 512, .inl (mm2 g h)))] (fun r => r = rd g ad) := by
  refine ofR (cc := c_MO_get) (maxL := 3) (ret := (some .int)) (by decide) rfl (Nat.le_of_ble_eq_true rfl) ?_
  intro p e s m args below meth c H hH0 hx hb hr hlocks hts hown hml ls hl hP hK hN
  have hown : s.vm.findClass R_MO = some m.cls := hown
  have hl : lv_has ls 3 [(0, .ref o), (1, .int 0), (2, .int ad)] := hl
  refine lv_aload_n hx hb d_MO_get_0 rfl (lv_at hl 0 rfl) ?_
  refine va_get (D := D) (ci := 5) (v := .ref me) (C := R_MO) (T := T_MO) (N := 18) hx hb hts iw_MO hown hK hP 0 rfl rfl 10 (by decide) (hts _ k_705) (fun _ h9 => h9) rfl d_MO_get_1 ?_
  refine lv_sipush (v := 256) hx hb d_MO_get_4 (by decide) ?_
  refine lv_iload_n hx hb d_MO_get_7 rfl (lv_at hl 1 rfl) ?_
  refine lv_imul hx hb d_MO_get_8 ?_
  refine lv_iload_n hx hb d_MO_get_9 rfl (lv_at hl 2 rfl) ?_
  refine lv_sipush (v := 255) hx hb d_MO_get_10 (by decide) ?_
  refine lv_iand hx hb d_MO_get_13 ?_
  refine lv_iadd hx hb d_MO_get_14 ?_
  refine va_iald hx hb hK hP 1 0 rfl rfl (in512_0 _) d_MO_get_15 ?_
  refine lv_topi (fun y9 e9 => ?_)
  have e9 : y9 = rd g ad := e9.trans (mm_rd0 _ _ _)
  subst e9
  exact W.iret (v := (rd g ad)) hx hb hr (fun t ht hW => ⟨(rd g ad), rfl, rfl, ht.trans hH0.symm⟩) (fun _ h9 => absurd h9 List.not_mem_nil) d_MO_get_16
set_option maxHeartbeats 4000000 in
set_option maxRecDepth 100000 in
theorem q_put0 (l : Launch) (D : va_G) (cI cZ : ClassId) (o : Nat) (th : Int32) (im : Nat) (tr : Bool) (rc : Nat) (bg : Nat) (ro : Int32) (oa : Nat) (xa : Nat) (ya : Nat) (rg : Nat) (me : Nat) (sa : Nat) (pa : Nat) (za : Nat) (ca : Nat) (kp : Bool) (ta : Nat) (na : Nat) (g : Nat → Int32) (h : Nat → Int32) (ad : Int32) (v : Int32) (sz : Nat) : MetV l y_MO_put w_MO_put { frames := 0, cells := 0, slots := 0, locals := 0 } D cI cZ [.ref o, .int 0, .int ad, .int v] [(o, .inr (5, [.int th, .ref im, .int (bI tr), .ref rc, .ref bg, .int ro, .ref oa, .ref xa, .ref ya, .ref rg, .ref me, .ref sa, .ref pa, .ref za, .ref ca, .int (bI kp), .ref ta, .ref na])), (me, .inl (cI, 512, .inl (mm2 g h)))] sz (fun (f1 : (Nat → Int32)) => f1 = mm2 (wr g ad v) h) (fun (f1 : (Nat → Int32)) => [(o, .inr (5, [.int th, .ref im, .int (bI tr), .ref rc, .ref bg, .int ro, .ref oa, .ref xa, .ref ya, .ref rg, .ref me, .ref sa, .ref pa, .ref za, .ref ca, .int (bI kp), .ref ta, .ref na])), (me, .inl (cI, 512, .inl f1))]) 0 0 := by
  refine ofV (cc := c_MO_put) (maxL := 4) (ret := none) (by decide) rfl (Nat.le_of_ble_eq_true rfl) ?_
  intro p e s m args below meth c A H hH0 hx hb hr hlocks hts hown hnm hml ls hl hP hK hD hA hS hN
  have hown : s.vm.findClass R_MO = some m.cls := hown
  have hl : lv_has ls 4 [(0, .ref o), (1, .int 0), (2, .int ad), (3, .int v)] := hl
  refine lv_aload_n hx hb d_MO_put_0 rfl (lv_at hl 0 rfl) ?_
  refine va_get (D := D) (ci := 5) (v := .ref me) (C := R_MO) (T := T_MO) (N := 18) hx hb hts iw_MO hown hK hP 0 rfl rfl 10 (by decide) (hts _ k_705) (fun _ h9 => h9) rfl d_MO_put_1 ?_
  refine lv_sipush (v := 256) hx hb d_MO_put_4 (by decide) ?_
  refine lv_iload_n hx hb d_MO_put_7 rfl (lv_at hl 1 rfl) ?_
  refine lv_imul hx hb d_MO_put_8 ?_
  refine lv_iload_n hx hb d_MO_put_9 rfl (lv_at hl 2 rfl) ?_
  refine lv_sipush (v := 255) hx hb d_MO_put_10 (by decide) ?_
  refine lv_iand hx hb d_MO_put_13 ?_
  refine lv_iadd hx hb d_MO_put_14 ?_
  refine lv_iload_n hx hb d_MO_put_15 rfl (lv_at hl 3 rfl) ?_
  refine lv_sipush (v := 255) hx hb d_MO_put_16 (by decide) ?_
  refine lv_iand hx hb d_MO_put_19 ?_
  refine va_iast hx hb hK hP hD hS 1 0 rfl rfl (in512_0 _) d_MO_put_20 (fun H locs hP hD hS => ?_)
  have hP : va_P D vwCl [(o, .inr (5, [.int th, .ref im, .int (bI tr), .ref rc, .ref bg, .int ro, .ref oa, .ref xa, .ref ya, .ref rg, .ref me, .ref sa, .ref pa, .ref za, .ref ca, .int (bI kp), .ref ta, .ref na])), (me, .inl (cI, 512, .inl (upd (mm2 g h) (0 + (ad &&& 255)).toNatClampNeg (v &&& 255))))] H := hP
  have hD : va_D A [(o, .inr (5, [.int th, .ref im, .int (bI tr), .ref rc, .ref bg, .int ro, .ref oa, .ref xa, .ref ya, .ref rg, .ref me, .ref sa, .ref pa, .ref za, .ref ca, .int (bI kp), .ref ta, .ref na])), (me, .inl (cI, 512, .inl (upd (mm2 g h) (0 + (ad &&& 255)).toNatClampNeg (v &&& 255))))] := hD
  have hP9 : va_P D vwCl [(o, .inr (5, [.int th, .ref im, .int (bI tr), .ref rc, .ref bg, .int ro, .ref oa, .ref xa, .ref ya, .ref rg, .ref me, .ref sa, .ref pa, .ref za, .ref ca, .int (bI kp), .ref ta, .ref na])), (me, .inl (cI, 512, .inl (upd (mm2 g h) (0 + (ad &&& 255)).toNatClampNeg (v &&& 255))))] H := hP.sub [0, 1] rfl
  have hD9 : va_D A [(o, .inr (5, [.int th, .ref im, .int (bI tr), .ref rc, .ref bg, .int ro, .ref oa, .ref xa, .ref ya, .ref rg, .ref me, .ref sa, .ref pa, .ref za, .ref ca, .int (bI kp), .ref ta, .ref na])), (me, .inl (cI, 512, .inl (upd (mm2 g h) (0 + (ad &&& 255)).toNatClampNeg (v &&& 255))))] := hD.sub [0, 1] (by decide) rfl
  exact W.vret hx hb hr (fun t ht hW => ⟨⟨(upd (mm2 g h) (0 + (ad &&& 255)).toNatClampNeg (v &&& 255)), rfl, mm_wr0 _ _ _ _, by rw [ht]; exact hP9, va_K.moved hW.alike hK, hD9⟩, hS.F ht⟩) hS.2.2 d_MO_put_21
set_option maxHeartbeats 4000000 in
set_option maxRecDepth 100000 in
theorem q_get1 (l : Launch) (D : va_G) (cI cZ : ClassId) (o : Nat) (th : Int32) (im : Nat) (tr : Bool) (rc : Nat) (bg : Nat) (ro : Int32) (oa : Nat) (xa : Nat) (ya : Nat) (rg : Nat) (me : Nat) (sa : Nat) (pa : Nat) (za : Nat) (ca : Nat) (kp : Bool) (ta : Nat) (na : Nat) (g : Nat → Int32) (h : Nat → Int32) (ad : Int32) : MetR l y_MO_get w_MO_get { frames := 0, cells := 0, slots := 0, locals := 0 } D cI cZ [.ref o, .int 1, .int ad] [(o, .inr (5, [.int th, .ref im, .int (bI tr), .ref rc, .ref bg, .int ro, .ref oa, .ref xa, .ref ya, .ref rg, .ref me, .ref sa, .ref pa, .ref za, .ref ca, .int (bI kp), .ref ta, .ref na])), (me, .inl (cI, 512, .inl (mm2 g h)))] (fun r => r = rd h ad) := by
  refine ofR (cc := c_MO_get) (maxL := 3) (ret := (some .int)) (by decide) rfl (Nat.le_of_ble_eq_true rfl) ?_
  intro p e s m args below meth c H hH0 hx hb hr hlocks hts hown hml ls hl hP hK hN
  have hown : s.vm.findClass R_MO = some m.cls := hown
  have hl : lv_has ls 3 [(0, .ref o), (1, .int 1), (2, .int ad)] := hl
  refine lv_aload_n hx hb d_MO_get_0 rfl (lv_at hl 0 rfl) ?_
  refine va_get (D := D) (ci := 5) (v := .ref me) (C := R_MO) (T := T_MO) (N := 18) hx hb hts iw_MO hown hK hP 0 rfl rfl 10 (by decide) (hts _ k_705) (fun _ h9 => h9) rfl d_MO_get_1 ?_
  refine lv_sipush (v := 256) hx hb d_MO_get_4 (by decide) ?_
  refine lv_iload_n hx hb d_MO_get_7 rfl (lv_at hl 1 rfl) ?_
  refine lv_imul hx hb d_MO_get_8 ?_
  refine lv_iload_n hx hb d_MO_get_9 rfl (lv_at hl 2 rfl) ?_
  refine lv_sipush (v := 255) hx hb d_MO_get_10 (by decide) ?_
  refine lv_iand hx hb d_MO_get_13 ?_
  refine lv_iadd hx hb d_MO_get_14 ?_
  refine va_iald hx hb hK hP 1 0 rfl rfl (in512_1 _) d_MO_get_15 ?_
  refine lv_topi (fun y9 e9 => ?_)
  have e9 : y9 = rd h ad := e9.trans (mm_rd1 _ _ _)
  subst e9
  exact W.iret (v := (rd h ad)) hx hb hr (fun t ht hW => ⟨(rd h ad), rfl, rfl, ht.trans hH0.symm⟩) (fun _ h9 => absurd h9 List.not_mem_nil) d_MO_get_16
set_option maxHeartbeats 4000000 in
set_option maxRecDepth 100000 in
theorem q_put1 (l : Launch) (D : va_G) (cI cZ : ClassId) (o : Nat) (th : Int32) (im : Nat) (tr : Bool) (rc : Nat) (bg : Nat) (ro : Int32) (oa : Nat) (xa : Nat) (ya : Nat) (rg : Nat) (me : Nat) (sa : Nat) (pa : Nat) (za : Nat) (ca : Nat) (kp : Bool) (ta : Nat) (na : Nat) (g : Nat → Int32) (h : Nat → Int32) (ad : Int32) (v : Int32) (sz : Nat) : MetV l y_MO_put w_MO_put { frames := 0, cells := 0, slots := 0, locals := 0 } D cI cZ [.ref o, .int 1, .int ad, .int v] [(o, .inr (5, [.int th, .ref im, .int (bI tr), .ref rc, .ref bg, .int ro, .ref oa, .ref xa, .ref ya, .ref rg, .ref me, .ref sa, .ref pa, .ref za, .ref ca, .int (bI kp), .ref ta, .ref na])), (me, .inl (cI, 512, .inl (mm2 g h)))] sz (fun (f1 : (Nat → Int32)) => f1 = mm2 g (wr h ad v)) (fun (f1 : (Nat → Int32)) => [(o, .inr (5, [.int th, .ref im, .int (bI tr), .ref rc, .ref bg, .int ro, .ref oa, .ref xa, .ref ya, .ref rg, .ref me, .ref sa, .ref pa, .ref za, .ref ca, .int (bI kp), .ref ta, .ref na])), (me, .inl (cI, 512, .inl f1))]) 0 0 := by
  refine ofV (cc := c_MO_put) (maxL := 4) (ret := none) (by decide) rfl (Nat.le_of_ble_eq_true rfl) ?_
  intro p e s m args below meth c A H hH0 hx hb hr hlocks hts hown hnm hml ls hl hP hK hD hA hS hN
  have hown : s.vm.findClass R_MO = some m.cls := hown
  have hl : lv_has ls 4 [(0, .ref o), (1, .int 1), (2, .int ad), (3, .int v)] := hl
  refine lv_aload_n hx hb d_MO_put_0 rfl (lv_at hl 0 rfl) ?_
  refine va_get (D := D) (ci := 5) (v := .ref me) (C := R_MO) (T := T_MO) (N := 18) hx hb hts iw_MO hown hK hP 0 rfl rfl 10 (by decide) (hts _ k_705) (fun _ h9 => h9) rfl d_MO_put_1 ?_
  refine lv_sipush (v := 256) hx hb d_MO_put_4 (by decide) ?_
  refine lv_iload_n hx hb d_MO_put_7 rfl (lv_at hl 1 rfl) ?_
  refine lv_imul hx hb d_MO_put_8 ?_
  refine lv_iload_n hx hb d_MO_put_9 rfl (lv_at hl 2 rfl) ?_
  refine lv_sipush (v := 255) hx hb d_MO_put_10 (by decide) ?_
  refine lv_iand hx hb d_MO_put_13 ?_
  refine lv_iadd hx hb d_MO_put_14 ?_
  refine lv_iload_n hx hb d_MO_put_15 rfl (lv_at hl 3 rfl) ?_
  refine lv_sipush (v := 255) hx hb d_MO_put_16 (by decide) ?_
  refine lv_iand hx hb d_MO_put_19 ?_
  refine va_iast hx hb hK hP hD hS 1 0 rfl rfl (in512_1 _) d_MO_put_20 (fun H locs hP hD hS => ?_)
  have hP : va_P D vwCl [(o, .inr (5, [.int th, .ref im, .int (bI tr), .ref rc, .ref bg, .int ro, .ref oa, .ref xa, .ref ya, .ref rg, .ref me, .ref sa, .ref pa, .ref za, .ref ca, .int (bI kp), .ref ta, .ref na])), (me, .inl (cI, 512, .inl (upd (mm2 g h) (256 + (ad &&& 255)).toNatClampNeg (v &&& 255))))] H := hP
  have hD : va_D A [(o, .inr (5, [.int th, .ref im, .int (bI tr), .ref rc, .ref bg, .int ro, .ref oa, .ref xa, .ref ya, .ref rg, .ref me, .ref sa, .ref pa, .ref za, .ref ca, .int (bI kp), .ref ta, .ref na])), (me, .inl (cI, 512, .inl (upd (mm2 g h) (256 + (ad &&& 255)).toNatClampNeg (v &&& 255))))] := hD
  have hP9 : va_P D vwCl [(o, .inr (5, [.int th, .ref im, .int (bI tr), .ref rc, .ref bg, .int ro, .ref oa, .ref xa, .ref ya, .ref rg, .ref me, .ref sa, .ref pa, .ref za, .ref ca, .int (bI kp), .ref ta, .ref na])), (me, .inl (cI, 512, .inl (upd (mm2 g h) (256 + (ad &&& 255)).toNatClampNeg (v &&& 255))))] H := hP.sub [0, 1] rfl
  have hD9 : va_D A [(o, .inr (5, [.int th, .ref im, .int (bI tr), .ref rc, .ref bg, .int ro, .ref oa, .ref xa, .ref ya, .ref rg, .ref me, .ref sa, .ref pa, .ref za, .ref ca, .int (bI kp), .ref ta, .ref na])), (me, .inl (cI, 512, .inl (upd (mm2 g h) (256 + (ad &&& 255)).toNatClampNeg (v &&& 255))))] := hD.sub [0, 1] (by decide) rfl
  exact W.vret hx hb hr (fun t ht hW => ⟨⟨(upd (mm2 g h) (256 + (ad &&& 255)).toNatClampNeg (v &&& 255)), rfl, mm_wr1 _ _ _ _, by rw [ht]; exact hP9, va_K.moved hW.alike hK, hD9⟩, hS.F ht⟩) hS.2.2 d_MO_put_21
