set_option maxHeartbeats 4000000 in
set_option maxRecDepth 100000 in
theorem q_transT (l : Launch) (D : va_G) (cI cZ : ClassId) (o : Nat) (th : Int32) (im : Nat) (tr : Bool) (rc : Nat) (bg : Nat) (ro : Int32) (oa : Nat) (xa : Nat) (ya : Nat) (rg : Nat) (me : Nat) (sa : Nat) (pa : Nat) (za : Nat) (ca : Nat) (kp : Bool) (ta : Nat) (na : Nat) (en : Int32) (sz : Nat) (hby : isByteB en = false) : MetI l y_MO_translate w_MO_translate { frames := 1, cells := 0, slots := 0, locals := 20 } D cI cZ [.ref o, .int en] [(o, .inr (5, [.int th, .ref im, .int (bI tr), .ref rc, .ref bg, .int ro, .ref oa, .ref xa, .ref ya, .ref rg, .ref me, .ref sa, .ref pa, .ref za, .ref ca, .int (bI kp), .ref ta, .ref na]))] sz (fun r (_ : Unit) => r = 0) (fun (_ : Unit) => [(o, .inr (5, [.int 1, .ref im, .int (bI tr), .ref rc, .ref bg, .int ro, .ref oa, .ref xa, .ref ya, .ref rg, .ref me, .ref sa, .ref pa, .ref za, .ref ca, .int (bI kp), .ref ta, .ref na]))]) 0 0 := by
  refine ofI (cc := c_MO_translate) (maxL := 5) (ret := (some .int)) (by decide) rfl (Nat.le_of_ble_eq_true rfl) ?_
  intro p e s m args below meth c A H hH0 hx hb hr hlocks hts hown hnm hml ls hl hP hK hD hA hS hN
  have hown : s.vm.findClass R_MO = some m.cls := hown
  have hl : lv_has ls 5 [(0, .ref o), (1, .int en)] := hl
  refine lv_aload_n hx hb d_MO_translate_0 rfl (lv_at hl 0 rfl) ?_
  refine lv_iload_n hx hb d_MO_translate_1 rfl (lv_at hl 1 rfl) ?_
  have hPc := hP.sub (ws' := []) [] rfl
  refine vp_callSi (va_runS (As := [.int en]) (rest := [.ref o]) ⟨hx, hb, hml, hown, hts⟩ (q_isByte l D cI cZ en) ⟨cB 1 hts k_760 k_62 k_758 hd_MO_isByte ⟨Nat.le_of_ble_eq_true rfl, Nat.le_of_ble_eq_true rfl⟩ rfl rfl, hts _ k_759⟩ (PcR.preS hPc hK hN) rfl rfl hl.1 rfl (lv_room (Nat.le_of_ble_eq_true rfl)) d_MO_translate_2 ⟨Nat.le_of_ble_eq_true rfl, Nat.le_of_ble_eq_true rfl⟩).run (fun r2 e2 => ?_)
  replace e2 := e2.symm
  subst e2
  refine lv_if_eq (tgt := 12) hx hb d_MO_translate_5 rfl (fun _ => ?_) (fun hq9 => absurd (by rw [hby]; rfl) hq9)
  refine lv_iconst (v := 1) hx hb d_MO_translate_12 (by decide) ?_
  refine va_put (D := D) (ci := 5) (v := .int 1) (ty := .int) (C := R_MO) (T := T_MO) (N := 18) hx hb hts iw_MO ty_MO ty_MO_ok nm_MO hown hK hP hD hS 0 rfl rfl 0 (by decide) (hts _ k_695) (fun _ h9 => h9) rfl (by decide +kernel) rfl rfl (Nat.le_of_ble_eq_true rfl) d_MO_translate_13 (fun H locs hP hD hS => ?_)
  have hP : va_P D vwCl [(o, .inr (5, [.int 1, .ref im, .int (bI tr), .ref rc, .ref bg, .int ro, .ref oa, .ref xa, .ref ya, .ref rg, .ref me, .ref sa, .ref pa, .ref za, .ref ca, .int (bI kp), .ref ta, .ref na]))] H := hP
  have hD : va_D A [(o, .inr (5, [.int 1, .ref im, .int (bI tr), .ref rc, .ref bg, .int ro, .ref oa, .ref xa, .ref ya, .ref rg, .ref me, .ref sa, .ref pa, .ref za, .ref ca, .int (bI kp), .ref ta, .ref na]))] := hD
  refine lv_aload_n hx hb d_MO_translate_16 rfl (lv_at hl 0 rfl) ?_
  refine va_get (D := D) (ci := 5) (v := .int 1) (C := R_MO) (T := T_MO) (N := 18) hx hb hts iw_MO hown hK hP 0 rfl rfl 0 (by decide) (hts _ k_695) (fun _ h9 => h9) rfl d_MO_translate_17 ?_
  refine lv_if_le (tgt := 25) hx hb d_MO_translate_20 rfl (fun hq9 => absurd hq9 (by decide)) (fun _ => ?_)
  refine lv_iconst (v := 0) hx hb d_MO_translate_23 (by decide) ?_
  have hP9 : va_P D vwCl [(o, .inr (5, [.int 1, .ref im, .int (bI tr), .ref rc, .ref bg, .int ro, .ref oa, .ref xa, .ref ya, .ref rg, .ref me, .ref sa, .ref pa, .ref za, .ref ca, .int (bI kp), .ref ta, .ref na]))] H := hP.sub [0] rfl
  have hD9 : va_D A [(o, .inr (5, [.int 1, .ref im, .int (bI tr), .ref rc, .ref bg, .int ro, .ref oa, .ref xa, .ref ya, .ref rg, .ref me, .ref sa, .ref pa, .ref za, .ref ca, .int (bI kp), .ref ta, .ref na]))] := hD.sub [0] (by decide) rfl
  exact W.iret (v := 0) hx hb hr (fun t ht hW => ⟨⟨0, (), rfl, rfl, by rw [ht]; exact hP9, va_K.moved hW.alike hK, hD9⟩, hS.F ht⟩) hS.2.2 d_MO_translate_24
set_option maxHeartbeats 4000000 in
set_option maxRecDepth 100000 in
theorem q_transR (l : Launch) (D : va_G) (cI cZ : ClassId) (o : Nat) (th : Int32) (im : Nat) (tr : Bool) (rc : Nat) (bg : Nat) (ro : Int32) (oa : Nat) (xa : Nat) (ya : Nat) (rg : Nat) (me : Nat) (sa : Nat) (pa : Nat) (za : Nat) (ca : Nat) (kp : Bool) (ta : Nat) (na : Nat) (fi : Nat → Int32) (fr : Nat → Int32) (en : Int32) (sz : Nat) (hby : isByteB en = true) (hfi : ∀ j : Nat, j < 256 → vp_in (fi j) 256) (hre : refM (rOut fi 256 (filE en fr 256, true)).1 fi < 0) : MetI l y_MO_translate w_MO_translate { frames := 3, cells := 0, slots := 0, locals := 67 } D cI cZ [.ref o, .int en] [(o, .inr (5, [.int th, .ref im, .int (bI tr), .ref rc, .ref bg, .int ro, .ref oa, .ref xa, .ref ya, .ref rg, .ref me, .ref sa, .ref pa, .ref za, .ref ca, .int (bI kp), .ref ta, .ref na])), (im, .inl (cI, 256, .inl fi)), (rc, .inl (cZ, 256, .inl fr))] sz (fun r (fr1 : (Nat → Int32)) => r = refM (rOut fi 256 (filE en fr 256, true)).1 fi ∧ fr1 = (rOut fi 256 (filE en fr 256, true)).1) (fun (fr1 : (Nat → Int32)) => [(o, .inr (5, [.int 0, .ref im, .int (bI tr), .ref rc, .ref bg, .int ro, .ref oa, .ref xa, .ref ya, .ref rg, .ref me, .ref sa, .ref pa, .ref za, .ref ca, .int (bI kp), .ref ta, .ref na])), (im, .inl (cI, 256, .inl fi)), (rc, .inl (cZ, 256, .inl fr1))]) 0 0 := by
  refine ofI (cc := c_MO_translate) (maxL := 5) (ret := (some .int)) (by decide) rfl (Nat.le_of_ble_eq_true rfl) ?_
  intro p e s m args below meth c A H hH0 hx hb hr hlocks hts hown hnm hml ls hl hP hK hD hA hS hN
  have hown : s.vm.findClass R_MO = some m.cls := hown
  have hl : lv_has ls 5 [(0, .ref o), (1, .int en)] := hl
  refine lv_aload_n hx hb d_MO_translate_0 rfl (lv_at hl 0 rfl) ?_
  refine lv_iload_n hx hb d_MO_translate_1 rfl (lv_at hl 1 rfl) ?_
  have hPc := hP.sub (ws' := []) [] rfl
  refine vp_callSi (va_runS (As := [.int en]) (rest := [.ref o]) ⟨hx, hb, hml, hown, hts⟩ (q_isByte l D cI cZ en) ⟨cB 1 hts k_760 k_62 k_758 hd_MO_isByte ⟨Nat.le_of_ble_eq_true rfl, Nat.le_of_ble_eq_true rfl⟩ rfl rfl, hts _ k_759⟩ (PcR.preS hPc hK hN) rfl rfl hl.1 rfl (lv_room (Nat.le_of_ble_eq_true rfl)) d_MO_translate_2 ⟨Nat.le_of_ble_eq_true rfl, Nat.le_of_ble_eq_true rfl⟩).run (fun r2 e2 => ?_)
  replace e2 := e2.symm
  subst e2
  refine lv_if_eq (tgt := 12) hx hb d_MO_translate_5 rfl (fun hq9 => absurd hq9 (by rw [hby]; decide)) (fun _ => ?_)
  refine lv_iconst (v := 0) hx hb d_MO_translate_8 (by decide) ?_
  refine lv_goto (tgt := 13) hx hb d_MO_translate_9 rfl ?_
  refine va_put (D := D) (ci := 5) (v := .int 0) (ty := .int) (C := R_MO) (T := T_MO) (N := 18) hx hb hts iw_MO ty_MO ty_MO_ok nm_MO hown hK hP hD hS 0 rfl rfl 0 (by decide) (hts _ k_695) (fun _ h9 => h9) rfl (by decide +kernel) rfl rfl (Nat.le_of_ble_eq_true rfl) d_MO_translate_13 (fun H locs hP hD hS => ?_)
  have hP : va_P D vwCl [(o, .inr (5, [.int 0, .ref im, .int (bI tr), .ref rc, .ref bg, .int ro, .ref oa, .ref xa, .ref ya, .ref rg, .ref me, .ref sa, .ref pa, .ref za, .ref ca, .int (bI kp), .ref ta, .ref na])), (im, .inl (cI, 256, .inl fi)), (rc, .inl (cZ, 256, .inl fr))] H := hP
  have hD : va_D A [(o, .inr (5, [.int 0, .ref im, .int (bI tr), .ref rc, .ref bg, .int ro, .ref oa, .ref xa, .ref ya, .ref rg, .ref me, .ref sa, .ref pa, .ref za, .ref ca, .int (bI kp), .ref ta, .ref na])), (im, .inl (cI, 256, .inl fi)), (rc, .inl (cZ, 256, .inl fr))] := hD
  refine lv_aload_n hx hb d_MO_translate_16 rfl (lv_at hl 0 rfl) ?_
  refine va_get (D := D) (ci := 5) (v := .int 0) (C := R_MO) (T := T_MO) (N := 18) hx hb hts iw_MO hown hK hP 0 rfl rfl 0 (by decide) (hts _ k_695) (fun _ h9 => h9) rfl d_MO_translate_17 ?_
  refine lv_if_le (tgt := 25) hx hb d_MO_translate_20 rfl (fun _ => ?_) (fun hq9 => absurd (by decide) hq9)
  refine lv_aload_n hx hb d_MO_translate_25 rfl (lv_at hl 0 rfl) ?_
  refine lv_iload_n hx hb d_MO_translate_26 rfl (lv_at hl 1 rfl) ?_
  have hPc := hP.sub (ws' := [(o, .inr (5, [.int 0, .ref im, .int (bI tr), .ref rc, .ref bg, .int ro, .ref oa, .ref xa, .ref ya, .ref rg, .ref me, .ref sa, .ref pa, .ref za, .ref ca, .int (bI kp), .ref ta, .ref na])), (im, .inl (cI, 256, .inl fi)), (rc, .inl (cZ, 256, .inl fr))]) [0, 1, 2] rfl
  have hDc := hD.sub (ws' := [(o, .inr (5, [.int 0, .ref im, .int (bI tr), .ref rc, .ref bg, .int ro, .ref oa, .ref xa, .ref ya, .ref rg, .ref me, .ref sa, .ref pa, .ref za, .ref ca, .int (bI kp), .ref ta, .ref na])), (im, .inl (cI, 256, .inl fi)), (rc, .inl (cZ, 256, .inl fr))]) [0, 1, 2] (by decide) rfl
  have hFc := va_free (wc := [(o, .inr (5, [.int 0, .ref im, .int (bI tr), .ref rc, .ref bg, .int ro, .ref oa, .ref xa, .ref ya, .ref rg, .ref me, .ref sa, .ref pa, .ref za, .ref ca, .int (bI kp), .ref ta, .ref na])), (im, .inl (cI, 256, .inl fi)), (rc, .inl (cZ, 256, .inl fr))]) hD hS hA [0, 1, 2] rfl
  refine va_callv (va_runV (As := [.int en]) (rest := []) ⟨hx, hb, hml, hown, hts⟩ (q_reach l D cI cZ o 0 im tr rc bg ro oa xa ya rg me sa pa za ca kp ta na fi fr en H.size hfi) ⟨cB 1 hts k_768 k_62 k_765 hd_MO_reach ⟨Nat.le_of_ble_eq_true rfl, Nat.le_of_ble_eq_true rfl⟩ rfl rfl, hts _ k_767, hts _ k_26⟩ (PcW.preV (va_recv hK hP (q0 := 0) (ci := 5) rfl rfl) hPc hK hDc hN) rfl rfl hl.1 rfl (lv_room (Nat.le_of_ble_eq_true rfl)) d_MO_translate_27 ⟨Nat.le_of_ble_eq_true rfl, Nat.le_of_ble_eq_true rfl⟩) hS (fun q _ h => hFc q h) hFc (fun u t H1 locs ht hvm e27 hB hz1 hk1 hS => ?_)
  obtain ⟨fr127, rfl⟩ : ∃ z, z = u := ⟨_, rfl⟩
  obtain ⟨hP1, hK1, hD1⟩ := hB
  rw [ht] at hP1
  obtain ⟨hP, hD⟩ := va_join (wr := []) (w1 := [(o, .inr (5, [.int 0, .ref im, .int (bI tr), .ref rc, .ref bg, .int ro, .ref oa, .ref xa, .ref ya, .ref rg, .ref me, .ref sa, .ref pa, .ref za, .ref ca, .int (bI kp), .ref ta, .ref na])), (im, .inl (cI, 256, .inl fi)), (rc, .inl (cZ, 256, .inl fr127))]) hP hD [0, 1, 2] [] rfl rfl (by decide) (by decide) hk1 hFc hP1 hD1
  generalize H1 = H at hP hS ⊢
  try dsimp only at e27
  have e27_0 := e27
  replace e27_0 := e27_0.symm
  subst e27_0
  have hP : va_P D vwCl [(o, .inr (5, [.int 0, .ref im, .int (bI tr), .ref rc, .ref bg, .int ro, .ref oa, .ref xa, .ref ya, .ref rg, .ref me, .ref sa, .ref pa, .ref za, .ref ca, .int (bI kp), .ref ta, .ref na])), (im, .inl (cI, 256, .inl fi)), (rc, .inl (cZ, 256, .inl ((rOut fi 256 (filE en fr 256, true)).1)))] H := hP
  have hD : va_D A [(o, .inr (5, [.int 0, .ref im, .int (bI tr), .ref rc, .ref bg, .int ro, .ref oa, .ref xa, .ref ya, .ref rg, .ref me, .ref sa, .ref pa, .ref za, .ref ca, .int (bI kp), .ref ta, .ref na])), (im, .inl (cI, 256, .inl fi)), (rc, .inl (cZ, 256, .inl ((rOut fi 256 (filE en fr 256, true)).1)))] := hD
  refine lv_aload_n hx hb d_MO_translate_30 rfl (lv_at hl 0 rfl) ?_
  have hPc := hP.sub (ws' := [(o, .inr (5, [.int 0, .ref im, .int (bI tr), .ref rc, .ref bg, .int ro, .ref oa, .ref xa, .ref ya, .ref rg, .ref me, .ref sa, .ref pa, .ref za, .ref ca, .int (bI kp), .ref ta, .ref na])), (im, .inl (cI, 256, .inl fi)), (rc, .inl (cZ, 256, .inl ((rOut fi 256 (filE en fr 256, true)).1)))]) [0, 1, 2] rfl
  refine vp_callSi (va_runV (As := []) (rest := []) ⟨hx, hb, hml, hown, hts⟩ (q_refusal l D cI cZ o 0 im tr rc bg ro oa xa ya rg me sa pa za ca kp ta na fi ((rOut fi 256 (filE en fr 256, true)).1)) ⟨cB 0 hts k_781 k_62 k_778 hd_MO_refusal ⟨Nat.le_of_ble_eq_true rfl, Nat.le_of_ble_eq_true rfl⟩ rfl rfl, hts _ k_780, hts _ k_27⟩ (PcR.preV (va_recv hK hP (q0 := 0) (ci := 5) rfl rfl) hPc hK hN) rfl rfl hl.1 rfl (lv_room (Nat.le_of_ble_eq_true rfl)) d_MO_translate_31 ⟨Nat.le_of_ble_eq_true rfl, Nat.le_of_ble_eq_true rfl⟩).run (fun r31 e31 => ?_)
  replace e31 := e31.symm
  subst e31
  refine lv_istore_n hx hb d_MO_translate_34 rfl hl (by decide) rfl (fun ls hl => ?_)
  have hl : lv_has ls 5 [(2, .int (refM ((rOut fi 256 (filE en fr 256, true)).1) fi)), (0, .ref o), (1, .int en)] := hl
  refine lv_iload_n hx hb d_MO_translate_35 rfl (lv_at hl 0 rfl) ?_
  refine lv_if_ge (tgt := 41) hx hb d_MO_translate_36 rfl (fun hq9 => absurd hq9 (Int32.not_le.mpr hre)) (fun _ => ?_)
  refine lv_iload_n hx hb d_MO_translate_39 rfl (lv_at hl 0 rfl) ?_
  have hP9 : va_P D vwCl [(o, .inr (5, [.int 0, .ref im, .int (bI tr), .ref rc, .ref bg, .int ro, .ref oa, .ref xa, .ref ya, .ref rg, .ref me, .ref sa, .ref pa, .ref za, .ref ca, .int (bI kp), .ref ta, .ref na])), (im, .inl (cI, 256, .inl fi)), (rc, .inl (cZ, 256, .inl ((rOut fi 256 (filE en fr 256, true)).1)))] H := hP.sub [0, 1, 2] rfl
  have hD9 : va_D A [(o, .inr (5, [.int 0, .ref im, .int (bI tr), .ref rc, .ref bg, .int ro, .ref oa, .ref xa, .ref ya, .ref rg, .ref me, .ref sa, .ref pa, .ref za, .ref ca, .int (bI kp), .ref ta, .ref na])), (im, .inl (cI, 256, .inl fi)), (rc, .inl (cZ, 256, .inl ((rOut fi 256 (filE en fr 256, true)).1)))] := hD.sub [0, 1, 2] (by decide) rfl
  exact W.iret (v := (refM ((rOut fi 256 (filE en fr 256, true)).1) fi)) hx hb hr (fun t ht hW => ⟨⟨(refM ((rOut fi 256 (filE en fr 256, true)).1) fi), ((rOut fi 256 (filE en fr 256, true)).1), rfl, ⟨rfl, rfl⟩, by rw [ht]; exact hP9, va_K.moved hW.alike hK, hD9⟩, hS.F ht⟩) hS.2.2 d_MO_translate_40
