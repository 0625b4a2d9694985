set_option maxHeartbeats 4000000 in
set_option maxRecDepth 100000 in
theorem q_works0 (l : Launch) (D : va_G) (cI cZ : ClassId) (o : Nat) (th : Int32) (im : Nat) (tr : Bool) (rc : Nat) (bg : Nat) (ro : Int32) (oa : Nat) (xa : Nat) (ya : Nat) (rg : Nat) (me : Nat) (sa : Nat) (pa : Nat) (za : Nat) (ca : Nat) (kp : Bool) (ta : Nat) (na : Nat) (a : Int32) (x : Int32) (d : Int32) (b0 : Int32) (b1 : Int32) (b2 : Int32) (g : Nat → Int32) (h : Nat → Int32) (z0 : Bool) (z1 : Bool) (c0 : Bool) (c1 : Bool) (op : Int32) (j : Int32) (sz : Nat) : MetV l y_MO_works w_MO_works { frames := 3, cells := 0, slots := 0, locals := 71 } D cI cZ [.ref o, .int op, .int 0, .int j] [(o, .inr (5, [.int th, .ref im, .int (bI tr), .ref rc, .ref bg, .int ro, .ref oa, .ref xa, .ref ya, .ref rg, .ref me, .ref sa, .ref pa, .ref za, .ref ca, .int (bI kp), .ref ta, .ref na])), (rg, .inl (cI, 6, .inl (rg6 a x d b0 b1 b2))), (me, .inl (cI, 512, .inl (mm2 g h))), (za, .inl (cZ, 2, .inl (p2 (bI z0) (bI z1)))), (ca, .inl (cZ, 2, .inl (p2 (bI c0) (bI c1))))] sz (fun (u : (Nat → Int32) × Int32 × Int32 × Int32 × Bool × Bool) => match u with | (h1, v0, v1, v2, zz, cy) => (h1, v0, v1, v2, zz, cy) = mWork op 0 j h b0 b1 b2 z1 c1) (fun (u : (Nat → Int32) × Int32 × Int32 × Int32 × Bool × Bool) => match u with | (h1, v0, v1, v2, zz, cy) => [(o, .inr (5, [.int th, .ref im, .int (bI tr), .ref rc, .ref bg, .int ro, .ref oa, .ref xa, .ref ya, .ref rg, .ref me, .ref sa, .ref pa, .ref za, .ref ca, .int (bI kp), .ref ta, .ref na])), (rg, .inl (cI, 6, .inl (rg6 a x d v0 v1 v2))), (me, .inl (cI, 512, .inl (mm2 g h1))), (za, .inl (cZ, 2, .inl (p2 (bI z0) (bI zz)))), (ca, .inl (cZ, 2, .inl (p2 (bI c0) (bI cy))))]) 0 0 := by
  refine ofV (cc := c_MO_works) (maxL := 6) (ret := none) (by decide) rfl (Nat.le_of_ble_eq_true rfl) ?_
  intro p e s m args below meth c A H hH0 hx hb hr hlocks hts hown hnm hml ls hl hP hK hD hA hS hN
  have hown : s.vm.findClass R_MO = some m.cls := hown
  have hl : lv_has ls 6 [(0, .ref o), (1, .int op), (2, .int 0), (3, .int j)] := hl
  refine lv_aload_n hx hb d_MO_works_0 rfl (lv_at hl 0 rfl) ?_
  refine va_get (D := D) (ci := 5) (v := .ref rg) (C := R_MO) (T := T_MO) (N := 18) hx hb hts iw_MO hown hK hP 0 rfl rfl 9 (by decide) (hts _ k_704) (fun _ h9 => h9) rfl d_MO_works_1 ?_
  refine lv_iconst (v := 3) hx hb d_MO_works_4 (by decide) ?_
  refine lv_iload_n hx hb d_MO_works_5 rfl (lv_at hl 2 rfl) ?_
  refine lv_iadd hx hb d_MO_works_6 ?_
  refine va_iald hx hb hK hP 1 0 rfl rfl (vp_in_nI (n := 3) (by decide) (by decide)) d_MO_works_7 ?_
  refine lv_istore hx hb d_MO_works_8 hl (by decide) rfl (fun ls hl => ?_)
  have hl : lv_has ls 6 [(4, .int b0), (0, .ref o), (1, .int op), (2, .int 0), (3, .int j)] := hl
  refine lv_aload_n hx hb d_MO_works_10 rfl (lv_at hl 1 rfl) ?_
  refine va_get (D := D) (ci := 5) (v := .ref rg) (C := R_MO) (T := T_MO) (N := 18) hx hb hts iw_MO hown hK hP 0 rfl rfl 9 (by decide) (hts _ k_704) (fun _ h9 => h9) rfl d_MO_works_11 ?_
  refine lv_iconst (v := 3) hx hb d_MO_works_14 (by decide) ?_
  refine lv_iload_n hx hb d_MO_works_15 rfl (lv_at hl 4 rfl) ?_
  refine lv_iconst (v := 3) hx hb d_MO_works_16 (by decide) ?_
  refine lv_iand hx hb d_MO_works_17 ?_
  refine lv_iconst (v := 3) hx hb d_MO_works_18 (by decide) ?_
  refine lv_irem hx hb d_MO_works_19 (by decide) ?_
  refine lv_iadd hx hb d_MO_works_20 ?_
  refine va_iald hx hb hK hP 1 0 rfl rfl (selM_in _) d_MO_works_21 ?_
  refine lv_topi (fun y9 e9 => ?_)
  have e9 : y9 = selM j b0 b1 b2 := e9.trans (selM_eq _ _ _ _ _ _ _)
  subst e9
  refine lv_istore hx hb d_MO_works_22 hl (by decide) rfl (fun ls hl => ?_)
  have hl : lv_has ls 6 [(5, .int (selM j b0 b1 b2)), (4, .int b0), (0, .ref o), (1, .int op), (2, .int 0), (3, .int j)] := hl
  refine lv_iload_n hx hb d_MO_works_24 rfl (lv_at hl 3 rfl) ?_
  rcases sw_cases op 2 14 with h25 | ⟨j25, hj25, h25⟩
  · refine lv_tableOut (tgt := 296) hx hb d_MO_works_25 h25 rfl ?_
    have n25_2 : ¬ op = 2 := fun h9 => by rw [h9] at h25; revert h25; decide
    have n25_3 : ¬ op = 3 := fun h9 => by rw [h9] at h25; revert h25; decide
    have n25_4 : ¬ op = 4 := fun h9 => by rw [h9] at h25; revert h25; decide
    have n25_5 : ¬ op = 5 := fun h9 => by rw [h9] at h25; revert h25; decide
    have n25_6 : ¬ op = 6 := fun h9 => by rw [h9] at h25; revert h25; decide
    have n25_7 : ¬ op = 7 := fun h9 => by rw [h9] at h25; revert h25; decide
    have n25_8 : ¬ op = 8 := fun h9 => by rw [h9] at h25; revert h25; decide
    have n25_9 : ¬ op = 9 := fun h9 => by rw [h9] at h25; revert h25; decide
    have n25_10 : ¬ op = 10 := fun h9 => by rw [h9] at h25; revert h25; decide
    have n25_11 : ¬ op = 11 := fun h9 => by rw [h9] at h25; revert h25; decide
    have n25_12 : ¬ op = 12 := fun h9 => by rw [h9] at h25; revert h25; decide
    have n25_13 : ¬ op = 13 := fun h9 => by rw [h9] at h25; revert h25; decide
    have n25_14 : ¬ op = 14 := fun h9 => by rw [h9] at h25; revert h25; decide
    have n25_15 : ¬ op = 15 := fun h9 => by rw [h9] at h25; revert h25; decide
    refine lv_aload_n hx hb d_MO_works_296 rfl (lv_at hl 2 rfl) ?_
    refine lv_iconst (v := 1) hx hb d_MO_works_297 (by decide) ?_
    refine lv_iload_n hx hb d_MO_works_298 rfl (lv_at hl 4 rfl) ?_
    have hPc := hP.sub (ws' := [(o, .inr (5, [.int th, .ref im, .int (bI tr), .ref rc, .ref bg, .int ro, .ref oa, .ref xa, .ref ya, .ref rg, .ref me, .ref sa, .ref pa, .ref za, .ref ca, .int (bI kp), .ref ta, .ref na])), (rg, .inl (cI, 6, .inl (rg6 a x d b0 b1 b2))), (za, .inl (cZ, 2, .inl (p2 (bI z0) (bI z1)))), (ca, .inl (cZ, 2, .inl (p2 (bI c0) (bI c1))))]) [0, 1, 3, 4] rfl
    have hDc := hD.sub (ws' := [(o, .inr (5, [.int th, .ref im, .int (bI tr), .ref rc, .ref bg, .int ro, .ref oa, .ref xa, .ref ya, .ref rg, .ref me, .ref sa, .ref pa, .ref za, .ref ca, .int (bI kp), .ref ta, .ref na])), (rg, .inl (cI, 6, .inl (rg6 a x d b0 b1 b2))), (za, .inl (cZ, 2, .inl (p2 (bI z0) (bI z1)))), (ca, .inl (cZ, 2, .inl (p2 (bI c0) (bI c1))))]) [0, 1, 3, 4] (by decide) rfl
    have hFc := va_free (wc := [(o, .inr (5, [.int th, .ref im, .int (bI tr), .ref rc, .ref bg, .int ro, .ref oa, .ref xa, .ref ya, .ref rg, .ref me, .ref sa, .ref pa, .ref za, .ref ca, .int (bI kp), .ref ta, .ref na])), (rg, .inl (cI, 6, .inl (rg6 a x d b0 b1 b2))), (za, .inl (cZ, 2, .inl (p2 (bI z0) (bI z1)))), (ca, .inl (cZ, 2, .inl (p2 (bI c0) (bI c1))))]) hD hS hA [0, 1, 3, 4] rfl
    refine va_callv (va_runV (As := [.int 1, .int 0]) (rest := []) ⟨hx, hb, hml, hown, hts⟩ (q_hlv10 l D cI cZ o th im tr rc bg ro oa xa ya rg me sa pa za ca kp ta na a x d b0 b1 b2 z0 z1 c0 c1 H.size) ⟨cB 2 hts k_873 k_62 k_870 hd_MO_halves ⟨Nat.le_of_ble_eq_true rfl, Nat.le_of_ble_eq_true rfl⟩ rfl rfl, hts _ k_872, hts _ k_49⟩ (PcW.preV (va_recv hK hP (q0 := 0) (ci := 5) rfl rfl) hPc hK hDc hN) rfl rfl hl.1 rfl (lv_room (Nat.le_of_ble_eq_true rfl)) d_MO_works_299 ⟨Nat.le_of_ble_eq_true rfl, Nat.le_of_ble_eq_true rfl⟩) hS (fun q _ h => hFc q h) hFc (fun u t H1 locs ht hvm e299 hB hz1 hk1 hS => ?_)
    obtain ⟨v1299, zz299, cy299⟩ := u
    obtain ⟨hP1, hK1, hD1⟩ := hB
    rw [ht] at hP1
    obtain ⟨hP, hD⟩ := va_join (wr := [(me, .inl (cI, 512, .inl (mm2 g h)))]) (w1 := [(o, .inr (5, [.int th, .ref im, .int (bI tr), .ref rc, .ref bg, .int ro, .ref oa, .ref xa, .ref ya, .ref rg, .ref me, .ref sa, .ref pa, .ref za, .ref ca, .int (bI kp), .ref ta, .ref na])), (rg, .inl (cI, 6, .inl (rg6 a x d v1299 b1 b2))), (za, .inl (cZ, 2, .inl (p2 (bI z0) (bI zz299)))), (ca, .inl (cZ, 2, .inl (p2 (bI c0) (bI cy299))))]) hP hD [0, 1, 3, 4] [2] rfl rfl (by decide) (by decide) hk1 hFc hP1 hD1
    generalize H1 = H at hP hS ⊢
    try dsimp only at e299
    obtain ⟨e299_0, e299_1, e299_2⟩ := e299
    replace e299_0 := e299_0.symm
    subst e299_0
    replace e299_1 := e299_1.symm
    subst e299_1
    replace e299_2 := e299_2.symm
    subst e299_2
    have hP : va_P D vwCl [(me, .inl (cI, 512, .inl (mm2 g h))), (o, .inr (5, [.int th, .ref im, .int (bI tr), .ref rc, .ref bg, .int ro, .ref oa, .ref xa, .ref ya, .ref rg, .ref me, .ref sa, .ref pa, .ref za, .ref ca, .int (bI kp), .ref ta, .ref na])), (rg, .inl (cI, 6, .inl (rg6 a x d ((b0 / 2) &&& 255) b1 b2))), (za, .inl (cZ, 2, .inl (p2 (bI z0) (bI (decide ((b0 / 2) &&& 255 = 0)))))), (ca, .inl (cZ, 2, .inl (p2 (bI c0) (bI (decide (b0 - b0 / 2 * 2 = 1))))))] H := hP
    have hD : va_D A [(me, .inl (cI, 512, .inl (mm2 g h))), (o, .inr (5, [.int th, .ref im, .int (bI tr), .ref rc, .ref bg, .int ro, .ref oa, .ref xa, .ref ya, .ref rg, .ref me, .ref sa, .ref pa, .ref za, .ref ca, .int (bI kp), .ref ta, .ref na])), (rg, .inl (cI, 6, .inl (rg6 a x d ((b0 / 2) &&& 255) b1 b2))), (za, .inl (cZ, 2, .inl (p2 (bI z0) (bI (decide ((b0 / 2) &&& 255 = 0)))))), (ca, .inl (cZ, 2, .inl (p2 (bI c0) (bI (decide (b0 - b0 / 2 * 2 = 1))))))] := hD
    have hP9 : va_P D vwCl [(o, .inr (5, [.int th, .ref im, .int (bI tr), .ref rc, .ref bg, .int ro, .ref oa, .ref xa, .ref ya, .ref rg, .ref me, .ref sa, .ref pa, .ref za, .ref ca, .int (bI kp), .ref ta, .ref na])), (rg, .inl (cI, 6, .inl (rg6 a x d ((b0 / 2) &&& 255) b1 b2))), (me, .inl (cI, 512, .inl (mm2 g h))), (za, .inl (cZ, 2, .inl (p2 (bI z0) (bI (decide ((b0 / 2) &&& 255 = 0)))))), (ca, .inl (cZ, 2, .inl (p2 (bI c0) (bI (decide (b0 - b0 / 2 * 2 = 1))))))] H := hP.sub [1, 2, 0, 3, 4] rfl
    have hD9 : va_D A [(o, .inr (5, [.int th, .ref im, .int (bI tr), .ref rc, .ref bg, .int ro, .ref oa, .ref xa, .ref ya, .ref rg, .ref me, .ref sa, .ref pa, .ref za, .ref ca, .int (bI kp), .ref ta, .ref na])), (rg, .inl (cI, 6, .inl (rg6 a x d ((b0 / 2) &&& 255) b1 b2))), (me, .inl (cI, 512, .inl (mm2 g h))), (za, .inl (cZ, 2, .inl (p2 (bI z0) (bI (decide ((b0 / 2) &&& 255 = 0)))))), (ca, .inl (cZ, 2, .inl (p2 (bI c0) (bI (decide (b0 - b0 / 2 * 2 = 1))))))] := hD.sub [1, 2, 0, 3, 4] (by decide) rfl
    exact W.vret hx hb hr (fun t ht hW => ⟨⟨(h, (b0 / 2) &&& 255, b1, b2, decide ((b0 / 2) &&& 255 = 0), decide (b0 - b0 / 2 * 2 = 1)), rfl, by rw [mWork, if_neg n25_2, if_neg n25_3, if_neg n25_4, if_neg n25_5, if_neg n25_6, if_neg n25_7, if_neg n25_8, if_neg n25_9, if_neg n25_10, if_neg n25_11, if_neg n25_12, if_neg n25_13, if_neg n25_14, if_neg n25_15]; rfl, by rw [ht]; exact hP9, va_K.moved hW.alike hK, hD9⟩, hS.F ht⟩) hS.2.2 d_MO_works_302
  · match j25, hj25, h25 with
    | 0, _, h25 =>
      have h25 : op = 2 := h25
      refine lv_tableIn (off := 71) (tgt := 96) hx hb d_MO_works_25 (by rw [h25]; decide) (by rw [h25]; decide) (by rw [h25]; rfl) rfl ?_
      refine lv_aload_n hx hb d_MO_works_96 rfl (lv_at hl 2 rfl) ?_
      refine lv_iconst (v := 1) hx hb d_MO_works_97 (by decide) ?_
      refine lv_iload_n hx hb d_MO_works_98 rfl (lv_at hl 4 rfl) ?_
      refine lv_iload_n hx hb d_MO_works_99 rfl (lv_at hl 5 rfl) ?_
      have hPc := hP.sub (ws' := [(o, .inr (5, [.int th, .ref im, .int (bI tr), .ref rc, .ref bg, .int ro, .ref oa, .ref xa, .ref ya, .ref rg, .ref me, .ref sa, .ref pa, .ref za, .ref ca, .int (bI kp), .ref ta, .ref na])), (rg, .inl (cI, 6, .inl (rg6 a x d b0 b1 b2)))]) [0, 1] rfl
      have hDc := hD.sub (ws' := [(o, .inr (5, [.int th, .ref im, .int (bI tr), .ref rc, .ref bg, .int ro, .ref oa, .ref xa, .ref ya, .ref rg, .ref me, .ref sa, .ref pa, .ref za, .ref ca, .int (bI kp), .ref ta, .ref na])), (rg, .inl (cI, 6, .inl (rg6 a x d b0 b1 b2)))]) [0, 1] (by decide) rfl
      have hFc := va_free (wc := [(o, .inr (5, [.int th, .ref im, .int (bI tr), .ref rc, .ref bg, .int ro, .ref oa, .ref xa, .ref ya, .ref rg, .ref me, .ref sa, .ref pa, .ref za, .ref ca, .int (bI kp), .ref ta, .ref na])), (rg, .inl (cI, 6, .inl (rg6 a x d b0 b1 b2)))]) hD hS hA [0, 1] rfl
      refine va_callv (va_runV (As := [.int 1, .int 0, .int j]) (rest := []) ⟨hx, hb, hml, hown, hts⟩ (q_set10 l D cI cZ o th im tr rc bg ro oa xa ya rg me sa pa za ca kp ta na a x d b0 b1 b2 j H.size) ⟨cB 3 hts k_849 k_62 k_846 hd_MO_set ⟨Nat.le_of_ble_eq_true rfl, Nat.le_of_ble_eq_true rfl⟩ rfl rfl, hts _ k_848, hts _ k_43⟩ (PcW.preV (va_recv hK hP (q0 := 0) (ci := 5) rfl rfl) hPc hK hDc hN) rfl rfl hl.1 rfl (lv_room (Nat.le_of_ble_eq_true rfl)) d_MO_works_100 ⟨Nat.le_of_ble_eq_true rfl, Nat.le_of_ble_eq_true rfl⟩) hS (fun q _ h => hFc q h) hFc (fun u t H1 locs ht hvm e100 hB hz1 hk1 hS => ?_)
      obtain ⟨v1100, rfl⟩ : ∃ z, z = u := ⟨_, rfl⟩
      obtain ⟨hP1, hK1, hD1⟩ := hB
      rw [ht] at hP1
      obtain ⟨hP, hD⟩ := va_join (wr := [(me, .inl (cI, 512, .inl (mm2 g h))), (za, .inl (cZ, 2, .inl (p2 (bI z0) (bI z1)))), (ca, .inl (cZ, 2, .inl (p2 (bI c0) (bI c1))))]) (w1 := [(o, .inr (5, [.int th, .ref im, .int (bI tr), .ref rc, .ref bg, .int ro, .ref oa, .ref xa, .ref ya, .ref rg, .ref me, .ref sa, .ref pa, .ref za, .ref ca, .int (bI kp), .ref ta, .ref na])), (rg, .inl (cI, 6, .inl (rg6 a x d v1100 b1 b2)))]) hP hD [0, 1] [2, 3, 4] rfl rfl (by decide) (by decide) hk1 hFc hP1 hD1
      generalize H1 = H at hP hS ⊢
      try dsimp only at e100
      have e100_0 := e100
      replace e100_0 := e100_0.symm
      subst e100_0
      have hP : va_P D vwCl [(me, .inl (cI, 512, .inl (mm2 g h))), (za, .inl (cZ, 2, .inl (p2 (bI z0) (bI z1)))), (ca, .inl (cZ, 2, .inl (p2 (bI c0) (bI c1)))), (o, .inr (5, [.int th, .ref im, .int (bI tr), .ref rc, .ref bg, .int ro, .ref oa, .ref xa, .ref ya, .ref rg, .ref me, .ref sa, .ref pa, .ref za, .ref ca, .int (bI kp), .ref ta, .ref na])), (rg, .inl (cI, 6, .inl (rg6 a x d (j &&& 255) b1 b2)))] H := hP
      have hD : va_D A [(me, .inl (cI, 512, .inl (mm2 g h))), (za, .inl (cZ, 2, .inl (p2 (bI z0) (bI z1)))), (ca, .inl (cZ, 2, .inl (p2 (bI c0) (bI c1)))), (o, .inr (5, [.int th, .ref im, .int (bI tr), .ref rc, .ref bg, .int ro, .ref oa, .ref xa, .ref ya, .ref rg, .ref me, .ref sa, .ref pa, .ref za, .ref ca, .int (bI kp), .ref ta, .ref na])), (rg, .inl (cI, 6, .inl (rg6 a x d (j &&& 255) b1 b2)))] := hD
      refine lv_goto (tgt := 302) hx hb d_MO_works_103 rfl ?_
      have hP9 : va_P D vwCl [(o, .inr (5, [.int th, .ref im, .int (bI tr), .ref rc, .ref bg, .int ro, .ref oa, .ref xa, .ref ya, .ref rg, .ref me, .ref sa, .ref pa, .ref za, .ref ca, .int (bI kp), .ref ta, .ref na])), (rg, .inl (cI, 6, .inl (rg6 a x d (j &&& 255) b1 b2))), (me, .inl (cI, 512, .inl (mm2 g h))), (za, .inl (cZ, 2, .inl (p2 (bI z0) (bI z1)))), (ca, .inl (cZ, 2, .inl (p2 (bI c0) (bI c1))))] H := hP.sub [3, 4, 0, 1, 2] rfl
      have hD9 : va_D A [(o, .inr (5, [.int th, .ref im, .int (bI tr), .ref rc, .ref bg, .int ro, .ref oa, .ref xa, .ref ya, .ref rg, .ref me, .ref sa, .ref pa, .ref za, .ref ca, .int (bI kp), .ref ta, .ref na])), (rg, .inl (cI, 6, .inl (rg6 a x d (j &&& 255) b1 b2))), (me, .inl (cI, 512, .inl (mm2 g h))), (za, .inl (cZ, 2, .inl (p2 (bI z0) (bI z1)))), (ca, .inl (cZ, 2, .inl (p2 (bI c0) (bI c1))))] := hD.sub [3, 4, 0, 1, 2] (by decide) rfl
      exact W.vret hx hb hr (fun t ht hW => ⟨⟨(h, j &&& 255, b1, b2, z1, c1), rfl, by rw [h25]; rfl, by rw [ht]; exact hP9, va_K.moved hW.alike hK, hD9⟩, hS.F ht⟩) hS.2.2 d_MO_works_302
    | 1, _, h25 =>
      have h25 : op = 3 := h25
      refine lv_tableIn (off := 81) (tgt := 106) hx hb d_MO_works_25 (by rw [h25]; decide) (by rw [h25]; decide) (by rw [h25]; rfl) rfl ?_
      refine lv_aload_n hx hb d_MO_works_106 rfl (lv_at hl 2 rfl) ?_
      refine lv_iconst (v := 1) hx hb d_MO_works_107 (by decide) ?_
      refine lv_iload_n hx hb d_MO_works_108 rfl (lv_at hl 4 rfl) ?_
      refine lv_iload hx hb d_MO_works_109 (lv_at hl 0 rfl) ?_
      have hPc := hP.sub (ws' := [(o, .inr (5, [.int th, .ref im, .int (bI tr), .ref rc, .ref bg, .int ro, .ref oa, .ref xa, .ref ya, .ref rg, .ref me, .ref sa, .ref pa, .ref za, .ref ca, .int (bI kp), .ref ta, .ref na])), (rg, .inl (cI, 6, .inl (rg6 a x d b0 b1 b2)))]) [0, 1] rfl
      have hDc := hD.sub (ws' := [(o, .inr (5, [.int th, .ref im, .int (bI tr), .ref rc, .ref bg, .int ro, .ref oa, .ref xa, .ref ya, .ref rg, .ref me, .ref sa, .ref pa, .ref za, .ref ca, .int (bI kp), .ref ta, .ref na])), (rg, .inl (cI, 6, .inl (rg6 a x d b0 b1 b2)))]) [0, 1] (by decide) rfl
      have hFc := va_free (wc := [(o, .inr (5, [.int th, .ref im, .int (bI tr), .ref rc, .ref bg, .int ro, .ref oa, .ref xa, .ref ya, .ref rg, .ref me, .ref sa, .ref pa, .ref za, .ref ca, .int (bI kp), .ref ta, .ref na])), (rg, .inl (cI, 6, .inl (rg6 a x d b0 b1 b2)))]) hD hS hA [0, 1] rfl
      refine va_callv (va_runV (As := [.int 1, .int 0, .int (selM j b0 b1 b2)]) (rest := []) ⟨hx, hb, hml, hown, hts⟩ (q_set10 l D cI cZ o th im tr rc bg ro oa xa ya rg me sa pa za ca kp ta na a x d b0 b1 b2 (selM j b0 b1 b2) H.size) ⟨cB 3 hts k_849 k_62 k_846 hd_MO_set ⟨Nat.le_of_ble_eq_true rfl, Nat.le_of_ble_eq_true rfl⟩ rfl rfl, hts _ k_848, hts _ k_43⟩ (PcW.preV (va_recv hK hP (q0 := 0) (ci := 5) rfl rfl) hPc hK hDc hN) rfl rfl hl.1 rfl (lv_room (Nat.le_of_ble_eq_true rfl)) d_MO_works_111 ⟨Nat.le_of_ble_eq_true rfl, Nat.le_of_ble_eq_true rfl⟩) hS (fun q _ h => hFc q h) hFc (fun u t H1 locs ht hvm e111 hB hz1 hk1 hS => ?_)
      obtain ⟨v1111, rfl⟩ : ∃ z, z = u := ⟨_, rfl⟩
      obtain ⟨hP1, hK1, hD1⟩ := hB
      rw [ht] at hP1
      obtain ⟨hP, hD⟩ := va_join (wr := [(me, .inl (cI, 512, .inl (mm2 g h))), (za, .inl (cZ, 2, .inl (p2 (bI z0) (bI z1)))), (ca, .inl (cZ, 2, .inl (p2 (bI c0) (bI c1))))]) (w1 := [(o, .inr (5, [.int th, .ref im, .int (bI tr), .ref rc, .ref bg, .int ro, .ref oa, .ref xa, .ref ya, .ref rg, .ref me, .ref sa, .ref pa, .ref za, .ref ca, .int (bI kp), .ref ta, .ref na])), (rg, .inl (cI, 6, .inl (rg6 a x d v1111 b1 b2)))]) hP hD [0, 1] [2, 3, 4] rfl rfl (by decide) (by decide) hk1 hFc hP1 hD1
      generalize H1 = H at hP hS ⊢
      try dsimp only at e111
      have e111_0 := e111
      replace e111_0 := e111_0.symm
      subst e111_0
      have hP : va_P D vwCl [(me, .inl (cI, 512, .inl (mm2 g h))), (za, .inl (cZ, 2, .inl (p2 (bI z0) (bI z1)))), (ca, .inl (cZ, 2, .inl (p2 (bI c0) (bI c1)))), (o, .inr (5, [.int th, .ref im, .int (bI tr), .ref rc, .ref bg, .int ro, .ref oa, .ref xa, .ref ya, .ref rg, .ref me, .ref sa, .ref pa, .ref za, .ref ca, .int (bI kp), .ref ta, .ref na])), (rg, .inl (cI, 6, .inl (rg6 a x d ((selM j b0 b1 b2) &&& 255) b1 b2)))] H := hP
      have hD : va_D A [(me, .inl (cI, 512, .inl (mm2 g h))), (za, .inl (cZ, 2, .inl (p2 (bI z0) (bI z1)))), (ca, .inl (cZ, 2, .inl (p2 (bI c0) (bI c1)))), (o, .inr (5, [.int th, .ref im, .int (bI tr), .ref rc, .ref bg, .int ro, .ref oa, .ref xa, .ref ya, .ref rg, .ref me, .ref sa, .ref pa, .ref za, .ref ca, .int (bI kp), .ref ta, .ref na])), (rg, .inl (cI, 6, .inl (rg6 a x d ((selM j b0 b1 b2) &&& 255) b1 b2)))] := hD
      refine lv_goto (tgt := 302) hx hb d_MO_works_114 rfl ?_
      have hP9 : va_P D vwCl [(o, .inr (5, [.int th, .ref im, .int (bI tr), .ref rc, .ref bg, .int ro, .ref oa, .ref xa, .ref ya, .ref rg, .ref me, .ref sa, .ref pa, .ref za, .ref ca, .int (bI kp), .ref ta, .ref na])), (rg, .inl (cI, 6, .inl (rg6 a x d ((selM j b0 b1 b2) &&& 255) b1 b2))), (me, .inl (cI, 512, .inl (mm2 g h))), (za, .inl (cZ, 2, .inl (p2 (bI z0) (bI z1)))), (ca, .inl (cZ, 2, .inl (p2 (bI c0) (bI c1))))] H := hP.sub [3, 4, 0, 1, 2] rfl
      have hD9 : va_D A [(o, .inr (5, [.int th, .ref im, .int (bI tr), .ref rc, .ref bg, .int ro, .ref oa, .ref xa, .ref ya, .ref rg, .ref me, .ref sa, .ref pa, .ref za, .ref ca, .int (bI kp), .ref ta, .ref na])), (rg, .inl (cI, 6, .inl (rg6 a x d ((selM j b0 b1 b2) &&& 255) b1 b2))), (me, .inl (cI, 512, .inl (mm2 g h))), (za, .inl (cZ, 2, .inl (p2 (bI z0) (bI z1)))), (ca, .inl (cZ, 2, .inl (p2 (bI c0) (bI c1))))] := hD.sub [3, 4, 0, 1, 2] (by decide) rfl
      exact W.vret hx hb hr (fun t ht hW => ⟨⟨(h, (selM j b0 b1 b2) &&& 255, b1, b2, z1, c1), rfl, by rw [h25]; rfl, by rw [ht]; exact hP9, va_K.moved hW.alike hK, hD9⟩, hS.F ht⟩) hS.2.2 d_MO_works_302
    | 2, _, h25 =>
      have h25 : op = 4 := h25
      refine lv_tableIn (off := 92) (tgt := 117) hx hb d_MO_works_25 (by rw [h25]; decide) (by rw [h25]; decide) (by rw [h25]; rfl) rfl ?_
      refine lv_aload_n hx hb d_MO_works_117 rfl (lv_at hl 2 rfl) ?_
      refine lv_iconst (v := 1) hx hb d_MO_works_118 (by decide) ?_
      refine lv_iload_n hx hb d_MO_works_119 rfl (lv_at hl 4 rfl) ?_
      refine lv_aload_n hx hb d_MO_works_120 rfl (lv_at hl 2 rfl) ?_
      refine lv_iconst (v := 1) hx hb d_MO_works_121 (by decide) ?_
      refine lv_iload_n hx hb d_MO_works_122 rfl (lv_at hl 5 rfl) ?_
      have hPc := hP.sub (ws' := [(o, .inr (5, [.int th, .ref im, .int (bI tr), .ref rc, .ref bg, .int ro, .ref oa, .ref xa, .ref ya, .ref rg, .ref me, .ref sa, .ref pa, .ref za, .ref ca, .int (bI kp), .ref ta, .ref na])), (me, .inl (cI, 512, .inl (mm2 g h)))]) [0, 2] rfl
      refine vp_callSi (va_runV (As := [.int 1, .int j]) (rest := [.int 0, .int 1, .ref o]) ⟨hx, hb, hml, hown, hts⟩ (q_get1 l D cI cZ o th im tr rc bg ro oa xa ya rg me sa pa za ca kp ta na g h j) ⟨cB 2 hts k_825 k_62 k_822 hd_MO_get ⟨Nat.le_of_ble_eq_true rfl, Nat.le_of_ble_eq_true rfl⟩ rfl rfl, hts _ k_824, hts _ k_37⟩ (PcR.preV (va_recv hK hP (q0 := 0) (ci := 5) rfl rfl) hPc hK hN) rfl rfl hl.1 rfl (lv_room (Nat.le_of_ble_eq_true rfl)) d_MO_works_123 ⟨Nat.le_of_ble_eq_true rfl, Nat.le_of_ble_eq_true rfl⟩).run (fun r123 e123 => ?_)
      replace e123 := e123.symm
      subst e123
      have hPc := hP.sub (ws' := [(o, .inr (5, [.int th, .ref im, .int (bI tr), .ref rc, .ref bg, .int ro, .ref oa, .ref xa, .ref ya, .ref rg, .ref me, .ref sa, .ref pa, .ref za, .ref ca, .int (bI kp), .ref ta, .ref na])), (rg, .inl (cI, 6, .inl (rg6 a x d b0 b1 b2)))]) [0, 1] rfl
      have hDc := hD.sub (ws' := [(o, .inr (5, [.int th, .ref im, .int (bI tr), .ref rc, .ref bg, .int ro, .ref oa, .ref xa, .ref ya, .ref rg, .ref me, .ref sa, .ref pa, .ref za, .ref ca, .int (bI kp), .ref ta, .ref na])), (rg, .inl (cI, 6, .inl (rg6 a x d b0 b1 b2)))]) [0, 1] (by decide) rfl
      have hFc := va_free (wc := [(o, .inr (5, [.int th, .ref im, .int (bI tr), .ref rc, .ref bg, .int ro, .ref oa, .ref xa, .ref ya, .ref rg, .ref me, .ref sa, .ref pa, .ref za, .ref ca, .int (bI kp), .ref ta, .ref na])), (rg, .inl (cI, 6, .inl (rg6 a x d b0 b1 b2)))]) hD hS hA [0, 1] rfl
      refine va_callv (va_runV (As := [.int 1, .int 0, .int (rd h j)]) (rest := []) ⟨hx, hb, hml, hown, hts⟩ (q_set10 l D cI cZ o th im tr rc bg ro oa xa ya rg me sa pa za ca kp ta na a x d b0 b1 b2 (rd h j) H.size) ⟨cB 3 hts k_849 k_62 k_846 hd_MO_set ⟨Nat.le_of_ble_eq_true rfl, Nat.le_of_ble_eq_true rfl⟩ rfl rfl, hts _ k_848, hts _ k_43⟩ (PcW.preV (va_recv hK hP (q0 := 0) (ci := 5) rfl rfl) hPc hK hDc hN) rfl rfl hl.1 rfl (lv_room (Nat.le_of_ble_eq_true rfl)) d_MO_works_126 ⟨Nat.le_of_ble_eq_true rfl, Nat.le_of_ble_eq_true rfl⟩) hS (fun q _ h => hFc q h) hFc (fun u t H1 locs ht hvm e126 hB hz1 hk1 hS => ?_)
      obtain ⟨v1126, rfl⟩ : ∃ z, z = u := ⟨_, rfl⟩
      obtain ⟨hP1, hK1, hD1⟩ := hB
      rw [ht] at hP1
      obtain ⟨hP, hD⟩ := va_join (wr := [(me, .inl (cI, 512, .inl (mm2 g h))), (za, .inl (cZ, 2, .inl (p2 (bI z0) (bI z1)))), (ca, .inl (cZ, 2, .inl (p2 (bI c0) (bI c1))))]) (w1 := [(o, .inr (5, [.int th, .ref im, .int (bI tr), .ref rc, .ref bg, .int ro, .ref oa, .ref xa, .ref ya, .ref rg, .ref me, .ref sa, .ref pa, .ref za, .ref ca, .int (bI kp), .ref ta, .ref na])), (rg, .inl (cI, 6, .inl (rg6 a x d v1126 b1 b2)))]) hP hD [0, 1] [2, 3, 4] rfl rfl (by decide) (by decide) hk1 hFc hP1 hD1
      generalize H1 = H at hP hS ⊢
      try dsimp only at e126
      have e126_0 := e126
      replace e126_0 := e126_0.symm
      subst e126_0
      have hP : va_P D vwCl [(me, .inl (cI, 512, .inl (mm2 g h))), (za, .inl (cZ, 2, .inl (p2 (bI z0) (bI z1)))), (ca, .inl (cZ, 2, .inl (p2 (bI c0) (bI c1)))), (o, .inr (5, [.int th, .ref im, .int (bI tr), .ref rc, .ref bg, .int ro, .ref oa, .ref xa, .ref ya, .ref rg, .ref me, .ref sa, .ref pa, .ref za, .ref ca, .int (bI kp), .ref ta, .ref na])), (rg, .inl (cI, 6, .inl (rg6 a x d ((rd h j) &&& 255) b1 b2)))] H := hP
      have hD : va_D A [(me, .inl (cI, 512, .inl (mm2 g h))), (za, .inl (cZ, 2, .inl (p2 (bI z0) (bI z1)))), (ca, .inl (cZ, 2, .inl (p2 (bI c0) (bI c1)))), (o, .inr (5, [.int th, .ref im, .int (bI tr), .ref rc, .ref bg, .int ro, .ref oa, .ref xa, .ref ya, .ref rg, .ref me, .ref sa, .ref pa, .ref za, .ref ca, .int (bI kp), .ref ta, .ref na])), (rg, .inl (cI, 6, .inl (rg6 a x d ((rd h j) &&& 255) b1 b2)))] := hD
      refine lv_goto (tgt := 302) hx hb d_MO_works_129 rfl ?_
      have hP9 : va_P D vwCl [(o, .inr (5, [.int th, .ref im, .int (bI tr), .ref rc, .ref bg, .int ro, .ref oa, .ref xa, .ref ya, .ref rg, .ref me, .ref sa, .ref pa, .ref za, .ref ca, .int (bI kp), .ref ta, .ref na])), (rg, .inl (cI, 6, .inl (rg6 a x d ((rd h j) &&& 255) b1 b2))), (me, .inl (cI, 512, .inl (mm2 g h))), (za, .inl (cZ, 2, .inl (p2 (bI z0) (bI z1)))), (ca, .inl (cZ, 2, .inl (p2 (bI c0) (bI c1))))] H := hP.sub [3, 4, 0, 1, 2] rfl
      have hD9 : va_D A [(o, .inr (5, [.int th, .ref im, .int (bI tr), .ref rc, .ref bg, .int ro, .ref oa, .ref xa, .ref ya, .ref rg, .ref me, .ref sa, .ref pa, .ref za, .ref ca, .int (bI kp), .ref ta, .ref na])), (rg, .inl (cI, 6, .inl (rg6 a x d ((rd h j) &&& 255) b1 b2))), (me, .inl (cI, 512, .inl (mm2 g h))), (za, .inl (cZ, 2, .inl (p2 (bI z0) (bI z1)))), (ca, .inl (cZ, 2, .inl (p2 (bI c0) (bI c1))))] := hD.sub [3, 4, 0, 1, 2] (by decide) rfl
      exact W.vret hx hb hr (fun t ht hW => ⟨⟨(h, (rd h j) &&& 255, b1, b2, z1, c1), rfl, by rw [h25]; rfl, by rw [ht]; exact hP9, va_K.moved hW.alike hK, hD9⟩, hS.F ht⟩) hS.2.2 d_MO_works_302
    | 3, _, h25 =>
      have h25 : op = 5 := h25
      refine lv_tableIn (off := 107) (tgt := 132) hx hb d_MO_works_25 (by rw [h25]; decide) (by rw [h25]; decide) (by rw [h25]; rfl) rfl ?_
      refine lv_aload_n hx hb d_MO_works_132 rfl (lv_at hl 2 rfl) ?_
      refine lv_iconst (v := 1) hx hb d_MO_works_133 (by decide) ?_
      refine lv_iload_n hx hb d_MO_works_134 rfl (lv_at hl 5 rfl) ?_
      refine lv_iload hx hb d_MO_works_135 (lv_at hl 1 rfl) ?_
      have hPc := hP.sub (ws' := [(o, .inr (5, [.int th, .ref im, .int (bI tr), .ref rc, .ref bg, .int ro, .ref oa, .ref xa, .ref ya, .ref rg, .ref me, .ref sa, .ref pa, .ref za, .ref ca, .int (bI kp), .ref ta, .ref na])), (me, .inl (cI, 512, .inl (mm2 g h)))]) [0, 2] rfl
      have hDc := hD.sub (ws' := [(o, .inr (5, [.int th, .ref im, .int (bI tr), .ref rc, .ref bg, .int ro, .ref oa, .ref xa, .ref ya, .ref rg, .ref me, .ref sa, .ref pa, .ref za, .ref ca, .int (bI kp), .ref ta, .ref na])), (me, .inl (cI, 512, .inl (mm2 g h)))]) [0, 2] (by decide) rfl
      have hFc := va_free (wc := [(o, .inr (5, [.int th, .ref im, .int (bI tr), .ref rc, .ref bg, .int ro, .ref oa, .ref xa, .ref ya, .ref rg, .ref me, .ref sa, .ref pa, .ref za, .ref ca, .int (bI kp), .ref ta, .ref na])), (me, .inl (cI, 512, .inl (mm2 g h)))]) hD hS hA [0, 2] rfl
      refine va_callv (va_runV (As := [.int 1, .int j, .int b0]) (rest := []) ⟨hx, hb, hml, hown, hts⟩ (q_put1 l D cI cZ o th im tr rc bg ro oa xa ya rg me sa pa za ca kp ta na g h j b0 H.size) ⟨cB 3 hts k_837 k_62 k_834 hd_MO_put ⟨Nat.le_of_ble_eq_true rfl, Nat.le_of_ble_eq_true rfl⟩ rfl rfl, hts _ k_836, hts _ k_40⟩ (PcW.preV (va_recv hK hP (q0 := 0) (ci := 5) rfl rfl) hPc hK hDc hN) rfl rfl hl.1 rfl (lv_room (Nat.le_of_ble_eq_true rfl)) d_MO_works_137 ⟨Nat.le_of_ble_eq_true rfl, Nat.le_of_ble_eq_true rfl⟩) hS (fun q _ h => hFc q h) hFc (fun u t H1 locs ht hvm e137 hB hz1 hk1 hS => ?_)
      obtain ⟨f1137, rfl⟩ : ∃ z, z = u := ⟨_, rfl⟩
      obtain ⟨hP1, hK1, hD1⟩ := hB
      rw [ht] at hP1
      obtain ⟨hP, hD⟩ := va_join (wr := [(rg, .inl (cI, 6, .inl (rg6 a x d b0 b1 b2))), (za, .inl (cZ, 2, .inl (p2 (bI z0) (bI z1)))), (ca, .inl (cZ, 2, .inl (p2 (bI c0) (bI c1))))]) (w1 := [(o, .inr (5, [.int th, .ref im, .int (bI tr), .ref rc, .ref bg, .int ro, .ref oa, .ref xa, .ref ya, .ref rg, .ref me, .ref sa, .ref pa, .ref za, .ref ca, .int (bI kp), .ref ta, .ref na])), (me, .inl (cI, 512, .inl f1137))]) hP hD [0, 2] [1, 3, 4] rfl rfl (by decide) (by decide) hk1 hFc hP1 hD1
      generalize H1 = H at hP hS ⊢
      try dsimp only at e137
      have e137_0 := e137
      replace e137_0 := e137_0.symm
      subst e137_0
      have hP : va_P D vwCl [(rg, .inl (cI, 6, .inl (rg6 a x d b0 b1 b2))), (za, .inl (cZ, 2, .inl (p2 (bI z0) (bI z1)))), (ca, .inl (cZ, 2, .inl (p2 (bI c0) (bI c1)))), (o, .inr (5, [.int th, .ref im, .int (bI tr), .ref rc, .ref bg, .int ro, .ref oa, .ref xa, .ref ya, .ref rg, .ref me, .ref sa, .ref pa, .ref za, .ref ca, .int (bI kp), .ref ta, .ref na])), (me, .inl (cI, 512, .inl (mm2 g (wr h j b0))))] H := hP
      have hD : va_D A [(rg, .inl (cI, 6, .inl (rg6 a x d b0 b1 b2))), (za, .inl (cZ, 2, .inl (p2 (bI z0) (bI z1)))), (ca, .inl (cZ, 2, .inl (p2 (bI c0) (bI c1)))), (o, .inr (5, [.int th, .ref im, .int (bI tr), .ref rc, .ref bg, .int ro, .ref oa, .ref xa, .ref ya, .ref rg, .ref me, .ref sa, .ref pa, .ref za, .ref ca, .int (bI kp), .ref ta, .ref na])), (me, .inl (cI, 512, .inl (mm2 g (wr h j b0))))] := hD
      refine lv_goto (tgt := 302) hx hb d_MO_works_140 rfl ?_
      have hP9 : va_P D vwCl [(o, .inr (5, [.int th, .ref im, .int (bI tr), .ref rc, .ref bg, .int ro, .ref oa, .ref xa, .ref ya, .ref rg, .ref me, .ref sa, .ref pa, .ref za, .ref ca, .int (bI kp), .ref ta, .ref na])), (rg, .inl (cI, 6, .inl (rg6 a x d b0 b1 b2))), (me, .inl (cI, 512, .inl (mm2 g (wr h j b0)))), (za, .inl (cZ, 2, .inl (p2 (bI z0) (bI z1)))), (ca, .inl (cZ, 2, .inl (p2 (bI c0) (bI c1))))] H := hP.sub [3, 0, 4, 1, 2] rfl
      have hD9 : va_D A [(o, .inr (5, [.int th, .ref im, .int (bI tr), .ref rc, .ref bg, .int ro, .ref oa, .ref xa, .ref ya, .ref rg, .ref me, .ref sa, .ref pa, .ref za, .ref ca, .int (bI kp), .ref ta, .ref na])), (rg, .inl (cI, 6, .inl (rg6 a x d b0 b1 b2))), (me, .inl (cI, 512, .inl (mm2 g (wr h j b0)))), (za, .inl (cZ, 2, .inl (p2 (bI z0) (bI z1)))), (ca, .inl (cZ, 2, .inl (p2 (bI c0) (bI c1))))] := hD.sub [3, 0, 4, 1, 2] (by decide) rfl
      exact W.vret hx hb hr (fun t ht hW => ⟨⟨(wr h j b0, b0, b1, b2, z1, c1), rfl, by rw [h25]; rfl, by rw [ht]; exact hP9, va_K.moved hW.alike hK, hD9⟩, hS.F ht⟩) hS.2.2 d_MO_works_302
    | 4, _, h25 =>
      have h25 : op = 6 := h25
      refine lv_tableIn (off := 118) (tgt := 143) hx hb d_MO_works_25 (by rw [h25]; decide) (by rw [h25]; decide) (by rw [h25]; rfl) rfl ?_
      refine lv_aload_n hx hb d_MO_works_143 rfl (lv_at hl 2 rfl) ?_
      refine lv_iconst (v := 1) hx hb d_MO_works_144 (by decide) ?_
      refine lv_iconst (v := 0) hx hb d_MO_works_145 (by decide) ?_
      refine lv_aload_n hx hb d_MO_works_146 rfl (lv_at hl 2 rfl) ?_
      refine lv_iconst (v := 1) hx hb d_MO_works_147 (by decide) ?_
      refine lv_iload_n hx hb d_MO_works_148 rfl (lv_at hl 5 rfl) ?_
      refine lv_aload_n hx hb d_MO_works_149 rfl (lv_at hl 2 rfl) ?_
      refine va_get (D := D) (ci := 5) (v := .ref rg) (C := R_MO) (T := T_MO) (N := 18) hx hb hts iw_MO hown hK hP 0 rfl rfl 9 (by decide) (hts _ k_704) (fun _ h9 => h9) rfl d_MO_works_150 ?_
      refine lv_iconst (v := 4) hx hb d_MO_works_153 (by decide) ?_
      refine va_iald hx hb hK hP 1 0 rfl rfl (vp_in_nI (n := 4) (by decide) (by decide)) d_MO_works_154 ?_
      refine lv_iadd hx hb d_MO_works_155 ?_
      have hPc := hP.sub (ws' := [(o, .inr (5, [.int th, .ref im, .int (bI tr), .ref rc, .ref bg, .int ro, .ref oa, .ref xa, .ref ya, .ref rg, .ref me, .ref sa, .ref pa, .ref za, .ref ca, .int (bI kp), .ref ta, .ref na])), (me, .inl (cI, 512, .inl (mm2 g h)))]) [0, 2] rfl
      refine vp_callSi (va_runV (As := [.int 1, .int (j + b1)]) (rest := [.int 0, .int 1, .ref o]) ⟨hx, hb, hml, hown, hts⟩ (q_get1 l D cI cZ o th im tr rc bg ro oa xa ya rg me sa pa za ca kp ta na g h (j + b1)) ⟨cB 2 hts k_825 k_62 k_822 hd_MO_get ⟨Nat.le_of_ble_eq_true rfl, Nat.le_of_ble_eq_true rfl⟩ rfl rfl, hts _ k_824, hts _ k_37⟩ (PcR.preV (va_recv hK hP (q0 := 0) (ci := 5) rfl rfl) hPc hK hN) rfl rfl hl.1 rfl (lv_room (Nat.le_of_ble_eq_true rfl)) d_MO_works_156 ⟨Nat.le_of_ble_eq_true rfl, Nat.le_of_ble_eq_true rfl⟩).run (fun r156 e156 => ?_)
      replace e156 := e156.symm
      subst e156
      have hPc := hP.sub (ws' := [(o, .inr (5, [.int th, .ref im, .int (bI tr), .ref rc, .ref bg, .int ro, .ref oa, .ref xa, .ref ya, .ref rg, .ref me, .ref sa, .ref pa, .ref za, .ref ca, .int (bI kp), .ref ta, .ref na])), (rg, .inl (cI, 6, .inl (rg6 a x d b0 b1 b2)))]) [0, 1] rfl
      have hDc := hD.sub (ws' := [(o, .inr (5, [.int th, .ref im, .int (bI tr), .ref rc, .ref bg, .int ro, .ref oa, .ref xa, .ref ya, .ref rg, .ref me, .ref sa, .ref pa, .ref za, .ref ca, .int (bI kp), .ref ta, .ref na])), (rg, .inl (cI, 6, .inl (rg6 a x d b0 b1 b2)))]) [0, 1] (by decide) rfl
      have hFc := va_free (wc := [(o, .inr (5, [.int th, .ref im, .int (bI tr), .ref rc, .ref bg, .int ro, .ref oa, .ref xa, .ref ya, .ref rg, .ref me, .ref sa, .ref pa, .ref za, .ref ca, .int (bI kp), .ref ta, .ref na])), (rg, .inl (cI, 6, .inl (rg6 a x d b0 b1 b2)))]) hD hS hA [0, 1] rfl
      refine va_callv (va_runV (As := [.int 1, .int 0, .int (rd h (j + b1))]) (rest := []) ⟨hx, hb, hml, hown, hts⟩ (q_set10 l D cI cZ o th im tr rc bg ro oa xa ya rg me sa pa za ca kp ta na a x d b0 b1 b2 (rd h (j + b1)) H.size) ⟨cB 3 hts k_849 k_62 k_846 hd_MO_set ⟨Nat.le_of_ble_eq_true rfl, Nat.le_of_ble_eq_true rfl⟩ rfl rfl, hts _ k_848, hts _ k_43⟩ (PcW.preV (va_recv hK hP (q0 := 0) (ci := 5) rfl rfl) hPc hK hDc hN) rfl rfl hl.1 rfl (lv_room (Nat.le_of_ble_eq_true rfl)) d_MO_works_159 ⟨Nat.le_of_ble_eq_true rfl, Nat.le_of_ble_eq_true rfl⟩) hS (fun q _ h => hFc q h) hFc (fun u t H1 locs ht hvm e159 hB hz1 hk1 hS => ?_)
      obtain ⟨v1159, rfl⟩ : ∃ z, z = u := ⟨_, rfl⟩
      obtain ⟨hP1, hK1, hD1⟩ := hB
      rw [ht] at hP1
      obtain ⟨hP, hD⟩ := va_join (wr := [(me, .inl (cI, 512, .inl (mm2 g h))), (za, .inl (cZ, 2, .inl (p2 (bI z0) (bI z1)))), (ca, .inl (cZ, 2, .inl (p2 (bI c0) (bI c1))))]) (w1 := [(o, .inr (5, [.int th, .ref im, .int (bI tr), .ref rc, .ref bg, .int ro, .ref oa, .ref xa, .ref ya, .ref rg, .ref me, .ref sa, .ref pa, .ref za, .ref ca, .int (bI kp), .ref ta, .ref na])), (rg, .inl (cI, 6, .inl (rg6 a x d v1159 b1 b2)))]) hP hD [0, 1] [2, 3, 4] rfl rfl (by decide) (by decide) hk1 hFc hP1 hD1
      generalize H1 = H at hP hS ⊢
      try dsimp only at e159
      have e159_0 := e159
      replace e159_0 := e159_0.symm
      subst e159_0
      have hP : va_P D vwCl [(me, .inl (cI, 512, .inl (mm2 g h))), (za, .inl (cZ, 2, .inl (p2 (bI z0) (bI z1)))), (ca, .inl (cZ, 2, .inl (p2 (bI c0) (bI c1)))), (o, .inr (5, [.int th, .ref im, .int (bI tr), .ref rc, .ref bg, .int ro, .ref oa, .ref xa, .ref ya, .ref rg, .ref me, .ref sa, .ref pa, .ref za, .ref ca, .int (bI kp), .ref ta, .ref na])), (rg, .inl (cI, 6, .inl (rg6 a x d ((rd h (j + b1)) &&& 255) b1 b2)))] H := hP
      have hD : va_D A [(me, .inl (cI, 512, .inl (mm2 g h))), (za, .inl (cZ, 2, .inl (p2 (bI z0) (bI z1)))), (ca, .inl (cZ, 2, .inl (p2 (bI c0) (bI c1)))), (o, .inr (5, [.int th, .ref im, .int (bI tr), .ref rc, .ref bg, .int ro, .ref oa, .ref xa, .ref ya, .ref rg, .ref me, .ref sa, .ref pa, .ref za, .ref ca, .int (bI kp), .ref ta, .ref na])), (rg, .inl (cI, 6, .inl (rg6 a x d ((rd h (j + b1)) &&& 255) b1 b2)))] := hD
      refine lv_goto (tgt := 302) hx hb d_MO_works_162 rfl ?_
      have hP9 : va_P D vwCl [(o, .inr (5, [.int th, .ref im, .int (bI tr), .ref rc, .ref bg, .int ro, .ref oa, .ref xa, .ref ya, .ref rg, .ref me, .ref sa, .ref pa, .ref za, .ref ca, .int (bI kp), .ref ta, .ref na])), (rg, .inl (cI, 6, .inl (rg6 a x d ((rd h (j + b1)) &&& 255) b1 b2))), (me, .inl (cI, 512, .inl (mm2 g h))), (za, .inl (cZ, 2, .inl (p2 (bI z0) (bI z1)))), (ca, .inl (cZ, 2, .inl (p2 (bI c0) (bI c1))))] H := hP.sub [3, 4, 0, 1, 2] rfl
      have hD9 : va_D A [(o, .inr (5, [.int th, .ref im, .int (bI tr), .ref rc, .ref bg, .int ro, .ref oa, .ref xa, .ref ya, .ref rg, .ref me, .ref sa, .ref pa, .ref za, .ref ca, .int (bI kp), .ref ta, .ref na])), (rg, .inl (cI, 6, .inl (rg6 a x d ((rd h (j + b1)) &&& 255) b1 b2))), (me, .inl (cI, 512, .inl (mm2 g h))), (za, .inl (cZ, 2, .inl (p2 (bI z0) (bI z1)))), (ca, .inl (cZ, 2, .inl (p2 (bI c0) (bI c1))))] := hD.sub [3, 4, 0, 1, 2] (by decide) rfl
      exact W.vret hx hb hr (fun t ht hW => ⟨⟨(h, (rd h (j + b1)) &&& 255, b1, b2, z1, c1), rfl, by rw [h25]; rfl, by rw [ht]; exact hP9, va_K.moved hW.alike hK, hD9⟩, hS.F ht⟩) hS.2.2 d_MO_works_302
    | 5, _, h25 =>
      have h25 : op = 7 := h25
      refine lv_tableIn (off := 140) (tgt := 165) hx hb d_MO_works_25 (by rw [h25]; decide) (by rw [h25]; decide) (by rw [h25]; rfl) rfl ?_
      refine lv_aload_n hx hb d_MO_works_165 rfl (lv_at hl 2 rfl) ?_
      refine lv_iconst (v := 1) hx hb d_MO_works_166 (by decide) ?_
      refine lv_iload_n hx hb d_MO_works_167 rfl (lv_at hl 5 rfl) ?_
      refine lv_aload_n hx hb d_MO_works_168 rfl (lv_at hl 2 rfl) ?_
      refine va_get (D := D) (ci := 5) (v := .ref rg) (C := R_MO) (T := T_MO) (N := 18) hx hb hts iw_MO hown hK hP 0 rfl rfl 9 (by decide) (hts _ k_704) (fun _ h9 => h9) rfl d_MO_works_169 ?_
      refine lv_iconst (v := 4) hx hb d_MO_works_172 (by decide) ?_
      refine va_iald hx hb hK hP 1 0 rfl rfl (vp_in_nI (n := 4) (by decide) (by decide)) d_MO_works_173 ?_
      refine lv_iadd hx hb d_MO_works_174 ?_
      refine lv_aload_n hx hb d_MO_works_175 rfl (lv_at hl 2 rfl) ?_
      refine va_get (D := D) (ci := 5) (v := .ref rg) (C := R_MO) (T := T_MO) (N := 18) hx hb hts iw_MO hown hK hP 0 rfl rfl 9 (by decide) (hts _ k_704) (fun _ h9 => h9) rfl d_MO_works_176 ?_
      refine lv_iconst (v := 3) hx hb d_MO_works_179 (by decide) ?_
      refine va_iald hx hb hK hP 1 0 rfl rfl (vp_in_nI (n := 3) (by decide) (by decide)) d_MO_works_180 ?_
      have hPc := hP.sub (ws' := [(o, .inr (5, [.int th, .ref im, .int (bI tr), .ref rc, .ref bg, .int ro, .ref oa, .ref xa, .ref ya, .ref rg, .ref me, .ref sa, .ref pa, .ref za, .ref ca, .int (bI kp), .ref ta, .ref na])), (me, .inl (cI, 512, .inl (mm2 g h)))]) [0, 2] rfl
      have hDc := hD.sub (ws' := [(o, .inr (5, [.int th, .ref im, .int (bI tr), .ref rc, .ref bg, .int ro, .ref oa, .ref xa, .ref ya, .ref rg, .ref me, .ref sa, .ref pa, .ref za, .ref ca, .int (bI kp), .ref ta, .ref na])), (me, .inl (cI, 512, .inl (mm2 g h)))]) [0, 2] (by decide) rfl
      have hFc := va_free (wc := [(o, .inr (5, [.int th, .ref im, .int (bI tr), .ref rc, .ref bg, .int ro, .ref oa, .ref xa, .ref ya, .ref rg, .ref me, .ref sa, .ref pa, .ref za, .ref ca, .int (bI kp), .ref ta, .ref na])), (me, .inl (cI, 512, .inl (mm2 g h)))]) hD hS hA [0, 2] rfl
      refine va_callv (va_runV (As := [.int 1, .int (j + b1), .int b0]) (rest := []) ⟨hx, hb, hml, hown, hts⟩ (q_put1 l D cI cZ o th im tr rc bg ro oa xa ya rg me sa pa za ca kp ta na g h (j + b1) b0 H.size) ⟨cB 3 hts k_837 k_62 k_834 hd_MO_put ⟨Nat.le_of_ble_eq_true rfl, Nat.le_of_ble_eq_true rfl⟩ rfl rfl, hts _ k_836, hts _ k_40⟩ (PcW.preV (va_recv hK hP (q0 := 0) (ci := 5) rfl rfl) hPc hK hDc hN) rfl rfl hl.1 rfl (lv_room (Nat.le_of_ble_eq_true rfl)) d_MO_works_181 ⟨Nat.le_of_ble_eq_true rfl, Nat.le_of_ble_eq_true rfl⟩) hS (fun q _ h => hFc q h) hFc (fun u t H1 locs ht hvm e181 hB hz1 hk1 hS => ?_)
      obtain ⟨f1181, rfl⟩ : ∃ z, z = u := ⟨_, rfl⟩
      obtain ⟨hP1, hK1, hD1⟩ := hB
      rw [ht] at hP1
      obtain ⟨hP, hD⟩ := va_join (wr := [(rg, .inl (cI, 6, .inl (rg6 a x d b0 b1 b2))), (za, .inl (cZ, 2, .inl (p2 (bI z0) (bI z1)))), (ca, .inl (cZ, 2, .inl (p2 (bI c0) (bI c1))))]) (w1 := [(o, .inr (5, [.int th, .ref im, .int (bI tr), .ref rc, .ref bg, .int ro, .ref oa, .ref xa, .ref ya, .ref rg, .ref me, .ref sa, .ref pa, .ref za, .ref ca, .int (bI kp), .ref ta, .ref na])), (me, .inl (cI, 512, .inl f1181))]) hP hD [0, 2] [1, 3, 4] rfl rfl (by decide) (by decide) hk1 hFc hP1 hD1
      generalize H1 = H at hP hS ⊢
      try dsimp only at e181
      have e181_0 := e181
      replace e181_0 := e181_0.symm
      subst e181_0
      have hP : va_P D vwCl [(rg, .inl (cI, 6, .inl (rg6 a x d b0 b1 b2))), (za, .inl (cZ, 2, .inl (p2 (bI z0) (bI z1)))), (ca, .inl (cZ, 2, .inl (p2 (bI c0) (bI c1)))), (o, .inr (5, [.int th, .ref im, .int (bI tr), .ref rc, .ref bg, .int ro, .ref oa, .ref xa, .ref ya, .ref rg, .ref me, .ref sa, .ref pa, .ref za, .ref ca, .int (bI kp), .ref ta, .ref na])), (me, .inl (cI, 512, .inl (mm2 g (wr h (j + b1) b0))))] H := hP
      have hD : va_D A [(rg, .inl (cI, 6, .inl (rg6 a x d b0 b1 b2))), (za, .inl (cZ, 2, .inl (p2 (bI z0) (bI z1)))), (ca, .inl (cZ, 2, .inl (p2 (bI c0) (bI c1)))), (o, .inr (5, [.int th, .ref im, .int (bI tr), .ref rc, .ref bg, .int ro, .ref oa, .ref xa, .ref ya, .ref rg, .ref me, .ref sa, .ref pa, .ref za, .ref ca, .int (bI kp), .ref ta, .ref na])), (me, .inl (cI, 512, .inl (mm2 g (wr h (j + b1) b0))))] := hD
      refine lv_goto (tgt := 302) hx hb d_MO_works_184 rfl ?_
      have hP9 : va_P D vwCl [(o, .inr (5, [.int th, .ref im, .int (bI tr), .ref rc, .ref bg, .int ro, .ref oa, .ref xa, .ref ya, .ref rg, .ref me, .ref sa, .ref pa, .ref za, .ref ca, .int (bI kp), .ref ta, .ref na])), (rg, .inl (cI, 6, .inl (rg6 a x d b0 b1 b2))), (me, .inl (cI, 512, .inl (mm2 g (wr h (j + b1) b0)))), (za, .inl (cZ, 2, .inl (p2 (bI z0) (bI z1)))), (ca, .inl (cZ, 2, .inl (p2 (bI c0) (bI c1))))] H := hP.sub [3, 0, 4, 1, 2] rfl
      have hD9 : va_D A [(o, .inr (5, [.int th, .ref im, .int (bI tr), .ref rc, .ref bg, .int ro, .ref oa, .ref xa, .ref ya, .ref rg, .ref me, .ref sa, .ref pa, .ref za, .ref ca, .int (bI kp), .ref ta, .ref na])), (rg, .inl (cI, 6, .inl (rg6 a x d b0 b1 b2))), (me, .inl (cI, 512, .inl (mm2 g (wr h (j + b1) b0)))), (za, .inl (cZ, 2, .inl (p2 (bI z0) (bI z1)))), (ca, .inl (cZ, 2, .inl (p2 (bI c0) (bI c1))))] := hD.sub [3, 0, 4, 1, 2] (by decide) rfl
      exact W.vret hx hb hr (fun t ht hW => ⟨⟨(wr h (j + b1) b0, b0, b1, b2, z1, c1), rfl, by rw [h25]; rfl, by rw [ht]; exact hP9, va_K.moved hW.alike hK, hD9⟩, hS.F ht⟩) hS.2.2 d_MO_works_302
    | 6, _, h25 =>
      have h25 : op = 8 := h25
      refine lv_tableIn (off := 162) (tgt := 187) hx hb d_MO_works_25 (by rw [h25]; decide) (by rw [h25]; decide) (by rw [h25]; rfl) rfl ?_
      refine lv_aload_n hx hb d_MO_works_187 rfl (lv_at hl 2 rfl) ?_
      refine lv_iconst (v := 1) hx hb d_MO_works_188 (by decide) ?_
      refine lv_iload_n hx hb d_MO_works_189 rfl (lv_at hl 4 rfl) ?_
      refine lv_iload hx hb d_MO_works_190 (lv_at hl 1 rfl) ?_
      have hPc := hP.sub (ws' := [(o, .inr (5, [.int th, .ref im, .int (bI tr), .ref rc, .ref bg, .int ro, .ref oa, .ref xa, .ref ya, .ref rg, .ref me, .ref sa, .ref pa, .ref za, .ref ca, .int (bI kp), .ref ta, .ref na])), (rg, .inl (cI, 6, .inl (rg6 a x d b0 b1 b2))), (za, .inl (cZ, 2, .inl (p2 (bI z0) (bI z1)))), (ca, .inl (cZ, 2, .inl (p2 (bI c0) (bI c1))))]) [0, 1, 3, 4] rfl
      have hDc := hD.sub (ws' := [(o, .inr (5, [.int th, .ref im, .int (bI tr), .ref rc, .ref bg, .int ro, .ref oa, .ref xa, .ref ya, .ref rg, .ref me, .ref sa, .ref pa, .ref za, .ref ca, .int (bI kp), .ref ta, .ref na])), (rg, .inl (cI, 6, .inl (rg6 a x d b0 b1 b2))), (za, .inl (cZ, 2, .inl (p2 (bI z0) (bI z1)))), (ca, .inl (cZ, 2, .inl (p2 (bI c0) (bI c1))))]) [0, 1, 3, 4] (by decide) rfl
      have hFc := va_free (wc := [(o, .inr (5, [.int th, .ref im, .int (bI tr), .ref rc, .ref bg, .int ro, .ref oa, .ref xa, .ref ya, .ref rg, .ref me, .ref sa, .ref pa, .ref za, .ref ca, .int (bI kp), .ref ta, .ref na])), (rg, .inl (cI, 6, .inl (rg6 a x d b0 b1 b2))), (za, .inl (cZ, 2, .inl (p2 (bI z0) (bI z1)))), (ca, .inl (cZ, 2, .inl (p2 (bI c0) (bI c1))))]) hD hS hA [0, 1, 3, 4] rfl
      refine va_callv (va_runV (As := [.int 1, .int 0, .int b0]) (rest := []) ⟨hx, hb, hml, hown, hts⟩ (q_plain10 l D cI cZ o th im tr rc bg ro oa xa ya rg me sa pa za ca kp ta na a x d b0 b1 b2 z0 z1 c0 c1 b0 H.size) ⟨cB 3 hts k_865 k_62 k_862 hd_MO_plain ⟨Nat.le_of_ble_eq_true rfl, Nat.le_of_ble_eq_true rfl⟩ rfl rfl, hts _ k_864, hts _ k_47⟩ (PcW.preV (va_recv hK hP (q0 := 0) (ci := 5) rfl rfl) hPc hK hDc hN) rfl rfl hl.1 rfl (lv_room (Nat.le_of_ble_eq_true rfl)) d_MO_works_192 ⟨Nat.le_of_ble_eq_true rfl, Nat.le_of_ble_eq_true rfl⟩) hS (fun q _ h => hFc q h) hFc (fun u t H1 locs ht hvm e192 hB hz1 hk1 hS => ?_)
      obtain ⟨v1192, zz192, cy192⟩ := u
      obtain ⟨hP1, hK1, hD1⟩ := hB
      rw [ht] at hP1
      obtain ⟨hP, hD⟩ := va_join (wr := [(me, .inl (cI, 512, .inl (mm2 g h)))]) (w1 := [(o, .inr (5, [.int th, .ref im, .int (bI tr), .ref rc, .ref bg, .int ro, .ref oa, .ref xa, .ref ya, .ref rg, .ref me, .ref sa, .ref pa, .ref za, .ref ca, .int (bI kp), .ref ta, .ref na])), (rg, .inl (cI, 6, .inl (rg6 a x d v1192 b1 b2))), (za, .inl (cZ, 2, .inl (p2 (bI z0) (bI zz192)))), (ca, .inl (cZ, 2, .inl (p2 (bI c0) (bI cy192))))]) hP hD [0, 1, 3, 4] [2] rfl rfl (by decide) (by decide) hk1 hFc hP1 hD1
      generalize H1 = H at hP hS ⊢
      try dsimp only at e192
      obtain ⟨e192_0, e192_1, e192_2⟩ := e192
      replace e192_0 := e192_0.symm
      subst e192_0
      replace e192_1 := e192_1.symm
      subst e192_1
      replace e192_2 := e192_2.symm
      subst e192_2
      have hP : va_P D vwCl [(me, .inl (cI, 512, .inl (mm2 g h))), (o, .inr (5, [.int th, .ref im, .int (bI tr), .ref rc, .ref bg, .int ro, .ref oa, .ref xa, .ref ya, .ref rg, .ref me, .ref sa, .ref pa, .ref za, .ref ca, .int (bI kp), .ref ta, .ref na])), (rg, .inl (cI, 6, .inl (rg6 a x d (b0 &&& 255) b1 b2))), (za, .inl (cZ, 2, .inl (p2 (bI z0) (bI (decide (b0 &&& 255 = 0)))))), (ca, .inl (cZ, 2, .inl (p2 (bI c0) (bI false))))] H := hP
      have hD : va_D A [(me, .inl (cI, 512, .inl (mm2 g h))), (o, .inr (5, [.int th, .ref im, .int (bI tr), .ref rc, .ref bg, .int ro, .ref oa, .ref xa, .ref ya, .ref rg, .ref me, .ref sa, .ref pa, .ref za, .ref ca, .int (bI kp), .ref ta, .ref na])), (rg, .inl (cI, 6, .inl (rg6 a x d (b0 &&& 255) b1 b2))), (za, .inl (cZ, 2, .inl (p2 (bI z0) (bI (decide (b0 &&& 255 = 0)))))), (ca, .inl (cZ, 2, .inl (p2 (bI c0) (bI false))))] := hD
      refine lv_goto (tgt := 302) hx hb d_MO_works_195 rfl ?_
      have hP9 : va_P D vwCl [(o, .inr (5, [.int th, .ref im, .int (bI tr), .ref rc, .ref bg, .int ro, .ref oa, .ref xa, .ref ya, .ref rg, .ref me, .ref sa, .ref pa, .ref za, .ref ca, .int (bI kp), .ref ta, .ref na])), (rg, .inl (cI, 6, .inl (rg6 a x d (b0 &&& 255) b1 b2))), (me, .inl (cI, 512, .inl (mm2 g h))), (za, .inl (cZ, 2, .inl (p2 (bI z0) (bI (decide (b0 &&& 255 = 0)))))), (ca, .inl (cZ, 2, .inl (p2 (bI c0) (bI false))))] H := hP.sub [1, 2, 0, 3, 4] rfl
      have hD9 : va_D A [(o, .inr (5, [.int th, .ref im, .int (bI tr), .ref rc, .ref bg, .int ro, .ref oa, .ref xa, .ref ya, .ref rg, .ref me, .ref sa, .ref pa, .ref za, .ref ca, .int (bI kp), .ref ta, .ref na])), (rg, .inl (cI, 6, .inl (rg6 a x d (b0 &&& 255) b1 b2))), (me, .inl (cI, 512, .inl (mm2 g h))), (za, .inl (cZ, 2, .inl (p2 (bI z0) (bI (decide (b0 &&& 255 = 0)))))), (ca, .inl (cZ, 2, .inl (p2 (bI c0) (bI false))))] := hD.sub [1, 2, 0, 3, 4] (by decide) rfl
      exact W.vret hx hb hr (fun t ht hW => ⟨⟨(h, b0 &&& 255, b1, b2, decide (b0 &&& 255 = 0), false), rfl, by rw [h25]; rfl, by rw [ht]; exact hP9, va_K.moved hW.alike hK, hD9⟩, hS.F ht⟩) hS.2.2 d_MO_works_302
    | 7, _, h25 =>
      have h25 : op = 9 := h25
      refine lv_tableIn (off := 173) (tgt := 198) hx hb d_MO_works_25 (by rw [h25]; decide) (by rw [h25]; decide) (by rw [h25]; rfl) rfl ?_
      refine lv_aload_n hx hb d_MO_works_198 rfl (lv_at hl 2 rfl) ?_
      refine lv_iconst (v := 1) hx hb d_MO_works_199 (by decide) ?_
      refine lv_iload_n hx hb d_MO_works_200 rfl (lv_at hl 4 rfl) ?_
      refine lv_iload hx hb d_MO_works_201 (lv_at hl 0 rfl) ?_
      refine lv_iconst (v := 0) hx hb d_MO_works_203 (by decide) ?_
      have hPc := hP.sub (ws' := [(o, .inr (5, [.int th, .ref im, .int (bI tr), .ref rc, .ref bg, .int ro, .ref oa, .ref xa, .ref ya, .ref rg, .ref me, .ref sa, .ref pa, .ref za, .ref ca, .int (bI kp), .ref ta, .ref na])), (rg, .inl (cI, 6, .inl (rg6 a x d b0 b1 b2))), (za, .inl (cZ, 2, .inl (p2 (bI z0) (bI z1)))), (ca, .inl (cZ, 2, .inl (p2 (bI c0) (bI c1))))]) [0, 1, 3, 4] rfl
      have hDc := hD.sub (ws' := [(o, .inr (5, [.int th, .ref im, .int (bI tr), .ref rc, .ref bg, .int ro, .ref oa, .ref xa, .ref ya, .ref rg, .ref me, .ref sa, .ref pa, .ref za, .ref ca, .int (bI kp), .ref ta, .ref na])), (rg, .inl (cI, 6, .inl (rg6 a x d b0 b1 b2))), (za, .inl (cZ, 2, .inl (p2 (bI z0) (bI z1)))), (ca, .inl (cZ, 2, .inl (p2 (bI c0) (bI c1))))]) [0, 1, 3, 4] (by decide) rfl
      have hFc := va_free (wc := [(o, .inr (5, [.int th, .ref im, .int (bI tr), .ref rc, .ref bg, .int ro, .ref oa, .ref xa, .ref ya, .ref rg, .ref me, .ref sa, .ref pa, .ref za, .ref ca, .int (bI kp), .ref ta, .ref na])), (rg, .inl (cI, 6, .inl (rg6 a x d b0 b1 b2))), (za, .inl (cZ, 2, .inl (p2 (bI z0) (bI z1)))), (ca, .inl (cZ, 2, .inl (p2 (bI c0) (bI c1))))]) hD hS hA [0, 1, 3, 4] rfl
      refine va_callv (va_runV (As := [.int 1, .int 0, .int (selM j b0 b1 b2), .int 0]) (rest := []) ⟨hx, hb, hml, hown, hts⟩ (q_adds10 l D cI cZ o th im tr rc bg ro oa xa ya rg me sa pa za ca kp ta na a x d b0 b1 b2 z0 z1 c0 c1 (selM j b0 b1 b2) 0 H.size) ⟨cB 4 hts k_857 k_62 k_854 hd_MO_adds ⟨Nat.le_of_ble_eq_true rfl, Nat.le_of_ble_eq_true rfl⟩ rfl rfl, hts _ k_856, hts _ k_45⟩ (PcW.preV (va_recv hK hP (q0 := 0) (ci := 5) rfl rfl) hPc hK hDc hN) rfl rfl hl.1 rfl (lv_room (Nat.le_of_ble_eq_true rfl)) d_MO_works_204 ⟨Nat.le_of_ble_eq_true rfl, Nat.le_of_ble_eq_true rfl⟩) hS (fun q _ h => hFc q h) hFc (fun u t H1 locs ht hvm e204 hB hz1 hk1 hS => ?_)
      obtain ⟨v1204, zz204, cy204⟩ := u
      obtain ⟨hP1, hK1, hD1⟩ := hB
      rw [ht] at hP1
      obtain ⟨hP, hD⟩ := va_join (wr := [(me, .inl (cI, 512, .inl (mm2 g h)))]) (w1 := [(o, .inr (5, [.int th, .ref im, .int (bI tr), .ref rc, .ref bg, .int ro, .ref oa, .ref xa, .ref ya, .ref rg, .ref me, .ref sa, .ref pa, .ref za, .ref ca, .int (bI kp), .ref ta, .ref na])), (rg, .inl (cI, 6, .inl (rg6 a x d v1204 b1 b2))), (za, .inl (cZ, 2, .inl (p2 (bI z0) (bI zz204)))), (ca, .inl (cZ, 2, .inl (p2 (bI c0) (bI cy204))))]) hP hD [0, 1, 3, 4] [2] rfl rfl (by decide) (by decide) hk1 hFc hP1 hD1
      generalize H1 = H at hP hS ⊢
      try dsimp only at e204
      obtain ⟨e204_0, e204_1, e204_2⟩ := e204
      replace e204_0 := e204_0.symm
      subst e204_0
      replace e204_1 := e204_1.symm
      subst e204_1
      replace e204_2 := e204_2.symm
      subst e204_2
      have hP : va_P D vwCl [(me, .inl (cI, 512, .inl (mm2 g h))), (o, .inr (5, [.int th, .ref im, .int (bI tr), .ref rc, .ref bg, .int ro, .ref oa, .ref xa, .ref ya, .ref rg, .ref me, .ref sa, .ref pa, .ref za, .ref ca, .int (bI kp), .ref ta, .ref na])), (rg, .inl (cI, 6, .inl (rg6 a x d ((b0 + (selM j b0 b1 b2) + 0) &&& 255) b1 b2))), (za, .inl (cZ, 2, .inl (p2 (bI z0) (bI (decide ((b0 + (selM j b0 b1 b2) + 0) &&& 255 = 0)))))), (ca, .inl (cZ, 2, .inl (p2 (bI c0) (bI (decide (¬ b0 + (selM j b0 b1 b2) + 0 ≤ 255))))))] H := hP
      have hD : va_D A [(me, .inl (cI, 512, .inl (mm2 g h))), (o, .inr (5, [.int th, .ref im, .int (bI tr), .ref rc, .ref bg, .int ro, .ref oa, .ref xa, .ref ya, .ref rg, .ref me, .ref sa, .ref pa, .ref za, .ref ca, .int (bI kp), .ref ta, .ref na])), (rg, .inl (cI, 6, .inl (rg6 a x d ((b0 + (selM j b0 b1 b2) + 0) &&& 255) b1 b2))), (za, .inl (cZ, 2, .inl (p2 (bI z0) (bI (decide ((b0 + (selM j b0 b1 b2) + 0) &&& 255 = 0)))))), (ca, .inl (cZ, 2, .inl (p2 (bI c0) (bI (decide (¬ b0 + (selM j b0 b1 b2) + 0 ≤ 255))))))] := hD
      refine lv_goto (tgt := 302) hx hb d_MO_works_207 rfl ?_
      have hP9 : va_P D vwCl [(o, .inr (5, [.int th, .ref im, .int (bI tr), .ref rc, .ref bg, .int ro, .ref oa, .ref xa, .ref ya, .ref rg, .ref me, .ref sa, .ref pa, .ref za, .ref ca, .int (bI kp), .ref ta, .ref na])), (rg, .inl (cI, 6, .inl (rg6 a x d ((b0 + (selM j b0 b1 b2) + 0) &&& 255) b1 b2))), (me, .inl (cI, 512, .inl (mm2 g h))), (za, .inl (cZ, 2, .inl (p2 (bI z0) (bI (decide ((b0 + (selM j b0 b1 b2) + 0) &&& 255 = 0)))))), (ca, .inl (cZ, 2, .inl (p2 (bI c0) (bI (decide (¬ b0 + (selM j b0 b1 b2) + 0 ≤ 255))))))] H := hP.sub [1, 2, 0, 3, 4] rfl
      have hD9 : va_D A [(o, .inr (5, [.int th, .ref im, .int (bI tr), .ref rc, .ref bg, .int ro, .ref oa, .ref xa, .ref ya, .ref rg, .ref me, .ref sa, .ref pa, .ref za, .ref ca, .int (bI kp), .ref ta, .ref na])), (rg, .inl (cI, 6, .inl (rg6 a x d ((b0 + (selM j b0 b1 b2) + 0) &&& 255) b1 b2))), (me, .inl (cI, 512, .inl (mm2 g h))), (za, .inl (cZ, 2, .inl (p2 (bI z0) (bI (decide ((b0 + (selM j b0 b1 b2) + 0) &&& 255 = 0)))))), (ca, .inl (cZ, 2, .inl (p2 (bI c0) (bI (decide (¬ b0 + (selM j b0 b1 b2) + 0 ≤ 255))))))] := hD.sub [1, 2, 0, 3, 4] (by decide) rfl
      exact W.vret hx hb hr (fun t ht hW => ⟨⟨(h, (b0 + (selM j b0 b1 b2) + 0) &&& 255, b1, b2, decide ((b0 + (selM j b0 b1 b2) + 0) &&& 255 = 0), decide (¬ b0 + (selM j b0 b1 b2) + 0 ≤ 255)), rfl, by rw [h25]; rfl, by rw [ht]; exact hP9, va_K.moved hW.alike hK, hD9⟩, hS.F ht⟩) hS.2.2 d_MO_works_302
    | 8, _, h25 =>
      have h25 : op = 10 := h25
      refine lv_tableIn (off := 185) (tgt := 210) hx hb d_MO_works_25 (by rw [h25]; decide) (by rw [h25]; decide) (by rw [h25]; rfl) rfl ?_
      refine lv_aload_n hx hb d_MO_works_210 rfl (lv_at hl 2 rfl) ?_
      refine lv_iconst (v := 1) hx hb d_MO_works_211 (by decide) ?_
      refine lv_iload_n hx hb d_MO_works_212 rfl (lv_at hl 4 rfl) ?_
      refine lv_iload hx hb d_MO_works_213 (lv_at hl 0 rfl) ?_
      refine lv_aload_n hx hb d_MO_works_215 rfl (lv_at hl 2 rfl) ?_
      refine va_get (D := D) (ci := 5) (v := .ref ca) (C := R_MO) (T := T_MO) (N := 18) hx hb hts iw_MO hown hK hP 0 rfl rfl 14 (by decide) (hts _ k_709) (fun _ h9 => h9) rfl d_MO_works_216 ?_
      refine lv_iconst (v := 1) hx hb d_MO_works_219 (by decide) ?_
      refine va_zald hx hb hK hP 4 1 rfl rfl (vp_in_nI (n := 1) (by decide) (by decide)) d_MO_works_220 ?_
      refine lv_if_eq (tgt := 228) hx hb d_MO_works_221 rfl (fun h221 => ?_) (fun h221 => ?_)
      · have h221 : c1 = false := bI_f h221
        refine lv_iconst (v := 0) hx hb d_MO_works_228 (by decide) ?_
        have hPc := hP.sub (ws' := [(o, .inr (5, [.int th, .ref im, .int (bI tr), .ref rc, .ref bg, .int ro, .ref oa, .ref xa, .ref ya, .ref rg, .ref me, .ref sa, .ref pa, .ref za, .ref ca, .int (bI kp), .ref ta, .ref na])), (rg, .inl (cI, 6, .inl (rg6 a x d b0 b1 b2))), (za, .inl (cZ, 2, .inl (p2 (bI z0) (bI z1)))), (ca, .inl (cZ, 2, .inl (p2 (bI c0) (bI c1))))]) [0, 1, 3, 4] rfl
        have hDc := hD.sub (ws' := [(o, .inr (5, [.int th, .ref im, .int (bI tr), .ref rc, .ref bg, .int ro, .ref oa, .ref xa, .ref ya, .ref rg, .ref me, .ref sa, .ref pa, .ref za, .ref ca, .int (bI kp), .ref ta, .ref na])), (rg, .inl (cI, 6, .inl (rg6 a x d b0 b1 b2))), (za, .inl (cZ, 2, .inl (p2 (bI z0) (bI z1)))), (ca, .inl (cZ, 2, .inl (p2 (bI c0) (bI c1))))]) [0, 1, 3, 4] (by decide) rfl
        have hFc := va_free (wc := [(o, .inr (5, [.int th, .ref im, .int (bI tr), .ref rc, .ref bg, .int ro, .ref oa, .ref xa, .ref ya, .ref rg, .ref me, .ref sa, .ref pa, .ref za, .ref ca, .int (bI kp), .ref ta, .ref na])), (rg, .inl (cI, 6, .inl (rg6 a x d b0 b1 b2))), (za, .inl (cZ, 2, .inl (p2 (bI z0) (bI z1)))), (ca, .inl (cZ, 2, .inl (p2 (bI c0) (bI c1))))]) hD hS hA [0, 1, 3, 4] rfl
        refine va_callv (va_runV (As := [.int 1, .int 0, .int (selM j b0 b1 b2), .int 0]) (rest := []) ⟨hx, hb, hml, hown, hts⟩ (q_adds10 l D cI cZ o th im tr rc bg ro oa xa ya rg me sa pa za ca kp ta na a x d b0 b1 b2 z0 z1 c0 c1 (selM j b0 b1 b2) 0 H.size) ⟨cB 4 hts k_857 k_62 k_854 hd_MO_adds ⟨Nat.le_of_ble_eq_true rfl, Nat.le_of_ble_eq_true rfl⟩ rfl rfl, hts _ k_856, hts _ k_45⟩ (PcW.preV (va_recv hK hP (q0 := 0) (ci := 5) rfl rfl) hPc hK hDc hN) rfl rfl hl.1 rfl (lv_room (Nat.le_of_ble_eq_true rfl)) d_MO_works_229 ⟨Nat.le_of_ble_eq_true rfl, Nat.le_of_ble_eq_true rfl⟩) hS (fun q _ h => hFc q h) hFc (fun u t H1 locs ht hvm e229 hB hz1 hk1 hS => ?_)
        obtain ⟨v1229, zz229, cy229⟩ := u
        obtain ⟨hP1, hK1, hD1⟩ := hB
        rw [ht] at hP1
        obtain ⟨hP, hD⟩ := va_join (wr := [(me, .inl (cI, 512, .inl (mm2 g h)))]) (w1 := [(o, .inr (5, [.int th, .ref im, .int (bI tr), .ref rc, .ref bg, .int ro, .ref oa, .ref xa, .ref ya, .ref rg, .ref me, .ref sa, .ref pa, .ref za, .ref ca, .int (bI kp), .ref ta, .ref na])), (rg, .inl (cI, 6, .inl (rg6 a x d v1229 b1 b2))), (za, .inl (cZ, 2, .inl (p2 (bI z0) (bI zz229)))), (ca, .inl (cZ, 2, .inl (p2 (bI c0) (bI cy229))))]) hP hD [0, 1, 3, 4] [2] rfl rfl (by decide) (by decide) hk1 hFc hP1 hD1
        generalize H1 = H at hP hS ⊢
        try dsimp only at e229
        obtain ⟨e229_0, e229_1, e229_2⟩ := e229
        replace e229_0 := e229_0.symm
        subst e229_0
        replace e229_1 := e229_1.symm
        subst e229_1
        replace e229_2 := e229_2.symm
        subst e229_2
        have hP : va_P D vwCl [(me, .inl (cI, 512, .inl (mm2 g h))), (o, .inr (5, [.int th, .ref im, .int (bI tr), .ref rc, .ref bg, .int ro, .ref oa, .ref xa, .ref ya, .ref rg, .ref me, .ref sa, .ref pa, .ref za, .ref ca, .int (bI kp), .ref ta, .ref na])), (rg, .inl (cI, 6, .inl (rg6 a x d ((b0 + (selM j b0 b1 b2) + 0) &&& 255) b1 b2))), (za, .inl (cZ, 2, .inl (p2 (bI z0) (bI (decide ((b0 + (selM j b0 b1 b2) + 0) &&& 255 = 0)))))), (ca, .inl (cZ, 2, .inl (p2 (bI c0) (bI (decide (¬ b0 + (selM j b0 b1 b2) + 0 ≤ 255))))))] H := hP
        have hD : va_D A [(me, .inl (cI, 512, .inl (mm2 g h))), (o, .inr (5, [.int th, .ref im, .int (bI tr), .ref rc, .ref bg, .int ro, .ref oa, .ref xa, .ref ya, .ref rg, .ref me, .ref sa, .ref pa, .ref za, .ref ca, .int (bI kp), .ref ta, .ref na])), (rg, .inl (cI, 6, .inl (rg6 a x d ((b0 + (selM j b0 b1 b2) + 0) &&& 255) b1 b2))), (za, .inl (cZ, 2, .inl (p2 (bI z0) (bI (decide ((b0 + (selM j b0 b1 b2) + 0) &&& 255 = 0)))))), (ca, .inl (cZ, 2, .inl (p2 (bI c0) (bI (decide (¬ b0 + (selM j b0 b1 b2) + 0 ≤ 255))))))] := hD
        refine lv_goto (tgt := 302) hx hb d_MO_works_232 rfl ?_
        have hP9 : va_P D vwCl [(o, .inr (5, [.int th, .ref im, .int (bI tr), .ref rc, .ref bg, .int ro, .ref oa, .ref xa, .ref ya, .ref rg, .ref me, .ref sa, .ref pa, .ref za, .ref ca, .int (bI kp), .ref ta, .ref na])), (rg, .inl (cI, 6, .inl (rg6 a x d ((b0 + (selM j b0 b1 b2) + 0) &&& 255) b1 b2))), (me, .inl (cI, 512, .inl (mm2 g h))), (za, .inl (cZ, 2, .inl (p2 (bI z0) (bI (decide ((b0 + (selM j b0 b1 b2) + 0) &&& 255 = 0)))))), (ca, .inl (cZ, 2, .inl (p2 (bI c0) (bI (decide (¬ b0 + (selM j b0 b1 b2) + 0 ≤ 255))))))] H := hP.sub [1, 2, 0, 3, 4] rfl
        have hD9 : va_D A [(o, .inr (5, [.int th, .ref im, .int (bI tr), .ref rc, .ref bg, .int ro, .ref oa, .ref xa, .ref ya, .ref rg, .ref me, .ref sa, .ref pa, .ref za, .ref ca, .int (bI kp), .ref ta, .ref na])), (rg, .inl (cI, 6, .inl (rg6 a x d ((b0 + (selM j b0 b1 b2) + 0) &&& 255) b1 b2))), (me, .inl (cI, 512, .inl (mm2 g h))), (za, .inl (cZ, 2, .inl (p2 (bI z0) (bI (decide ((b0 + (selM j b0 b1 b2) + 0) &&& 255 = 0)))))), (ca, .inl (cZ, 2, .inl (p2 (bI c0) (bI (decide (¬ b0 + (selM j b0 b1 b2) + 0 ≤ 255))))))] := hD.sub [1, 2, 0, 3, 4] (by decide) rfl
        exact W.vret hx hb hr (fun t ht hW => ⟨⟨(h, (b0 + (selM j b0 b1 b2) + 0) &&& 255, b1, b2, decide ((b0 + (selM j b0 b1 b2) + 0) &&& 255 = 0), decide (¬ b0 + (selM j b0 b1 b2) + 0 ≤ 255)), rfl, by rw [h25, h221]; rfl, by rw [ht]; exact hP9, va_K.moved hW.alike hK, hD9⟩, hS.F ht⟩) hS.2.2 d_MO_works_302
      · have h221 : c1 = true := bI_t h221
        refine lv_iconst (v := 1) hx hb d_MO_works_224 (by decide) ?_
        refine lv_goto (tgt := 229) hx hb d_MO_works_225 rfl ?_
        have hPc := hP.sub (ws' := [(o, .inr (5, [.int th, .ref im, .int (bI tr), .ref rc, .ref bg, .int ro, .ref oa, .ref xa, .ref ya, .ref rg, .ref me, .ref sa, .ref pa, .ref za, .ref ca, .int (bI kp), .ref ta, .ref na])), (rg, .inl (cI, 6, .inl (rg6 a x d b0 b1 b2))), (za, .inl (cZ, 2, .inl (p2 (bI z0) (bI z1)))), (ca, .inl (cZ, 2, .inl (p2 (bI c0) (bI c1))))]) [0, 1, 3, 4] rfl
        have hDc := hD.sub (ws' := [(o, .inr (5, [.int th, .ref im, .int (bI tr), .ref rc, .ref bg, .int ro, .ref oa, .ref xa, .ref ya, .ref rg, .ref me, .ref sa, .ref pa, .ref za, .ref ca, .int (bI kp), .ref ta, .ref na])), (rg, .inl (cI, 6, .inl (rg6 a x d b0 b1 b2))), (za, .inl (cZ, 2, .inl (p2 (bI z0) (bI z1)))), (ca, .inl (cZ, 2, .inl (p2 (bI c0) (bI c1))))]) [0, 1, 3, 4] (by decide) rfl
        have hFc := va_free (wc := [(o, .inr (5, [.int th, .ref im, .int (bI tr), .ref rc, .ref bg, .int ro, .ref oa, .ref xa, .ref ya, .ref rg, .ref me, .ref sa, .ref pa, .ref za, .ref ca, .int (bI kp), .ref ta, .ref na])), (rg, .inl (cI, 6, .inl (rg6 a x d b0 b1 b2))), (za, .inl (cZ, 2, .inl (p2 (bI z0) (bI z1)))), (ca, .inl (cZ, 2, .inl (p2 (bI c0) (bI c1))))]) hD hS hA [0, 1, 3, 4] rfl
        refine va_callv (va_runV (As := [.int 1, .int 0, .int (selM j b0 b1 b2), .int 1]) (rest := []) ⟨hx, hb, hml, hown, hts⟩ (q_adds10 l D cI cZ o th im tr rc bg ro oa xa ya rg me sa pa za ca kp ta na a x d b0 b1 b2 z0 z1 c0 c1 (selM j b0 b1 b2) 1 H.size) ⟨cB 4 hts k_857 k_62 k_854 hd_MO_adds ⟨Nat.le_of_ble_eq_true rfl, Nat.le_of_ble_eq_true rfl⟩ rfl rfl, hts _ k_856, hts _ k_45⟩ (PcW.preV (va_recv hK hP (q0 := 0) (ci := 5) rfl rfl) hPc hK hDc hN) rfl rfl hl.1 rfl (lv_room (Nat.le_of_ble_eq_true rfl)) d_MO_works_229 ⟨Nat.le_of_ble_eq_true rfl, Nat.le_of_ble_eq_true rfl⟩) hS (fun q _ h => hFc q h) hFc (fun u t H1 locs ht hvm e229 hB hz1 hk1 hS => ?_)
        obtain ⟨v1229, zz229, cy229⟩ := u
        obtain ⟨hP1, hK1, hD1⟩ := hB
        rw [ht] at hP1
        obtain ⟨hP, hD⟩ := va_join (wr := [(me, .inl (cI, 512, .inl (mm2 g h)))]) (w1 := [(o, .inr (5, [.int th, .ref im, .int (bI tr), .ref rc, .ref bg, .int ro, .ref oa, .ref xa, .ref ya, .ref rg, .ref me, .ref sa, .ref pa, .ref za, .ref ca, .int (bI kp), .ref ta, .ref na])), (rg, .inl (cI, 6, .inl (rg6 a x d v1229 b1 b2))), (za, .inl (cZ, 2, .inl (p2 (bI z0) (bI zz229)))), (ca, .inl (cZ, 2, .inl (p2 (bI c0) (bI cy229))))]) hP hD [0, 1, 3, 4] [2] rfl rfl (by decide) (by decide) hk1 hFc hP1 hD1
        generalize H1 = H at hP hS ⊢
        try dsimp only at e229
        obtain ⟨e229_0, e229_1, e229_2⟩ := e229
        replace e229_0 := e229_0.symm
        subst e229_0
        replace e229_1 := e229_1.symm
        subst e229_1
        replace e229_2 := e229_2.symm
        subst e229_2
        have hP : va_P D vwCl [(me, .inl (cI, 512, .inl (mm2 g h))), (o, .inr (5, [.int th, .ref im, .int (bI tr), .ref rc, .ref bg, .int ro, .ref oa, .ref xa, .ref ya, .ref rg, .ref me, .ref sa, .ref pa, .ref za, .ref ca, .int (bI kp), .ref ta, .ref na])), (rg, .inl (cI, 6, .inl (rg6 a x d ((b0 + (selM j b0 b1 b2) + 1) &&& 255) b1 b2))), (za, .inl (cZ, 2, .inl (p2 (bI z0) (bI (decide ((b0 + (selM j b0 b1 b2) + 1) &&& 255 = 0)))))), (ca, .inl (cZ, 2, .inl (p2 (bI c0) (bI (decide (¬ b0 + (selM j b0 b1 b2) + 1 ≤ 255))))))] H := hP
        have hD : va_D A [(me, .inl (cI, 512, .inl (mm2 g h))), (o, .inr (5, [.int th, .ref im, .int (bI tr), .ref rc, .ref bg, .int ro, .ref oa, .ref xa, .ref ya, .ref rg, .ref me, .ref sa, .ref pa, .ref za, .ref ca, .int (bI kp), .ref ta, .ref na])), (rg, .inl (cI, 6, .inl (rg6 a x d ((b0 + (selM j b0 b1 b2) + 1) &&& 255) b1 b2))), (za, .inl (cZ, 2, .inl (p2 (bI z0) (bI (decide ((b0 + (selM j b0 b1 b2) + 1) &&& 255 = 0)))))), (ca, .inl (cZ, 2, .inl (p2 (bI c0) (bI (decide (¬ b0 + (selM j b0 b1 b2) + 1 ≤ 255))))))] := hD
        refine lv_goto (tgt := 302) hx hb d_MO_works_232 rfl ?_
        have hP9 : va_P D vwCl [(o, .inr (5, [.int th, .ref im, .int (bI tr), .ref rc, .ref bg, .int ro, .ref oa, .ref xa, .ref ya, .ref rg, .ref me, .ref sa, .ref pa, .ref za, .ref ca, .int (bI kp), .ref ta, .ref na])), (rg, .inl (cI, 6, .inl (rg6 a x d ((b0 + (selM j b0 b1 b2) + 1) &&& 255) b1 b2))), (me, .inl (cI, 512, .inl (mm2 g h))), (za, .inl (cZ, 2, .inl (p2 (bI z0) (bI (decide ((b0 + (selM j b0 b1 b2) + 1) &&& 255 = 0)))))), (ca, .inl (cZ, 2, .inl (p2 (bI c0) (bI (decide (¬ b0 + (selM j b0 b1 b2) + 1 ≤ 255))))))] H := hP.sub [1, 2, 0, 3, 4] rfl
        have hD9 : va_D A [(o, .inr (5, [.int th, .ref im, .int (bI tr), .ref rc, .ref bg, .int ro, .ref oa, .ref xa, .ref ya, .ref rg, .ref me, .ref sa, .ref pa, .ref za, .ref ca, .int (bI kp), .ref ta, .ref na])), (rg, .inl (cI, 6, .inl (rg6 a x d ((b0 + (selM j b0 b1 b2) + 1) &&& 255) b1 b2))), (me, .inl (cI, 512, .inl (mm2 g h))), (za, .inl (cZ, 2, .inl (p2 (bI z0) (bI (decide ((b0 + (selM j b0 b1 b2) + 1) &&& 255 = 0)))))), (ca, .inl (cZ, 2, .inl (p2 (bI c0) (bI (decide (¬ b0 + (selM j b0 b1 b2) + 1 ≤ 255))))))] := hD.sub [1, 2, 0, 3, 4] (by decide) rfl
        exact W.vret hx hb hr (fun t ht hW => ⟨⟨(h, (b0 + (selM j b0 b1 b2) + 1) &&& 255, b1, b2, decide ((b0 + (selM j b0 b1 b2) + 1) &&& 255 = 0), decide (¬ b0 + (selM j b0 b1 b2) + 1 ≤ 255)), rfl, by rw [h25, h221]; rfl, by rw [ht]; exact hP9, va_K.moved hW.alike hK, hD9⟩, hS.F ht⟩) hS.2.2 d_MO_works_302
    | 9, _, h25 =>
      have h25 : op = 11 := h25
      refine lv_tableIn (off := 210) (tgt := 235) hx hb d_MO_works_25 (by rw [h25]; decide) (by rw [h25]; decide) (by rw [h25]; rfl) rfl ?_
      refine lv_aload_n hx hb d_MO_works_235 rfl (lv_at hl 2 rfl) ?_
      refine lv_iconst (v := 1) hx hb d_MO_works_236 (by decide) ?_
      refine lv_iload_n hx hb d_MO_works_237 rfl (lv_at hl 4 rfl) ?_
      refine lv_iload hx hb d_MO_works_238 (lv_at hl 0 rfl) ?_
      refine lv_iconst (v := 0) hx hb d_MO_works_240 (by decide) ?_
      have hPc := hP.sub (ws' := [(o, .inr (5, [.int th, .ref im, .int (bI tr), .ref rc, .ref bg, .int ro, .ref oa, .ref xa, .ref ya, .ref rg, .ref me, .ref sa, .ref pa, .ref za, .ref ca, .int (bI kp), .ref ta, .ref na])), (rg, .inl (cI, 6, .inl (rg6 a x d b0 b1 b2))), (za, .inl (cZ, 2, .inl (p2 (bI z0) (bI z1)))), (ca, .inl (cZ, 2, .inl (p2 (bI c0) (bI c1))))]) [0, 1, 3, 4] rfl
      have hDc := hD.sub (ws' := [(o, .inr (5, [.int th, .ref im, .int (bI tr), .ref rc, .ref bg, .int ro, .ref oa, .ref xa, .ref ya, .ref rg, .ref me, .ref sa, .ref pa, .ref za, .ref ca, .int (bI kp), .ref ta, .ref na])), (rg, .inl (cI, 6, .inl (rg6 a x d b0 b1 b2))), (za, .inl (cZ, 2, .inl (p2 (bI z0) (bI z1)))), (ca, .inl (cZ, 2, .inl (p2 (bI c0) (bI c1))))]) [0, 1, 3, 4] (by decide) rfl
      have hFc := va_free (wc := [(o, .inr (5, [.int th, .ref im, .int (bI tr), .ref rc, .ref bg, .int ro, .ref oa, .ref xa, .ref ya, .ref rg, .ref me, .ref sa, .ref pa, .ref za, .ref ca, .int (bI kp), .ref ta, .ref na])), (rg, .inl (cI, 6, .inl (rg6 a x d b0 b1 b2))), (za, .inl (cZ, 2, .inl (p2 (bI z0) (bI z1)))), (ca, .inl (cZ, 2, .inl (p2 (bI c0) (bI c1))))]) hD hS hA [0, 1, 3, 4] rfl
      refine va_callv (va_runV (As := [.int 1, .int 0, .int (selM j b0 b1 b2), .int 0]) (rest := []) ⟨hx, hb, hml, hown, hts⟩ (q_subs10 l D cI cZ o th im tr rc bg ro oa xa ya rg me sa pa za ca kp ta na a x d b0 b1 b2 z0 z1 c0 c1 (selM j b0 b1 b2) false H.size) ⟨cB 4 hts k_861 k_62 k_858 hd_MO_subtracts ⟨Nat.le_of_ble_eq_true rfl, Nat.le_of_ble_eq_true rfl⟩ rfl rfl, hts _ k_860, hts _ k_46⟩ (PcW.preV (va_recv hK hP (q0 := 0) (ci := 5) rfl rfl) hPc hK hDc hN) rfl rfl hl.1 rfl (lv_room (Nat.le_of_ble_eq_true rfl)) d_MO_works_241 ⟨Nat.le_of_ble_eq_true rfl, Nat.le_of_ble_eq_true rfl⟩) hS (fun q _ h => hFc q h) hFc (fun u t H1 locs ht hvm e241 hB hz1 hk1 hS => ?_)
      obtain ⟨v1241, zz241, cy241⟩ := u
      obtain ⟨hP1, hK1, hD1⟩ := hB
      rw [ht] at hP1
      obtain ⟨hP, hD⟩ := va_join (wr := [(me, .inl (cI, 512, .inl (mm2 g h)))]) (w1 := [(o, .inr (5, [.int th, .ref im, .int (bI tr), .ref rc, .ref bg, .int ro, .ref oa, .ref xa, .ref ya, .ref rg, .ref me, .ref sa, .ref pa, .ref za, .ref ca, .int (bI kp), .ref ta, .ref na])), (rg, .inl (cI, 6, .inl (rg6 a x d v1241 b1 b2))), (za, .inl (cZ, 2, .inl (p2 (bI z0) (bI zz241)))), (ca, .inl (cZ, 2, .inl (p2 (bI c0) (bI cy241))))]) hP hD [0, 1, 3, 4] [2] rfl rfl (by decide) (by decide) hk1 hFc hP1 hD1
      generalize H1 = H at hP hS ⊢
      try dsimp only at e241
      obtain ⟨e241_0, e241_1, e241_2⟩ := e241
      replace e241_0 := e241_0.symm
      subst e241_0
      replace e241_1 := e241_1.symm
      subst e241_1
      replace e241_2 := e241_2.symm
      subst e241_2
      have hP : va_P D vwCl [(me, .inl (cI, 512, .inl (mm2 g h))), (o, .inr (5, [.int th, .ref im, .int (bI tr), .ref rc, .ref bg, .int ro, .ref oa, .ref xa, .ref ya, .ref rg, .ref me, .ref sa, .ref pa, .ref za, .ref ca, .int (bI kp), .ref ta, .ref na])), (rg, .inl (cI, 6, .inl (rg6 a x d (if false = true then b0 &&& 255 else (b0 - (selM j b0 b1 b2)) &&& 255) b1 b2))), (za, .inl (cZ, 2, .inl (p2 (bI z0) (bI (decide ((b0 - (selM j b0 b1 b2)) &&& 255 = 0)))))), (ca, .inl (cZ, 2, .inl (p2 (bI c0) (bI (decide (¬ (selM j b0 b1 b2) ≤ b0))))))] H := hP
      have hD : va_D A [(me, .inl (cI, 512, .inl (mm2 g h))), (o, .inr (5, [.int th, .ref im, .int (bI tr), .ref rc, .ref bg, .int ro, .ref oa, .ref xa, .ref ya, .ref rg, .ref me, .ref sa, .ref pa, .ref za, .ref ca, .int (bI kp), .ref ta, .ref na])), (rg, .inl (cI, 6, .inl (rg6 a x d (if false = true then b0 &&& 255 else (b0 - (selM j b0 b1 b2)) &&& 255) b1 b2))), (za, .inl (cZ, 2, .inl (p2 (bI z0) (bI (decide ((b0 - (selM j b0 b1 b2)) &&& 255 = 0)))))), (ca, .inl (cZ, 2, .inl (p2 (bI c0) (bI (decide (¬ (selM j b0 b1 b2) ≤ b0))))))] := hD
      refine lv_goto (tgt := 302) hx hb d_MO_works_244 rfl ?_
      have hP9 : va_P D vwCl [(o, .inr (5, [.int th, .ref im, .int (bI tr), .ref rc, .ref bg, .int ro, .ref oa, .ref xa, .ref ya, .ref rg, .ref me, .ref sa, .ref pa, .ref za, .ref ca, .int (bI kp), .ref ta, .ref na])), (rg, .inl (cI, 6, .inl (rg6 a x d (if false = true then b0 &&& 255 else (b0 - (selM j b0 b1 b2)) &&& 255) b1 b2))), (me, .inl (cI, 512, .inl (mm2 g h))), (za, .inl (cZ, 2, .inl (p2 (bI z0) (bI (decide ((b0 - (selM j b0 b1 b2)) &&& 255 = 0)))))), (ca, .inl (cZ, 2, .inl (p2 (bI c0) (bI (decide (¬ (selM j b0 b1 b2) ≤ b0))))))] H := hP.sub [1, 2, 0, 3, 4] rfl
      have hD9 : va_D A [(o, .inr (5, [.int th, .ref im, .int (bI tr), .ref rc, .ref bg, .int ro, .ref oa, .ref xa, .ref ya, .ref rg, .ref me, .ref sa, .ref pa, .ref za, .ref ca, .int (bI kp), .ref ta, .ref na])), (rg, .inl (cI, 6, .inl (rg6 a x d (if false = true then b0 &&& 255 else (b0 - (selM j b0 b1 b2)) &&& 255) b1 b2))), (me, .inl (cI, 512, .inl (mm2 g h))), (za, .inl (cZ, 2, .inl (p2 (bI z0) (bI (decide ((b0 - (selM j b0 b1 b2)) &&& 255 = 0)))))), (ca, .inl (cZ, 2, .inl (p2 (bI c0) (bI (decide (¬ (selM j b0 b1 b2) ≤ b0))))))] := hD.sub [1, 2, 0, 3, 4] (by decide) rfl
      exact W.vret hx hb hr (fun t ht hW => ⟨⟨(h, if false = true then b0 &&& 255 else (b0 - (selM j b0 b1 b2)) &&& 255, b1, b2, decide ((b0 - (selM j b0 b1 b2)) &&& 255 = 0), decide (¬ (selM j b0 b1 b2) ≤ b0)), rfl, by rw [h25]; rfl, by rw [ht]; exact hP9, va_K.moved hW.alike hK, hD9⟩, hS.F ht⟩) hS.2.2 d_MO_works_302
    | 10, _, h25 =>
      have h25 : op = 12 := h25
      refine lv_tableIn (off := 222) (tgt := 247) hx hb d_MO_works_25 (by rw [h25]; decide) (by rw [h25]; decide) (by rw [h25]; rfl) rfl ?_
      refine lv_aload_n hx hb d_MO_works_247 rfl (lv_at hl 2 rfl) ?_
      refine lv_iconst (v := 1) hx hb d_MO_works_248 (by decide) ?_
      refine lv_iload_n hx hb d_MO_works_249 rfl (lv_at hl 4 rfl) ?_
      refine lv_iload hx hb d_MO_works_250 (lv_at hl 1 rfl) ?_
      refine lv_iload hx hb d_MO_works_252 (lv_at hl 0 rfl) ?_
      refine lv_iand hx hb d_MO_works_254 ?_
      have hPc := hP.sub (ws' := [(o, .inr (5, [.int th, .ref im, .int (bI tr), .ref rc, .ref bg, .int ro, .ref oa, .ref xa, .ref ya, .ref rg, .ref me, .ref sa, .ref pa, .ref za, .ref ca, .int (bI kp), .ref ta, .ref na])), (rg, .inl (cI, 6, .inl (rg6 a x d b0 b1 b2))), (za, .inl (cZ, 2, .inl (p2 (bI z0) (bI z1)))), (ca, .inl (cZ, 2, .inl (p2 (bI c0) (bI c1))))]) [0, 1, 3, 4] rfl
      have hDc := hD.sub (ws' := [(o, .inr (5, [.int th, .ref im, .int (bI tr), .ref rc, .ref bg, .int ro, .ref oa, .ref xa, .ref ya, .ref rg, .ref me, .ref sa, .ref pa, .ref za, .ref ca, .int (bI kp), .ref ta, .ref na])), (rg, .inl (cI, 6, .inl (rg6 a x d b0 b1 b2))), (za, .inl (cZ, 2, .inl (p2 (bI z0) (bI z1)))), (ca, .inl (cZ, 2, .inl (p2 (bI c0) (bI c1))))]) [0, 1, 3, 4] (by decide) rfl
      have hFc := va_free (wc := [(o, .inr (5, [.int th, .ref im, .int (bI tr), .ref rc, .ref bg, .int ro, .ref oa, .ref xa, .ref ya, .ref rg, .ref me, .ref sa, .ref pa, .ref za, .ref ca, .int (bI kp), .ref ta, .ref na])), (rg, .inl (cI, 6, .inl (rg6 a x d b0 b1 b2))), (za, .inl (cZ, 2, .inl (p2 (bI z0) (bI z1)))), (ca, .inl (cZ, 2, .inl (p2 (bI c0) (bI c1))))]) hD hS hA [0, 1, 3, 4] rfl
      refine va_callv (va_runV (As := [.int 1, .int 0, .int (b0 &&& (selM j b0 b1 b2))]) (rest := []) ⟨hx, hb, hml, hown, hts⟩ (q_plain10 l D cI cZ o th im tr rc bg ro oa xa ya rg me sa pa za ca kp ta na a x d b0 b1 b2 z0 z1 c0 c1 (b0 &&& (selM j b0 b1 b2)) H.size) ⟨cB 3 hts k_865 k_62 k_862 hd_MO_plain ⟨Nat.le_of_ble_eq_true rfl, Nat.le_of_ble_eq_true rfl⟩ rfl rfl, hts _ k_864, hts _ k_47⟩ (PcW.preV (va_recv hK hP (q0 := 0) (ci := 5) rfl rfl) hPc hK hDc hN) rfl rfl hl.1 rfl (lv_room (Nat.le_of_ble_eq_true rfl)) d_MO_works_255 ⟨Nat.le_of_ble_eq_true rfl, Nat.le_of_ble_eq_true rfl⟩) hS (fun q _ h => hFc q h) hFc (fun u t H1 locs ht hvm e255 hB hz1 hk1 hS => ?_)
      obtain ⟨v1255, zz255, cy255⟩ := u
      obtain ⟨hP1, hK1, hD1⟩ := hB
      rw [ht] at hP1
      obtain ⟨hP, hD⟩ := va_join (wr := [(me, .inl (cI, 512, .inl (mm2 g h)))]) (w1 := [(o, .inr (5, [.int th, .ref im, .int (bI tr), .ref rc, .ref bg, .int ro, .ref oa, .ref xa, .ref ya, .ref rg, .ref me, .ref sa, .ref pa, .ref za, .ref ca, .int (bI kp), .ref ta, .ref na])), (rg, .inl (cI, 6, .inl (rg6 a x d v1255 b1 b2))), (za, .inl (cZ, 2, .inl (p2 (bI z0) (bI zz255)))), (ca, .inl (cZ, 2, .inl (p2 (bI c0) (bI cy255))))]) hP hD [0, 1, 3, 4] [2] rfl rfl (by decide) (by decide) hk1 hFc hP1 hD1
      generalize H1 = H at hP hS ⊢
      try dsimp only at e255
      obtain ⟨e255_0, e255_1, e255_2⟩ := e255
      replace e255_0 := e255_0.symm
      subst e255_0
      replace e255_1 := e255_1.symm
      subst e255_1
      replace e255_2 := e255_2.symm
      subst e255_2
      have hP : va_P D vwCl [(me, .inl (cI, 512, .inl (mm2 g h))), (o, .inr (5, [.int th, .ref im, .int (bI tr), .ref rc, .ref bg, .int ro, .ref oa, .ref xa, .ref ya, .ref rg, .ref me, .ref sa, .ref pa, .ref za, .ref ca, .int (bI kp), .ref ta, .ref na])), (rg, .inl (cI, 6, .inl (rg6 a x d ((b0 &&& (selM j b0 b1 b2)) &&& 255) b1 b2))), (za, .inl (cZ, 2, .inl (p2 (bI z0) (bI (decide ((b0 &&& (selM j b0 b1 b2)) &&& 255 = 0)))))), (ca, .inl (cZ, 2, .inl (p2 (bI c0) (bI false))))] H := hP
      have hD : va_D A [(me, .inl (cI, 512, .inl (mm2 g h))), (o, .inr (5, [.int th, .ref im, .int (bI tr), .ref rc, .ref bg, .int ro, .ref oa, .ref xa, .ref ya, .ref rg, .ref me, .ref sa, .ref pa, .ref za, .ref ca, .int (bI kp), .ref ta, .ref na])), (rg, .inl (cI, 6, .inl (rg6 a x d ((b0 &&& (selM j b0 b1 b2)) &&& 255) b1 b2))), (za, .inl (cZ, 2, .inl (p2 (bI z0) (bI (decide ((b0 &&& (selM j b0 b1 b2)) &&& 255 = 0)))))), (ca, .inl (cZ, 2, .inl (p2 (bI c0) (bI false))))] := hD
      refine lv_goto (tgt := 302) hx hb d_MO_works_258 rfl ?_
      have hP9 : va_P D vwCl [(o, .inr (5, [.int th, .ref im, .int (bI tr), .ref rc, .ref bg, .int ro, .ref oa, .ref xa, .ref ya, .ref rg, .ref me, .ref sa, .ref pa, .ref za, .ref ca, .int (bI kp), .ref ta, .ref na])), (rg, .inl (cI, 6, .inl (rg6 a x d ((b0 &&& (selM j b0 b1 b2)) &&& 255) b1 b2))), (me, .inl (cI, 512, .inl (mm2 g h))), (za, .inl (cZ, 2, .inl (p2 (bI z0) (bI (decide ((b0 &&& (selM j b0 b1 b2)) &&& 255 = 0)))))), (ca, .inl (cZ, 2, .inl (p2 (bI c0) (bI false))))] H := hP.sub [1, 2, 0, 3, 4] rfl
      have hD9 : va_D A [(o, .inr (5, [.int th, .ref im, .int (bI tr), .ref rc, .ref bg, .int ro, .ref oa, .ref xa, .ref ya, .ref rg, .ref me, .ref sa, .ref pa, .ref za, .ref ca, .int (bI kp), .ref ta, .ref na])), (rg, .inl (cI, 6, .inl (rg6 a x d ((b0 &&& (selM j b0 b1 b2)) &&& 255) b1 b2))), (me, .inl (cI, 512, .inl (mm2 g h))), (za, .inl (cZ, 2, .inl (p2 (bI z0) (bI (decide ((b0 &&& (selM j b0 b1 b2)) &&& 255 = 0)))))), (ca, .inl (cZ, 2, .inl (p2 (bI c0) (bI false))))] := hD.sub [1, 2, 0, 3, 4] (by decide) rfl
      exact W.vret hx hb hr (fun t ht hW => ⟨⟨(h, (b0 &&& (selM j b0 b1 b2)) &&& 255, b1, b2, decide ((b0 &&& (selM j b0 b1 b2)) &&& 255 = 0), false), rfl, by rw [h25]; rfl, by rw [ht]; exact hP9, va_K.moved hW.alike hK, hD9⟩, hS.F ht⟩) hS.2.2 d_MO_works_302
    | 11, _, h25 =>
      have h25 : op = 13 := h25
      refine lv_tableIn (off := 236) (tgt := 261) hx hb d_MO_works_25 (by rw [h25]; decide) (by rw [h25]; decide) (by rw [h25]; rfl) rfl ?_
      refine lv_aload_n hx hb d_MO_works_261 rfl (lv_at hl 2 rfl) ?_
      refine lv_iconst (v := 1) hx hb d_MO_works_262 (by decide) ?_
      refine lv_iload_n hx hb d_MO_works_263 rfl (lv_at hl 4 rfl) ?_
      refine lv_iload hx hb d_MO_works_264 (lv_at hl 1 rfl) ?_
      refine lv_iload hx hb d_MO_works_266 (lv_at hl 0 rfl) ?_
      refine lv_ixor hx hb d_MO_works_268 ?_
      have hPc := hP.sub (ws' := [(o, .inr (5, [.int th, .ref im, .int (bI tr), .ref rc, .ref bg, .int ro, .ref oa, .ref xa, .ref ya, .ref rg, .ref me, .ref sa, .ref pa, .ref za, .ref ca, .int (bI kp), .ref ta, .ref na])), (rg, .inl (cI, 6, .inl (rg6 a x d b0 b1 b2))), (za, .inl (cZ, 2, .inl (p2 (bI z0) (bI z1)))), (ca, .inl (cZ, 2, .inl (p2 (bI c0) (bI c1))))]) [0, 1, 3, 4] rfl
      have hDc := hD.sub (ws' := [(o, .inr (5, [.int th, .ref im, .int (bI tr), .ref rc, .ref bg, .int ro, .ref oa, .ref xa, .ref ya, .ref rg, .ref me, .ref sa, .ref pa, .ref za, .ref ca, .int (bI kp), .ref ta, .ref na])), (rg, .inl (cI, 6, .inl (rg6 a x d b0 b1 b2))), (za, .inl (cZ, 2, .inl (p2 (bI z0) (bI z1)))), (ca, .inl (cZ, 2, .inl (p2 (bI c0) (bI c1))))]) [0, 1, 3, 4] (by decide) rfl
      have hFc := va_free (wc := [(o, .inr (5, [.int th, .ref im, .int (bI tr), .ref rc, .ref bg, .int ro, .ref oa, .ref xa, .ref ya, .ref rg, .ref me, .ref sa, .ref pa, .ref za, .ref ca, .int (bI kp), .ref ta, .ref na])), (rg, .inl (cI, 6, .inl (rg6 a x d b0 b1 b2))), (za, .inl (cZ, 2, .inl (p2 (bI z0) (bI z1)))), (ca, .inl (cZ, 2, .inl (p2 (bI c0) (bI c1))))]) hD hS hA [0, 1, 3, 4] rfl
      refine va_callv (va_runV (As := [.int 1, .int 0, .int (b0 ^^^ (selM j b0 b1 b2))]) (rest := []) ⟨hx, hb, hml, hown, hts⟩ (q_plain10 l D cI cZ o th im tr rc bg ro oa xa ya rg me sa pa za ca kp ta na a x d b0 b1 b2 z0 z1 c0 c1 (b0 ^^^ (selM j b0 b1 b2)) H.size) ⟨cB 3 hts k_865 k_62 k_862 hd_MO_plain ⟨Nat.le_of_ble_eq_true rfl, Nat.le_of_ble_eq_true rfl⟩ rfl rfl, hts _ k_864, hts _ k_47⟩ (PcW.preV (va_recv hK hP (q0 := 0) (ci := 5) rfl rfl) hPc hK hDc hN) rfl rfl hl.1 rfl (lv_room (Nat.le_of_ble_eq_true rfl)) d_MO_works_269 ⟨Nat.le_of_ble_eq_true rfl, Nat.le_of_ble_eq_true rfl⟩) hS (fun q _ h => hFc q h) hFc (fun u t H1 locs ht hvm e269 hB hz1 hk1 hS => ?_)
      obtain ⟨v1269, zz269, cy269⟩ := u
      obtain ⟨hP1, hK1, hD1⟩ := hB
      rw [ht] at hP1
      obtain ⟨hP, hD⟩ := va_join (wr := [(me, .inl (cI, 512, .inl (mm2 g h)))]) (w1 := [(o, .inr (5, [.int th, .ref im, .int (bI tr), .ref rc, .ref bg, .int ro, .ref oa, .ref xa, .ref ya, .ref rg, .ref me, .ref sa, .ref pa, .ref za, .ref ca, .int (bI kp), .ref ta, .ref na])), (rg, .inl (cI, 6, .inl (rg6 a x d v1269 b1 b2))), (za, .inl (cZ, 2, .inl (p2 (bI z0) (bI zz269)))), (ca, .inl (cZ, 2, .inl (p2 (bI c0) (bI cy269))))]) hP hD [0, 1, 3, 4] [2] rfl rfl (by decide) (by decide) hk1 hFc hP1 hD1
      generalize H1 = H at hP hS ⊢
      try dsimp only at e269
      obtain ⟨e269_0, e269_1, e269_2⟩ := e269
      replace e269_0 := e269_0.symm
      subst e269_0
      replace e269_1 := e269_1.symm
      subst e269_1
      replace e269_2 := e269_2.symm
      subst e269_2
      have hP : va_P D vwCl [(me, .inl (cI, 512, .inl (mm2 g h))), (o, .inr (5, [.int th, .ref im, .int (bI tr), .ref rc, .ref bg, .int ro, .ref oa, .ref xa, .ref ya, .ref rg, .ref me, .ref sa, .ref pa, .ref za, .ref ca, .int (bI kp), .ref ta, .ref na])), (rg, .inl (cI, 6, .inl (rg6 a x d ((b0 ^^^ (selM j b0 b1 b2)) &&& 255) b1 b2))), (za, .inl (cZ, 2, .inl (p2 (bI z0) (bI (decide ((b0 ^^^ (selM j b0 b1 b2)) &&& 255 = 0)))))), (ca, .inl (cZ, 2, .inl (p2 (bI c0) (bI false))))] H := hP
      have hD : va_D A [(me, .inl (cI, 512, .inl (mm2 g h))), (o, .inr (5, [.int th, .ref im, .int (bI tr), .ref rc, .ref bg, .int ro, .ref oa, .ref xa, .ref ya, .ref rg, .ref me, .ref sa, .ref pa, .ref za, .ref ca, .int (bI kp), .ref ta, .ref na])), (rg, .inl (cI, 6, .inl (rg6 a x d ((b0 ^^^ (selM j b0 b1 b2)) &&& 255) b1 b2))), (za, .inl (cZ, 2, .inl (p2 (bI z0) (bI (decide ((b0 ^^^ (selM j b0 b1 b2)) &&& 255 = 0)))))), (ca, .inl (cZ, 2, .inl (p2 (bI c0) (bI false))))] := hD
      refine lv_goto (tgt := 302) hx hb d_MO_works_272 rfl ?_
      have hP9 : va_P D vwCl [(o, .inr (5, [.int th, .ref im, .int (bI tr), .ref rc, .ref bg, .int ro, .ref oa, .ref xa, .ref ya, .ref rg, .ref me, .ref sa, .ref pa, .ref za, .ref ca, .int (bI kp), .ref ta, .ref na])), (rg, .inl (cI, 6, .inl (rg6 a x d ((b0 ^^^ (selM j b0 b1 b2)) &&& 255) b1 b2))), (me, .inl (cI, 512, .inl (mm2 g h))), (za, .inl (cZ, 2, .inl (p2 (bI z0) (bI (decide ((b0 ^^^ (selM j b0 b1 b2)) &&& 255 = 0)))))), (ca, .inl (cZ, 2, .inl (p2 (bI c0) (bI false))))] H := hP.sub [1, 2, 0, 3, 4] rfl
      have hD9 : va_D A [(o, .inr (5, [.int th, .ref im, .int (bI tr), .ref rc, .ref bg, .int ro, .ref oa, .ref xa, .ref ya, .ref rg, .ref me, .ref sa, .ref pa, .ref za, .ref ca, .int (bI kp), .ref ta, .ref na])), (rg, .inl (cI, 6, .inl (rg6 a x d ((b0 ^^^ (selM j b0 b1 b2)) &&& 255) b1 b2))), (me, .inl (cI, 512, .inl (mm2 g h))), (za, .inl (cZ, 2, .inl (p2 (bI z0) (bI (decide ((b0 ^^^ (selM j b0 b1 b2)) &&& 255 = 0)))))), (ca, .inl (cZ, 2, .inl (p2 (bI c0) (bI false))))] := hD.sub [1, 2, 0, 3, 4] (by decide) rfl
      exact W.vret hx hb hr (fun t ht hW => ⟨⟨(h, (b0 ^^^ (selM j b0 b1 b2)) &&& 255, b1, b2, decide ((b0 ^^^ (selM j b0 b1 b2)) &&& 255 = 0), false), rfl, by rw [h25]; rfl, by rw [ht]; exact hP9, va_K.moved hW.alike hK, hD9⟩, hS.F ht⟩) hS.2.2 d_MO_works_302
    | 12, _, h25 =>
      have h25 : op = 14 := h25
      refine lv_tableIn (off := 250) (tgt := 275) hx hb d_MO_works_25 (by rw [h25]; decide) (by rw [h25]; decide) (by rw [h25]; rfl) rfl ?_
      refine lv_aload_n hx hb d_MO_works_275 rfl (lv_at hl 2 rfl) ?_
      refine lv_iconst (v := 1) hx hb d_MO_works_276 (by decide) ?_
      refine lv_iload_n hx hb d_MO_works_277 rfl (lv_at hl 4 rfl) ?_
      refine lv_iload hx hb d_MO_works_278 (lv_at hl 0 rfl) ?_
      refine lv_iconst (v := 1) hx hb d_MO_works_280 (by decide) ?_
      have hPc := hP.sub (ws' := [(o, .inr (5, [.int th, .ref im, .int (bI tr), .ref rc, .ref bg, .int ro, .ref oa, .ref xa, .ref ya, .ref rg, .ref me, .ref sa, .ref pa, .ref za, .ref ca, .int (bI kp), .ref ta, .ref na])), (rg, .inl (cI, 6, .inl (rg6 a x d b0 b1 b2))), (za, .inl (cZ, 2, .inl (p2 (bI z0) (bI z1)))), (ca, .inl (cZ, 2, .inl (p2 (bI c0) (bI c1))))]) [0, 1, 3, 4] rfl
      have hDc := hD.sub (ws' := [(o, .inr (5, [.int th, .ref im, .int (bI tr), .ref rc, .ref bg, .int ro, .ref oa, .ref xa, .ref ya, .ref rg, .ref me, .ref sa, .ref pa, .ref za, .ref ca, .int (bI kp), .ref ta, .ref na])), (rg, .inl (cI, 6, .inl (rg6 a x d b0 b1 b2))), (za, .inl (cZ, 2, .inl (p2 (bI z0) (bI z1)))), (ca, .inl (cZ, 2, .inl (p2 (bI c0) (bI c1))))]) [0, 1, 3, 4] (by decide) rfl
      have hFc := va_free (wc := [(o, .inr (5, [.int th, .ref im, .int (bI tr), .ref rc, .ref bg, .int ro, .ref oa, .ref xa, .ref ya, .ref rg, .ref me, .ref sa, .ref pa, .ref za, .ref ca, .int (bI kp), .ref ta, .ref na])), (rg, .inl (cI, 6, .inl (rg6 a x d b0 b1 b2))), (za, .inl (cZ, 2, .inl (p2 (bI z0) (bI z1)))), (ca, .inl (cZ, 2, .inl (p2 (bI c0) (bI c1))))]) hD hS hA [0, 1, 3, 4] rfl
      refine va_callv (va_runV (As := [.int 1, .int 0, .int (selM j b0 b1 b2), .int 1]) (rest := []) ⟨hx, hb, hml, hown, hts⟩ (q_subs10 l D cI cZ o th im tr rc bg ro oa xa ya rg me sa pa za ca kp ta na a x d b0 b1 b2 z0 z1 c0 c1 (selM j b0 b1 b2) true H.size) ⟨cB 4 hts k_861 k_62 k_858 hd_MO_subtracts ⟨Nat.le_of_ble_eq_true rfl, Nat.le_of_ble_eq_true rfl⟩ rfl rfl, hts _ k_860, hts _ k_46⟩ (PcW.preV (va_recv hK hP (q0 := 0) (ci := 5) rfl rfl) hPc hK hDc hN) rfl rfl hl.1 rfl (lv_room (Nat.le_of_ble_eq_true rfl)) d_MO_works_281 ⟨Nat.le_of_ble_eq_true rfl, Nat.le_of_ble_eq_true rfl⟩) hS (fun q _ h => hFc q h) hFc (fun u t H1 locs ht hvm e281 hB hz1 hk1 hS => ?_)
      obtain ⟨v1281, zz281, cy281⟩ := u
      obtain ⟨hP1, hK1, hD1⟩ := hB
      rw [ht] at hP1
      obtain ⟨hP, hD⟩ := va_join (wr := [(me, .inl (cI, 512, .inl (mm2 g h)))]) (w1 := [(o, .inr (5, [.int th, .ref im, .int (bI tr), .ref rc, .ref bg, .int ro, .ref oa, .ref xa, .ref ya, .ref rg, .ref me, .ref sa, .ref pa, .ref za, .ref ca, .int (bI kp), .ref ta, .ref na])), (rg, .inl (cI, 6, .inl (rg6 a x d v1281 b1 b2))), (za, .inl (cZ, 2, .inl (p2 (bI z0) (bI zz281)))), (ca, .inl (cZ, 2, .inl (p2 (bI c0) (bI cy281))))]) hP hD [0, 1, 3, 4] [2] rfl rfl (by decide) (by decide) hk1 hFc hP1 hD1
      generalize H1 = H at hP hS ⊢
      try dsimp only at e281
      obtain ⟨e281_0, e281_1, e281_2⟩ := e281
      replace e281_0 := e281_0.symm
      subst e281_0
      replace e281_1 := e281_1.symm
      subst e281_1
      replace e281_2 := e281_2.symm
      subst e281_2
      have hP : va_P D vwCl [(me, .inl (cI, 512, .inl (mm2 g h))), (o, .inr (5, [.int th, .ref im, .int (bI tr), .ref rc, .ref bg, .int ro, .ref oa, .ref xa, .ref ya, .ref rg, .ref me, .ref sa, .ref pa, .ref za, .ref ca, .int (bI kp), .ref ta, .ref na])), (rg, .inl (cI, 6, .inl (rg6 a x d (if true = true then b0 &&& 255 else (b0 - (selM j b0 b1 b2)) &&& 255) b1 b2))), (za, .inl (cZ, 2, .inl (p2 (bI z0) (bI (decide ((b0 - (selM j b0 b1 b2)) &&& 255 = 0)))))), (ca, .inl (cZ, 2, .inl (p2 (bI c0) (bI (decide (¬ (selM j b0 b1 b2) ≤ b0))))))] H := hP
      have hD : va_D A [(me, .inl (cI, 512, .inl (mm2 g h))), (o, .inr (5, [.int th, .ref im, .int (bI tr), .ref rc, .ref bg, .int ro, .ref oa, .ref xa, .ref ya, .ref rg, .ref me, .ref sa, .ref pa, .ref za, .ref ca, .int (bI kp), .ref ta, .ref na])), (rg, .inl (cI, 6, .inl (rg6 a x d (if true = true then b0 &&& 255 else (b0 - (selM j b0 b1 b2)) &&& 255) b1 b2))), (za, .inl (cZ, 2, .inl (p2 (bI z0) (bI (decide ((b0 - (selM j b0 b1 b2)) &&& 255 = 0)))))), (ca, .inl (cZ, 2, .inl (p2 (bI c0) (bI (decide (¬ (selM j b0 b1 b2) ≤ b0))))))] := hD
      refine lv_goto (tgt := 302) hx hb d_MO_works_284 rfl ?_
      have hP9 : va_P D vwCl [(o, .inr (5, [.int th, .ref im, .int (bI tr), .ref rc, .ref bg, .int ro, .ref oa, .ref xa, .ref ya, .ref rg, .ref me, .ref sa, .ref pa, .ref za, .ref ca, .int (bI kp), .ref ta, .ref na])), (rg, .inl (cI, 6, .inl (rg6 a x d (if true = true then b0 &&& 255 else (b0 - (selM j b0 b1 b2)) &&& 255) b1 b2))), (me, .inl (cI, 512, .inl (mm2 g h))), (za, .inl (cZ, 2, .inl (p2 (bI z0) (bI (decide ((b0 - (selM j b0 b1 b2)) &&& 255 = 0)))))), (ca, .inl (cZ, 2, .inl (p2 (bI c0) (bI (decide (¬ (selM j b0 b1 b2) ≤ b0))))))] H := hP.sub [1, 2, 0, 3, 4] rfl
      have hD9 : va_D A [(o, .inr (5, [.int th, .ref im, .int (bI tr), .ref rc, .ref bg, .int ro, .ref oa, .ref xa, .ref ya, .ref rg, .ref me, .ref sa, .ref pa, .ref za, .ref ca, .int (bI kp), .ref ta, .ref na])), (rg, .inl (cI, 6, .inl (rg6 a x d (if true = true then b0 &&& 255 else (b0 - (selM j b0 b1 b2)) &&& 255) b1 b2))), (me, .inl (cI, 512, .inl (mm2 g h))), (za, .inl (cZ, 2, .inl (p2 (bI z0) (bI (decide ((b0 - (selM j b0 b1 b2)) &&& 255 = 0)))))), (ca, .inl (cZ, 2, .inl (p2 (bI c0) (bI (decide (¬ (selM j b0 b1 b2) ≤ b0))))))] := hD.sub [1, 2, 0, 3, 4] (by decide) rfl
      exact W.vret hx hb hr (fun t ht hW => ⟨⟨(h, if true = true then b0 &&& 255 else (b0 - (selM j b0 b1 b2)) &&& 255, b1, b2, decide ((b0 - (selM j b0 b1 b2)) &&& 255 = 0), decide (¬ (selM j b0 b1 b2) ≤ b0)), rfl, by rw [h25]; rfl, by rw [ht]; exact hP9, va_K.moved hW.alike hK, hD9⟩, hS.F ht⟩) hS.2.2 d_MO_works_302
    | 13, _, h25 =>
      have h25 : op = 15 := h25
      refine lv_tableIn (off := 262) (tgt := 287) hx hb d_MO_works_25 (by rw [h25]; decide) (by rw [h25]; decide) (by rw [h25]; rfl) rfl ?_
      refine lv_aload_n hx hb d_MO_works_287 rfl (lv_at hl 2 rfl) ?_
      refine lv_iconst (v := 1) hx hb d_MO_works_288 (by decide) ?_
      refine lv_iload_n hx hb d_MO_works_289 rfl (lv_at hl 4 rfl) ?_
      have hPc := hP.sub (ws' := [(o, .inr (5, [.int th, .ref im, .int (bI tr), .ref rc, .ref bg, .int ro, .ref oa, .ref xa, .ref ya, .ref rg, .ref me, .ref sa, .ref pa, .ref za, .ref ca, .int (bI kp), .ref ta, .ref na])), (rg, .inl (cI, 6, .inl (rg6 a x d b0 b1 b2))), (za, .inl (cZ, 2, .inl (p2 (bI z0) (bI z1)))), (ca, .inl (cZ, 2, .inl (p2 (bI c0) (bI c1))))]) [0, 1, 3, 4] rfl
      have hDc := hD.sub (ws' := [(o, .inr (5, [.int th, .ref im, .int (bI tr), .ref rc, .ref bg, .int ro, .ref oa, .ref xa, .ref ya, .ref rg, .ref me, .ref sa, .ref pa, .ref za, .ref ca, .int (bI kp), .ref ta, .ref na])), (rg, .inl (cI, 6, .inl (rg6 a x d b0 b1 b2))), (za, .inl (cZ, 2, .inl (p2 (bI z0) (bI z1)))), (ca, .inl (cZ, 2, .inl (p2 (bI c0) (bI c1))))]) [0, 1, 3, 4] (by decide) rfl
      have hFc := va_free (wc := [(o, .inr (5, [.int th, .ref im, .int (bI tr), .ref rc, .ref bg, .int ro, .ref oa, .ref xa, .ref ya, .ref rg, .ref me, .ref sa, .ref pa, .ref za, .ref ca, .int (bI kp), .ref ta, .ref na])), (rg, .inl (cI, 6, .inl (rg6 a x d b0 b1 b2))), (za, .inl (cZ, 2, .inl (p2 (bI z0) (bI z1)))), (ca, .inl (cZ, 2, .inl (p2 (bI c0) (bI c1))))]) hD hS hA [0, 1, 3, 4] rfl
      refine va_callv (va_runV (As := [.int 1, .int 0]) (rest := []) ⟨hx, hb, hml, hown, hts⟩ (q_dbl10 l D cI cZ o th im tr rc bg ro oa xa ya rg me sa pa za ca kp ta na a x d b0 b1 b2 z0 z1 c0 c1 H.size) ⟨cB 2 hts k_869 k_62 k_866 hd_MO_doubles ⟨Nat.le_of_ble_eq_true rfl, Nat.le_of_ble_eq_true rfl⟩ rfl rfl, hts _ k_868, hts _ k_48⟩ (PcW.preV (va_recv hK hP (q0 := 0) (ci := 5) rfl rfl) hPc hK hDc hN) rfl rfl hl.1 rfl (lv_room (Nat.le_of_ble_eq_true rfl)) d_MO_works_290 ⟨Nat.le_of_ble_eq_true rfl, Nat.le_of_ble_eq_true rfl⟩) hS (fun q _ h => hFc q h) hFc (fun u t H1 locs ht hvm e290 hB hz1 hk1 hS => ?_)
      obtain ⟨v1290, zz290, cy290⟩ := u
      obtain ⟨hP1, hK1, hD1⟩ := hB
      rw [ht] at hP1
      obtain ⟨hP, hD⟩ := va_join (wr := [(me, .inl (cI, 512, .inl (mm2 g h)))]) (w1 := [(o, .inr (5, [.int th, .ref im, .int (bI tr), .ref rc, .ref bg, .int ro, .ref oa, .ref xa, .ref ya, .ref rg, .ref me, .ref sa, .ref pa, .ref za, .ref ca, .int (bI kp), .ref ta, .ref na])), (rg, .inl (cI, 6, .inl (rg6 a x d v1290 b1 b2))), (za, .inl (cZ, 2, .inl (p2 (bI z0) (bI zz290)))), (ca, .inl (cZ, 2, .inl (p2 (bI c0) (bI cy290))))]) hP hD [0, 1, 3, 4] [2] rfl rfl (by decide) (by decide) hk1 hFc hP1 hD1
      generalize H1 = H at hP hS ⊢
      try dsimp only at e290
      obtain ⟨e290_0, e290_1, e290_2⟩ := e290
      replace e290_0 := e290_0.symm
      subst e290_0
      replace e290_1 := e290_1.symm
      subst e290_1
      replace e290_2 := e290_2.symm
      subst e290_2
      have hP : va_P D vwCl [(me, .inl (cI, 512, .inl (mm2 g h))), (o, .inr (5, [.int th, .ref im, .int (bI tr), .ref rc, .ref bg, .int ro, .ref oa, .ref xa, .ref ya, .ref rg, .ref me, .ref sa, .ref pa, .ref za, .ref ca, .int (bI kp), .ref ta, .ref na])), (rg, .inl (cI, 6, .inl (rg6 a x d ((2 * b0) &&& 255) b1 b2))), (za, .inl (cZ, 2, .inl (p2 (bI z0) (bI (decide ((2 * b0) &&& 255 = 0)))))), (ca, .inl (cZ, 2, .inl (p2 (bI c0) (bI (decide (¬ b0 ≤ 127))))))] H := hP
      have hD : va_D A [(me, .inl (cI, 512, .inl (mm2 g h))), (o, .inr (5, [.int th, .ref im, .int (bI tr), .ref rc, .ref bg, .int ro, .ref oa, .ref xa, .ref ya, .ref rg, .ref me, .ref sa, .ref pa, .ref za, .ref ca, .int (bI kp), .ref ta, .ref na])), (rg, .inl (cI, 6, .inl (rg6 a x d ((2 * b0) &&& 255) b1 b2))), (za, .inl (cZ, 2, .inl (p2 (bI z0) (bI (decide ((2 * b0) &&& 255 = 0)))))), (ca, .inl (cZ, 2, .inl (p2 (bI c0) (bI (decide (¬ b0 ≤ 127))))))] := hD
      refine lv_goto (tgt := 302) hx hb d_MO_works_293 rfl ?_
      have hP9 : va_P D vwCl [(o, .inr (5, [.int th, .ref im, .int (bI tr), .ref rc, .ref bg, .int ro, .ref oa, .ref xa, .ref ya, .ref rg, .ref me, .ref sa, .ref pa, .ref za, .ref ca, .int (bI kp), .ref ta, .ref na])), (rg, .inl (cI, 6, .inl (rg6 a x d ((2 * b0) &&& 255) b1 b2))), (me, .inl (cI, 512, .inl (mm2 g h))), (za, .inl (cZ, 2, .inl (p2 (bI z0) (bI (decide ((2 * b0) &&& 255 = 0)))))), (ca, .inl (cZ, 2, .inl (p2 (bI c0) (bI (decide (¬ b0 ≤ 127))))))] H := hP.sub [1, 2, 0, 3, 4] rfl
      have hD9 : va_D A [(o, .inr (5, [.int th, .ref im, .int (bI tr), .ref rc, .ref bg, .int ro, .ref oa, .ref xa, .ref ya, .ref rg, .ref me, .ref sa, .ref pa, .ref za, .ref ca, .int (bI kp), .ref ta, .ref na])), (rg, .inl (cI, 6, .inl (rg6 a x d ((2 * b0) &&& 255) b1 b2))), (me, .inl (cI, 512, .inl (mm2 g h))), (za, .inl (cZ, 2, .inl (p2 (bI z0) (bI (decide ((2 * b0) &&& 255 = 0)))))), (ca, .inl (cZ, 2, .inl (p2 (bI c0) (bI (decide (¬ b0 ≤ 127))))))] := hD.sub [1, 2, 0, 3, 4] (by decide) rfl
      exact W.vret hx hb hr (fun t ht hW => ⟨⟨(h, (2 * b0) &&& 255, b1, b2, decide ((2 * b0) &&& 255 = 0), decide (¬ b0 ≤ 127)), rfl, by rw [h25]; rfl, by rw [ht]; exact hP9, va_K.moved hW.alike hK, hD9⟩, hS.F ht⟩) hS.2.2 d_MO_works_302
    | n + 14, h9, _ => exact absurd h9 (by omega)
set_option maxHeartbeats 4000000 in
set_option maxRecDepth 100000 in
theorem q_works1 (l : Launch) (D : va_G) (cI cZ : ClassId) (o : Nat) (th : Int32) (im : Nat) (tr : Bool) (rc : Nat) (bg : Nat) (ro : Int32) (oa : Nat) (xa : Nat) (ya : Nat) (rg : Nat) (me : Nat) (sa : Nat) (pa : Nat) (za : Nat) (ca : Nat) (kp : Bool) (ta : Nat) (na : Nat) (a : Int32) (x : Int32) (d : Int32) (b0 : Int32) (b1 : Int32) (b2 : Int32) (g : Nat → Int32) (h : Nat → Int32) (z0 : Bool) (z1 : Bool) (c0 : Bool) (c1 : Bool) (op : Int32) (j : Int32) (sz : Nat) : MetV l y_MO_works w_MO_works { frames := 3, cells := 0, slots := 0, locals := 71 } D cI cZ [.ref o, .int op, .int 1, .int j] [(o, .inr (5, [.int th, .ref im, .int (bI tr), .ref rc, .ref bg, .int ro, .ref oa, .ref xa, .ref ya, .ref rg, .ref me, .ref sa, .ref pa, .ref za, .ref ca, .int (bI kp), .ref ta, .ref na])), (rg, .inl (cI, 6, .inl (rg6 a x d b0 b1 b2))), (me, .inl (cI, 512, .inl (mm2 g h))), (za, .inl (cZ, 2, .inl (p2 (bI z0) (bI z1)))), (ca, .inl (cZ, 2, .inl (p2 (bI c0) (bI c1))))] sz (fun (u : (Nat → Int32) × Int32 × Int32 × Int32 × Bool × Bool) => match u with | (h1, v0, v1, v2, zz, cy) => (h1, v0, v1, v2, zz, cy) = mWork op 1 j h b0 b1 b2 z1 c1) (fun (u : (Nat → Int32) × Int32 × Int32 × Int32 × Bool × Bool) => match u with | (h1, v0, v1, v2, zz, cy) => [(o, .inr (5, [.int th, .ref im, .int (bI tr), .ref rc, .ref bg, .int ro, .ref oa, .ref xa, .ref ya, .ref rg, .ref me, .ref sa, .ref pa, .ref za, .ref ca, .int (bI kp), .ref ta, .ref na])), (rg, .inl (cI, 6, .inl (rg6 a x d v0 v1 v2))), (me, .inl (cI, 512, .inl (mm2 g h1))), (za, .inl (cZ, 2, .inl (p2 (bI z0) (bI zz)))), (ca, .inl (cZ, 2, .inl (p2 (bI c0) (bI cy))))]) 0 0 := by
  refine ofV (cc := c_MO_works) (maxL := 6) (ret := none) (by decide) rfl (Nat.le_of_ble_eq_true rfl) ?_
  intro p e s m args below meth c A H hH0 hx hb hr hlocks hts hown hnm hml ls hl hP hK hD hA hS hN
  have hown : s.vm.findClass R_MO = some m.cls := hown
  have hl : lv_has ls 6 [(0, .ref o), (1, .int op), (2, .int 1), (3, .int j)] := hl
  refine lv_aload_n hx hb d_MO_works_0 rfl (lv_at hl 0 rfl) ?_
  refine va_get (D := D) (ci := 5) (v := .ref rg) (C := R_MO) (T := T_MO) (N := 18) hx hb hts iw_MO hown hK hP 0 rfl rfl 9 (by decide) (hts _ k_704) (fun _ h9 => h9) rfl d_MO_works_1 ?_
  refine lv_iconst (v := 3) hx hb d_MO_works_4 (by decide) ?_
  refine lv_iload_n hx hb d_MO_works_5 rfl (lv_at hl 2 rfl) ?_
  refine lv_iadd hx hb d_MO_works_6 ?_
  refine va_iald hx hb hK hP 1 0 rfl rfl (vp_in_nI (n := 4) (by decide) (by decide)) d_MO_works_7 ?_
  refine lv_istore hx hb d_MO_works_8 hl (by decide) rfl (fun ls hl => ?_)
  have hl : lv_has ls 6 [(4, .int b1), (0, .ref o), (1, .int op), (2, .int 1), (3, .int j)] := hl
  refine lv_aload_n hx hb d_MO_works_10 rfl (lv_at hl 1 rfl) ?_
  refine va_get (D := D) (ci := 5) (v := .ref rg) (C := R_MO) (T := T_MO) (N := 18) hx hb hts iw_MO hown hK hP 0 rfl rfl 9 (by decide) (hts _ k_704) (fun _ h9 => h9) rfl d_MO_works_11 ?_
  refine lv_iconst (v := 3) hx hb d_MO_works_14 (by decide) ?_
  refine lv_iload_n hx hb d_MO_works_15 rfl (lv_at hl 4 rfl) ?_
  refine lv_iconst (v := 3) hx hb d_MO_works_16 (by decide) ?_
  refine lv_iand hx hb d_MO_works_17 ?_
  refine lv_iconst (v := 3) hx hb d_MO_works_18 (by decide) ?_
  refine lv_irem hx hb d_MO_works_19 (by decide) ?_
  refine lv_iadd hx hb d_MO_works_20 ?_
  refine va_iald hx hb hK hP 1 0 rfl rfl (selM_in _) d_MO_works_21 ?_
  refine lv_topi (fun y9 e9 => ?_)
  have e9 : y9 = selM j b0 b1 b2 := e9.trans (selM_eq _ _ _ _ _ _ _)
  subst e9
  refine lv_istore hx hb d_MO_works_22 hl (by decide) rfl (fun ls hl => ?_)
  have hl : lv_has ls 6 [(5, .int (selM j b0 b1 b2)), (4, .int b1), (0, .ref o), (1, .int op), (2, .int 1), (3, .int j)] := hl
  refine lv_iload_n hx hb d_MO_works_24 rfl (lv_at hl 3 rfl) ?_
  rcases sw_cases op 2 14 with h25 | ⟨j25, hj25, h25⟩
  · refine lv_tableOut (tgt := 296) hx hb d_MO_works_25 h25 rfl ?_
    have n25_2 : ¬ op = 2 := fun h9 => by rw [h9] at h25; revert h25; decide
    have n25_3 : ¬ op = 3 := fun h9 => by rw [h9] at h25; revert h25; decide
    have n25_4 : ¬ op = 4 := fun h9 => by rw [h9] at h25; revert h25; decide
    have n25_5 : ¬ op = 5 := fun h9 => by rw [h9] at h25; revert h25; decide
    have n25_6 : ¬ op = 6 := fun h9 => by rw [h9] at h25; revert h25; decide
    have n25_7 : ¬ op = 7 := fun h9 => by rw [h9] at h25; revert h25; decide
    have n25_8 : ¬ op = 8 := fun h9 => by rw [h9] at h25; revert h25; decide
    have n25_9 : ¬ op = 9 := fun h9 => by rw [h9] at h25; revert h25; decide
    have n25_10 : ¬ op = 10 := fun h9 => by rw [h9] at h25; revert h25; decide
    have n25_11 : ¬ op = 11 := fun h9 => by rw [h9] at h25; revert h25; decide
    have n25_12 : ¬ op = 12 := fun h9 => by rw [h9] at h25; revert h25; decide
    have n25_13 : ¬ op = 13 := fun h9 => by rw [h9] at h25; revert h25; decide
    have n25_14 : ¬ op = 14 := fun h9 => by rw [h9] at h25; revert h25; decide
    have n25_15 : ¬ op = 15 := fun h9 => by rw [h9] at h25; revert h25; decide
    refine lv_aload_n hx hb d_MO_works_296 rfl (lv_at hl 2 rfl) ?_
    refine lv_iconst (v := 1) hx hb d_MO_works_297 (by decide) ?_
    refine lv_iload_n hx hb d_MO_works_298 rfl (lv_at hl 4 rfl) ?_
    have hPc := hP.sub (ws' := [(o, .inr (5, [.int th, .ref im, .int (bI tr), .ref rc, .ref bg, .int ro, .ref oa, .ref xa, .ref ya, .ref rg, .ref me, .ref sa, .ref pa, .ref za, .ref ca, .int (bI kp), .ref ta, .ref na])), (rg, .inl (cI, 6, .inl (rg6 a x d b0 b1 b2))), (za, .inl (cZ, 2, .inl (p2 (bI z0) (bI z1)))), (ca, .inl (cZ, 2, .inl (p2 (bI c0) (bI c1))))]) [0, 1, 3, 4] rfl
    have hDc := hD.sub (ws' := [(o, .inr (5, [.int th, .ref im, .int (bI tr), .ref rc, .ref bg, .int ro, .ref oa, .ref xa, .ref ya, .ref rg, .ref me, .ref sa, .ref pa, .ref za, .ref ca, .int (bI kp), .ref ta, .ref na])), (rg, .inl (cI, 6, .inl (rg6 a x d b0 b1 b2))), (za, .inl (cZ, 2, .inl (p2 (bI z0) (bI z1)))), (ca, .inl (cZ, 2, .inl (p2 (bI c0) (bI c1))))]) [0, 1, 3, 4] (by decide) rfl
    have hFc := va_free (wc := [(o, .inr (5, [.int th, .ref im, .int (bI tr), .ref rc, .ref bg, .int ro, .ref oa, .ref xa, .ref ya, .ref rg, .ref me, .ref sa, .ref pa, .ref za, .ref ca, .int (bI kp), .ref ta, .ref na])), (rg, .inl (cI, 6, .inl (rg6 a x d b0 b1 b2))), (za, .inl (cZ, 2, .inl (p2 (bI z0) (bI z1)))), (ca, .inl (cZ, 2, .inl (p2 (bI c0) (bI c1))))]) hD hS hA [0, 1, 3, 4] rfl
    refine va_callv (va_runV (As := [.int 1, .int 1]) (rest := []) ⟨hx, hb, hml, hown, hts⟩ (q_hlv11 l D cI cZ o th im tr rc bg ro oa xa ya rg me sa pa za ca kp ta na a x d b0 b1 b2 z0 z1 c0 c1 H.size) ⟨cB 2 hts k_873 k_62 k_870 hd_MO_halves ⟨Nat.le_of_ble_eq_true rfl, Nat.le_of_ble_eq_true rfl⟩ rfl rfl, hts _ k_872, hts _ k_49⟩ (PcW.preV (va_recv hK hP (q0 := 0) (ci := 5) rfl rfl) hPc hK hDc hN) rfl rfl hl.1 rfl (lv_room (Nat.le_of_ble_eq_true rfl)) d_MO_works_299 ⟨Nat.le_of_ble_eq_true rfl, Nat.le_of_ble_eq_true rfl⟩) hS (fun q _ h => hFc q h) hFc (fun u t H1 locs ht hvm e299 hB hz1 hk1 hS => ?_)
    obtain ⟨v1299, zz299, cy299⟩ := u
    obtain ⟨hP1, hK1, hD1⟩ := hB
    rw [ht] at hP1
    obtain ⟨hP, hD⟩ := va_join (wr := [(me, .inl (cI, 512, .inl (mm2 g h)))]) (w1 := [(o, .inr (5, [.int th, .ref im, .int (bI tr), .ref rc, .ref bg, .int ro, .ref oa, .ref xa, .ref ya, .ref rg, .ref me, .ref sa, .ref pa, .ref za, .ref ca, .int (bI kp), .ref ta, .ref na])), (rg, .inl (cI, 6, .inl (rg6 a x d b0 v1299 b2))), (za, .inl (cZ, 2, .inl (p2 (bI z0) (bI zz299)))), (ca, .inl (cZ, 2, .inl (p2 (bI c0) (bI cy299))))]) hP hD [0, 1, 3, 4] [2] rfl rfl (by decide) (by decide) hk1 hFc hP1 hD1
    generalize H1 = H at hP hS ⊢
    try dsimp only at e299
    obtain ⟨e299_0, e299_1, e299_2⟩ := e299
    replace e299_0 := e299_0.symm
    subst e299_0
    replace e299_1 := e299_1.symm
    subst e299_1
    replace e299_2 := e299_2.symm
    subst e299_2
    have hP : va_P D vwCl [(me, .inl (cI, 512, .inl (mm2 g h))), (o, .inr (5, [.int th, .ref im, .int (bI tr), .ref rc, .ref bg, .int ro, .ref oa, .ref xa, .ref ya, .ref rg, .ref me, .ref sa, .ref pa, .ref za, .ref ca, .int (bI kp), .ref ta, .ref na])), (rg, .inl (cI, 6, .inl (rg6 a x d b0 ((b1 / 2) &&& 255) b2))), (za, .inl (cZ, 2, .inl (p2 (bI z0) (bI (decide ((b1 / 2) &&& 255 = 0)))))), (ca, .inl (cZ, 2, .inl (p2 (bI c0) (bI (decide (b1 - b1 / 2 * 2 = 1))))))] H := hP
    have hD : va_D A [(me, .inl (cI, 512, .inl (mm2 g h))), (o, .inr (5, [.int th, .ref im, .int (bI tr), .ref rc, .ref bg, .int ro, .ref oa, .ref xa, .ref ya, .ref rg, .ref me, .ref sa, .ref pa, .ref za, .ref ca, .int (bI kp), .ref ta, .ref na])), (rg, .inl (cI, 6, .inl (rg6 a x d b0 ((b1 / 2) &&& 255) b2))), (za, .inl (cZ, 2, .inl (p2 (bI z0) (bI (decide ((b1 / 2) &&& 255 = 0)))))), (ca, .inl (cZ, 2, .inl (p2 (bI c0) (bI (decide (b1 - b1 / 2 * 2 = 1))))))] := hD
    have hP9 : va_P D vwCl [(o, .inr (5, [.int th, .ref im, .int (bI tr), .ref rc, .ref bg, .int ro, .ref oa, .ref xa, .ref ya, .ref rg, .ref me, .ref sa, .ref pa, .ref za, .ref ca, .int (bI kp), .ref ta, .ref na])), (rg, .inl (cI, 6, .inl (rg6 a x d b0 ((b1 / 2) &&& 255) b2))), (me, .inl (cI, 512, .inl (mm2 g h))), (za, .inl (cZ, 2, .inl (p2 (bI z0) (bI (decide ((b1 / 2) &&& 255 = 0)))))), (ca, .inl (cZ, 2, .inl (p2 (bI c0) (bI (decide (b1 - b1 / 2 * 2 = 1))))))] H := hP.sub [1, 2, 0, 3, 4] rfl
    have hD9 : va_D A [(o, .inr (5, [.int th, .ref im, .int (bI tr), .ref rc, .ref bg, .int ro, .ref oa, .ref xa, .ref ya, .ref rg, .ref me, .ref sa, .ref pa, .ref za, .ref ca, .int (bI kp), .ref ta, .ref na])), (rg, .inl (cI, 6, .inl (rg6 a x d b0 ((b1 / 2) &&& 255) b2))), (me, .inl (cI, 512, .inl (mm2 g h))), (za, .inl (cZ, 2, .inl (p2 (bI z0) (bI (decide ((b1 / 2) &&& 255 = 0)))))), (ca, .inl (cZ, 2, .inl (p2 (bI c0) (bI (decide (b1 - b1 / 2 * 2 = 1))))))] := hD.sub [1, 2, 0, 3, 4] (by decide) rfl
    exact W.vret hx hb hr (fun t ht hW => ⟨⟨(h, b0, (b1 / 2) &&& 255, b2, decide ((b1 / 2) &&& 255 = 0), decide (b1 - b1 / 2 * 2 = 1)), rfl, by rw [mWork, if_neg n25_2, if_neg n25_3, if_neg n25_4, if_neg n25_5, if_neg n25_6, if_neg n25_7, if_neg n25_8, if_neg n25_9, if_neg n25_10, if_neg n25_11, if_neg n25_12, if_neg n25_13, if_neg n25_14, if_neg n25_15]; rfl, by rw [ht]; exact hP9, va_K.moved hW.alike hK, hD9⟩, hS.F ht⟩) hS.2.2 d_MO_works_302
  · match j25, hj25, h25 with
    | 0, _, h25 =>
      have h25 : op = 2 := h25
      refine lv_tableIn (off := 71) (tgt := 96) hx hb d_MO_works_25 (by rw [h25]; decide) (by rw [h25]; decide) (by rw [h25]; rfl) rfl ?_
      refine lv_aload_n hx hb d_MO_works_96 rfl (lv_at hl 2 rfl) ?_
      refine lv_iconst (v := 1) hx hb d_MO_works_97 (by decide) ?_
      refine lv_iload_n hx hb d_MO_works_98 rfl (lv_at hl 4 rfl) ?_
      refine lv_iload_n hx hb d_MO_works_99 rfl (lv_at hl 5 rfl) ?_
      have hPc := hP.sub (ws' := [(o, .inr (5, [.int th, .ref im, .int (bI tr), .ref rc, .ref bg, .int ro, .ref oa, .ref xa, .ref ya, .ref rg, .ref me, .ref sa, .ref pa, .ref za, .ref ca, .int (bI kp), .ref ta, .ref na])), (rg, .inl (cI, 6, .inl (rg6 a x d b0 b1 b2)))]) [0, 1] rfl
      have hDc := hD.sub (ws' := [(o, .inr (5, [.int th, .ref im, .int (bI tr), .ref rc, .ref bg, .int ro, .ref oa, .ref xa, .ref ya, .ref rg, .ref me, .ref sa, .ref pa, .ref za, .ref ca, .int (bI kp), .ref ta, .ref na])), (rg, .inl (cI, 6, .inl (rg6 a x d b0 b1 b2)))]) [0, 1] (by decide) rfl
      have hFc := va_free (wc := [(o, .inr (5, [.int th, .ref im, .int (bI tr), .ref rc, .ref bg, .int ro, .ref oa, .ref xa, .ref ya, .ref rg, .ref me, .ref sa, .ref pa, .ref za, .ref ca, .int (bI kp), .ref ta, .ref na])), (rg, .inl (cI, 6, .inl (rg6 a x d b0 b1 b2)))]) hD hS hA [0, 1] rfl
      refine va_callv (va_runV (As := [.int 1, .int 1, .int j]) (rest := []) ⟨hx, hb, hml, hown, hts⟩ (q_set11 l D cI cZ o th im tr rc bg ro oa xa ya rg me sa pa za ca kp ta na a x d b0 b1 b2 j H.size) ⟨cB 3 hts k_849 k_62 k_846 hd_MO_set ⟨Nat.le_of_ble_eq_true rfl, Nat.le_of_ble_eq_true rfl⟩ rfl rfl, hts _ k_848, hts _ k_43⟩ (PcW.preV (va_recv hK hP (q0 := 0) (ci := 5) rfl rfl) hPc hK hDc hN) rfl rfl hl.1 rfl (lv_room (Nat.le_of_ble_eq_true rfl)) d_MO_works_100 ⟨Nat.le_of_ble_eq_true rfl, Nat.le_of_ble_eq_true rfl⟩) hS (fun q _ h => hFc q h) hFc (fun u t H1 locs ht hvm e100 hB hz1 hk1 hS => ?_)
      obtain ⟨v1100, rfl⟩ : ∃ z, z = u := ⟨_, rfl⟩
      obtain ⟨hP1, hK1, hD1⟩ := hB
      rw [ht] at hP1
      obtain ⟨hP, hD⟩ := va_join (wr := [(me, .inl (cI, 512, .inl (mm2 g h))), (za, .inl (cZ, 2, .inl (p2 (bI z0) (bI z1)))), (ca, .inl (cZ, 2, .inl (p2 (bI c0) (bI c1))))]) (w1 := [(o, .inr (5, [.int th, .ref im, .int (bI tr), .ref rc, .ref bg, .int ro, .ref oa, .ref xa, .ref ya, .ref rg, .ref me, .ref sa, .ref pa, .ref za, .ref ca, .int (bI kp), .ref ta, .ref na])), (rg, .inl (cI, 6, .inl (rg6 a x d b0 v1100 b2)))]) hP hD [0, 1] [2, 3, 4] rfl rfl (by decide) (by decide) hk1 hFc hP1 hD1
      generalize H1 = H at hP hS ⊢
      try dsimp only at e100
      have e100_0 := e100
      replace e100_0 := e100_0.symm
      subst e100_0
      have hP : va_P D vwCl [(me, .inl (cI, 512, .inl (mm2 g h))), (za, .inl (cZ, 2, .inl (p2 (bI z0) (bI z1)))), (ca, .inl (cZ, 2, .inl (p2 (bI c0) (bI c1)))), (o, .inr (5, [.int th, .ref im, .int (bI tr), .ref rc, .ref bg, .int ro, .ref oa, .ref xa, .ref ya, .ref rg, .ref me, .ref sa, .ref pa, .ref za, .ref ca, .int (bI kp), .ref ta, .ref na])), (rg, .inl (cI, 6, .inl (rg6 a x d b0 (j &&& 255) b2)))] H := hP
      have hD : va_D A [(me, .inl (cI, 512, .inl (mm2 g h))), (za, .inl (cZ, 2, .inl (p2 (bI z0) (bI z1)))), (ca, .inl (cZ, 2, .inl (p2 (bI c0) (bI c1)))), (o, .inr (5, [.int th, .ref im, .int (bI tr), .ref rc, .ref bg, .int ro, .ref oa, .ref xa, .ref ya, .ref rg, .ref me, .ref sa, .ref pa, .ref za, .ref ca, .int (bI kp), .ref ta, .ref na])), (rg, .inl (cI, 6, .inl (rg6 a x d b0 (j &&& 255) b2)))] := hD
      refine lv_goto (tgt := 302) hx hb d_MO_works_103 rfl ?_
      have hP9 : va_P D vwCl [(o, .inr (5, [.int th, .ref im, .int (bI tr), .ref rc, .ref bg, .int ro, .ref oa, .ref xa, .ref ya, .ref rg, .ref me, .ref sa, .ref pa, .ref za, .ref ca, .int (bI kp), .ref ta, .ref na])), (rg, .inl (cI, 6, .inl (rg6 a x d b0 (j &&& 255) b2))), (me, .inl (cI, 512, .inl (mm2 g h))), (za, .inl (cZ, 2, .inl (p2 (bI z0) (bI z1)))), (ca, .inl (cZ, 2, .inl (p2 (bI c0) (bI c1))))] H := hP.sub [3, 4, 0, 1, 2] rfl
      have hD9 : va_D A [(o, .inr (5, [.int th, .ref im, .int (bI tr), .ref rc, .ref bg, .int ro, .ref oa, .ref xa, .ref ya, .ref rg, .ref me, .ref sa, .ref pa, .ref za, .ref ca, .int (bI kp), .ref ta, .ref na])), (rg, .inl (cI, 6, .inl (rg6 a x d b0 (j &&& 255) b2))), (me, .inl (cI, 512, .inl (mm2 g h))), (za, .inl (cZ, 2, .inl (p2 (bI z0) (bI z1)))), (ca, .inl (cZ, 2, .inl (p2 (bI c0) (bI c1))))] := hD.sub [3, 4, 0, 1, 2] (by decide) rfl
      exact W.vret hx hb hr (fun t ht hW => ⟨⟨(h, b0, j &&& 255, b2, z1, c1), rfl, by rw [h25]; rfl, by rw [ht]; exact hP9, va_K.moved hW.alike hK, hD9⟩, hS.F ht⟩) hS.2.2 d_MO_works_302
    | 1, _, h25 =>
      have h25 : op = 3 := h25
      refine lv_tableIn (off := 81) (tgt := 106) hx hb d_MO_works_25 (by rw [h25]; decide) (by rw [h25]; decide) (by rw [h25]; rfl) rfl ?_
      refine lv_aload_n hx hb d_MO_works_106 rfl (lv_at hl 2 rfl) ?_
      refine lv_iconst (v := 1) hx hb d_MO_works_107 (by decide) ?_
      refine lv_iload_n hx hb d_MO_works_108 rfl (lv_at hl 4 rfl) ?_
      refine lv_iload hx hb d_MO_works_109 (lv_at hl 0 rfl) ?_
      have hPc := hP.sub (ws' := [(o, .inr (5, [.int th, .ref im, .int (bI tr), .ref rc, .ref bg, .int ro, .ref oa, .ref xa, .ref ya, .ref rg, .ref me, .ref sa, .ref pa, .ref za, .ref ca, .int (bI kp), .ref ta, .ref na])), (rg, .inl (cI, 6, .inl (rg6 a x d b0 b1 b2)))]) [0, 1] rfl
      have hDc := hD.sub (ws' := [(o, .inr (5, [.int th, .ref im, .int (bI tr), .ref rc, .ref bg, .int ro, .ref oa, .ref xa, .ref ya, .ref rg, .ref me, .ref sa, .ref pa, .ref za, .ref ca, .int (bI kp), .ref ta, .ref na])), (rg, .inl (cI, 6, .inl (rg6 a x d b0 b1 b2)))]) [0, 1] (by decide) rfl
      have hFc := va_free (wc := [(o, .inr (5, [.int th, .ref im, .int (bI tr), .ref rc, .ref bg, .int ro, .ref oa, .ref xa, .ref ya, .ref rg, .ref me, .ref sa, .ref pa, .ref za, .ref ca, .int (bI kp), .ref ta, .ref na])), (rg, .inl (cI, 6, .inl (rg6 a x d b0 b1 b2)))]) hD hS hA [0, 1] rfl
      refine va_callv (va_runV (As := [.int 1, .int 1, .int (selM j b0 b1 b2)]) (rest := []) ⟨hx, hb, hml, hown, hts⟩ (q_set11 l D cI cZ o th im tr rc bg ro oa xa ya rg me sa pa za ca kp ta na a x d b0 b1 b2 (selM j b0 b1 b2) H.size) ⟨cB 3 hts k_849 k_62 k_846 hd_MO_set ⟨Nat.le_of_ble_eq_true rfl, Nat.le_of_ble_eq_true rfl⟩ rfl rfl, hts _ k_848, hts _ k_43⟩ (PcW.preV (va_recv hK hP (q0 := 0) (ci := 5) rfl rfl) hPc hK hDc hN) rfl rfl hl.1 rfl (lv_room (Nat.le_of_ble_eq_true rfl)) d_MO_works_111 ⟨Nat.le_of_ble_eq_true rfl, Nat.le_of_ble_eq_true rfl⟩) hS (fun q _ h => hFc q h) hFc (fun u t H1 locs ht hvm e111 hB hz1 hk1 hS => ?_)
      obtain ⟨v1111, rfl⟩ : ∃ z, z = u := ⟨_, rfl⟩
      obtain ⟨hP1, hK1, hD1⟩ := hB
      rw [ht] at hP1
      obtain ⟨hP, hD⟩ := va_join (wr := [(me, .inl (cI, 512, .inl (mm2 g h))), (za, .inl (cZ, 2, .inl (p2 (bI z0) (bI z1)))), (ca, .inl (cZ, 2, .inl (p2 (bI c0) (bI c1))))]) (w1 := [(o, .inr (5, [.int th, .ref im, .int (bI tr), .ref rc, .ref bg, .int ro, .ref oa, .ref xa, .ref ya, .ref rg, .ref me, .ref sa, .ref pa, .ref za, .ref ca, .int (bI kp), .ref ta, .ref na])), (rg, .inl (cI, 6, .inl (rg6 a x d b0 v1111 b2)))]) hP hD [0, 1] [2, 3, 4] rfl rfl (by decide) (by decide) hk1 hFc hP1 hD1
      generalize H1 = H at hP hS ⊢
      try dsimp only at e111
      have e111_0 := e111
      replace e111_0 := e111_0.symm
      subst e111_0
      have hP : va_P D vwCl [(me, .inl (cI, 512, .inl (mm2 g h))), (za, .inl (cZ, 2, .inl (p2 (bI z0) (bI z1)))), (ca, .inl (cZ, 2, .inl (p2 (bI c0) (bI c1)))), (o, .inr (5, [.int th, .ref im, .int (bI tr), .ref rc, .ref bg, .int ro, .ref oa, .ref xa, .ref ya, .ref rg, .ref me, .ref sa, .ref pa, .ref za, .ref ca, .int (bI kp), .ref ta, .ref na])), (rg, .inl (cI, 6, .inl (rg6 a x d b0 ((selM j b0 b1 b2) &&& 255) b2)))] H := hP
      have hD : va_D A [(me, .inl (cI, 512, .inl (mm2 g h))), (za, .inl (cZ, 2, .inl (p2 (bI z0) (bI z1)))), (ca, .inl (cZ, 2, .inl (p2 (bI c0) (bI c1)))), (o, .inr (5, [.int th, .ref im, .int (bI tr), .ref rc, .ref bg, .int ro, .ref oa, .ref xa, .ref ya, .ref rg, .ref me, .ref sa, .ref pa, .ref za, .ref ca, .int (bI kp), .ref ta, .ref na])), (rg, .inl (cI, 6, .inl (rg6 a x d b0 ((selM j b0 b1 b2) &&& 255) b2)))] := hD
      refine lv_goto (tgt := 302) hx hb d_MO_works_114 rfl ?_
      have hP9 : va_P D vwCl [(o, .inr (5, [.int th, .ref im, .int (bI tr), .ref rc, .ref bg, .int ro, .ref oa, .ref xa, .ref ya, .ref rg, .ref me, .ref sa, .ref pa, .ref za, .ref ca, .int (bI kp), .ref ta, .ref na])), (rg, .inl (cI, 6, .inl (rg6 a x d b0 ((selM j b0 b1 b2) &&& 255) b2))), (me, .inl (cI, 512, .inl (mm2 g h))), (za, .inl (cZ, 2, .inl (p2 (bI z0) (bI z1)))), (ca, .inl (cZ, 2, .inl (p2 (bI c0) (bI c1))))] H := hP.sub [3, 4, 0, 1, 2] rfl
      have hD9 : va_D A [(o, .inr (5, [.int th, .ref im, .int (bI tr), .ref rc, .ref bg, .int ro, .ref oa, .ref xa, .ref ya, .ref rg, .ref me, .ref sa, .ref pa, .ref za, .ref ca, .int (bI kp), .ref ta, .ref na])), (rg, .inl (cI, 6, .inl (rg6 a x d b0 ((selM j b0 b1 b2) &&& 255) b2))), (me, .inl (cI, 512, .inl (mm2 g h))), (za, .inl (cZ, 2, .inl (p2 (bI z0) (bI z1)))), (ca, .inl (cZ, 2, .inl (p2 (bI c0) (bI c1))))] := hD.sub [3, 4, 0, 1, 2] (by decide) rfl
      exact W.vret hx hb hr (fun t ht hW => ⟨⟨(h, b0, (selM j b0 b1 b2) &&& 255, b2, z1, c1), rfl, by rw [h25]; rfl, by rw [ht]; exact hP9, va_K.moved hW.alike hK, hD9⟩, hS.F ht⟩) hS.2.2 d_MO_works_302
    | 2, _, h25 =>
      have h25 : op = 4 := h25
      refine lv_tableIn (off := 92) (tgt := 117) hx hb d_MO_works_25 (by rw [h25]; decide) (by rw [h25]; decide) (by rw [h25]; rfl) rfl ?_
      refine lv_aload_n hx hb d_MO_works_117 rfl (lv_at hl 2 rfl) ?_
      refine lv_iconst (v := 1) hx hb d_MO_works_118 (by decide) ?_
      refine lv_iload_n hx hb d_MO_works_119 rfl (lv_at hl 4 rfl) ?_
      refine lv_aload_n hx hb d_MO_works_120 rfl (lv_at hl 2 rfl) ?_
      refine lv_iconst (v := 1) hx hb d_MO_works_121 (by decide) ?_
      refine lv_iload_n hx hb d_MO_works_122 rfl (lv_at hl 5 rfl) ?_
      have hPc := hP.sub (ws' := [(o, .inr (5, [.int th, .ref im, .int (bI tr), .ref rc, .ref bg, .int ro, .ref oa, .ref xa, .ref ya, .ref rg, .ref me, .ref sa, .ref pa, .ref za, .ref ca, .int (bI kp), .ref ta, .ref na])), (me, .inl (cI, 512, .inl (mm2 g h)))]) [0, 2] rfl
      refine vp_callSi (va_runV (As := [.int 1, .int j]) (rest := [.int 1, .int 1, .ref o]) ⟨hx, hb, hml, hown, hts⟩ (q_get1 l D cI cZ o th im tr rc bg ro oa xa ya rg me sa pa za ca kp ta na g h j) ⟨cB 2 hts k_825 k_62 k_822 hd_MO_get ⟨Nat.le_of_ble_eq_true rfl, Nat.le_of_ble_eq_true rfl⟩ rfl rfl, hts _ k_824, hts _ k_37⟩ (PcR.preV (va_recv hK hP (q0 := 0) (ci := 5) rfl rfl) hPc hK hN) rfl rfl hl.1 rfl (lv_room (Nat.le_of_ble_eq_true rfl)) d_MO_works_123 ⟨Nat.le_of_ble_eq_true rfl, Nat.le_of_ble_eq_true rfl⟩).run (fun r123 e123 => ?_)
      replace e123 := e123.symm
      subst e123
      have hPc := hP.sub (ws' := [(o, .inr (5, [.int th, .ref im, .int (bI tr), .ref rc, .ref bg, .int ro, .ref oa, .ref xa, .ref ya, .ref rg, .ref me, .ref sa, .ref pa, .ref za, .ref ca, .int (bI kp), .ref ta, .ref na])), (rg, .inl (cI, 6, .inl (rg6 a x d b0 b1 b2)))]) [0, 1] rfl
      have hDc := hD.sub (ws' := [(o, .inr (5, [.int th, .ref im, .int (bI tr), .ref rc, .ref bg, .int ro, .ref oa, .ref xa, .ref ya, .ref rg, .ref me, .ref sa, .ref pa, .ref za, .ref ca, .int (bI kp), .ref ta, .ref na])), (rg, .inl (cI, 6, .inl (rg6 a x d b0 b1 b2)))]) [0, 1] (by decide) rfl
      have hFc := va_free (wc := [(o, .inr (5, [.int th, .ref im, .int (bI tr), .ref rc, .ref bg, .int ro, .ref oa, .ref xa, .ref ya, .ref rg, .ref me, .ref sa, .ref pa, .ref za, .ref ca, .int (bI kp), .ref ta, .ref na])), (rg, .inl (cI, 6, .inl (rg6 a x d b0 b1 b2)))]) hD hS hA [0, 1] rfl
      refine va_callv (va_runV (As := [.int 1, .int 1, .int (rd h j)]) (rest := []) ⟨hx, hb, hml, hown, hts⟩ (q_set11 l D cI cZ o th im tr rc bg ro oa xa ya rg me sa pa za ca kp ta na a x d b0 b1 b2 (rd h j) H.size) ⟨cB 3 hts k_849 k_62 k_846 hd_MO_set ⟨Nat.le_of_ble_eq_true rfl, Nat.le_of_ble_eq_true rfl⟩ rfl rfl, hts _ k_848, hts _ k_43⟩ (PcW.preV (va_recv hK hP (q0 := 0) (ci := 5) rfl rfl) hPc hK hDc hN) rfl rfl hl.1 rfl (lv_room (Nat.le_of_ble_eq_true rfl)) d_MO_works_126 ⟨Nat.le_of_ble_eq_true rfl, Nat.le_of_ble_eq_true rfl⟩) hS (fun q _ h => hFc q h) hFc (fun u t H1 locs ht hvm e126 hB hz1 hk1 hS => ?_)
      obtain ⟨v1126, rfl⟩ : ∃ z, z = u := ⟨_, rfl⟩
      obtain ⟨hP1, hK1, hD1⟩ := hB
      rw [ht] at hP1
      obtain ⟨hP, hD⟩ := va_join (wr := [(me, .inl (cI, 512, .inl (mm2 g h))), (za, .inl (cZ, 2, .inl (p2 (bI z0) (bI z1)))), (ca, .inl (cZ, 2, .inl (p2 (bI c0) (bI c1))))]) (w1 := [(o, .inr (5, [.int th, .ref im, .int (bI tr), .ref rc, .ref bg, .int ro, .ref oa, .ref xa, .ref ya, .ref rg, .ref me, .ref sa, .ref pa, .ref za, .ref ca, .int (bI kp), .ref ta, .ref na])), (rg, .inl (cI, 6, .inl (rg6 a x d b0 v1126 b2)))]) hP hD [0, 1] [2, 3, 4] rfl rfl (by decide) (by decide) hk1 hFc hP1 hD1
      generalize H1 = H at hP hS ⊢
      try dsimp only at e126
      have e126_0 := e126
      replace e126_0 := e126_0.symm
      subst e126_0
      have hP : va_P D vwCl [(me, .inl (cI, 512, .inl (mm2 g h))), (za, .inl (cZ, 2, .inl (p2 (bI z0) (bI z1)))), (ca, .inl (cZ, 2, .inl (p2 (bI c0) (bI c1)))), (o, .inr (5, [.int th, .ref im, .int (bI tr), .ref rc, .ref bg, .int ro, .ref oa, .ref xa, .ref ya, .ref rg, .ref me, .ref sa, .ref pa, .ref za, .ref ca, .int (bI kp), .ref ta, .ref na])), (rg, .inl (cI, 6, .inl (rg6 a x d b0 ((rd h j) &&& 255) b2)))] H := hP
      have hD : va_D A [(me, .inl (cI, 512, .inl (mm2 g h))), (za, .inl (cZ, 2, .inl (p2 (bI z0) (bI z1)))), (ca, .inl (cZ, 2, .inl (p2 (bI c0) (bI c1)))), (o, .inr (5, [.int th, .ref im, .int (bI tr), .ref rc, .ref bg, .int ro, .ref oa, .ref xa, .ref ya, .ref rg, .ref me, .ref sa, .ref pa, .ref za, .ref ca, .int (bI kp), .ref ta, .ref na])), (rg, .inl (cI, 6, .inl (rg6 a x d b0 ((rd h j) &&& 255) b2)))] := hD
      refine lv_goto (tgt := 302) hx hb d_MO_works_129 rfl ?_
      have hP9 : va_P D vwCl [(o, .inr (5, [.int th, .ref im, .int (bI tr), .ref rc, .ref bg, .int ro, .ref oa, .ref xa, .ref ya, .ref rg, .ref me, .ref sa, .ref pa, .ref za, .ref ca, .int (bI kp), .ref ta, .ref na])), (rg, .inl (cI, 6, .inl (rg6 a x d b0 ((rd h j) &&& 255) b2))), (me, .inl (cI, 512, .inl (mm2 g h))), (za, .inl (cZ, 2, .inl (p2 (bI z0) (bI z1)))), (ca, .inl (cZ, 2, .inl (p2 (bI c0) (bI c1))))] H := hP.sub [3, 4, 0, 1, 2] rfl
      have hD9 : va_D A [(o, .inr (5, [.int th, .ref im, .int (bI tr), .ref rc, .ref bg, .int ro, .ref oa, .ref xa, .ref ya, .ref rg, .ref me, .ref sa, .ref pa, .ref za, .ref ca, .int (bI kp), .ref ta, .ref na])), (rg, .inl (cI, 6, .inl (rg6 a x d b0 ((rd h j) &&& 255) b2))), (me, .inl (cI, 512, .inl (mm2 g h))), (za, .inl (cZ, 2, .inl (p2 (bI z0) (bI z1)))), (ca, .inl (cZ, 2, .inl (p2 (bI c0) (bI c1))))] := hD.sub [3, 4, 0, 1, 2] (by decide) rfl
      exact W.vret hx hb hr (fun t ht hW => ⟨⟨(h, b0, (rd h j) &&& 255, b2, z1, c1), rfl, by rw [h25]; rfl, by rw [ht]; exact hP9, va_K.moved hW.alike hK, hD9⟩, hS.F ht⟩) hS.2.2 d_MO_works_302
    | 3, _, h25 =>
      have h25 : op = 5 := h25
      refine lv_tableIn (off := 107) (tgt := 132) hx hb d_MO_works_25 (by rw [h25]; decide) (by rw [h25]; decide) (by rw [h25]; rfl) rfl ?_
      refine lv_aload_n hx hb d_MO_works_132 rfl (lv_at hl 2 rfl) ?_
      refine lv_iconst (v := 1) hx hb d_MO_works_133 (by decide) ?_
      refine lv_iload_n hx hb d_MO_works_134 rfl (lv_at hl 5 rfl) ?_
      refine lv_iload hx hb d_MO_works_135 (lv_at hl 1 rfl) ?_
      have hPc := hP.sub (ws' := [(o, .inr (5, [.int th, .ref im, .int (bI tr), .ref rc, .ref bg, .int ro, .ref oa, .ref xa, .ref ya, .ref rg, .ref me, .ref sa, .ref pa, .ref za, .ref ca, .int (bI kp), .ref ta, .ref na])), (me, .inl (cI, 512, .inl (mm2 g h)))]) [0, 2] rfl
      have hDc := hD.sub (ws' := [(o, .inr (5, [.int th, .ref im, .int (bI tr), .ref rc, .ref bg, .int ro, .ref oa, .ref xa, .ref ya, .ref rg, .ref me, .ref sa, .ref pa, .ref za, .ref ca, .int (bI kp), .ref ta, .ref na])), (me, .inl (cI, 512, .inl (mm2 g h)))]) [0, 2] (by decide) rfl
      have hFc := va_free (wc := [(o, .inr (5, [.int th, .ref im, .int (bI tr), .ref rc, .ref bg, .int ro, .ref oa, .ref xa, .ref ya, .ref rg, .ref me, .ref sa, .ref pa, .ref za, .ref ca, .int (bI kp), .ref ta, .ref na])), (me, .inl (cI, 512, .inl (mm2 g h)))]) hD hS hA [0, 2] rfl
      refine va_callv (va_runV (As := [.int 1, .int j, .int b1]) (rest := []) ⟨hx, hb, hml, hown, hts⟩ (q_put1 l D cI cZ o th im tr rc bg ro oa xa ya rg me sa pa za ca kp ta na g h j b1 H.size) ⟨cB 3 hts k_837 k_62 k_834 hd_MO_put ⟨Nat.le_of_ble_eq_true rfl, Nat.le_of_ble_eq_true rfl⟩ rfl rfl, hts _ k_836, hts _ k_40⟩ (PcW.preV (va_recv hK hP (q0 := 0) (ci := 5) rfl rfl) hPc hK hDc hN) rfl rfl hl.1 rfl (lv_room (Nat.le_of_ble_eq_true rfl)) d_MO_works_137 ⟨Nat.le_of_ble_eq_true rfl, Nat.le_of_ble_eq_true rfl⟩) hS (fun q _ h => hFc q h) hFc (fun u t H1 locs ht hvm e137 hB hz1 hk1 hS => ?_)
      obtain ⟨f1137, rfl⟩ : ∃ z, z = u := ⟨_, rfl⟩
      obtain ⟨hP1, hK1, hD1⟩ := hB
      rw [ht] at hP1
      obtain ⟨hP, hD⟩ := va_join (wr := [(rg, .inl (cI, 6, .inl (rg6 a x d b0 b1 b2))), (za, .inl (cZ, 2, .inl (p2 (bI z0) (bI z1)))), (ca, .inl (cZ, 2, .inl (p2 (bI c0) (bI c1))))]) (w1 := [(o, .inr (5, [.int th, .ref im, .int (bI tr), .ref rc, .ref bg, .int ro, .ref oa, .ref xa, .ref ya, .ref rg, .ref me, .ref sa, .ref pa, .ref za, .ref ca, .int (bI kp), .ref ta, .ref na])), (me, .inl (cI, 512, .inl f1137))]) hP hD [0, 2] [1, 3, 4] rfl rfl (by decide) (by decide) hk1 hFc hP1 hD1
      generalize H1 = H at hP hS ⊢
      try dsimp only at e137
      have e137_0 := e137
      replace e137_0 := e137_0.symm
      subst e137_0
      have hP : va_P D vwCl [(rg, .inl (cI, 6, .inl (rg6 a x d b0 b1 b2))), (za, .inl (cZ, 2, .inl (p2 (bI z0) (bI z1)))), (ca, .inl (cZ, 2, .inl (p2 (bI c0) (bI c1)))), (o, .inr (5, [.int th, .ref im, .int (bI tr), .ref rc, .ref bg, .int ro, .ref oa, .ref xa, .ref ya, .ref rg, .ref me, .ref sa, .ref pa, .ref za, .ref ca, .int (bI kp), .ref ta, .ref na])), (me, .inl (cI, 512, .inl (mm2 g (wr h j b1))))] H := hP
      have hD : va_D A [(rg, .inl (cI, 6, .inl (rg6 a x d b0 b1 b2))), (za, .inl (cZ, 2, .inl (p2 (bI z0) (bI z1)))), (ca, .inl (cZ, 2, .inl (p2 (bI c0) (bI c1)))), (o, .inr (5, [.int th, .ref im, .int (bI tr), .ref rc, .ref bg, .int ro, .ref oa, .ref xa, .ref ya, .ref rg, .ref me, .ref sa, .ref pa, .ref za, .ref ca, .int (bI kp), .ref ta, .ref na])), (me, .inl (cI, 512, .inl (mm2 g (wr h j b1))))] := hD
      refine lv_goto (tgt := 302) hx hb d_MO_works_140 rfl ?_
      have hP9 : va_P D vwCl [(o, .inr (5, [.int th, .ref im, .int (bI tr), .ref rc, .ref bg, .int ro, .ref oa, .ref xa, .ref ya, .ref rg, .ref me, .ref sa, .ref pa, .ref za, .ref ca, .int (bI kp), .ref ta, .ref na])), (rg, .inl (cI, 6, .inl (rg6 a x d b0 b1 b2))), (me, .inl (cI, 512, .inl (mm2 g (wr h j b1)))), (za, .inl (cZ, 2, .inl (p2 (bI z0) (bI z1)))), (ca, .inl (cZ, 2, .inl (p2 (bI c0) (bI c1))))] H := hP.sub [3, 0, 4, 1, 2] rfl
      have hD9 : va_D A [(o, .inr (5, [.int th, .ref im, .int (bI tr), .ref rc, .ref bg, .int ro, .ref oa, .ref xa, .ref ya, .ref rg, .ref me, .ref sa, .ref pa, .ref za, .ref ca, .int (bI kp), .ref ta, .ref na])), (rg, .inl (cI, 6, .inl (rg6 a x d b0 b1 b2))), (me, .inl (cI, 512, .inl (mm2 g (wr h j b1)))), (za, .inl (cZ, 2, .inl (p2 (bI z0) (bI z1)))), (ca, .inl (cZ, 2, .inl (p2 (bI c0) (bI c1))))] := hD.sub [3, 0, 4, 1, 2] (by decide) rfl
      exact W.vret hx hb hr (fun t ht hW => ⟨⟨(wr h j b1, b0, b1, b2, z1, c1), rfl, by rw [h25]; rfl, by rw [ht]; exact hP9, va_K.moved hW.alike hK, hD9⟩, hS.F ht⟩) hS.2.2 d_MO_works_302
    | 4, _, h25 =>
      have h25 : op = 6 := h25
      refine lv_tableIn (off := 118) (tgt := 143) hx hb d_MO_works_25 (by rw [h25]; decide) (by rw [h25]; decide) (by rw [h25]; rfl) rfl ?_
      refine lv_aload_n hx hb d_MO_works_143 rfl (lv_at hl 2 rfl) ?_
      refine lv_iconst (v := 1) hx hb d_MO_works_144 (by decide) ?_
      refine lv_iconst (v := 0) hx hb d_MO_works_145 (by decide) ?_
      refine lv_aload_n hx hb d_MO_works_146 rfl (lv_at hl 2 rfl) ?_
      refine lv_iconst (v := 1) hx hb d_MO_works_147 (by decide) ?_
      refine lv_iload_n hx hb d_MO_works_148 rfl (lv_at hl 5 rfl) ?_
      refine lv_aload_n hx hb d_MO_works_149 rfl (lv_at hl 2 rfl) ?_
      refine va_get (D := D) (ci := 5) (v := .ref rg) (C := R_MO) (T := T_MO) (N := 18) hx hb hts iw_MO hown hK hP 0 rfl rfl 9 (by decide) (hts _ k_704) (fun _ h9 => h9) rfl d_MO_works_150 ?_
      refine lv_iconst (v := 4) hx hb d_MO_works_153 (by decide) ?_
      refine va_iald hx hb hK hP 1 0 rfl rfl (vp_in_nI (n := 4) (by decide) (by decide)) d_MO_works_154 ?_
      refine lv_iadd hx hb d_MO_works_155 ?_
      have hPc := hP.sub (ws' := [(o, .inr (5, [.int th, .ref im, .int (bI tr), .ref rc, .ref bg, .int ro, .ref oa, .ref xa, .ref ya, .ref rg, .ref me, .ref sa, .ref pa, .ref za, .ref ca, .int (bI kp), .ref ta, .ref na])), (me, .inl (cI, 512, .inl (mm2 g h)))]) [0, 2] rfl
      refine vp_callSi (va_runV (As := [.int 1, .int (j + b1)]) (rest := [.int 0, .int 1, .ref o]) ⟨hx, hb, hml, hown, hts⟩ (q_get1 l D cI cZ o th im tr rc bg ro oa xa ya rg me sa pa za ca kp ta na g h (j + b1)) ⟨cB 2 hts k_825 k_62 k_822 hd_MO_get ⟨Nat.le_of_ble_eq_true rfl, Nat.le_of_ble_eq_true rfl⟩ rfl rfl, hts _ k_824, hts _ k_37⟩ (PcR.preV (va_recv hK hP (q0 := 0) (ci := 5) rfl rfl) hPc hK hN) rfl rfl hl.1 rfl (lv_room (Nat.le_of_ble_eq_true rfl)) d_MO_works_156 ⟨Nat.le_of_ble_eq_true rfl, Nat.le_of_ble_eq_true rfl⟩).run (fun r156 e156 => ?_)
      replace e156 := e156.symm
      subst e156
      have hPc := hP.sub (ws' := [(o, .inr (5, [.int th, .ref im, .int (bI tr), .ref rc, .ref bg, .int ro, .ref oa, .ref xa, .ref ya, .ref rg, .ref me, .ref sa, .ref pa, .ref za, .ref ca, .int (bI kp), .ref ta, .ref na])), (rg, .inl (cI, 6, .inl (rg6 a x d b0 b1 b2)))]) [0, 1] rfl
      have hDc := hD.sub (ws' := [(o, .inr (5, [.int th, .ref im, .int (bI tr), .ref rc, .ref bg, .int ro, .ref oa, .ref xa, .ref ya, .ref rg, .ref me, .ref sa, .ref pa, .ref za, .ref ca, .int (bI kp), .ref ta, .ref na])), (rg, .inl (cI, 6, .inl (rg6 a x d b0 b1 b2)))]) [0, 1] (by decide) rfl
      have hFc := va_free (wc := [(o, .inr (5, [.int th, .ref im, .int (bI tr), .ref rc, .ref bg, .int ro, .ref oa, .ref xa, .ref ya, .ref rg, .ref me, .ref sa, .ref pa, .ref za, .ref ca, .int (bI kp), .ref ta, .ref na])), (rg, .inl (cI, 6, .inl (rg6 a x d b0 b1 b2)))]) hD hS hA [0, 1] rfl
      refine va_callv (va_runV (As := [.int 1, .int 0, .int (rd h (j + b1))]) (rest := []) ⟨hx, hb, hml, hown, hts⟩ (q_set10 l D cI cZ o th im tr rc bg ro oa xa ya rg me sa pa za ca kp ta na a x d b0 b1 b2 (rd h (j + b1)) H.size) ⟨cB 3 hts k_849 k_62 k_846 hd_MO_set ⟨Nat.le_of_ble_eq_true rfl, Nat.le_of_ble_eq_true rfl⟩ rfl rfl, hts _ k_848, hts _ k_43⟩ (PcW.preV (va_recv hK hP (q0 := 0) (ci := 5) rfl rfl) hPc hK hDc hN) rfl rfl hl.1 rfl (lv_room (Nat.le_of_ble_eq_true rfl)) d_MO_works_159 ⟨Nat.le_of_ble_eq_true rfl, Nat.le_of_ble_eq_true rfl⟩) hS (fun q _ h => hFc q h) hFc (fun u t H1 locs ht hvm e159 hB hz1 hk1 hS => ?_)
      obtain ⟨v1159, rfl⟩ : ∃ z, z = u := ⟨_, rfl⟩
      obtain ⟨hP1, hK1, hD1⟩ := hB
      rw [ht] at hP1
      obtain ⟨hP, hD⟩ := va_join (wr := [(me, .inl (cI, 512, .inl (mm2 g h))), (za, .inl (cZ, 2, .inl (p2 (bI z0) (bI z1)))), (ca, .inl (cZ, 2, .inl (p2 (bI c0) (bI c1))))]) (w1 := [(o, .inr (5, [.int th, .ref im, .int (bI tr), .ref rc, .ref bg, .int ro, .ref oa, .ref xa, .ref ya, .ref rg, .ref me, .ref sa, .ref pa, .ref za, .ref ca, .int (bI kp), .ref ta, .ref na])), (rg, .inl (cI, 6, .inl (rg6 a x d v1159 b1 b2)))]) hP hD [0, 1] [2, 3, 4] rfl rfl (by decide) (by decide) hk1 hFc hP1 hD1
      generalize H1 = H at hP hS ⊢
      try dsimp only at e159
      have e159_0 := e159
      replace e159_0 := e159_0.symm
      subst e159_0
      have hP : va_P D vwCl [(me, .inl (cI, 512, .inl (mm2 g h))), (za, .inl (cZ, 2, .inl (p2 (bI z0) (bI z1)))), (ca, .inl (cZ, 2, .inl (p2 (bI c0) (bI c1)))), (o, .inr (5, [.int th, .ref im, .int (bI tr), .ref rc, .ref bg, .int ro, .ref oa, .ref xa, .ref ya, .ref rg, .ref me, .ref sa, .ref pa, .ref za, .ref ca, .int (bI kp), .ref ta, .ref na])), (rg, .inl (cI, 6, .inl (rg6 a x d ((rd h (j + b1)) &&& 255) b1 b2)))] H := hP
      have hD : va_D A [(me, .inl (cI, 512, .inl (mm2 g h))), (za, .inl (cZ, 2, .inl (p2 (bI z0) (bI z1)))), (ca, .inl (cZ, 2, .inl (p2 (bI c0) (bI c1)))), (o, .inr (5, [.int th, .ref im, .int (bI tr), .ref rc, .ref bg, .int ro, .ref oa, .ref xa, .ref ya, .ref rg, .ref me, .ref sa, .ref pa, .ref za, .ref ca, .int (bI kp), .ref ta, .ref na])), (rg, .inl (cI, 6, .inl (rg6 a x d ((rd h (j + b1)) &&& 255) b1 b2)))] := hD
      refine lv_goto (tgt := 302) hx hb d_MO_works_162 rfl ?_
      have hP9 : va_P D vwCl [(o, .inr (5, [.int th, .ref im, .int (bI tr), .ref rc, .ref bg, .int ro, .ref oa, .ref xa, .ref ya, .ref rg, .ref me, .ref sa, .ref pa, .ref za, .ref ca, .int (bI kp), .ref ta, .ref na])), (rg, .inl (cI, 6, .inl (rg6 a x d ((rd h (j + b1)) &&& 255) b1 b2))), (me, .inl (cI, 512, .inl (mm2 g h))), (za, .inl (cZ, 2, .inl (p2 (bI z0) (bI z1)))), (ca, .inl (cZ, 2, .inl (p2 (bI c0) (bI c1))))] H := hP.sub [3, 4, 0, 1, 2] rfl
      have hD9 : va_D A [(o, .inr (5, [.int th, .ref im, .int (bI tr), .ref rc, .ref bg, .int ro, .ref oa, .ref xa, .ref ya, .ref rg, .ref me, .ref sa, .ref pa, .ref za, .ref ca, .int (bI kp), .ref ta, .ref na])), (rg, .inl (cI, 6, .inl (rg6 a x d ((rd h (j + b1)) &&& 255) b1 b2))), (me, .inl (cI, 512, .inl (mm2 g h))), (za, .inl (cZ, 2, .inl (p2 (bI z0) (bI z1)))), (ca, .inl (cZ, 2, .inl (p2 (bI c0) (bI c1))))] := hD.sub [3, 4, 0, 1, 2] (by decide) rfl
      exact W.vret hx hb hr (fun t ht hW => ⟨⟨(h, (rd h (j + b1)) &&& 255, b1, b2, z1, c1), rfl, by rw [h25]; rfl, by rw [ht]; exact hP9, va_K.moved hW.alike hK, hD9⟩, hS.F ht⟩) hS.2.2 d_MO_works_302
    | 5, _, h25 =>
      have h25 : op = 7 := h25
      refine lv_tableIn (off := 140) (tgt := 165) hx hb d_MO_works_25 (by rw [h25]; decide) (by rw [h25]; decide) (by rw [h25]; rfl) rfl ?_
      refine lv_aload_n hx hb d_MO_works_165 rfl (lv_at hl 2 rfl) ?_
      refine lv_iconst (v := 1) hx hb d_MO_works_166 (by decide) ?_
      refine lv_iload_n hx hb d_MO_works_167 rfl (lv_at hl 5 rfl) ?_
      refine lv_aload_n hx hb d_MO_works_168 rfl (lv_at hl 2 rfl) ?_
      refine va_get (D := D) (ci := 5) (v := .ref rg) (C := R_MO) (T := T_MO) (N := 18) hx hb hts iw_MO hown hK hP 0 rfl rfl 9 (by decide) (hts _ k_704) (fun _ h9 => h9) rfl d_MO_works_169 ?_
      refine lv_iconst (v := 4) hx hb d_MO_works_172 (by decide) ?_
      refine va_iald hx hb hK hP 1 0 rfl rfl (vp_in_nI (n := 4) (by decide) (by decide)) d_MO_works_173 ?_
      refine lv_iadd hx hb d_MO_works_174 ?_
      refine lv_aload_n hx hb d_MO_works_175 rfl (lv_at hl 2 rfl) ?_
      refine va_get (D := D) (ci := 5) (v := .ref rg) (C := R_MO) (T := T_MO) (N := 18) hx hb hts iw_MO hown hK hP 0 rfl rfl 9 (by decide) (hts _ k_704) (fun _ h9 => h9) rfl d_MO_works_176 ?_
      refine lv_iconst (v := 3) hx hb d_MO_works_179 (by decide) ?_
      refine va_iald hx hb hK hP 1 0 rfl rfl (vp_in_nI (n := 3) (by decide) (by decide)) d_MO_works_180 ?_
      have hPc := hP.sub (ws' := [(o, .inr (5, [.int th, .ref im, .int (bI tr), .ref rc, .ref bg, .int ro, .ref oa, .ref xa, .ref ya, .ref rg, .ref me, .ref sa, .ref pa, .ref za, .ref ca, .int (bI kp), .ref ta, .ref na])), (me, .inl (cI, 512, .inl (mm2 g h)))]) [0, 2] rfl
      have hDc := hD.sub (ws' := [(o, .inr (5, [.int th, .ref im, .int (bI tr), .ref rc, .ref bg, .int ro, .ref oa, .ref xa, .ref ya, .ref rg, .ref me, .ref sa, .ref pa, .ref za, .ref ca, .int (bI kp), .ref ta, .ref na])), (me, .inl (cI, 512, .inl (mm2 g h)))]) [0, 2] (by decide) rfl
      have hFc := va_free (wc := [(o, .inr (5, [.int th, .ref im, .int (bI tr), .ref rc, .ref bg, .int ro, .ref oa, .ref xa, .ref ya, .ref rg, .ref me, .ref sa, .ref pa, .ref za, .ref ca, .int (bI kp), .ref ta, .ref na])), (me, .inl (cI, 512, .inl (mm2 g h)))]) hD hS hA [0, 2] rfl
      refine va_callv (va_runV (As := [.int 1, .int (j + b1), .int b0]) (rest := []) ⟨hx, hb, hml, hown, hts⟩ (q_put1 l D cI cZ o th im tr rc bg ro oa xa ya rg me sa pa za ca kp ta na g h (j + b1) b0 H.size) ⟨cB 3 hts k_837 k_62 k_834 hd_MO_put ⟨Nat.le_of_ble_eq_true rfl, Nat.le_of_ble_eq_true rfl⟩ rfl rfl, hts _ k_836, hts _ k_40⟩ (PcW.preV (va_recv hK hP (q0 := 0) (ci := 5) rfl rfl) hPc hK hDc hN) rfl rfl hl.1 rfl (lv_room (Nat.le_of_ble_eq_true rfl)) d_MO_works_181 ⟨Nat.le_of_ble_eq_true rfl, Nat.le_of_ble_eq_true rfl⟩) hS (fun q _ h => hFc q h) hFc (fun u t H1 locs ht hvm e181 hB hz1 hk1 hS => ?_)
      obtain ⟨f1181, rfl⟩ : ∃ z, z = u := ⟨_, rfl⟩
      obtain ⟨hP1, hK1, hD1⟩ := hB
      rw [ht] at hP1
      obtain ⟨hP, hD⟩ := va_join (wr := [(rg, .inl (cI, 6, .inl (rg6 a x d b0 b1 b2))), (za, .inl (cZ, 2, .inl (p2 (bI z0) (bI z1)))), (ca, .inl (cZ, 2, .inl (p2 (bI c0) (bI c1))))]) (w1 := [(o, .inr (5, [.int th, .ref im, .int (bI tr), .ref rc, .ref bg, .int ro, .ref oa, .ref xa, .ref ya, .ref rg, .ref me, .ref sa, .ref pa, .ref za, .ref ca, .int (bI kp), .ref ta, .ref na])), (me, .inl (cI, 512, .inl f1181))]) hP hD [0, 2] [1, 3, 4] rfl rfl (by decide) (by decide) hk1 hFc hP1 hD1
      generalize H1 = H at hP hS ⊢
      try dsimp only at e181
      have e181_0 := e181
      replace e181_0 := e181_0.symm
      subst e181_0
      have hP : va_P D vwCl [(rg, .inl (cI, 6, .inl (rg6 a x d b0 b1 b2))), (za, .inl (cZ, 2, .inl (p2 (bI z0) (bI z1)))), (ca, .inl (cZ, 2, .inl (p2 (bI c0) (bI c1)))), (o, .inr (5, [.int th, .ref im, .int (bI tr), .ref rc, .ref bg, .int ro, .ref oa, .ref xa, .ref ya, .ref rg, .ref me, .ref sa, .ref pa, .ref za, .ref ca, .int (bI kp), .ref ta, .ref na])), (me, .inl (cI, 512, .inl (mm2 g (wr h (j + b1) b0))))] H := hP
      have hD : va_D A [(rg, .inl (cI, 6, .inl (rg6 a x d b0 b1 b2))), (za, .inl (cZ, 2, .inl (p2 (bI z0) (bI z1)))), (ca, .inl (cZ, 2, .inl (p2 (bI c0) (bI c1)))), (o, .inr (5, [.int th, .ref im, .int (bI tr), .ref rc, .ref bg, .int ro, .ref oa, .ref xa, .ref ya, .ref rg, .ref me, .ref sa, .ref pa, .ref za, .ref ca, .int (bI kp), .ref ta, .ref na])), (me, .inl (cI, 512, .inl (mm2 g (wr h (j + b1) b0))))] := hD
      refine lv_goto (tgt := 302) hx hb d_MO_works_184 rfl ?_
      have hP9 : va_P D vwCl [(o, .inr (5, [.int th, .ref im, .int (bI tr), .ref rc, .ref bg, .int ro, .ref oa, .ref xa, .ref ya, .ref rg, .ref me, .ref sa, .ref pa, .ref za, .ref ca, .int (bI kp), .ref ta, .ref na])), (rg, .inl (cI, 6, .inl (rg6 a x d b0 b1 b2))), (me, .inl (cI, 512, .inl (mm2 g (wr h (j + b1) b0)))), (za, .inl (cZ, 2, .inl (p2 (bI z0) (bI z1)))), (ca, .inl (cZ, 2, .inl (p2 (bI c0) (bI c1))))] H := hP.sub [3, 0, 4, 1, 2] rfl
      have hD9 : va_D A [(o, .inr (5, [.int th, .ref im, .int (bI tr), .ref rc, .ref bg, .int ro, .ref oa, .ref xa, .ref ya, .ref rg, .ref me, .ref sa, .ref pa, .ref za, .ref ca, .int (bI kp), .ref ta, .ref na])), (rg, .inl (cI, 6, .inl (rg6 a x d b0 b1 b2))), (me, .inl (cI, 512, .inl (mm2 g (wr h (j + b1) b0)))), (za, .inl (cZ, 2, .inl (p2 (bI z0) (bI z1)))), (ca, .inl (cZ, 2, .inl (p2 (bI c0) (bI c1))))] := hD.sub [3, 0, 4, 1, 2] (by decide) rfl
      exact W.vret hx hb hr (fun t ht hW => ⟨⟨(wr h (j + b1) b0, b0, b1, b2, z1, c1), rfl, by rw [h25]; rfl, by rw [ht]; exact hP9, va_K.moved hW.alike hK, hD9⟩, hS.F ht⟩) hS.2.2 d_MO_works_302
    | 6, _, h25 =>
      have h25 : op = 8 := h25
      refine lv_tableIn (off := 162) (tgt := 187) hx hb d_MO_works_25 (by rw [h25]; decide) (by rw [h25]; decide) (by rw [h25]; rfl) rfl ?_
      refine lv_aload_n hx hb d_MO_works_187 rfl (lv_at hl 2 rfl) ?_
      refine lv_iconst (v := 1) hx hb d_MO_works_188 (by decide) ?_
      refine lv_iload_n hx hb d_MO_works_189 rfl (lv_at hl 4 rfl) ?_
      refine lv_iload hx hb d_MO_works_190 (lv_at hl 1 rfl) ?_
      have hPc := hP.sub (ws' := [(o, .inr (5, [.int th, .ref im, .int (bI tr), .ref rc, .ref bg, .int ro, .ref oa, .ref xa, .ref ya, .ref rg, .ref me, .ref sa, .ref pa, .ref za, .ref ca, .int (bI kp), .ref ta, .ref na])), (rg, .inl (cI, 6, .inl (rg6 a x d b0 b1 b2))), (za, .inl (cZ, 2, .inl (p2 (bI z0) (bI z1)))), (ca, .inl (cZ, 2, .inl (p2 (bI c0) (bI c1))))]) [0, 1, 3, 4] rfl
      have hDc := hD.sub (ws' := [(o, .inr (5, [.int th, .ref im, .int (bI tr), .ref rc, .ref bg, .int ro, .ref oa, .ref xa, .ref ya, .ref rg, .ref me, .ref sa, .ref pa, .ref za, .ref ca, .int (bI kp), .ref ta, .ref na])), (rg, .inl (cI, 6, .inl (rg6 a x d b0 b1 b2))), (za, .inl (cZ, 2, .inl (p2 (bI z0) (bI z1)))), (ca, .inl (cZ, 2, .inl (p2 (bI c0) (bI c1))))]) [0, 1, 3, 4] (by decide) rfl
      have hFc := va_free (wc := [(o, .inr (5, [.int th, .ref im, .int (bI tr), .ref rc, .ref bg, .int ro, .ref oa, .ref xa, .ref ya, .ref rg, .ref me, .ref sa, .ref pa, .ref za, .ref ca, .int (bI kp), .ref ta, .ref na])), (rg, .inl (cI, 6, .inl (rg6 a x d b0 b1 b2))), (za, .inl (cZ, 2, .inl (p2 (bI z0) (bI z1)))), (ca, .inl (cZ, 2, .inl (p2 (bI c0) (bI c1))))]) hD hS hA [0, 1, 3, 4] rfl
      refine va_callv (va_runV (As := [.int 1, .int 1, .int b1]) (rest := []) ⟨hx, hb, hml, hown, hts⟩ (q_plain11 l D cI cZ o th im tr rc bg ro oa xa ya rg me sa pa za ca kp ta na a x d b0 b1 b2 z0 z1 c0 c1 b1 H.size) ⟨cB 3 hts k_865 k_62 k_862 hd_MO_plain ⟨Nat.le_of_ble_eq_true rfl, Nat.le_of_ble_eq_true rfl⟩ rfl rfl, hts _ k_864, hts _ k_47⟩ (PcW.preV (va_recv hK hP (q0 := 0) (ci := 5) rfl rfl) hPc hK hDc hN) rfl rfl hl.1 rfl (lv_room (Nat.le_of_ble_eq_true rfl)) d_MO_works_192 ⟨Nat.le_of_ble_eq_true rfl, Nat.le_of_ble_eq_true rfl⟩) hS (fun q _ h => hFc q h) hFc (fun u t H1 locs ht hvm e192 hB hz1 hk1 hS => ?_)
      obtain ⟨v1192, zz192, cy192⟩ := u
      obtain ⟨hP1, hK1, hD1⟩ := hB
      rw [ht] at hP1
      obtain ⟨hP, hD⟩ := va_join (wr := [(me, .inl (cI, 512, .inl (mm2 g h)))]) (w1 := [(o, .inr (5, [.int th, .ref im, .int (bI tr), .ref rc, .ref bg, .int ro, .ref oa, .ref xa, .ref ya, .ref rg, .ref me, .ref sa, .ref pa, .ref za, .ref ca, .int (bI kp), .ref ta, .ref na])), (rg, .inl (cI, 6, .inl (rg6 a x d b0 v1192 b2))), (za, .inl (cZ, 2, .inl (p2 (bI z0) (bI zz192)))), (ca, .inl (cZ, 2, .inl (p2 (bI c0) (bI cy192))))]) hP hD [0, 1, 3, 4] [2] rfl rfl (by decide) (by decide) hk1 hFc hP1 hD1
      generalize H1 = H at hP hS ⊢
      try dsimp only at e192
      obtain ⟨e192_0, e192_1, e192_2⟩ := e192
      replace e192_0 := e192_0.symm
      subst e192_0
      replace e192_1 := e192_1.symm
      subst e192_1
      replace e192_2 := e192_2.symm
      subst e192_2
      have hP : va_P D vwCl [(me, .inl (cI, 512, .inl (mm2 g h))), (o, .inr (5, [.int th, .ref im, .int (bI tr), .ref rc, .ref bg, .int ro, .ref oa, .ref xa, .ref ya, .ref rg, .ref me, .ref sa, .ref pa, .ref za, .ref ca, .int (bI kp), .ref ta, .ref na])), (rg, .inl (cI, 6, .inl (rg6 a x d b0 (b1 &&& 255) b2))), (za, .inl (cZ, 2, .inl (p2 (bI z0) (bI (decide (b1 &&& 255 = 0)))))), (ca, .inl (cZ, 2, .inl (p2 (bI c0) (bI false))))] H := hP
      have hD : va_D A [(me, .inl (cI, 512, .inl (mm2 g h))), (o, .inr (5, [.int th, .ref im, .int (bI tr), .ref rc, .ref bg, .int ro, .ref oa, .ref xa, .ref ya, .ref rg, .ref me, .ref sa, .ref pa, .ref za, .ref ca, .int (bI kp), .ref ta, .ref na])), (rg, .inl (cI, 6, .inl (rg6 a x d b0 (b1 &&& 255) b2))), (za, .inl (cZ, 2, .inl (p2 (bI z0) (bI (decide (b1 &&& 255 = 0)))))), (ca, .inl (cZ, 2, .inl (p2 (bI c0) (bI false))))] := hD
      refine lv_goto (tgt := 302) hx hb d_MO_works_195 rfl ?_
      have hP9 : va_P D vwCl [(o, .inr (5, [.int th, .ref im, .int (bI tr), .ref rc, .ref bg, .int ro, .ref oa, .ref xa, .ref ya, .ref rg, .ref me, .ref sa, .ref pa, .ref za, .ref ca, .int (bI kp), .ref ta, .ref na])), (rg, .inl (cI, 6, .inl (rg6 a x d b0 (b1 &&& 255) b2))), (me, .inl (cI, 512, .inl (mm2 g h))), (za, .inl (cZ, 2, .inl (p2 (bI z0) (bI (decide (b1 &&& 255 = 0)))))), (ca, .inl (cZ, 2, .inl (p2 (bI c0) (bI false))))] H := hP.sub [1, 2, 0, 3, 4] rfl
      have hD9 : va_D A [(o, .inr (5, [.int th, .ref im, .int (bI tr), .ref rc, .ref bg, .int ro, .ref oa, .ref xa, .ref ya, .ref rg, .ref me, .ref sa, .ref pa, .ref za, .ref ca, .int (bI kp), .ref ta, .ref na])), (rg, .inl (cI, 6, .inl (rg6 a x d b0 (b1 &&& 255) b2))), (me, .inl (cI, 512, .inl (mm2 g h))), (za, .inl (cZ, 2, .inl (p2 (bI z0) (bI (decide (b1 &&& 255 = 0)))))), (ca, .inl (cZ, 2, .inl (p2 (bI c0) (bI false))))] := hD.sub [1, 2, 0, 3, 4] (by decide) rfl
      exact W.vret hx hb hr (fun t ht hW => ⟨⟨(h, b0, b1 &&& 255, b2, decide (b1 &&& 255 = 0), false), rfl, by rw [h25]; rfl, by rw [ht]; exact hP9, va_K.moved hW.alike hK, hD9⟩, hS.F ht⟩) hS.2.2 d_MO_works_302
    | 7, _, h25 =>
      have h25 : op = 9 := h25
      refine lv_tableIn (off := 173) (tgt := 198) hx hb d_MO_works_25 (by rw [h25]; decide) (by rw [h25]; decide) (by rw [h25]; rfl) rfl ?_
      refine lv_aload_n hx hb d_MO_works_198 rfl (lv_at hl 2 rfl) ?_
      refine lv_iconst (v := 1) hx hb d_MO_works_199 (by decide) ?_
      refine lv_iload_n hx hb d_MO_works_200 rfl (lv_at hl 4 rfl) ?_
      refine lv_iload hx hb d_MO_works_201 (lv_at hl 0 rfl) ?_
      refine lv_iconst (v := 0) hx hb d_MO_works_203 (by decide) ?_
      have hPc := hP.sub (ws' := [(o, .inr (5, [.int th, .ref im, .int (bI tr), .ref rc, .ref bg, .int ro, .ref oa, .ref xa, .ref ya, .ref rg, .ref me, .ref sa, .ref pa, .ref za, .ref ca, .int (bI kp), .ref ta, .ref na])), (rg, .inl (cI, 6, .inl (rg6 a x d b0 b1 b2))), (za, .inl (cZ, 2, .inl (p2 (bI z0) (bI z1)))), (ca, .inl (cZ, 2, .inl (p2 (bI c0) (bI c1))))]) [0, 1, 3, 4] rfl
      have hDc := hD.sub (ws' := [(o, .inr (5, [.int th, .ref im, .int (bI tr), .ref rc, .ref bg, .int ro, .ref oa, .ref xa, .ref ya, .ref rg, .ref me, .ref sa, .ref pa, .ref za, .ref ca, .int (bI kp), .ref ta, .ref na])), (rg, .inl (cI, 6, .inl (rg6 a x d b0 b1 b2))), (za, .inl (cZ, 2, .inl (p2 (bI z0) (bI z1)))), (ca, .inl (cZ, 2, .inl (p2 (bI c0) (bI c1))))]) [0, 1, 3, 4] (by decide) rfl
      have hFc := va_free (wc := [(o, .inr (5, [.int th, .ref im, .int (bI tr), .ref rc, .ref bg, .int ro, .ref oa, .ref xa, .ref ya, .ref rg, .ref me, .ref sa, .ref pa, .ref za, .ref ca, .int (bI kp), .ref ta, .ref na])), (rg, .inl (cI, 6, .inl (rg6 a x d b0 b1 b2))), (za, .inl (cZ, 2, .inl (p2 (bI z0) (bI z1)))), (ca, .inl (cZ, 2, .inl (p2 (bI c0) (bI c1))))]) hD hS hA [0, 1, 3, 4] rfl
      refine va_callv (va_runV (As := [.int 1, .int 1, .int (selM j b0 b1 b2), .int 0]) (rest := []) ⟨hx, hb, hml, hown, hts⟩ (q_adds11 l D cI cZ o th im tr rc bg ro oa xa ya rg me sa pa za ca kp ta na a x d b0 b1 b2 z0 z1 c0 c1 (selM j b0 b1 b2) 0 H.size) ⟨cB 4 hts k_857 k_62 k_854 hd_MO_adds ⟨Nat.le_of_ble_eq_true rfl, Nat.le_of_ble_eq_true rfl⟩ rfl rfl, hts _ k_856, hts _ k_45⟩ (PcW.preV (va_recv hK hP (q0 := 0) (ci := 5) rfl rfl) hPc hK hDc hN) rfl rfl hl.1 rfl (lv_room (Nat.le_of_ble_eq_true rfl)) d_MO_works_204 ⟨Nat.le_of_ble_eq_true rfl, Nat.le_of_ble_eq_true rfl⟩) hS (fun q _ h => hFc q h) hFc (fun u t H1 locs ht hvm e204 hB hz1 hk1 hS => ?_)
      obtain ⟨v1204, zz204, cy204⟩ := u
      obtain ⟨hP1, hK1, hD1⟩ := hB
      rw [ht] at hP1
      obtain ⟨hP, hD⟩ := va_join (wr := [(me, .inl (cI, 512, .inl (mm2 g h)))]) (w1 := [(o, .inr (5, [.int th, .ref im, .int (bI tr), .ref rc, .ref bg, .int ro, .ref oa, .ref xa, .ref ya, .ref rg, .ref me, .ref sa, .ref pa, .ref za, .ref ca, .int (bI kp), .ref ta, .ref na])), (rg, .inl (cI, 6, .inl (rg6 a x d b0 v1204 b2))), (za, .inl (cZ, 2, .inl (p2 (bI z0) (bI zz204)))), (ca, .inl (cZ, 2, .inl (p2 (bI c0) (bI cy204))))]) hP hD [0, 1, 3, 4] [2] rfl rfl (by decide) (by decide) hk1 hFc hP1 hD1
      generalize H1 = H at hP hS ⊢
      try dsimp only at e204
      obtain ⟨e204_0, e204_1, e204_2⟩ := e204
      replace e204_0 := e204_0.symm
      subst e204_0
      replace e204_1 := e204_1.symm
      subst e204_1
      replace e204_2 := e204_2.symm
      subst e204_2
      have hP : va_P D vwCl [(me, .inl (cI, 512, .inl (mm2 g h))), (o, .inr (5, [.int th, .ref im, .int (bI tr), .ref rc, .ref bg, .int ro, .ref oa, .ref xa, .ref ya, .ref rg, .ref me, .ref sa, .ref pa, .ref za, .ref ca, .int (bI kp), .ref ta, .ref na])), (rg, .inl (cI, 6, .inl (rg6 a x d b0 ((b1 + (selM j b0 b1 b2) + 0) &&& 255) b2))), (za, .inl (cZ, 2, .inl (p2 (bI z0) (bI (decide ((b1 + (selM j b0 b1 b2) + 0) &&& 255 = 0)))))), (ca, .inl (cZ, 2, .inl (p2 (bI c0) (bI (decide (¬ b1 + (selM j b0 b1 b2) + 0 ≤ 255))))))] H := hP
      have hD : va_D A [(me, .inl (cI, 512, .inl (mm2 g h))), (o, .inr (5, [.int th, .ref im, .int (bI tr), .ref rc, .ref bg, .int ro, .ref oa, .ref xa, .ref ya, .ref rg, .ref me, .ref sa, .ref pa, .ref za, .ref ca, .int (bI kp), .ref ta, .ref na])), (rg, .inl (cI, 6, .inl (rg6 a x d b0 ((b1 + (selM j b0 b1 b2) + 0) &&& 255) b2))), (za, .inl (cZ, 2, .inl (p2 (bI z0) (bI (decide ((b1 + (selM j b0 b1 b2) + 0) &&& 255 = 0)))))), (ca, .inl (cZ, 2, .inl (p2 (bI c0) (bI (decide (¬ b1 + (selM j b0 b1 b2) + 0 ≤ 255))))))] := hD
      refine lv_goto (tgt := 302) hx hb d_MO_works_207 rfl ?_
      have hP9 : va_P D vwCl [(o, .inr (5, [.int th, .ref im, .int (bI tr), .ref rc, .ref bg, .int ro, .ref oa, .ref xa, .ref ya, .ref rg, .ref me, .ref sa, .ref pa, .ref za, .ref ca, .int (bI kp), .ref ta, .ref na])), (rg, .inl (cI, 6, .inl (rg6 a x d b0 ((b1 + (selM j b0 b1 b2) + 0) &&& 255) b2))), (me, .inl (cI, 512, .inl (mm2 g h))), (za, .inl (cZ, 2, .inl (p2 (bI z0) (bI (decide ((b1 + (selM j b0 b1 b2) + 0) &&& 255 = 0)))))), (ca, .inl (cZ, 2, .inl (p2 (bI c0) (bI (decide (¬ b1 + (selM j b0 b1 b2) + 0 ≤ 255))))))] H := hP.sub [1, 2, 0, 3, 4] rfl
      have hD9 : va_D A [(o, .inr (5, [.int th, .ref im, .int (bI tr), .ref rc, .ref bg, .int ro, .ref oa, .ref xa, .ref ya, .ref rg, .ref me, .ref sa, .ref pa, .ref za, .ref ca, .int (bI kp), .ref ta, .ref na])), (rg, .inl (cI, 6, .inl (rg6 a x d b0 ((b1 + (selM j b0 b1 b2) + 0) &&& 255) b2))), (me, .inl (cI, 512, .inl (mm2 g h))), (za, .inl (cZ, 2, .inl (p2 (bI z0) (bI (decide ((b1 + (selM j b0 b1 b2) + 0) &&& 255 = 0)))))), (ca, .inl (cZ, 2, .inl (p2 (bI c0) (bI (decide (¬ b1 + (selM j b0 b1 b2) + 0 ≤ 255))))))] := hD.sub [1, 2, 0, 3, 4] (by decide) rfl
      exact W.vret hx hb hr (fun t ht hW => ⟨⟨(h, b0, (b1 + (selM j b0 b1 b2) + 0) &&& 255, b2, decide ((b1 + (selM j b0 b1 b2) + 0) &&& 255 = 0), decide (¬ b1 + (selM j b0 b1 b2) + 0 ≤ 255)), rfl, by rw [h25]; rfl, by rw [ht]; exact hP9, va_K.moved hW.alike hK, hD9⟩, hS.F ht⟩) hS.2.2 d_MO_works_302
    | 8, _, h25 =>
      have h25 : op = 10 := h25
      refine lv_tableIn (off := 185) (tgt := 210) hx hb d_MO_works_25 (by rw [h25]; decide) (by rw [h25]; decide) (by rw [h25]; rfl) rfl ?_
      refine lv_aload_n hx hb d_MO_works_210 rfl (lv_at hl 2 rfl) ?_
      refine lv_iconst (v := 1) hx hb d_MO_works_211 (by decide) ?_
      refine lv_iload_n hx hb d_MO_works_212 rfl (lv_at hl 4 rfl) ?_
      refine lv_iload hx hb d_MO_works_213 (lv_at hl 0 rfl) ?_
      refine lv_aload_n hx hb d_MO_works_215 rfl (lv_at hl 2 rfl) ?_
      refine va_get (D := D) (ci := 5) (v := .ref ca) (C := R_MO) (T := T_MO) (N := 18) hx hb hts iw_MO hown hK hP 0 rfl rfl 14 (by decide) (hts _ k_709) (fun _ h9 => h9) rfl d_MO_works_216 ?_
      refine lv_iconst (v := 1) hx hb d_MO_works_219 (by decide) ?_
      refine va_zald hx hb hK hP 4 1 rfl rfl (vp_in_nI (n := 1) (by decide) (by decide)) d_MO_works_220 ?_
      refine lv_if_eq (tgt := 228) hx hb d_MO_works_221 rfl (fun h221 => ?_) (fun h221 => ?_)
      · have h221 : c1 = false := bI_f h221
        refine lv_iconst (v := 0) hx hb d_MO_works_228 (by decide) ?_
        have hPc := hP.sub (ws' := [(o, .inr (5, [.int th, .ref im, .int (bI tr), .ref rc, .ref bg, .int ro, .ref oa, .ref xa, .ref ya, .ref rg, .ref me, .ref sa, .ref pa, .ref za, .ref ca, .int (bI kp), .ref ta, .ref na])), (rg, .inl (cI, 6, .inl (rg6 a x d b0 b1 b2))), (za, .inl (cZ, 2, .inl (p2 (bI z0) (bI z1)))), (ca, .inl (cZ, 2, .inl (p2 (bI c0) (bI c1))))]) [0, 1, 3, 4] rfl
        have hDc := hD.sub (ws' := [(o, .inr (5, [.int th, .ref im, .int (bI tr), .ref rc, .ref bg, .int ro, .ref oa, .ref xa, .ref ya, .ref rg, .ref me, .ref sa, .ref pa, .ref za, .ref ca, .int (bI kp), .ref ta, .ref na])), (rg, .inl (cI, 6, .inl (rg6 a x d b0 b1 b2))), (za, .inl (cZ, 2, .inl (p2 (bI z0) (bI z1)))), (ca, .inl (cZ, 2, .inl (p2 (bI c0) (bI c1))))]) [0, 1, 3, 4] (by decide) rfl
        have hFc := va_free (wc := [(o, .inr (5, [.int th, .ref im, .int (bI tr), .ref rc, .ref bg, .int ro, .ref oa, .ref xa, .ref ya, .ref rg, .ref me, .ref sa, .ref pa, .ref za, .ref ca, .int (bI kp), .ref ta, .ref na])), (rg, .inl (cI, 6, .inl (rg6 a x d b0 b1 b2))), (za, .inl (cZ, 2, .inl (p2 (bI z0) (bI z1)))), (ca, .inl (cZ, 2, .inl (p2 (bI c0) (bI c1))))]) hD hS hA [0, 1, 3, 4] rfl
        refine va_callv (va_runV (As := [.int 1, .int 1, .int (selM j b0 b1 b2), .int 0]) (rest := []) ⟨hx, hb, hml, hown, hts⟩ (q_adds11 l D cI cZ o th im tr rc bg ro oa xa ya rg me sa pa za ca kp ta na a x d b0 b1 b2 z0 z1 c0 c1 (selM j b0 b1 b2) 0 H.size) ⟨cB 4 hts k_857 k_62 k_854 hd_MO_adds ⟨Nat.le_of_ble_eq_true rfl, Nat.le_of_ble_eq_true rfl⟩ rfl rfl, hts _ k_856, hts _ k_45⟩ (PcW.preV (va_recv hK hP (q0 := 0) (ci := 5) rfl rfl) hPc hK hDc hN) rfl rfl hl.1 rfl (lv_room (Nat.le_of_ble_eq_true rfl)) d_MO_works_229 ⟨Nat.le_of_ble_eq_true rfl, Nat.le_of_ble_eq_true rfl⟩) hS (fun q _ h => hFc q h) hFc (fun u t H1 locs ht hvm e229 hB hz1 hk1 hS => ?_)
        obtain ⟨v1229, zz229, cy229⟩ := u
        obtain ⟨hP1, hK1, hD1⟩ := hB
        rw [ht] at hP1
        obtain ⟨hP, hD⟩ := va_join (wr := [(me, .inl (cI, 512, .inl (mm2 g h)))]) (w1 := [(o, .inr (5, [.int th, .ref im, .int (bI tr), .ref rc, .ref bg, .int ro, .ref oa, .ref xa, .ref ya, .ref rg, .ref me, .ref sa, .ref pa, .ref za, .ref ca, .int (bI kp), .ref ta, .ref na])), (rg, .inl (cI, 6, .inl (rg6 a x d b0 v1229 b2))), (za, .inl (cZ, 2, .inl (p2 (bI z0) (bI zz229)))), (ca, .inl (cZ, 2, .inl (p2 (bI c0) (bI cy229))))]) hP hD [0, 1, 3, 4] [2] rfl rfl (by decide) (by decide) hk1 hFc hP1 hD1
        generalize H1 = H at hP hS ⊢
        try dsimp only at e229
        obtain ⟨e229_0, e229_1, e229_2⟩ := e229
        replace e229_0 := e229_0.symm
        subst e229_0
        replace e229_1 := e229_1.symm
        subst e229_1
        replace e229_2 := e229_2.symm
        subst e229_2
        have hP : va_P D vwCl [(me, .inl (cI, 512, .inl (mm2 g h))), (o, .inr (5, [.int th, .ref im, .int (bI tr), .ref rc, .ref bg, .int ro, .ref oa, .ref xa, .ref ya, .ref rg, .ref me, .ref sa, .ref pa, .ref za, .ref ca, .int (bI kp), .ref ta, .ref na])), (rg, .inl (cI, 6, .inl (rg6 a x d b0 ((b1 + (selM j b0 b1 b2) + 0) &&& 255) b2))), (za, .inl (cZ, 2, .inl (p2 (bI z0) (bI (decide ((b1 + (selM j b0 b1 b2) + 0) &&& 255 = 0)))))), (ca, .inl (cZ, 2, .inl (p2 (bI c0) (bI (decide (¬ b1 + (selM j b0 b1 b2) + 0 ≤ 255))))))] H := hP
        have hD : va_D A [(me, .inl (cI, 512, .inl (mm2 g h))), (o, .inr (5, [.int th, .ref im, .int (bI tr), .ref rc, .ref bg, .int ro, .ref oa, .ref xa, .ref ya, .ref rg, .ref me, .ref sa, .ref pa, .ref za, .ref ca, .int (bI kp), .ref ta, .ref na])), (rg, .inl (cI, 6, .inl (rg6 a x d b0 ((b1 + (selM j b0 b1 b2) + 0) &&& 255) b2))), (za, .inl (cZ, 2, .inl (p2 (bI z0) (bI (decide ((b1 + (selM j b0 b1 b2) + 0) &&& 255 = 0)))))), (ca, .inl (cZ, 2, .inl (p2 (bI c0) (bI (decide (¬ b1 + (selM j b0 b1 b2) + 0 ≤ 255))))))] := hD
        refine lv_goto (tgt := 302) hx hb d_MO_works_232 rfl ?_
        have hP9 : va_P D vwCl [(o, .inr (5, [.int th, .ref im, .int (bI tr), .ref rc, .ref bg, .int ro, .ref oa, .ref xa, .ref ya, .ref rg, .ref me, .ref sa, .ref pa, .ref za, .ref ca, .int (bI kp), .ref ta, .ref na])), (rg, .inl (cI, 6, .inl (rg6 a x d b0 ((b1 + (selM j b0 b1 b2) + 0) &&& 255) b2))), (me, .inl (cI, 512, .inl (mm2 g h))), (za, .inl (cZ, 2, .inl (p2 (bI z0) (bI (decide ((b1 + (selM j b0 b1 b2) + 0) &&& 255 = 0)))))), (ca, .inl (cZ, 2, .inl (p2 (bI c0) (bI (decide (¬ b1 + (selM j b0 b1 b2) + 0 ≤ 255))))))] H := hP.sub [1, 2, 0, 3, 4] rfl
        have hD9 : va_D A [(o, .inr (5, [.int th, .ref im, .int (bI tr), .ref rc, .ref bg, .int ro, .ref oa, .ref xa, .ref ya, .ref rg, .ref me, .ref sa, .ref pa, .ref za, .ref ca, .int (bI kp), .ref ta, .ref na])), (rg, .inl (cI, 6, .inl (rg6 a x d b0 ((b1 + (selM j b0 b1 b2) + 0) &&& 255) b2))), (me, .inl (cI, 512, .inl (mm2 g h))), (za, .inl (cZ, 2, .inl (p2 (bI z0) (bI (decide ((b1 + (selM j b0 b1 b2) + 0) &&& 255 = 0)))))), (ca, .inl (cZ, 2, .inl (p2 (bI c0) (bI (decide (¬ b1 + (selM j b0 b1 b2) + 0 ≤ 255))))))] := hD.sub [1, 2, 0, 3, 4] (by decide) rfl
        exact W.vret hx hb hr (fun t ht hW => ⟨⟨(h, b0, (b1 + (selM j b0 b1 b2) + 0) &&& 255, b2, decide ((b1 + (selM j b0 b1 b2) + 0) &&& 255 = 0), decide (¬ b1 + (selM j b0 b1 b2) + 0 ≤ 255)), rfl, by rw [h25, h221]; rfl, by rw [ht]; exact hP9, va_K.moved hW.alike hK, hD9⟩, hS.F ht⟩) hS.2.2 d_MO_works_302
      · have h221 : c1 = true := bI_t h221
        refine lv_iconst (v := 1) hx hb d_MO_works_224 (by decide) ?_
        refine lv_goto (tgt := 229) hx hb d_MO_works_225 rfl ?_
        have hPc := hP.sub (ws' := [(o, .inr (5, [.int th, .ref im, .int (bI tr), .ref rc, .ref bg, .int ro, .ref oa, .ref xa, .ref ya, .ref rg, .ref me, .ref sa, .ref pa, .ref za, .ref ca, .int (bI kp), .ref ta, .ref na])), (rg, .inl (cI, 6, .inl (rg6 a x d b0 b1 b2))), (za, .inl (cZ, 2, .inl (p2 (bI z0) (bI z1)))), (ca, .inl (cZ, 2, .inl (p2 (bI c0) (bI c1))))]) [0, 1, 3, 4] rfl
        have hDc := hD.sub (ws' := [(o, .inr (5, [.int th, .ref im, .int (bI tr), .ref rc, .ref bg, .int ro, .ref oa, .ref xa, .ref ya, .ref rg, .ref me, .ref sa, .ref pa, .ref za, .ref ca, .int (bI kp), .ref ta, .ref na])), (rg, .inl (cI, 6, .inl (rg6 a x d b0 b1 b2))), (za, .inl (cZ, 2, .inl (p2 (bI z0) (bI z1)))), (ca, .inl (cZ, 2, .inl (p2 (bI c0) (bI c1))))]) [0, 1, 3, 4] (by decide) rfl
        have hFc := va_free (wc := [(o, .inr (5, [.int th, .ref im, .int (bI tr), .ref rc, .ref bg, .int ro, .ref oa, .ref xa, .ref ya, .ref rg, .ref me, .ref sa, .ref pa, .ref za, .ref ca, .int (bI kp), .ref ta, .ref na])), (rg, .inl (cI, 6, .inl (rg6 a x d b0 b1 b2))), (za, .inl (cZ, 2, .inl (p2 (bI z0) (bI z1)))), (ca, .inl (cZ, 2, .inl (p2 (bI c0) (bI c1))))]) hD hS hA [0, 1, 3, 4] rfl
        refine va_callv (va_runV (As := [.int 1, .int 1, .int (selM j b0 b1 b2), .int 1]) (rest := []) ⟨hx, hb, hml, hown, hts⟩ (q_adds11 l D cI cZ o th im tr rc bg ro oa xa ya rg me sa pa za ca kp ta na a x d b0 b1 b2 z0 z1 c0 c1 (selM j b0 b1 b2) 1 H.size) ⟨cB 4 hts k_857 k_62 k_854 hd_MO_adds ⟨Nat.le_of_ble_eq_true rfl, Nat.le_of_ble_eq_true rfl⟩ rfl rfl, hts _ k_856, hts _ k_45⟩ (PcW.preV (va_recv hK hP (q0 := 0) (ci := 5) rfl rfl) hPc hK hDc hN) rfl rfl hl.1 rfl (lv_room (Nat.le_of_ble_eq_true rfl)) d_MO_works_229 ⟨Nat.le_of_ble_eq_true rfl, Nat.le_of_ble_eq_true rfl⟩) hS (fun q _ h => hFc q h) hFc (fun u t H1 locs ht hvm e229 hB hz1 hk1 hS => ?_)
        obtain ⟨v1229, zz229, cy229⟩ := u
        obtain ⟨hP1, hK1, hD1⟩ := hB
        rw [ht] at hP1
        obtain ⟨hP, hD⟩ := va_join (wr := [(me, .inl (cI, 512, .inl (mm2 g h)))]) (w1 := [(o, .inr (5, [.int th, .ref im, .int (bI tr), .ref rc, .ref bg, .int ro, .ref oa, .ref xa, .ref ya, .ref rg, .ref me, .ref sa, .ref pa, .ref za, .ref ca, .int (bI kp), .ref ta, .ref na])), (rg, .inl (cI, 6, .inl (rg6 a x d b0 v1229 b2))), (za, .inl (cZ, 2, .inl (p2 (bI z0) (bI zz229)))), (ca, .inl (cZ, 2, .inl (p2 (bI c0) (bI cy229))))]) hP hD [0, 1, 3, 4] [2] rfl rfl (by decide) (by decide) hk1 hFc hP1 hD1
        generalize H1 = H at hP hS ⊢
        try dsimp only at e229
        obtain ⟨e229_0, e229_1, e229_2⟩ := e229
        replace e229_0 := e229_0.symm
        subst e229_0
        replace e229_1 := e229_1.symm
        subst e229_1
        replace e229_2 := e229_2.symm
        subst e229_2
        have hP : va_P D vwCl [(me, .inl (cI, 512, .inl (mm2 g h))), (o, .inr (5, [.int th, .ref im, .int (bI tr), .ref rc, .ref bg, .int ro, .ref oa, .ref xa, .ref ya, .ref rg, .ref me, .ref sa, .ref pa, .ref za, .ref ca, .int (bI kp), .ref ta, .ref na])), (rg, .inl (cI, 6, .inl (rg6 a x d b0 ((b1 + (selM j b0 b1 b2) + 1) &&& 255) b2))), (za, .inl (cZ, 2, .inl (p2 (bI z0) (bI (decide ((b1 + (selM j b0 b1 b2) + 1) &&& 255 = 0)))))), (ca, .inl (cZ, 2, .inl (p2 (bI c0) (bI (decide (¬ b1 + (selM j b0 b1 b2) + 1 ≤ 255))))))] H := hP
        have hD : va_D A [(me, .inl (cI, 512, .inl (mm2 g h))), (o, .inr (5, [.int th, .ref im, .int (bI tr), .ref rc, .ref bg, .int ro, .ref oa, .ref xa, .ref ya, .ref rg, .ref me, .ref sa, .ref pa, .ref za, .ref ca, .int (bI kp), .ref ta, .ref na])), (rg, .inl (cI, 6, .inl (rg6 a x d b0 ((b1 + (selM j b0 b1 b2) + 1) &&& 255) b2))), (za, .inl (cZ, 2, .inl (p2 (bI z0) (bI (decide ((b1 + (selM j b0 b1 b2) + 1) &&& 255 = 0)))))), (ca, .inl (cZ, 2, .inl (p2 (bI c0) (bI (decide (¬ b1 + (selM j b0 b1 b2) + 1 ≤ 255))))))] := hD
        refine lv_goto (tgt := 302) hx hb d_MO_works_232 rfl ?_
        have hP9 : va_P D vwCl [(o, .inr (5, [.int th, .ref im, .int (bI tr), .ref rc, .ref bg, .int ro, .ref oa, .ref xa, .ref ya, .ref rg, .ref me, .ref sa, .ref pa, .ref za, .ref ca, .int (bI kp), .ref ta, .ref na])), (rg, .inl (cI, 6, .inl (rg6 a x d b0 ((b1 + (selM j b0 b1 b2) + 1) &&& 255) b2))), (me, .inl (cI, 512, .inl (mm2 g h))), (za, .inl (cZ, 2, .inl (p2 (bI z0) (bI (decide ((b1 + (selM j b0 b1 b2) + 1) &&& 255 = 0)))))), (ca, .inl (cZ, 2, .inl (p2 (bI c0) (bI (decide (¬ b1 + (selM j b0 b1 b2) + 1 ≤ 255))))))] H := hP.sub [1, 2, 0, 3, 4] rfl
        have hD9 : va_D A [(o, .inr (5, [.int th, .ref im, .int (bI tr), .ref rc, .ref bg, .int ro, .ref oa, .ref xa, .ref ya, .ref rg, .ref me, .ref sa, .ref pa, .ref za, .ref ca, .int (bI kp), .ref ta, .ref na])), (rg, .inl (cI, 6, .inl (rg6 a x d b0 ((b1 + (selM j b0 b1 b2) + 1) &&& 255) b2))), (me, .inl (cI, 512, .inl (mm2 g h))), (za, .inl (cZ, 2, .inl (p2 (bI z0) (bI (decide ((b1 + (selM j b0 b1 b2) + 1) &&& 255 = 0)))))), (ca, .inl (cZ, 2, .inl (p2 (bI c0) (bI (decide (¬ b1 + (selM j b0 b1 b2) + 1 ≤ 255))))))] := hD.sub [1, 2, 0, 3, 4] (by decide) rfl
        exact W.vret hx hb hr (fun t ht hW => ⟨⟨(h, b0, (b1 + (selM j b0 b1 b2) + 1) &&& 255, b2, decide ((b1 + (selM j b0 b1 b2) + 1) &&& 255 = 0), decide (¬ b1 + (selM j b0 b1 b2) + 1 ≤ 255)), rfl, by rw [h25, h221]; rfl, by rw [ht]; exact hP9, va_K.moved hW.alike hK, hD9⟩, hS.F ht⟩) hS.2.2 d_MO_works_302
    | 9, _, h25 =>
      have h25 : op = 11 := h25
      refine lv_tableIn (off := 210) (tgt := 235) hx hb d_MO_works_25 (by rw [h25]; decide) (by rw [h25]; decide) (by rw [h25]; rfl) rfl ?_
      refine lv_aload_n hx hb d_MO_works_235 rfl (lv_at hl 2 rfl) ?_
      refine lv_iconst (v := 1) hx hb d_MO_works_236 (by decide) ?_
      refine lv_iload_n hx hb d_MO_works_237 rfl (lv_at hl 4 rfl) ?_
      refine lv_iload hx hb d_MO_works_238 (lv_at hl 0 rfl) ?_
      refine lv_iconst (v := 0) hx hb d_MO_works_240 (by decide) ?_
      have hPc := hP.sub (ws' := [(o, .inr (5, [.int th, .ref im, .int (bI tr), .ref rc, .ref bg, .int ro, .ref oa, .ref xa, .ref ya, .ref rg, .ref me, .ref sa, .ref pa, .ref za, .ref ca, .int (bI kp), .ref ta, .ref na])), (rg, .inl (cI, 6, .inl (rg6 a x d b0 b1 b2))), (za, .inl (cZ, 2, .inl (p2 (bI z0) (bI z1)))), (ca, .inl (cZ, 2, .inl (p2 (bI c0) (bI c1))))]) [0, 1, 3, 4] rfl
      have hDc := hD.sub (ws' := [(o, .inr (5, [.int th, .ref im, .int (bI tr), .ref rc, .ref bg, .int ro, .ref oa, .ref xa, .ref ya, .ref rg, .ref me, .ref sa, .ref pa, .ref za, .ref ca, .int (bI kp), .ref ta, .ref na])), (rg, .inl (cI, 6, .inl (rg6 a x d b0 b1 b2))), (za, .inl (cZ, 2, .inl (p2 (bI z0) (bI z1)))), (ca, .inl (cZ, 2, .inl (p2 (bI c0) (bI c1))))]) [0, 1, 3, 4] (by decide) rfl
      have hFc := va_free (wc := [(o, .inr (5, [.int th, .ref im, .int (bI tr), .ref rc, .ref bg, .int ro, .ref oa, .ref xa, .ref ya, .ref rg, .ref me, .ref sa, .ref pa, .ref za, .ref ca, .int (bI kp), .ref ta, .ref na])), (rg, .inl (cI, 6, .inl (rg6 a x d b0 b1 b2))), (za, .inl (cZ, 2, .inl (p2 (bI z0) (bI z1)))), (ca, .inl (cZ, 2, .inl (p2 (bI c0) (bI c1))))]) hD hS hA [0, 1, 3, 4] rfl
      refine va_callv (va_runV (As := [.int 1, .int 1, .int (selM j b0 b1 b2), .int 0]) (rest := []) ⟨hx, hb, hml, hown, hts⟩ (q_subs11 l D cI cZ o th im tr rc bg ro oa xa ya rg me sa pa za ca kp ta na a x d b0 b1 b2 z0 z1 c0 c1 (selM j b0 b1 b2) false H.size) ⟨cB 4 hts k_861 k_62 k_858 hd_MO_subtracts ⟨Nat.le_of_ble_eq_true rfl, Nat.le_of_ble_eq_true rfl⟩ rfl rfl, hts _ k_860, hts _ k_46⟩ (PcW.preV (va_recv hK hP (q0 := 0) (ci := 5) rfl rfl) hPc hK hDc hN) rfl rfl hl.1 rfl (lv_room (Nat.le_of_ble_eq_true rfl)) d_MO_works_241 ⟨Nat.le_of_ble_eq_true rfl, Nat.le_of_ble_eq_true rfl⟩) hS (fun q _ h => hFc q h) hFc (fun u t H1 locs ht hvm e241 hB hz1 hk1 hS => ?_)
      obtain ⟨v1241, zz241, cy241⟩ := u
      obtain ⟨hP1, hK1, hD1⟩ := hB
      rw [ht] at hP1
      obtain ⟨hP, hD⟩ := va_join (wr := [(me, .inl (cI, 512, .inl (mm2 g h)))]) (w1 := [(o, .inr (5, [.int th, .ref im, .int (bI tr), .ref rc, .ref bg, .int ro, .ref oa, .ref xa, .ref ya, .ref rg, .ref me, .ref sa, .ref pa, .ref za, .ref ca, .int (bI kp), .ref ta, .ref na])), (rg, .inl (cI, 6, .inl (rg6 a x d b0 v1241 b2))), (za, .inl (cZ, 2, .inl (p2 (bI z0) (bI zz241)))), (ca, .inl (cZ, 2, .inl (p2 (bI c0) (bI cy241))))]) hP hD [0, 1, 3, 4] [2] rfl rfl (by decide) (by decide) hk1 hFc hP1 hD1
      generalize H1 = H at hP hS ⊢
      try dsimp only at e241
      obtain ⟨e241_0, e241_1, e241_2⟩ := e241
      replace e241_0 := e241_0.symm
      subst e241_0
      replace e241_1 := e241_1.symm
      subst e241_1
      replace e241_2 := e241_2.symm
      subst e241_2
      have hP : va_P D vwCl [(me, .inl (cI, 512, .inl (mm2 g h))), (o, .inr (5, [.int th, .ref im, .int (bI tr), .ref rc, .ref bg, .int ro, .ref oa, .ref xa, .ref ya, .ref rg, .ref me, .ref sa, .ref pa, .ref za, .ref ca, .int (bI kp), .ref ta, .ref na])), (rg, .inl (cI, 6, .inl (rg6 a x d b0 (if false = true then b1 &&& 255 else (b1 - (selM j b0 b1 b2)) &&& 255) b2))), (za, .inl (cZ, 2, .inl (p2 (bI z0) (bI (decide ((b1 - (selM j b0 b1 b2)) &&& 255 = 0)))))), (ca, .inl (cZ, 2, .inl (p2 (bI c0) (bI (decide (¬ (selM j b0 b1 b2) ≤ b1))))))] H := hP
      have hD : va_D A [(me, .inl (cI, 512, .inl (mm2 g h))), (o, .inr (5, [.int th, .ref im, .int (bI tr), .ref rc, .ref bg, .int ro, .ref oa, .ref xa, .ref ya, .ref rg, .ref me, .ref sa, .ref pa, .ref za, .ref ca, .int (bI kp), .ref ta, .ref na])), (rg, .inl (cI, 6, .inl (rg6 a x d b0 (if false = true then b1 &&& 255 else (b1 - (selM j b0 b1 b2)) &&& 255) b2))), (za, .inl (cZ, 2, .inl (p2 (bI z0) (bI (decide ((b1 - (selM j b0 b1 b2)) &&& 255 = 0)))))), (ca, .inl (cZ, 2, .inl (p2 (bI c0) (bI (decide (¬ (selM j b0 b1 b2) ≤ b1))))))] := hD
      refine lv_goto (tgt := 302) hx hb d_MO_works_244 rfl ?_
      have hP9 : va_P D vwCl [(o, .inr (5, [.int th, .ref im, .int (bI tr), .ref rc, .ref bg, .int ro, .ref oa, .ref xa, .ref ya, .ref rg, .ref me, .ref sa, .ref pa, .ref za, .ref ca, .int (bI kp), .ref ta, .ref na])), (rg, .inl (cI, 6, .inl (rg6 a x d b0 (if false = true then b1 &&& 255 else (b1 - (selM j b0 b1 b2)) &&& 255) b2))), (me, .inl (cI, 512, .inl (mm2 g h))), (za, .inl (cZ, 2, .inl (p2 (bI z0) (bI (decide ((b1 - (selM j b0 b1 b2)) &&& 255 = 0)))))), (ca, .inl (cZ, 2, .inl (p2 (bI c0) (bI (decide (¬ (selM j b0 b1 b2) ≤ b1))))))] H := hP.sub [1, 2, 0, 3, 4] rfl
      have hD9 : va_D A [(o, .inr (5, [.int th, .ref im, .int (bI tr), .ref rc, .ref bg, .int ro, .ref oa, .ref xa, .ref ya, .ref rg, .ref me, .ref sa, .ref pa, .ref za, .ref ca, .int (bI kp), .ref ta, .ref na])), (rg, .inl (cI, 6, .inl (rg6 a x d b0 (if false = true then b1 &&& 255 else (b1 - (selM j b0 b1 b2)) &&& 255) b2))), (me, .inl (cI, 512, .inl (mm2 g h))), (za, .inl (cZ, 2, .inl (p2 (bI z0) (bI (decide ((b1 - (selM j b0 b1 b2)) &&& 255 = 0)))))), (ca, .inl (cZ, 2, .inl (p2 (bI c0) (bI (decide (¬ (selM j b0 b1 b2) ≤ b1))))))] := hD.sub [1, 2, 0, 3, 4] (by decide) rfl
      exact W.vret hx hb hr (fun t ht hW => ⟨⟨(h, b0, if false = true then b1 &&& 255 else (b1 - (selM j b0 b1 b2)) &&& 255, b2, decide ((b1 - (selM j b0 b1 b2)) &&& 255 = 0), decide (¬ (selM j b0 b1 b2) ≤ b1)), rfl, by rw [h25]; rfl, by rw [ht]; exact hP9, va_K.moved hW.alike hK, hD9⟩, hS.F ht⟩) hS.2.2 d_MO_works_302
    | 10, _, h25 =>
      have h25 : op = 12 := h25
      refine lv_tableIn (off := 222) (tgt := 247) hx hb d_MO_works_25 (by rw [h25]; decide) (by rw [h25]; decide) (by rw [h25]; rfl) rfl ?_
      refine lv_aload_n hx hb d_MO_works_247 rfl (lv_at hl 2 rfl) ?_
      refine lv_iconst (v := 1) hx hb d_MO_works_248 (by decide) ?_
      refine lv_iload_n hx hb d_MO_works_249 rfl (lv_at hl 4 rfl) ?_
      refine lv_iload hx hb d_MO_works_250 (lv_at hl 1 rfl) ?_
      refine lv_iload hx hb d_MO_works_252 (lv_at hl 0 rfl) ?_
      refine lv_iand hx hb d_MO_works_254 ?_
      have hPc := hP.sub (ws' := [(o, .inr (5, [.int th, .ref im, .int (bI tr), .ref rc, .ref bg, .int ro, .ref oa, .ref xa, .ref ya, .ref rg, .ref me, .ref sa, .ref pa, .ref za, .ref ca, .int (bI kp), .ref ta, .ref na])), (rg, .inl (cI, 6, .inl (rg6 a x d b0 b1 b2))), (za, .inl (cZ, 2, .inl (p2 (bI z0) (bI z1)))), (ca, .inl (cZ, 2, .inl (p2 (bI c0) (bI c1))))]) [0, 1, 3, 4] rfl
      have hDc := hD.sub (ws' := [(o, .inr (5, [.int th, .ref im, .int (bI tr), .ref rc, .ref bg, .int ro, .ref oa, .ref xa, .ref ya, .ref rg, .ref me, .ref sa, .ref pa, .ref za, .ref ca, .int (bI kp), .ref ta, .ref na])), (rg, .inl (cI, 6, .inl (rg6 a x d b0 b1 b2))), (za, .inl (cZ, 2, .inl (p2 (bI z0) (bI z1)))), (ca, .inl (cZ, 2, .inl (p2 (bI c0) (bI c1))))]) [0, 1, 3, 4] (by decide) rfl
      have hFc := va_free (wc := [(o, .inr (5, [.int th, .ref im, .int (bI tr), .ref rc, .ref bg, .int ro, .ref oa, .ref xa, .ref ya, .ref rg, .ref me, .ref sa, .ref pa, .ref za, .ref ca, .int (bI kp), .ref ta, .ref na])), (rg, .inl (cI, 6, .inl (rg6 a x d b0 b1 b2))), (za, .inl (cZ, 2, .inl (p2 (bI z0) (bI z1)))), (ca, .inl (cZ, 2, .inl (p2 (bI c0) (bI c1))))]) hD hS hA [0, 1, 3, 4] rfl
      refine va_callv (va_runV (As := [.int 1, .int 1, .int (b1 &&& (selM j b0 b1 b2))]) (rest := []) ⟨hx, hb, hml, hown, hts⟩ (q_plain11 l D cI cZ o th im tr rc bg ro oa xa ya rg me sa pa za ca kp ta na a x d b0 b1 b2 z0 z1 c0 c1 (b1 &&& (selM j b0 b1 b2)) H.size) ⟨cB 3 hts k_865 k_62 k_862 hd_MO_plain ⟨Nat.le_of_ble_eq_true rfl, Nat.le_of_ble_eq_true rfl⟩ rfl rfl, hts _ k_864, hts _ k_47⟩ (PcW.preV (va_recv hK hP (q0 := 0) (ci := 5) rfl rfl) hPc hK hDc hN) rfl rfl hl.1 rfl (lv_room (Nat.le_of_ble_eq_true rfl)) d_MO_works_255 ⟨Nat.le_of_ble_eq_true rfl, Nat.le_of_ble_eq_true rfl⟩) hS (fun q _ h => hFc q h) hFc (fun u t H1 locs ht hvm e255 hB hz1 hk1 hS => ?_)
      obtain ⟨v1255, zz255, cy255⟩ := u
      obtain ⟨hP1, hK1, hD1⟩ := hB
      rw [ht] at hP1
      obtain ⟨hP, hD⟩ := va_join (wr := [(me, .inl (cI, 512, .inl (mm2 g h)))]) (w1 := [(o, .inr (5, [.int th, .ref im, .int (bI tr), .ref rc, .ref bg, .int ro, .ref oa, .ref xa, .ref ya, .ref rg, .ref me, .ref sa, .ref pa, .ref za, .ref ca, .int (bI kp), .ref ta, .ref na])), (rg, .inl (cI, 6, .inl (rg6 a x d b0 v1255 b2))), (za, .inl (cZ, 2, .inl (p2 (bI z0) (bI zz255)))), (ca, .inl (cZ, 2, .inl (p2 (bI c0) (bI cy255))))]) hP hD [0, 1, 3, 4] [2] rfl rfl (by decide) (by decide) hk1 hFc hP1 hD1
      generalize H1 = H at hP hS ⊢
      try dsimp only at e255
      obtain ⟨e255_0, e255_1, e255_2⟩ := e255
      replace e255_0 := e255_0.symm
      subst e255_0
      replace e255_1 := e255_1.symm
      subst e255_1
      replace e255_2 := e255_2.symm
      subst e255_2
      have hP : va_P D vwCl [(me, .inl (cI, 512, .inl (mm2 g h))), (o, .inr (5, [.int th, .ref im, .int (bI tr), .ref rc, .ref bg, .int ro, .ref oa, .ref xa, .ref ya, .ref rg, .ref me, .ref sa, .ref pa, .ref za, .ref ca, .int (bI kp), .ref ta, .ref na])), (rg, .inl (cI, 6, .inl (rg6 a x d b0 ((b1 &&& (selM j b0 b1 b2)) &&& 255) b2))), (za, .inl (cZ, 2, .inl (p2 (bI z0) (bI (decide ((b1 &&& (selM j b0 b1 b2)) &&& 255 = 0)))))), (ca, .inl (cZ, 2, .inl (p2 (bI c0) (bI false))))] H := hP
      have hD : va_D A [(me, .inl (cI, 512, .inl (mm2 g h))), (o, .inr (5, [.int th, .ref im, .int (bI tr), .ref rc, .ref bg, .int ro, .ref oa, .ref xa, .ref ya, .ref rg, .ref me, .ref sa, .ref pa, .ref za, .ref ca, .int (bI kp), .ref ta, .ref na])), (rg, .inl (cI, 6, .inl (rg6 a x d b0 ((b1 &&& (selM j b0 b1 b2)) &&& 255) b2))), (za, .inl (cZ, 2, .inl (p2 (bI z0) (bI (decide ((b1 &&& (selM j b0 b1 b2)) &&& 255 = 0)))))), (ca, .inl (cZ, 2, .inl (p2 (bI c0) (bI false))))] := hD
      refine lv_goto (tgt := 302) hx hb d_MO_works_258 rfl ?_
      have hP9 : va_P D vwCl [(o, .inr (5, [.int th, .ref im, .int (bI tr), .ref rc, .ref bg, .int ro, .ref oa, .ref xa, .ref ya, .ref rg, .ref me, .ref sa, .ref pa, .ref za, .ref ca, .int (bI kp), .ref ta, .ref na])), (rg, .inl (cI, 6, .inl (rg6 a x d b0 ((b1 &&& (selM j b0 b1 b2)) &&& 255) b2))), (me, .inl (cI, 512, .inl (mm2 g h))), (za, .inl (cZ, 2, .inl (p2 (bI z0) (bI (decide ((b1 &&& (selM j b0 b1 b2)) &&& 255 = 0)))))), (ca, .inl (cZ, 2, .inl (p2 (bI c0) (bI false))))] H := hP.sub [1, 2, 0, 3, 4] rfl
      have hD9 : va_D A [(o, .inr (5, [.int th, .ref im, .int (bI tr), .ref rc, .ref bg, .int ro, .ref oa, .ref xa, .ref ya, .ref rg, .ref me, .ref sa, .ref pa, .ref za, .ref ca, .int (bI kp), .ref ta, .ref na])), (rg, .inl (cI, 6, .inl (rg6 a x d b0 ((b1 &&& (selM j b0 b1 b2)) &&& 255) b2))), (me, .inl (cI, 512, .inl (mm2 g h))), (za, .inl (cZ, 2, .inl (p2 (bI z0) (bI (decide ((b1 &&& (selM j b0 b1 b2)) &&& 255 = 0)))))), (ca, .inl (cZ, 2, .inl (p2 (bI c0) (bI false))))] := hD.sub [1, 2, 0, 3, 4] (by decide) rfl
      exact W.vret hx hb hr (fun t ht hW => ⟨⟨(h, b0, (b1 &&& (selM j b0 b1 b2)) &&& 255, b2, decide ((b1 &&& (selM j b0 b1 b2)) &&& 255 = 0), false), rfl, by rw [h25]; rfl, by rw [ht]; exact hP9, va_K.moved hW.alike hK, hD9⟩, hS.F ht⟩) hS.2.2 d_MO_works_302
    | 11, _, h25 =>
      have h25 : op = 13 := h25
      refine lv_tableIn (off := 236) (tgt := 261) hx hb d_MO_works_25 (by rw [h25]; decide) (by rw [h25]; decide) (by rw [h25]; rfl) rfl ?_
      refine lv_aload_n hx hb d_MO_works_261 rfl (lv_at hl 2 rfl) ?_
      refine lv_iconst (v := 1) hx hb d_MO_works_262 (by decide) ?_
      refine lv_iload_n hx hb d_MO_works_263 rfl (lv_at hl 4 rfl) ?_
      refine lv_iload hx hb d_MO_works_264 (lv_at hl 1 rfl) ?_
      refine lv_iload hx hb d_MO_works_266 (lv_at hl 0 rfl) ?_
      refine lv_ixor hx hb d_MO_works_268 ?_
      have hPc := hP.sub (ws' := [(o, .inr (5, [.int th, .ref im, .int (bI tr), .ref rc, .ref bg, .int ro, .ref oa, .ref xa, .ref ya, .ref rg, .ref me, .ref sa, .ref pa, .ref za, .ref ca, .int (bI kp), .ref ta, .ref na])), (rg, .inl (cI, 6, .inl (rg6 a x d b0 b1 b2))), (za, .inl (cZ, 2, .inl (p2 (bI z0) (bI z1)))), (ca, .inl (cZ, 2, .inl (p2 (bI c0) (bI c1))))]) [0, 1, 3, 4] rfl
      have hDc := hD.sub (ws' := [(o, .inr (5, [.int th, .ref im, .int (bI tr), .ref rc, .ref bg, .int ro, .ref oa, .ref xa, .ref ya, .ref rg, .ref me, .ref sa, .ref pa, .ref za, .ref ca, .int (bI kp), .ref ta, .ref na])), (rg, .inl (cI, 6, .inl (rg6 a x d b0 b1 b2))), (za, .inl (cZ, 2, .inl (p2 (bI z0) (bI z1)))), (ca, .inl (cZ, 2, .inl (p2 (bI c0) (bI c1))))]) [0, 1, 3, 4] (by decide) rfl
      have hFc := va_free (wc := [(o, .inr (5, [.int th, .ref im, .int (bI tr), .ref rc, .ref bg, .int ro, .ref oa, .ref xa, .ref ya, .ref rg, .ref me, .ref sa, .ref pa, .ref za, .ref ca, .int (bI kp), .ref ta, .ref na])), (rg, .inl (cI, 6, .inl (rg6 a x d b0 b1 b2))), (za, .inl (cZ, 2, .inl (p2 (bI z0) (bI z1)))), (ca, .inl (cZ, 2, .inl (p2 (bI c0) (bI c1))))]) hD hS hA [0, 1, 3, 4] rfl
      refine va_callv (va_runV (As := [.int 1, .int 1, .int (b1 ^^^ (selM j b0 b1 b2))]) (rest := []) ⟨hx, hb, hml, hown, hts⟩ (q_plain11 l D cI cZ o th im tr rc bg ro oa xa ya rg me sa pa za ca kp ta na a x d b0 b1 b2 z0 z1 c0 c1 (b1 ^^^ (selM j b0 b1 b2)) H.size) ⟨cB 3 hts k_865 k_62 k_862 hd_MO_plain ⟨Nat.le_of_ble_eq_true rfl, Nat.le_of_ble_eq_true rfl⟩ rfl rfl, hts _ k_864, hts _ k_47⟩ (PcW.preV (va_recv hK hP (q0 := 0) (ci := 5) rfl rfl) hPc hK hDc hN) rfl rfl hl.1 rfl (lv_room (Nat.le_of_ble_eq_true rfl)) d_MO_works_269 ⟨Nat.le_of_ble_eq_true rfl, Nat.le_of_ble_eq_true rfl⟩) hS (fun q _ h => hFc q h) hFc (fun u t H1 locs ht hvm e269 hB hz1 hk1 hS => ?_)
      obtain ⟨v1269, zz269, cy269⟩ := u
      obtain ⟨hP1, hK1, hD1⟩ := hB
      rw [ht] at hP1
      obtain ⟨hP, hD⟩ := va_join (wr := [(me, .inl (cI, 512, .inl (mm2 g h)))]) (w1 := [(o, .inr (5, [.int th, .ref im, .int (bI tr), .ref rc, .ref bg, .int ro, .ref oa, .ref xa, .ref ya, .ref rg, .ref me, .ref sa, .ref pa, .ref za, .ref ca, .int (bI kp), .ref ta, .ref na])), (rg, .inl (cI, 6, .inl (rg6 a x d b0 v1269 b2))), (za, .inl (cZ, 2, .inl (p2 (bI z0) (bI zz269)))), (ca, .inl (cZ, 2, .inl (p2 (bI c0) (bI cy269))))]) hP hD [0, 1, 3, 4] [2] rfl rfl (by decide) (by decide) hk1 hFc hP1 hD1
      generalize H1 = H at hP hS ⊢
      try dsimp only at e269
      obtain ⟨e269_0, e269_1, e269_2⟩ := e269
      replace e269_0 := e269_0.symm
      subst e269_0
      replace e269_1 := e269_1.symm
      subst e269_1
      replace e269_2 := e269_2.symm
      subst e269_2
      have hP : va_P D vwCl [(me, .inl (cI, 512, .inl (mm2 g h))), (o, .inr (5, [.int th, .ref im, .int (bI tr), .ref rc, .ref bg, .int ro, .ref oa, .ref xa, .ref ya, .ref rg, .ref me, .ref sa, .ref pa, .ref za, .ref ca, .int (bI kp), .ref ta, .ref na])), (rg, .inl (cI, 6, .inl (rg6 a x d b0 ((b1 ^^^ (selM j b0 b1 b2)) &&& 255) b2))), (za, .inl (cZ, 2, .inl (p2 (bI z0) (bI (decide ((b1 ^^^ (selM j b0 b1 b2)) &&& 255 = 0)))))), (ca, .inl (cZ, 2, .inl (p2 (bI c0) (bI false))))] H := hP
      have hD : va_D A [(me, .inl (cI, 512, .inl (mm2 g h))), (o, .inr (5, [.int th, .ref im, .int (bI tr), .ref rc, .ref bg, .int ro, .ref oa, .ref xa, .ref ya, .ref rg, .ref me, .ref sa, .ref pa, .ref za, .ref ca, .int (bI kp), .ref ta, .ref na])), (rg, .inl (cI, 6, .inl (rg6 a x d b0 ((b1 ^^^ (selM j b0 b1 b2)) &&& 255) b2))), (za, .inl (cZ, 2, .inl (p2 (bI z0) (bI (decide ((b1 ^^^ (selM j b0 b1 b2)) &&& 255 = 0)))))), (ca, .inl (cZ, 2, .inl (p2 (bI c0) (bI false))))] := hD
      refine lv_goto (tgt := 302) hx hb d_MO_works_272 rfl ?_
      have hP9 : va_P D vwCl [(o, .inr (5, [.int th, .ref im, .int (bI tr), .ref rc, .ref bg, .int ro, .ref oa, .ref xa, .ref ya, .ref rg, .ref me, .ref sa, .ref pa, .ref za, .ref ca, .int (bI kp), .ref ta, .ref na])), (rg, .inl (cI, 6, .inl (rg6 a x d b0 ((b1 ^^^ (selM j b0 b1 b2)) &&& 255) b2))), (me, .inl (cI, 512, .inl (mm2 g h))), (za, .inl (cZ, 2, .inl (p2 (bI z0) (bI (decide ((b1 ^^^ (selM j b0 b1 b2)) &&& 255 = 0)))))), (ca, .inl (cZ, 2, .inl (p2 (bI c0) (bI false))))] H := hP.sub [1, 2, 0, 3, 4] rfl
      have hD9 : va_D A [(o, .inr (5, [.int th, .ref im, .int (bI tr), .ref rc, .ref bg, .int ro, .ref oa, .ref xa, .ref ya, .ref rg, .ref me, .ref sa, .ref pa, .ref za, .ref ca, .int (bI kp), .ref ta, .ref na])), (rg, .inl (cI, 6, .inl (rg6 a x d b0 ((b1 ^^^ (selM j b0 b1 b2)) &&& 255) b2))), (me, .inl (cI, 512, .inl (mm2 g h))), (za, .inl (cZ, 2, .inl (p2 (bI z0) (bI (decide ((b1 ^^^ (selM j b0 b1 b2)) &&& 255 = 0)))))), (ca, .inl (cZ, 2, .inl (p2 (bI c0) (bI false))))] := hD.sub [1, 2, 0, 3, 4] (by decide) rfl
      exact W.vret hx hb hr (fun t ht hW => ⟨⟨(h, b0, (b1 ^^^ (selM j b0 b1 b2)) &&& 255, b2, decide ((b1 ^^^ (selM j b0 b1 b2)) &&& 255 = 0), false), rfl, by rw [h25]; rfl, by rw [ht]; exact hP9, va_K.moved hW.alike hK, hD9⟩, hS.F ht⟩) hS.2.2 d_MO_works_302
    | 12, _, h25 =>
      have h25 : op = 14 := h25
      refine lv_tableIn (off := 250) (tgt := 275) hx hb d_MO_works_25 (by rw [h25]; decide) (by rw [h25]; decide) (by rw [h25]; rfl) rfl ?_
      refine lv_aload_n hx hb d_MO_works_275 rfl (lv_at hl 2 rfl) ?_
      refine lv_iconst (v := 1) hx hb d_MO_works_276 (by decide) ?_
      refine lv_iload_n hx hb d_MO_works_277 rfl (lv_at hl 4 rfl) ?_
      refine lv_iload hx hb d_MO_works_278 (lv_at hl 0 rfl) ?_
      refine lv_iconst (v := 1) hx hb d_MO_works_280 (by decide) ?_
      have hPc := hP.sub (ws' := [(o, .inr (5, [.int th, .ref im, .int (bI tr), .ref rc, .ref bg, .int ro, .ref oa, .ref xa, .ref ya, .ref rg, .ref me, .ref sa, .ref pa, .ref za, .ref ca, .int (bI kp), .ref ta, .ref na])), (rg, .inl (cI, 6, .inl (rg6 a x d b0 b1 b2))), (za, .inl (cZ, 2, .inl (p2 (bI z0) (bI z1)))), (ca, .inl (cZ, 2, .inl (p2 (bI c0) (bI c1))))]) [0, 1, 3, 4] rfl
      have hDc := hD.sub (ws' := [(o, .inr (5, [.int th, .ref im, .int (bI tr), .ref rc, .ref bg, .int ro, .ref oa, .ref xa, .ref ya, .ref rg, .ref me, .ref sa, .ref pa, .ref za, .ref ca, .int (bI kp), .ref ta, .ref na])), (rg, .inl (cI, 6, .inl (rg6 a x d b0 b1 b2))), (za, .inl (cZ, 2, .inl (p2 (bI z0) (bI z1)))), (ca, .inl (cZ, 2, .inl (p2 (bI c0) (bI c1))))]) [0, 1, 3, 4] (by decide) rfl
      have hFc := va_free (wc := [(o, .inr (5, [.int th, .ref im, .int (bI tr), .ref rc, .ref bg, .int ro, .ref oa, .ref xa, .ref ya, .ref rg, .ref me, .ref sa, .ref pa, .ref za, .ref ca, .int (bI kp), .ref ta, .ref na])), (rg, .inl (cI, 6, .inl (rg6 a x d b0 b1 b2))), (za, .inl (cZ, 2, .inl (p2 (bI z0) (bI z1)))), (ca, .inl (cZ, 2, .inl (p2 (bI c0) (bI c1))))]) hD hS hA [0, 1, 3, 4] rfl
      refine va_callv (va_runV (As := [.int 1, .int 1, .int (selM j b0 b1 b2), .int 1]) (rest := []) ⟨hx, hb, hml, hown, hts⟩ (q_subs11 l D cI cZ o th im tr rc bg ro oa xa ya rg me sa pa za ca kp ta na a x d b0 b1 b2 z0 z1 c0 c1 (selM j b0 b1 b2) true H.size) ⟨cB 4 hts k_861 k_62 k_858 hd_MO_subtracts ⟨Nat.le_of_ble_eq_true rfl, Nat.le_of_ble_eq_true rfl⟩ rfl rfl, hts _ k_860, hts _ k_46⟩ (PcW.preV (va_recv hK hP (q0 := 0) (ci := 5) rfl rfl) hPc hK hDc hN) rfl rfl hl.1 rfl (lv_room (Nat.le_of_ble_eq_true rfl)) d_MO_works_281 ⟨Nat.le_of_ble_eq_true rfl, Nat.le_of_ble_eq_true rfl⟩) hS (fun q _ h => hFc q h) hFc (fun u t H1 locs ht hvm e281 hB hz1 hk1 hS => ?_)
      obtain ⟨v1281, zz281, cy281⟩ := u
      obtain ⟨hP1, hK1, hD1⟩ := hB
      rw [ht] at hP1
      obtain ⟨hP, hD⟩ := va_join (wr := [(me, .inl (cI, 512, .inl (mm2 g h)))]) (w1 := [(o, .inr (5, [.int th, .ref im, .int (bI tr), .ref rc, .ref bg, .int ro, .ref oa, .ref xa, .ref ya, .ref rg, .ref me, .ref sa, .ref pa, .ref za, .ref ca, .int (bI kp), .ref ta, .ref na])), (rg, .inl (cI, 6, .inl (rg6 a x d b0 v1281 b2))), (za, .inl (cZ, 2, .inl (p2 (bI z0) (bI zz281)))), (ca, .inl (cZ, 2, .inl (p2 (bI c0) (bI cy281))))]) hP hD [0, 1, 3, 4] [2] rfl rfl (by decide) (by decide) hk1 hFc hP1 hD1
      generalize H1 = H at hP hS ⊢
      try dsimp only at e281
      obtain ⟨e281_0, e281_1, e281_2⟩ := e281
      replace e281_0 := e281_0.symm
      subst e281_0
      replace e281_1 := e281_1.symm
      subst e281_1
      replace e281_2 := e281_2.symm
      subst e281_2
      have hP : va_P D vwCl [(me, .inl (cI, 512, .inl (mm2 g h))), (o, .inr (5, [.int th, .ref im, .int (bI tr), .ref rc, .ref bg, .int ro, .ref oa, .ref xa, .ref ya, .ref rg, .ref me, .ref sa, .ref pa, .ref za, .ref ca, .int (bI kp), .ref ta, .ref na])), (rg, .inl (cI, 6, .inl (rg6 a x d b0 (if true = true then b1 &&& 255 else (b1 - (selM j b0 b1 b2)) &&& 255) b2))), (za, .inl (cZ, 2, .inl (p2 (bI z0) (bI (decide ((b1 - (selM j b0 b1 b2)) &&& 255 = 0)))))), (ca, .inl (cZ, 2, .inl (p2 (bI c0) (bI (decide (¬ (selM j b0 b1 b2) ≤ b1))))))] H := hP
      have hD : va_D A [(me, .inl (cI, 512, .inl (mm2 g h))), (o, .inr (5, [.int th, .ref im, .int (bI tr), .ref rc, .ref bg, .int ro, .ref oa, .ref xa, .ref ya, .ref rg, .ref me, .ref sa, .ref pa, .ref za, .ref ca, .int (bI kp), .ref ta, .ref na])), (rg, .inl (cI, 6, .inl (rg6 a x d b0 (if true = true then b1 &&& 255 else (b1 - (selM j b0 b1 b2)) &&& 255) b2))), (za, .inl (cZ, 2, .inl (p2 (bI z0) (bI (decide ((b1 - (selM j b0 b1 b2)) &&& 255 = 0)))))), (ca, .inl (cZ, 2, .inl (p2 (bI c0) (bI (decide (¬ (selM j b0 b1 b2) ≤ b1))))))] := hD
      refine lv_goto (tgt := 302) hx hb d_MO_works_284 rfl ?_
      have hP9 : va_P D vwCl [(o, .inr (5, [.int th, .ref im, .int (bI tr), .ref rc, .ref bg, .int ro, .ref oa, .ref xa, .ref ya, .ref rg, .ref me, .ref sa, .ref pa, .ref za, .ref ca, .int (bI kp), .ref ta, .ref na])), (rg, .inl (cI, 6, .inl (rg6 a x d b0 (if true = true then b1 &&& 255 else (b1 - (selM j b0 b1 b2)) &&& 255) b2))), (me, .inl (cI, 512, .inl (mm2 g h))), (za, .inl (cZ, 2, .inl (p2 (bI z0) (bI (decide ((b1 - (selM j b0 b1 b2)) &&& 255 = 0)))))), (ca, .inl (cZ, 2, .inl (p2 (bI c0) (bI (decide (¬ (selM j b0 b1 b2) ≤ b1))))))] H := hP.sub [1, 2, 0, 3, 4] rfl
      have hD9 : va_D A [(o, .inr (5, [.int th, .ref im, .int (bI tr), .ref rc, .ref bg, .int ro, .ref oa, .ref xa, .ref ya, .ref rg, .ref me, .ref sa, .ref pa, .ref za, .ref ca, .int (bI kp), .ref ta, .ref na])), (rg, .inl (cI, 6, .inl (rg6 a x d b0 (if true = true then b1 &&& 255 else (b1 - (selM j b0 b1 b2)) &&& 255) b2))), (me, .inl (cI, 512, .inl (mm2 g h))), (za, .inl (cZ, 2, .inl (p2 (bI z0) (bI (decide ((b1 - (selM j b0 b1 b2)) &&& 255 = 0)))))), (ca, .inl (cZ, 2, .inl (p2 (bI c0) (bI (decide (¬ (selM j b0 b1 b2) ≤ b1))))))] := hD.sub [1, 2, 0, 3, 4] (by decide) rfl
      exact W.vret hx hb hr (fun t ht hW => ⟨⟨(h, b0, if true = true then b1 &&& 255 else (b1 - (selM j b0 b1 b2)) &&& 255, b2, decide ((b1 - (selM j b0 b1 b2)) &&& 255 = 0), decide (¬ (selM j b0 b1 b2) ≤ b1)), rfl, by rw [h25]; rfl, by rw [ht]; exact hP9, va_K.moved hW.alike hK, hD9⟩, hS.F ht⟩) hS.2.2 d_MO_works_302
    | 13, _, h25 =>
      have h25 : op = 15 := h25
      refine lv_tableIn (off := 262) (tgt := 287) hx hb d_MO_works_25 (by rw [h25]; decide) (by rw [h25]; decide) (by rw [h25]; rfl) rfl ?_
      refine lv_aload_n hx hb d_MO_works_287 rfl (lv_at hl 2 rfl) ?_
      refine lv_iconst (v := 1) hx hb d_MO_works_288 (by decide) ?_
      refine lv_iload_n hx hb d_MO_works_289 rfl (lv_at hl 4 rfl) ?_
      have hPc := hP.sub (ws' := [(o, .inr (5, [.int th, .ref im, .int (bI tr), .ref rc, .ref bg, .int ro, .ref oa, .ref xa, .ref ya, .ref rg, .ref me, .ref sa, .ref pa, .ref za, .ref ca, .int (bI kp), .ref ta, .ref na])), (rg, .inl (cI, 6, .inl (rg6 a x d b0 b1 b2))), (za, .inl (cZ, 2, .inl (p2 (bI z0) (bI z1)))), (ca, .inl (cZ, 2, .inl (p2 (bI c0) (bI c1))))]) [0, 1, 3, 4] rfl
      have hDc := hD.sub (ws' := [(o, .inr (5, [.int th, .ref im, .int (bI tr), .ref rc, .ref bg, .int ro, .ref oa, .ref xa, .ref ya, .ref rg, .ref me, .ref sa, .ref pa, .ref za, .ref ca, .int (bI kp), .ref ta, .ref na])), (rg, .inl (cI, 6, .inl (rg6 a x d b0 b1 b2))), (za, .inl (cZ, 2, .inl (p2 (bI z0) (bI z1)))), (ca, .inl (cZ, 2, .inl (p2 (bI c0) (bI c1))))]) [0, 1, 3, 4] (by decide) rfl
      have hFc := va_free (wc := [(o, .inr (5, [.int th, .ref im, .int (bI tr), .ref rc, .ref bg, .int ro, .ref oa, .ref xa, .ref ya, .ref rg, .ref me, .ref sa, .ref pa, .ref za, .ref ca, .int (bI kp), .ref ta, .ref na])), (rg, .inl (cI, 6, .inl (rg6 a x d b0 b1 b2))), (za, .inl (cZ, 2, .inl (p2 (bI z0) (bI z1)))), (ca, .inl (cZ, 2, .inl (p2 (bI c0) (bI c1))))]) hD hS hA [0, 1, 3, 4] rfl
      refine va_callv (va_runV (As := [.int 1, .int 1]) (rest := []) ⟨hx, hb, hml, hown, hts⟩ (q_dbl11 l D cI cZ o th im tr rc bg ro oa xa ya rg me sa pa za ca kp ta na a x d b0 b1 b2 z0 z1 c0 c1 H.size) ⟨cB 2 hts k_869 k_62 k_866 hd_MO_doubles ⟨Nat.le_of_ble_eq_true rfl, Nat.le_of_ble_eq_true rfl⟩ rfl rfl, hts _ k_868, hts _ k_48⟩ (PcW.preV (va_recv hK hP (q0 := 0) (ci := 5) rfl rfl) hPc hK hDc hN) rfl rfl hl.1 rfl (lv_room (Nat.le_of_ble_eq_true rfl)) d_MO_works_290 ⟨Nat.le_of_ble_eq_true rfl, Nat.le_of_ble_eq_true rfl⟩) hS (fun q _ h => hFc q h) hFc (fun u t H1 locs ht hvm e290 hB hz1 hk1 hS => ?_)
      obtain ⟨v1290, zz290, cy290⟩ := u
      obtain ⟨hP1, hK1, hD1⟩ := hB
      rw [ht] at hP1
      obtain ⟨hP, hD⟩ := va_join (wr := [(me, .inl (cI, 512, .inl (mm2 g h)))]) (w1 := [(o, .inr (5, [.int th, .ref im, .int (bI tr), .ref rc, .ref bg, .int ro, .ref oa, .ref xa, .ref ya, .ref rg, .ref me, .ref sa, .ref pa, .ref za, .ref ca, .int (bI kp), .ref ta, .ref na])), (rg, .inl (cI, 6, .inl (rg6 a x d b0 v1290 b2))), (za, .inl (cZ, 2, .inl (p2 (bI z0) (bI zz290)))), (ca, .inl (cZ, 2, .inl (p2 (bI c0) (bI cy290))))]) hP hD [0, 1, 3, 4] [2] rfl rfl (by decide) (by decide) hk1 hFc hP1 hD1
      generalize H1 = H at hP hS ⊢
      try dsimp only at e290
      obtain ⟨e290_0, e290_1, e290_2⟩ := e290
      replace e290_0 := e290_0.symm
      subst e290_0
      replace e290_1 := e290_1.symm
      subst e290_1
      replace e290_2 := e290_2.symm
      subst e290_2
      have hP : va_P D vwCl [(me, .inl (cI, 512, .inl (mm2 g h))), (o, .inr (5, [.int th, .ref im, .int (bI tr), .ref rc, .ref bg, .int ro, .ref oa, .ref xa, .ref ya, .ref rg, .ref me, .ref sa, .ref pa, .ref za, .ref ca, .int (bI kp), .ref ta, .ref na])), (rg, .inl (cI, 6, .inl (rg6 a x d b0 ((2 * b1) &&& 255) b2))), (za, .inl (cZ, 2, .inl (p2 (bI z0) (bI (decide ((2 * b1) &&& 255 = 0)))))), (ca, .inl (cZ, 2, .inl (p2 (bI c0) (bI (decide (¬ b1 ≤ 127))))))] H := hP
      have hD : va_D A [(me, .inl (cI, 512, .inl (mm2 g h))), (o, .inr (5, [.int th, .ref im, .int (bI tr), .ref rc, .ref bg, .int ro, .ref oa, .ref xa, .ref ya, .ref rg, .ref me, .ref sa, .ref pa, .ref za, .ref ca, .int (bI kp), .ref ta, .ref na])), (rg, .inl (cI, 6, .inl (rg6 a x d b0 ((2 * b1) &&& 255) b2))), (za, .inl (cZ, 2, .inl (p2 (bI z0) (bI (decide ((2 * b1) &&& 255 = 0)))))), (ca, .inl (cZ, 2, .inl (p2 (bI c0) (bI (decide (¬ b1 ≤ 127))))))] := hD
      refine lv_goto (tgt := 302) hx hb d_MO_works_293 rfl ?_
      have hP9 : va_P D vwCl [(o, .inr (5, [.int th, .ref im, .int (bI tr), .ref rc, .ref bg, .int ro, .ref oa, .ref xa, .ref ya, .ref rg, .ref me, .ref sa, .ref pa, .ref za, .ref ca, .int (bI kp), .ref ta, .ref na])), (rg, .inl (cI, 6, .inl (rg6 a x d b0 ((2 * b1) &&& 255) b2))), (me, .inl (cI, 512, .inl (mm2 g h))), (za, .inl (cZ, 2, .inl (p2 (bI z0) (bI (decide ((2 * b1) &&& 255 = 0)))))), (ca, .inl (cZ, 2, .inl (p2 (bI c0) (bI (decide (¬ b1 ≤ 127))))))] H := hP.sub [1, 2, 0, 3, 4] rfl
      have hD9 : va_D A [(o, .inr (5, [.int th, .ref im, .int (bI tr), .ref rc, .ref bg, .int ro, .ref oa, .ref xa, .ref ya, .ref rg, .ref me, .ref sa, .ref pa, .ref za, .ref ca, .int (bI kp), .ref ta, .ref na])), (rg, .inl (cI, 6, .inl (rg6 a x d b0 ((2 * b1) &&& 255) b2))), (me, .inl (cI, 512, .inl (mm2 g h))), (za, .inl (cZ, 2, .inl (p2 (bI z0) (bI (decide ((2 * b1) &&& 255 = 0)))))), (ca, .inl (cZ, 2, .inl (p2 (bI c0) (bI (decide (¬ b1 ≤ 127))))))] := hD.sub [1, 2, 0, 3, 4] (by decide) rfl
      exact W.vret hx hb hr (fun t ht hW => ⟨⟨(h, b0, (2 * b1) &&& 255, b2, decide ((2 * b1) &&& 255 = 0), decide (¬ b1 ≤ 127)), rfl, by rw [h25]; rfl, by rw [ht]; exact hP9, va_K.moved hW.alike hK, hD9⟩, hS.F ht⟩) hS.2.2 d_MO_works_302
    | n + 14, h9, _ => exact absurd h9 (by omega)
set_option maxHeartbeats 4000000 in
set_option maxRecDepth 100000 in
theorem q_works2 (l : Launch) (D : va_G) (cI cZ : ClassId) (o : Nat) (th : Int32) (im : Nat) (tr : Bool) (rc : Nat) (bg : Nat) (ro : Int32) (oa : Nat) (xa : Nat) (ya : Nat) (rg : Nat) (me : Nat) (sa : Nat) (pa : Nat) (za : Nat) (ca : Nat) (kp : Bool) (ta : Nat) (na : Nat) (a : Int32) (x : Int32) (d : Int32) (b0 : Int32) (b1 : Int32) (b2 : Int32) (g : Nat → Int32) (h : Nat → Int32) (z0 : Bool) (z1 : Bool) (c0 : Bool) (c1 : Bool) (op : Int32) (j : Int32) (sz : Nat) : MetV l y_MO_works w_MO_works { frames := 3, cells := 0, slots := 0, locals := 71 } D cI cZ [.ref o, .int op, .int 2, .int j] [(o, .inr (5, [.int th, .ref im, .int (bI tr), .ref rc, .ref bg, .int ro, .ref oa, .ref xa, .ref ya, .ref rg, .ref me, .ref sa, .ref pa, .ref za, .ref ca, .int (bI kp), .ref ta, .ref na])), (rg, .inl (cI, 6, .inl (rg6 a x d b0 b1 b2))), (me, .inl (cI, 512, .inl (mm2 g h))), (za, .inl (cZ, 2, .inl (p2 (bI z0) (bI z1)))), (ca, .inl (cZ, 2, .inl (p2 (bI c0) (bI c1))))] sz (fun (u : (Nat → Int32) × Int32 × Int32 × Int32 × Bool × Bool) => match u with | (h1, v0, v1, v2, zz, cy) => (h1, v0, v1, v2, zz, cy) = mWork op 2 j h b0 b1 b2 z1 c1) (fun (u : (Nat → Int32) × Int32 × Int32 × Int32 × Bool × Bool) => match u with | (h1, v0, v1, v2, zz, cy) => [(o, .inr (5, [.int th, .ref im, .int (bI tr), .ref rc, .ref bg, .int ro, .ref oa, .ref xa, .ref ya, .ref rg, .ref me, .ref sa, .ref pa, .ref za, .ref ca, .int (bI kp), .ref ta, .ref na])), (rg, .inl (cI, 6, .inl (rg6 a x d v0 v1 v2))), (me, .inl (cI, 512, .inl (mm2 g h1))), (za, .inl (cZ, 2, .inl (p2 (bI z0) (bI zz)))), (ca, .inl (cZ, 2, .inl (p2 (bI c0) (bI cy))))]) 0 0 := by
  refine ofV (cc := c_MO_works) (maxL := 6) (ret := none) (by decide) rfl (Nat.le_of_ble_eq_true rfl) ?_
  intro p e s m args below meth c A H hH0 hx hb hr hlocks hts hown hnm hml ls hl hP hK hD hA hS hN
  have hown : s.vm.findClass R_MO = some m.cls := hown
  have hl : lv_has ls 6 [(0, .ref o), (1, .int op), (2, .int 2), (3, .int j)] := hl
  refine lv_aload_n hx hb d_MO_works_0 rfl (lv_at hl 0 rfl) ?_
  refine va_get (D := D) (ci := 5) (v := .ref rg) (C := R_MO) (T := T_MO) (N := 18) hx hb hts iw_MO hown hK hP 0 rfl rfl 9 (by decide) (hts _ k_704) (fun _ h9 => h9) rfl d_MO_works_1 ?_
  refine lv_iconst (v := 3) hx hb d_MO_works_4 (by decide) ?_
  refine lv_iload_n hx hb d_MO_works_5 rfl (lv_at hl 2 rfl) ?_
  refine lv_iadd hx hb d_MO_works_6 ?_
  refine va_iald hx hb hK hP 1 0 rfl rfl (vp_in_nI (n := 5) (by decide) (by decide)) d_MO_works_7 ?_
  refine lv_istore hx hb d_MO_works_8 hl (by decide) rfl (fun ls hl => ?_)
  have hl : lv_has ls 6 [(4, .int b2), (0, .ref o), (1, .int op), (2, .int 2), (3, .int j)] := hl
  refine lv_aload_n hx hb d_MO_works_10 rfl (lv_at hl 1 rfl) ?_
  refine va_get (D := D) (ci := 5) (v := .ref rg) (C := R_MO) (T := T_MO) (N := 18) hx hb hts iw_MO hown hK hP 0 rfl rfl 9 (by decide) (hts _ k_704) (fun _ h9 => h9) rfl d_MO_works_11 ?_
  refine lv_iconst (v := 3) hx hb d_MO_works_14 (by decide) ?_
  refine lv_iload_n hx hb d_MO_works_15 rfl (lv_at hl 4 rfl) ?_
  refine lv_iconst (v := 3) hx hb d_MO_works_16 (by decide) ?_
  refine lv_iand hx hb d_MO_works_17 ?_
  refine lv_iconst (v := 3) hx hb d_MO_works_18 (by decide) ?_
  refine lv_irem hx hb d_MO_works_19 (by decide) ?_
  refine lv_iadd hx hb d_MO_works_20 ?_
  refine va_iald hx hb hK hP 1 0 rfl rfl (selM_in _) d_MO_works_21 ?_
  refine lv_topi (fun y9 e9 => ?_)
  have e9 : y9 = selM j b0 b1 b2 := e9.trans (selM_eq _ _ _ _ _ _ _)
  subst e9
  refine lv_istore hx hb d_MO_works_22 hl (by decide) rfl (fun ls hl => ?_)
  have hl : lv_has ls 6 [(5, .int (selM j b0 b1 b2)), (4, .int b2), (0, .ref o), (1, .int op), (2, .int 2), (3, .int j)] := hl
  refine lv_iload_n hx hb d_MO_works_24 rfl (lv_at hl 3 rfl) ?_
  rcases sw_cases op 2 14 with h25 | ⟨j25, hj25, h25⟩
  · refine lv_tableOut (tgt := 296) hx hb d_MO_works_25 h25 rfl ?_
    have n25_2 : ¬ op = 2 := fun h9 => by rw [h9] at h25; revert h25; decide
    have n25_3 : ¬ op = 3 := fun h9 => by rw [h9] at h25; revert h25; decide
    have n25_4 : ¬ op = 4 := fun h9 => by rw [h9] at h25; revert h25; decide
    have n25_5 : ¬ op = 5 := fun h9 => by rw [h9] at h25; revert h25; decide
    have n25_6 : ¬ op = 6 := fun h9 => by rw [h9] at h25; revert h25; decide
    have n25_7 : ¬ op = 7 := fun h9 => by rw [h9] at h25; revert h25; decide
    have n25_8 : ¬ op = 8 := fun h9 => by rw [h9] at h25; revert h25; decide
    have n25_9 : ¬ op = 9 := fun h9 => by rw [h9] at h25; revert h25; decide
    have n25_10 : ¬ op = 10 := fun h9 => by rw [h9] at h25; revert h25; decide
    have n25_11 : ¬ op = 11 := fun h9 => by rw [h9] at h25; revert h25; decide
    have n25_12 : ¬ op = 12 := fun h9 => by rw [h9] at h25; revert h25; decide
    have n25_13 : ¬ op = 13 := fun h9 => by rw [h9] at h25; revert h25; decide
    have n25_14 : ¬ op = 14 := fun h9 => by rw [h9] at h25; revert h25; decide
    have n25_15 : ¬ op = 15 := fun h9 => by rw [h9] at h25; revert h25; decide
    refine lv_aload_n hx hb d_MO_works_296 rfl (lv_at hl 2 rfl) ?_
    refine lv_iconst (v := 1) hx hb d_MO_works_297 (by decide) ?_
    refine lv_iload_n hx hb d_MO_works_298 rfl (lv_at hl 4 rfl) ?_
    have hPc := hP.sub (ws' := [(o, .inr (5, [.int th, .ref im, .int (bI tr), .ref rc, .ref bg, .int ro, .ref oa, .ref xa, .ref ya, .ref rg, .ref me, .ref sa, .ref pa, .ref za, .ref ca, .int (bI kp), .ref ta, .ref na])), (rg, .inl (cI, 6, .inl (rg6 a x d b0 b1 b2))), (za, .inl (cZ, 2, .inl (p2 (bI z0) (bI z1)))), (ca, .inl (cZ, 2, .inl (p2 (bI c0) (bI c1))))]) [0, 1, 3, 4] rfl
    have hDc := hD.sub (ws' := [(o, .inr (5, [.int th, .ref im, .int (bI tr), .ref rc, .ref bg, .int ro, .ref oa, .ref xa, .ref ya, .ref rg, .ref me, .ref sa, .ref pa, .ref za, .ref ca, .int (bI kp), .ref ta, .ref na])), (rg, .inl (cI, 6, .inl (rg6 a x d b0 b1 b2))), (za, .inl (cZ, 2, .inl (p2 (bI z0) (bI z1)))), (ca, .inl (cZ, 2, .inl (p2 (bI c0) (bI c1))))]) [0, 1, 3, 4] (by decide) rfl
    have hFc := va_free (wc := [(o, .inr (5, [.int th, .ref im, .int (bI tr), .ref rc, .ref bg, .int ro, .ref oa, .ref xa, .ref ya, .ref rg, .ref me, .ref sa, .ref pa, .ref za, .ref ca, .int (bI kp), .ref ta, .ref na])), (rg, .inl (cI, 6, .inl (rg6 a x d b0 b1 b2))), (za, .inl (cZ, 2, .inl (p2 (bI z0) (bI z1)))), (ca, .inl (cZ, 2, .inl (p2 (bI c0) (bI c1))))]) hD hS hA [0, 1, 3, 4] rfl
    refine va_callv (va_runV (As := [.int 1, .int 2]) (rest := []) ⟨hx, hb, hml, hown, hts⟩ (q_hlv12 l D cI cZ o th im tr rc bg ro oa xa ya rg me sa pa za ca kp ta na a x d b0 b1 b2 z0 z1 c0 c1 H.size) ⟨cB 2 hts k_873 k_62 k_870 hd_MO_halves ⟨Nat.le_of_ble_eq_true rfl, Nat.le_of_ble_eq_true rfl⟩ rfl rfl, hts _ k_872, hts _ k_49⟩ (PcW.preV (va_recv hK hP (q0 := 0) (ci := 5) rfl rfl) hPc hK hDc hN) rfl rfl hl.1 rfl (lv_room (Nat.le_of_ble_eq_true rfl)) d_MO_works_299 ⟨Nat.le_of_ble_eq_true rfl, Nat.le_of_ble_eq_true rfl⟩) hS (fun q _ h => hFc q h) hFc (fun u t H1 locs ht hvm e299 hB hz1 hk1 hS => ?_)
    obtain ⟨v1299, zz299, cy299⟩ := u
    obtain ⟨hP1, hK1, hD1⟩ := hB
    rw [ht] at hP1
    obtain ⟨hP, hD⟩ := va_join (wr := [(me, .inl (cI, 512, .inl (mm2 g h)))]) (w1 := [(o, .inr (5, [.int th, .ref im, .int (bI tr), .ref rc, .ref bg, .int ro, .ref oa, .ref xa, .ref ya, .ref rg, .ref me, .ref sa, .ref pa, .ref za, .ref ca, .int (bI kp), .ref ta, .ref na])), (rg, .inl (cI, 6, .inl (rg6 a x d b0 b1 v1299))), (za, .inl (cZ, 2, .inl (p2 (bI z0) (bI zz299)))), (ca, .inl (cZ, 2, .inl (p2 (bI c0) (bI cy299))))]) hP hD [0, 1, 3, 4] [2] rfl rfl (by decide) (by decide) hk1 hFc hP1 hD1
    generalize H1 = H at hP hS ⊢
    try dsimp only at e299
    obtain ⟨e299_0, e299_1, e299_2⟩ := e299
    replace e299_0 := e299_0.symm
    subst e299_0
    replace e299_1 := e299_1.symm
    subst e299_1
    replace e299_2 := e299_2.symm
    subst e299_2
    have hP : va_P D vwCl [(me, .inl (cI, 512, .inl (mm2 g h))), (o, .inr (5, [.int th, .ref im, .int (bI tr), .ref rc, .ref bg, .int ro, .ref oa, .ref xa, .ref ya, .ref rg, .ref me, .ref sa, .ref pa, .ref za, .ref ca, .int (bI kp), .ref ta, .ref na])), (rg, .inl (cI, 6, .inl (rg6 a x d b0 b1 ((b2 / 2) &&& 255)))), (za, .inl (cZ, 2, .inl (p2 (bI z0) (bI (decide ((b2 / 2) &&& 255 = 0)))))), (ca, .inl (cZ, 2, .inl (p2 (bI c0) (bI (decide (b2 - b2 / 2 * 2 = 1))))))] H := hP
    have hD : va_D A [(me, .inl (cI, 512, .inl (mm2 g h))), (o, .inr (5, [.int th, .ref im, .int (bI tr), .ref rc, .ref bg, .int ro, .ref oa, .ref xa, .ref ya, .ref rg, .ref me, .ref sa, .ref pa, .ref za, .ref ca, .int (bI kp), .ref ta, .ref na])), (rg, .inl (cI, 6, .inl (rg6 a x d b0 b1 ((b2 / 2) &&& 255)))), (za, .inl (cZ, 2, .inl (p2 (bI z0) (bI (decide ((b2 / 2) &&& 255 = 0)))))), (ca, .inl (cZ, 2, .inl (p2 (bI c0) (bI (decide (b2 - b2 / 2 * 2 = 1))))))] := hD
    have hP9 : va_P D vwCl [(o, .inr (5, [.int th, .ref im, .int (bI tr), .ref rc, .ref bg, .int ro, .ref oa, .ref xa, .ref ya, .ref rg, .ref me, .ref sa, .ref pa, .ref za, .ref ca, .int (bI kp), .ref ta, .ref na])), (rg, .inl (cI, 6, .inl (rg6 a x d b0 b1 ((b2 / 2) &&& 255)))), (me, .inl (cI, 512, .inl (mm2 g h))), (za, .inl (cZ, 2, .inl (p2 (bI z0) (bI (decide ((b2 / 2) &&& 255 = 0)))))), (ca, .inl (cZ, 2, .inl (p2 (bI c0) (bI (decide (b2 - b2 / 2 * 2 = 1))))))] H := hP.sub [1, 2, 0, 3, 4] rfl
    have hD9 : va_D A [(o, .inr (5, [.int th, .ref im, .int (bI tr), .ref rc, .ref bg, .int ro, .ref oa, .ref xa, .ref ya, .ref rg, .ref me, .ref sa, .ref pa, .ref za, .ref ca, .int (bI kp), .ref ta, .ref na])), (rg, .inl (cI, 6, .inl (rg6 a x d b0 b1 ((b2 / 2) &&& 255)))), (me, .inl (cI, 512, .inl (mm2 g h))), (za, .inl (cZ, 2, .inl (p2 (bI z0) (bI (decide ((b2 / 2) &&& 255 = 0)))))), (ca, .inl (cZ, 2, .inl (p2 (bI c0) (bI (decide (b2 - b2 / 2 * 2 = 1))))))] := hD.sub [1, 2, 0, 3, 4] (by decide) rfl
    exact W.vret hx hb hr (fun t ht hW => ⟨⟨(h, b0, b1, (b2 / 2) &&& 255, decide ((b2 / 2) &&& 255 = 0), decide (b2 - b2 / 2 * 2 = 1)), rfl, by rw [mWork, if_neg n25_2, if_neg n25_3, if_neg n25_4, if_neg n25_5, if_neg n25_6, if_neg n25_7, if_neg n25_8, if_neg n25_9, if_neg n25_10, if_neg n25_11, if_neg n25_12, if_neg n25_13, if_neg n25_14, if_neg n25_15]; rfl, by rw [ht]; exact hP9, va_K.moved hW.alike hK, hD9⟩, hS.F ht⟩) hS.2.2 d_MO_works_302
  · match j25, hj25, h25 with
    | 0, _, h25 =>
      have h25 : op = 2 := h25
      refine lv_tableIn (off := 71) (tgt := 96) hx hb d_MO_works_25 (by rw [h25]; decide) (by rw [h25]; decide) (by rw [h25]; rfl) rfl ?_
      refine lv_aload_n hx hb d_MO_works_96 rfl (lv_at hl 2 rfl) ?_
      refine lv_iconst (v := 1) hx hb d_MO_works_97 (by decide) ?_
      refine lv_iload_n hx hb d_MO_works_98 rfl (lv_at hl 4 rfl) ?_
      refine lv_iload_n hx hb d_MO_works_99 rfl (lv_at hl 5 rfl) ?_
      have hPc := hP.sub (ws' := [(o, .inr (5, [.int th, .ref im, .int (bI tr), .ref rc, .ref bg, .int ro, .ref oa, .ref xa, .ref ya, .ref rg, .ref me, .ref sa, .ref pa, .ref za, .ref ca, .int (bI kp), .ref ta, .ref na])), (rg, .inl (cI, 6, .inl (rg6 a x d b0 b1 b2)))]) [0, 1] rfl
      have hDc := hD.sub (ws' := [(o, .inr (5, [.int th, .ref im, .int (bI tr), .ref rc, .ref bg, .int ro, .ref oa, .ref xa, .ref ya, .ref rg, .ref me, .ref sa, .ref pa, .ref za, .ref ca, .int (bI kp), .ref ta, .ref na])), (rg, .inl (cI, 6, .inl (rg6 a x d b0 b1 b2)))]) [0, 1] (by decide) rfl
      have hFc := va_free (wc := [(o, .inr (5, [.int th, .ref im, .int (bI tr), .ref rc, .ref bg, .int ro, .ref oa, .ref xa, .ref ya, .ref rg, .ref me, .ref sa, .ref pa, .ref za, .ref ca, .int (bI kp), .ref ta, .ref na])), (rg, .inl (cI, 6, .inl (rg6 a x d b0 b1 b2)))]) hD hS hA [0, 1] rfl
      refine va_callv (va_runV (As := [.int 1, .int 2, .int j]) (rest := []) ⟨hx, hb, hml, hown, hts⟩ (q_set12 l D cI cZ o th im tr rc bg ro oa xa ya rg me sa pa za ca kp ta na a x d b0 b1 b2 j H.size) ⟨cB 3 hts k_849 k_62 k_846 hd_MO_set ⟨Nat.le_of_ble_eq_true rfl, Nat.le_of_ble_eq_true rfl⟩ rfl rfl, hts _ k_848, hts _ k_43⟩ (PcW.preV (va_recv hK hP (q0 := 0) (ci := 5) rfl rfl) hPc hK hDc hN) rfl rfl hl.1 rfl (lv_room (Nat.le_of_ble_eq_true rfl)) d_MO_works_100 ⟨Nat.le_of_ble_eq_true rfl, Nat.le_of_ble_eq_true rfl⟩) hS (fun q _ h => hFc q h) hFc (fun u t H1 locs ht hvm e100 hB hz1 hk1 hS => ?_)
      obtain ⟨v1100, rfl⟩ : ∃ z, z = u := ⟨_, rfl⟩
      obtain ⟨hP1, hK1, hD1⟩ := hB
      rw [ht] at hP1
      obtain ⟨hP, hD⟩ := va_join (wr := [(me, .inl (cI, 512, .inl (mm2 g h))), (za, .inl (cZ, 2, .inl (p2 (bI z0) (bI z1)))), (ca, .inl (cZ, 2, .inl (p2 (bI c0) (bI c1))))]) (w1 := [(o, .inr (5, [.int th, .ref im, .int (bI tr), .ref rc, .ref bg, .int ro, .ref oa, .ref xa, .ref ya, .ref rg, .ref me, .ref sa, .ref pa, .ref za, .ref ca, .int (bI kp), .ref ta, .ref na])), (rg, .inl (cI, 6, .inl (rg6 a x d b0 b1 v1100)))]) hP hD [0, 1] [2, 3, 4] rfl rfl (by decide) (by decide) hk1 hFc hP1 hD1
      generalize H1 = H at hP hS ⊢
      try dsimp only at e100
      have e100_0 := e100
      replace e100_0 := e100_0.symm
      subst e100_0
      have hP : va_P D vwCl [(me, .inl (cI, 512, .inl (mm2 g h))), (za, .inl (cZ, 2, .inl (p2 (bI z0) (bI z1)))), (ca, .inl (cZ, 2, .inl (p2 (bI c0) (bI c1)))), (o, .inr (5, [.int th, .ref im, .int (bI tr), .ref rc, .ref bg, .int ro, .ref oa, .ref xa, .ref ya, .ref rg, .ref me, .ref sa, .ref pa, .ref za, .ref ca, .int (bI kp), .ref ta, .ref na])), (rg, .inl (cI, 6, .inl (rg6 a x d b0 b1 (j &&& 255))))] H := hP
      have hD : va_D A [(me, .inl (cI, 512, .inl (mm2 g h))), (za, .inl (cZ, 2, .inl (p2 (bI z0) (bI z1)))), (ca, .inl (cZ, 2, .inl (p2 (bI c0) (bI c1)))), (o, .inr (5, [.int th, .ref im, .int (bI tr), .ref rc, .ref bg, .int ro, .ref oa, .ref xa, .ref ya, .ref rg, .ref me, .ref sa, .ref pa, .ref za, .ref ca, .int (bI kp), .ref ta, .ref na])), (rg, .inl (cI, 6, .inl (rg6 a x d b0 b1 (j &&& 255))))] := hD
      refine lv_goto (tgt := 302) hx hb d_MO_works_103 rfl ?_
      have hP9 : va_P D vwCl [(o, .inr (5, [.int th, .ref im, .int (bI tr), .ref rc, .ref bg, .int ro, .ref oa, .ref xa, .ref ya, .ref rg, .ref me, .ref sa, .ref pa, .ref za, .ref ca, .int (bI kp), .ref ta, .ref na])), (rg, .inl (cI, 6, .inl (rg6 a x d b0 b1 (j &&& 255)))), (me, .inl (cI, 512, .inl (mm2 g h))), (za, .inl (cZ, 2, .inl (p2 (bI z0) (bI z1)))), (ca, .inl (cZ, 2, .inl (p2 (bI c0) (bI c1))))] H := hP.sub [3, 4, 0, 1, 2] rfl
      have hD9 : va_D A [(o, .inr (5, [.int th, .ref im, .int (bI tr), .ref rc, .ref bg, .int ro, .ref oa, .ref xa, .ref ya, .ref rg, .ref me, .ref sa, .ref pa, .ref za, .ref ca, .int (bI kp), .ref ta, .ref na])), (rg, .inl (cI, 6, .inl (rg6 a x d b0 b1 (j &&& 255)))), (me, .inl (cI, 512, .inl (mm2 g h))), (za, .inl (cZ, 2, .inl (p2 (bI z0) (bI z1)))), (ca, .inl (cZ, 2, .inl (p2 (bI c0) (bI c1))))] := hD.sub [3, 4, 0, 1, 2] (by decide) rfl
      exact W.vret hx hb hr (fun t ht hW => ⟨⟨(h, b0, b1, j &&& 255, z1, c1), rfl, by rw [h25]; rfl, by rw [ht]; exact hP9, va_K.moved hW.alike hK, hD9⟩, hS.F ht⟩) hS.2.2 d_MO_works_302
    | 1, _, h25 =>
      have h25 : op = 3 := h25
      refine lv_tableIn (off := 81) (tgt := 106) hx hb d_MO_works_25 (by rw [h25]; decide) (by rw [h25]; decide) (by rw [h25]; rfl) rfl ?_
      refine lv_aload_n hx hb d_MO_works_106 rfl (lv_at hl 2 rfl) ?_
      refine lv_iconst (v := 1) hx hb d_MO_works_107 (by decide) ?_
      refine lv_iload_n hx hb d_MO_works_108 rfl (lv_at hl 4 rfl) ?_
      refine lv_iload hx hb d_MO_works_109 (lv_at hl 0 rfl) ?_
      have hPc := hP.sub (ws' := [(o, .inr (5, [.int th, .ref im, .int (bI tr), .ref rc, .ref bg, .int ro, .ref oa, .ref xa, .ref ya, .ref rg, .ref me, .ref sa, .ref pa, .ref za, .ref ca, .int (bI kp), .ref ta, .ref na])), (rg, .inl (cI, 6, .inl (rg6 a x d b0 b1 b2)))]) [0, 1] rfl
      have hDc := hD.sub (ws' := [(o, .inr (5, [.int th, .ref im, .int (bI tr), .ref rc, .ref bg, .int ro, .ref oa, .ref xa, .ref ya, .ref rg, .ref me, .ref sa, .ref pa, .ref za, .ref ca, .int (bI kp), .ref ta, .ref na])), (rg, .inl (cI, 6, .inl (rg6 a x d b0 b1 b2)))]) [0, 1] (by decide) rfl
      have hFc := va_free (wc := [(o, .inr (5, [.int th, .ref im, .int (bI tr), .ref rc, .ref bg, .int ro, .ref oa, .ref xa, .ref ya, .ref rg, .ref me, .ref sa, .ref pa, .ref za, .ref ca, .int (bI kp), .ref ta, .ref na])), (rg, .inl (cI, 6, .inl (rg6 a x d b0 b1 b2)))]) hD hS hA [0, 1] rfl
      refine va_callv (va_runV (As := [.int 1, .int 2, .int (selM j b0 b1 b2)]) (rest := []) ⟨hx, hb, hml, hown, hts⟩ (q_set12 l D cI cZ o th im tr rc bg ro oa xa ya rg me sa pa za ca kp ta na a x d b0 b1 b2 (selM j b0 b1 b2) H.size) ⟨cB 3 hts k_849 k_62 k_846 hd_MO_set ⟨Nat.le_of_ble_eq_true rfl, Nat.le_of_ble_eq_true rfl⟩ rfl rfl, hts _ k_848, hts _ k_43⟩ (PcW.preV (va_recv hK hP (q0 := 0) (ci := 5) rfl rfl) hPc hK hDc hN) rfl rfl hl.1 rfl (lv_room (Nat.le_of_ble_eq_true rfl)) d_MO_works_111 ⟨Nat.le_of_ble_eq_true rfl, Nat.le_of_ble_eq_true rfl⟩) hS (fun q _ h => hFc q h) hFc (fun u t H1 locs ht hvm e111 hB hz1 hk1 hS => ?_)
      obtain ⟨v1111, rfl⟩ : ∃ z, z = u := ⟨_, rfl⟩
      obtain ⟨hP1, hK1, hD1⟩ := hB
      rw [ht] at hP1
      obtain ⟨hP, hD⟩ := va_join (wr := [(me, .inl (cI, 512, .inl (mm2 g h))), (za, .inl (cZ, 2, .inl (p2 (bI z0) (bI z1)))), (ca, .inl (cZ, 2, .inl (p2 (bI c0) (bI c1))))]) (w1 := [(o, .inr (5, [.int th, .ref im, .int (bI tr), .ref rc, .ref bg, .int ro, .ref oa, .ref xa, .ref ya, .ref rg, .ref me, .ref sa, .ref pa, .ref za, .ref ca, .int (bI kp), .ref ta, .ref na])), (rg, .inl (cI, 6, .inl (rg6 a x d b0 b1 v1111)))]) hP hD [0, 1] [2, 3, 4] rfl rfl (by decide) (by decide) hk1 hFc hP1 hD1
      generalize H1 = H at hP hS ⊢
      try dsimp only at e111
      have e111_0 := e111
      replace e111_0 := e111_0.symm
      subst e111_0
      have hP : va_P D vwCl [(me, .inl (cI, 512, .inl (mm2 g h))), (za, .inl (cZ, 2, .inl (p2 (bI z0) (bI z1)))), (ca, .inl (cZ, 2, .inl (p2 (bI c0) (bI c1)))), (o, .inr (5, [.int th, .ref im, .int (bI tr), .ref rc, .ref bg, .int ro, .ref oa, .ref xa, .ref ya, .ref rg, .ref me, .ref sa, .ref pa, .ref za, .ref ca, .int (bI kp), .ref ta, .ref na])), (rg, .inl (cI, 6, .inl (rg6 a x d b0 b1 ((selM j b0 b1 b2) &&& 255))))] H := hP
      have hD : va_D A [(me, .inl (cI, 512, .inl (mm2 g h))), (za, .inl (cZ, 2, .inl (p2 (bI z0) (bI z1)))), (ca, .inl (cZ, 2, .inl (p2 (bI c0) (bI c1)))), (o, .inr (5, [.int th, .ref im, .int (bI tr), .ref rc, .ref bg, .int ro, .ref oa, .ref xa, .ref ya, .ref rg, .ref me, .ref sa, .ref pa, .ref za, .ref ca, .int (bI kp), .ref ta, .ref na])), (rg, .inl (cI, 6, .inl (rg6 a x d b0 b1 ((selM j b0 b1 b2) &&& 255))))] := hD
      refine lv_goto (tgt := 302) hx hb d_MO_works_114 rfl ?_
      have hP9 : va_P D vwCl [(o, .inr (5, [.int th, .ref im, .int (bI tr), .ref rc, .ref bg, .int ro, .ref oa, .ref xa, .ref ya, .ref rg, .ref me, .ref sa, .ref pa, .ref za, .ref ca, .int (bI kp), .ref ta, .ref na])), (rg, .inl (cI, 6, .inl (rg6 a x d b0 b1 ((selM j b0 b1 b2) &&& 255)))), (me, .inl (cI, 512, .inl (mm2 g h))), (za, .inl (cZ, 2, .inl (p2 (bI z0) (bI z1)))), (ca, .inl (cZ, 2, .inl (p2 (bI c0) (bI c1))))] H := hP.sub [3, 4, 0, 1, 2] rfl
      have hD9 : va_D A [(o, .inr (5, [.int th, .ref im, .int (bI tr), .ref rc, .ref bg, .int ro, .ref oa, .ref xa, .ref ya, .ref rg, .ref me, .ref sa, .ref pa, .ref za, .ref ca, .int (bI kp), .ref ta, .ref na])), (rg, .inl (cI, 6, .inl (rg6 a x d b0 b1 ((selM j b0 b1 b2) &&& 255)))), (me, .inl (cI, 512, .inl (mm2 g h))), (za, .inl (cZ, 2, .inl (p2 (bI z0) (bI z1)))), (ca, .inl (cZ, 2, .inl (p2 (bI c0) (bI c1))))] := hD.sub [3, 4, 0, 1, 2] (by decide) rfl
      exact W.vret hx hb hr (fun t ht hW => ⟨⟨(h, b0, b1, (selM j b0 b1 b2) &&& 255, z1, c1), rfl, by rw [h25]; rfl, by rw [ht]; exact hP9, va_K.moved hW.alike hK, hD9⟩, hS.F ht⟩) hS.2.2 d_MO_works_302
    | 2, _, h25 =>
      have h25 : op = 4 := h25
      refine lv_tableIn (off := 92) (tgt := 117) hx hb d_MO_works_25 (by rw [h25]; decide) (by rw [h25]; decide) (by rw [h25]; rfl) rfl ?_
      refine lv_aload_n hx hb d_MO_works_117 rfl (lv_at hl 2 rfl) ?_
      refine lv_iconst (v := 1) hx hb d_MO_works_118 (by decide) ?_
      refine lv_iload_n hx hb d_MO_works_119 rfl (lv_at hl 4 rfl) ?_
      refine lv_aload_n hx hb d_MO_works_120 rfl (lv_at hl 2 rfl) ?_
      refine lv_iconst (v := 1) hx hb d_MO_works_121 (by decide) ?_
      refine lv_iload_n hx hb d_MO_works_122 rfl (lv_at hl 5 rfl) ?_
      have hPc := hP.sub (ws' := [(o, .inr (5, [.int th, .ref im, .int (bI tr), .ref rc, .ref bg, .int ro, .ref oa, .ref xa, .ref ya, .ref rg, .ref me, .ref sa, .ref pa, .ref za, .ref ca, .int (bI kp), .ref ta, .ref na])), (me, .inl (cI, 512, .inl (mm2 g h)))]) [0, 2] rfl
      refine vp_callSi (va_runV (As := [.int 1, .int j]) (rest := [.int 2, .int 1, .ref o]) ⟨hx, hb, hml, hown, hts⟩ (q_get1 l D cI cZ o th im tr rc bg ro oa xa ya rg me sa pa za ca kp ta na g h j) ⟨cB 2 hts k_825 k_62 k_822 hd_MO_get ⟨Nat.le_of_ble_eq_true rfl, Nat.le_of_ble_eq_true rfl⟩ rfl rfl, hts _ k_824, hts _ k_37⟩ (PcR.preV (va_recv hK hP (q0 := 0) (ci := 5) rfl rfl) hPc hK hN) rfl rfl hl.1 rfl (lv_room (Nat.le_of_ble_eq_true rfl)) d_MO_works_123 ⟨Nat.le_of_ble_eq_true rfl, Nat.le_of_ble_eq_true rfl⟩).run (fun r123 e123 => ?_)
      replace e123 := e123.symm
      subst e123
      have hPc := hP.sub (ws' := [(o, .inr (5, [.int th, .ref im, .int (bI tr), .ref rc, .ref bg, .int ro, .ref oa, .ref xa, .ref ya, .ref rg, .ref me, .ref sa, .ref pa, .ref za, .ref ca, .int (bI kp), .ref ta, .ref na])), (rg, .inl (cI, 6, .inl (rg6 a x d b0 b1 b2)))]) [0, 1] rfl
      have hDc := hD.sub (ws' := [(o, .inr (5, [.int th, .ref im, .int (bI tr), .ref rc, .ref bg, .int ro, .ref oa, .ref xa, .ref ya, .ref rg, .ref me, .ref sa, .ref pa, .ref za, .ref ca, .int (bI kp), .ref ta, .ref na])), (rg, .inl (cI, 6, .inl (rg6 a x d b0 b1 b2)))]) [0, 1] (by decide) rfl
      have hFc := va_free (wc := [(o, .inr (5, [.int th, .ref im, .int (bI tr), .ref rc, .ref bg, .int ro, .ref oa, .ref xa, .ref ya, .ref rg, .ref me, .ref sa, .ref pa, .ref za, .ref ca, .int (bI kp), .ref ta, .ref na])), (rg, .inl (cI, 6, .inl (rg6 a x d b0 b1 b2)))]) hD hS hA [0, 1] rfl
      refine va_callv (va_runV (As := [.int 1, .int 2, .int (rd h j)]) (rest := []) ⟨hx, hb, hml, hown, hts⟩ (q_set12 l D cI cZ o th im tr rc bg ro oa xa ya rg me sa pa za ca kp ta na a x d b0 b1 b2 (rd h j) H.size) ⟨cB 3 hts k_849 k_62 k_846 hd_MO_set ⟨Nat.le_of_ble_eq_true rfl, Nat.le_of_ble_eq_true rfl⟩ rfl rfl, hts _ k_848, hts _ k_43⟩ (PcW.preV (va_recv hK hP (q0 := 0) (ci := 5) rfl rfl) hPc hK hDc hN) rfl rfl hl.1 rfl (lv_room (Nat.le_of_ble_eq_true rfl)) d_MO_works_126 ⟨Nat.le_of_ble_eq_true rfl, Nat.le_of_ble_eq_true rfl⟩) hS (fun q _ h => hFc q h) hFc (fun u t H1 locs ht hvm e126 hB hz1 hk1 hS => ?_)
      obtain ⟨v1126, rfl⟩ : ∃ z, z = u := ⟨_, rfl⟩
      obtain ⟨hP1, hK1, hD1⟩ := hB
      rw [ht] at hP1
      obtain ⟨hP, hD⟩ := va_join (wr := [(me, .inl (cI, 512, .inl (mm2 g h))), (za, .inl (cZ, 2, .inl (p2 (bI z0) (bI z1)))), (ca, .inl (cZ, 2, .inl (p2 (bI c0) (bI c1))))]) (w1 := [(o, .inr (5, [.int th, .ref im, .int (bI tr), .ref rc, .ref bg, .int ro, .ref oa, .ref xa, .ref ya, .ref rg, .ref me, .ref sa, .ref pa, .ref za, .ref ca, .int (bI kp), .ref ta, .ref na])), (rg, .inl (cI, 6, .inl (rg6 a x d b0 b1 v1126)))]) hP hD [0, 1] [2, 3, 4] rfl rfl (by decide) (by decide) hk1 hFc hP1 hD1
      generalize H1 = H at hP hS ⊢
      try dsimp only at e126
      have e126_0 := e126
      replace e126_0 := e126_0.symm
      subst e126_0
      have hP : va_P D vwCl [(me, .inl (cI, 512, .inl (mm2 g h))), (za, .inl (cZ, 2, .inl (p2 (bI z0) (bI z1)))), (ca, .inl (cZ, 2, .inl (p2 (bI c0) (bI c1)))), (o, .inr (5, [.int th, .ref im, .int (bI tr), .ref rc, .ref bg, .int ro, .ref oa, .ref xa, .ref ya, .ref rg, .ref me, .ref sa, .ref pa, .ref za, .ref ca, .int (bI kp), .ref ta, .ref na])), (rg, .inl (cI, 6, .inl (rg6 a x d b0 b1 ((rd h j) &&& 255))))] H := hP
      have hD : va_D A [(me, .inl (cI, 512, .inl (mm2 g h))), (za, .inl (cZ, 2, .inl (p2 (bI z0) (bI z1)))), (ca, .inl (cZ, 2, .inl (p2 (bI c0) (bI c1)))), (o, .inr (5, [.int th, .ref im, .int (bI tr), .ref rc, .ref bg, .int ro, .ref oa, .ref xa, .ref ya, .ref rg, .ref me, .ref sa, .ref pa, .ref za, .ref ca, .int (bI kp), .ref ta, .ref na])), (rg, .inl (cI, 6, .inl (rg6 a x d b0 b1 ((rd h j) &&& 255))))] := hD
      refine lv_goto (tgt := 302) hx hb d_MO_works_129 rfl ?_
      have hP9 : va_P D vwCl [(o, .inr (5, [.int th, .ref im, .int (bI tr), .ref rc, .ref bg, .int ro, .ref oa, .ref xa, .ref ya, .ref rg, .ref me, .ref sa, .ref pa, .ref za, .ref ca, .int (bI kp), .ref ta, .ref na])), (rg, .inl (cI, 6, .inl (rg6 a x d b0 b1 ((rd h j) &&& 255)))), (me, .inl (cI, 512, .inl (mm2 g h))), (za, .inl (cZ, 2, .inl (p2 (bI z0) (bI z1)))), (ca, .inl (cZ, 2, .inl (p2 (bI c0) (bI c1))))] H := hP.sub [3, 4, 0, 1, 2] rfl
      have hD9 : va_D A [(o, .inr (5, [.int th, .ref im, .int (bI tr), .ref rc, .ref bg, .int ro, .ref oa, .ref xa, .ref ya, .ref rg, .ref me, .ref sa, .ref pa, .ref za, .ref ca, .int (bI kp), .ref ta, .ref na])), (rg, .inl (cI, 6, .inl (rg6 a x d b0 b1 ((rd h j) &&& 255)))), (me, .inl (cI, 512, .inl (mm2 g h))), (za, .inl (cZ, 2, .inl (p2 (bI z0) (bI z1)))), (ca, .inl (cZ, 2, .inl (p2 (bI c0) (bI c1))))] := hD.sub [3, 4, 0, 1, 2] (by decide) rfl
      exact W.vret hx hb hr (fun t ht hW => ⟨⟨(h, b0, b1, (rd h j) &&& 255, z1, c1), rfl, by rw [h25]; rfl, by rw [ht]; exact hP9, va_K.moved hW.alike hK, hD9⟩, hS.F ht⟩) hS.2.2 d_MO_works_302
    | 3, _, h25 =>
      have h25 : op = 5 := h25
      refine lv_tableIn (off := 107) (tgt := 132) hx hb d_MO_works_25 (by rw [h25]; decide) (by rw [h25]; decide) (by rw [h25]; rfl) rfl ?_
      refine lv_aload_n hx hb d_MO_works_132 rfl (lv_at hl 2 rfl) ?_
      refine lv_iconst (v := 1) hx hb d_MO_works_133 (by decide) ?_
      refine lv_iload_n hx hb d_MO_works_134 rfl (lv_at hl 5 rfl) ?_
      refine lv_iload hx hb d_MO_works_135 (lv_at hl 1 rfl) ?_
      have hPc := hP.sub (ws' := [(o, .inr (5, [.int th, .ref im, .int (bI tr), .ref rc, .ref bg, .int ro, .ref oa, .ref xa, .ref ya, .ref rg, .ref me, .ref sa, .ref pa, .ref za, .ref ca, .int (bI kp), .ref ta, .ref na])), (me, .inl (cI, 512, .inl (mm2 g h)))]) [0, 2] rfl
      have hDc := hD.sub (ws' := [(o, .inr (5, [.int th, .ref im, .int (bI tr), .ref rc, .ref bg, .int ro, .ref oa, .ref xa, .ref ya, .ref rg, .ref me, .ref sa, .ref pa, .ref za, .ref ca, .int (bI kp), .ref ta, .ref na])), (me, .inl (cI, 512, .inl (mm2 g h)))]) [0, 2] (by decide) rfl
      have hFc := va_free (wc := [(o, .inr (5, [.int th, .ref im, .int (bI tr), .ref rc, .ref bg, .int ro, .ref oa, .ref xa, .ref ya, .ref rg, .ref me, .ref sa, .ref pa, .ref za, .ref ca, .int (bI kp), .ref ta, .ref na])), (me, .inl (cI, 512, .inl (mm2 g h)))]) hD hS hA [0, 2] rfl
      refine va_callv (va_runV (As := [.int 1, .int j, .int b2]) (rest := []) ⟨hx, hb, hml, hown, hts⟩ (q_put1 l D cI cZ o th im tr rc bg ro oa xa ya rg me sa pa za ca kp ta na g h j b2 H.size) ⟨cB 3 hts k_837 k_62 k_834 hd_MO_put ⟨Nat.le_of_ble_eq_true rfl, Nat.le_of_ble_eq_true rfl⟩ rfl rfl, hts _ k_836, hts _ k_40⟩ (PcW.preV (va_recv hK hP (q0 := 0) (ci := 5) rfl rfl) hPc hK hDc hN) rfl rfl hl.1 rfl (lv_room (Nat.le_of_ble_eq_true rfl)) d_MO_works_137 ⟨Nat.le_of_ble_eq_true rfl, Nat.le_of_ble_eq_true rfl⟩) hS (fun q _ h => hFc q h) hFc (fun u t H1 locs ht hvm e137 hB hz1 hk1 hS => ?_)
      obtain ⟨f1137, rfl⟩ : ∃ z, z = u := ⟨_, rfl⟩
      obtain ⟨hP1, hK1, hD1⟩ := hB
      rw [ht] at hP1
      obtain ⟨hP, hD⟩ := va_join (wr := [(rg, .inl (cI, 6, .inl (rg6 a x d b0 b1 b2))), (za, .inl (cZ, 2, .inl (p2 (bI z0) (bI z1)))), (ca, .inl (cZ, 2, .inl (p2 (bI c0) (bI c1))))]) (w1 := [(o, .inr (5, [.int th, .ref im, .int (bI tr), .ref rc, .ref bg, .int ro, .ref oa, .ref xa, .ref ya, .ref rg, .ref me, .ref sa, .ref pa, .ref za, .ref ca, .int (bI kp), .ref ta, .ref na])), (me, .inl (cI, 512, .inl f1137))]) hP hD [0, 2] [1, 3, 4] rfl rfl (by decide) (by decide) hk1 hFc hP1 hD1
      generalize H1 = H at hP hS ⊢
      try dsimp only at e137
      have e137_0 := e137
      replace e137_0 := e137_0.symm
      subst e137_0
      have hP : va_P D vwCl [(rg, .inl (cI, 6, .inl (rg6 a x d b0 b1 b2))), (za, .inl (cZ, 2, .inl (p2 (bI z0) (bI z1)))), (ca, .inl (cZ, 2, .inl (p2 (bI c0) (bI c1)))), (o, .inr (5, [.int th, .ref im, .int (bI tr), .ref rc, .ref bg, .int ro, .ref oa, .ref xa, .ref ya, .ref rg, .ref me, .ref sa, .ref pa, .ref za, .ref ca, .int (bI kp), .ref ta, .ref na])), (me, .inl (cI, 512, .inl (mm2 g (wr h j b2))))] H := hP
      have hD : va_D A [(rg, .inl (cI, 6, .inl (rg6 a x d b0 b1 b2))), (za, .inl (cZ, 2, .inl (p2 (bI z0) (bI z1)))), (ca, .inl (cZ, 2, .inl (p2 (bI c0) (bI c1)))), (o, .inr (5, [.int th, .ref im, .int (bI tr), .ref rc, .ref bg, .int ro, .ref oa, .ref xa, .ref ya, .ref rg, .ref me, .ref sa, .ref pa, .ref za, .ref ca, .int (bI kp), .ref ta, .ref na])), (me, .inl (cI, 512, .inl (mm2 g (wr h j b2))))] := hD
      refine lv_goto (tgt := 302) hx hb d_MO_works_140 rfl ?_
      have hP9 : va_P D vwCl [(o, .inr (5, [.int th, .ref im, .int (bI tr), .ref rc, .ref bg, .int ro, .ref oa, .ref xa, .ref ya, .ref rg, .ref me, .ref sa, .ref pa, .ref za, .ref ca, .int (bI kp), .ref ta, .ref na])), (rg, .inl (cI, 6, .inl (rg6 a x d b0 b1 b2))), (me, .inl (cI, 512, .inl (mm2 g (wr h j b2)))), (za, .inl (cZ, 2, .inl (p2 (bI z0) (bI z1)))), (ca, .inl (cZ, 2, .inl (p2 (bI c0) (bI c1))))] H := hP.sub [3, 0, 4, 1, 2] rfl
      have hD9 : va_D A [(o, .inr (5, [.int th, .ref im, .int (bI tr), .ref rc, .ref bg, .int ro, .ref oa, .ref xa, .ref ya, .ref rg, .ref me, .ref sa, .ref pa, .ref za, .ref ca, .int (bI kp), .ref ta, .ref na])), (rg, .inl (cI, 6, .inl (rg6 a x d b0 b1 b2))), (me, .inl (cI, 512, .inl (mm2 g (wr h j b2)))), (za, .inl (cZ, 2, .inl (p2 (bI z0) (bI z1)))), (ca, .inl (cZ, 2, .inl (p2 (bI c0) (bI c1))))] := hD.sub [3, 0, 4, 1, 2] (by decide) rfl
      exact W.vret hx hb hr (fun t ht hW => ⟨⟨(wr h j b2, b0, b1, b2, z1, c1), rfl, by rw [h25]; rfl, by rw [ht]; exact hP9, va_K.moved hW.alike hK, hD9⟩, hS.F ht⟩) hS.2.2 d_MO_works_302
    | 4, _, h25 =>
      have h25 : op = 6 := h25
      refine lv_tableIn (off := 118) (tgt := 143) hx hb d_MO_works_25 (by rw [h25]; decide) (by rw [h25]; decide) (by rw [h25]; rfl) rfl ?_
      refine lv_aload_n hx hb d_MO_works_143 rfl (lv_at hl 2 rfl) ?_
      refine lv_iconst (v := 1) hx hb d_MO_works_144 (by decide) ?_
      refine lv_iconst (v := 0) hx hb d_MO_works_145 (by decide) ?_
      refine lv_aload_n hx hb d_MO_works_146 rfl (lv_at hl 2 rfl) ?_
      refine lv_iconst (v := 1) hx hb d_MO_works_147 (by decide) ?_
      refine lv_iload_n hx hb d_MO_works_148 rfl (lv_at hl 5 rfl) ?_
      refine lv_aload_n hx hb d_MO_works_149 rfl (lv_at hl 2 rfl) ?_
      refine va_get (D := D) (ci := 5) (v := .ref rg) (C := R_MO) (T := T_MO) (N := 18) hx hb hts iw_MO hown hK hP 0 rfl rfl 9 (by decide) (hts _ k_704) (fun _ h9 => h9) rfl d_MO_works_150 ?_
      refine lv_iconst (v := 4) hx hb d_MO_works_153 (by decide) ?_
      refine va_iald hx hb hK hP 1 0 rfl rfl (vp_in_nI (n := 4) (by decide) (by decide)) d_MO_works_154 ?_
      refine lv_iadd hx hb d_MO_works_155 ?_
      have hPc := hP.sub (ws' := [(o, .inr (5, [.int th, .ref im, .int (bI tr), .ref rc, .ref bg, .int ro, .ref oa, .ref xa, .ref ya, .ref rg, .ref me, .ref sa, .ref pa, .ref za, .ref ca, .int (bI kp), .ref ta, .ref na])), (me, .inl (cI, 512, .inl (mm2 g h)))]) [0, 2] rfl
      refine vp_callSi (va_runV (As := [.int 1, .int (j + b1)]) (rest := [.int 0, .int 1, .ref o]) ⟨hx, hb, hml, hown, hts⟩ (q_get1 l D cI cZ o th im tr rc bg ro oa xa ya rg me sa pa za ca kp ta na g h (j + b1)) ⟨cB 2 hts k_825 k_62 k_822 hd_MO_get ⟨Nat.le_of_ble_eq_true rfl, Nat.le_of_ble_eq_true rfl⟩ rfl rfl, hts _ k_824, hts _ k_37⟩ (PcR.preV (va_recv hK hP (q0 := 0) (ci := 5) rfl rfl) hPc hK hN) rfl rfl hl.1 rfl (lv_room (Nat.le_of_ble_eq_true rfl)) d_MO_works_156 ⟨Nat.le_of_ble_eq_true rfl, Nat.le_of_ble_eq_true rfl⟩).run (fun r156 e156 => ?_)
      replace e156 := e156.symm
      subst e156
      have hPc := hP.sub (ws' := [(o, .inr (5, [.int th, .ref im, .int (bI tr), .ref rc, .ref bg, .int ro, .ref oa, .ref xa, .ref ya, .ref rg, .ref me, .ref sa, .ref pa, .ref za, .ref ca, .int (bI kp), .ref ta, .ref na])), (rg, .inl (cI, 6, .inl (rg6 a x d b0 b1 b2)))]) [0, 1] rfl
      have hDc := hD.sub (ws' := [(o, .inr (5, [.int th, .ref im, .int (bI tr), .ref rc, .ref bg, .int ro, .ref oa, .ref xa, .ref ya, .ref rg, .ref me, .ref sa, .ref pa, .ref za, .ref ca, .int (bI kp), .ref ta, .ref na])), (rg, .inl (cI, 6, .inl (rg6 a x d b0 b1 b2)))]) [0, 1] (by decide) rfl
      have hFc := va_free (wc := [(o, .inr (5, [.int th, .ref im, .int (bI tr), .ref rc, .ref bg, .int ro, .ref oa, .ref xa, .ref ya, .ref rg, .ref me, .ref sa, .ref pa, .ref za, .ref ca, .int (bI kp), .ref ta, .ref na])), (rg, .inl (cI, 6, .inl (rg6 a x d b0 b1 b2)))]) hD hS hA [0, 1] rfl
      refine va_callv (va_runV (As := [.int 1, .int 0, .int (rd h (j + b1))]) (rest := []) ⟨hx, hb, hml, hown, hts⟩ (q_set10 l D cI cZ o th im tr rc bg ro oa xa ya rg me sa pa za ca kp ta na a x d b0 b1 b2 (rd h (j + b1)) H.size) ⟨cB 3 hts k_849 k_62 k_846 hd_MO_set ⟨Nat.le_of_ble_eq_true rfl, Nat.le_of_ble_eq_true rfl⟩ rfl rfl, hts _ k_848, hts _ k_43⟩ (PcW.preV (va_recv hK hP (q0 := 0) (ci := 5) rfl rfl) hPc hK hDc hN) rfl rfl hl.1 rfl (lv_room (Nat.le_of_ble_eq_true rfl)) d_MO_works_159 ⟨Nat.le_of_ble_eq_true rfl, Nat.le_of_ble_eq_true rfl⟩) hS (fun q _ h => hFc q h) hFc (fun u t H1 locs ht hvm e159 hB hz1 hk1 hS => ?_)
      obtain ⟨v1159, rfl⟩ : ∃ z, z = u := ⟨_, rfl⟩
      obtain ⟨hP1, hK1, hD1⟩ := hB
      rw [ht] at hP1
      obtain ⟨hP, hD⟩ := va_join (wr := [(me, .inl (cI, 512, .inl (mm2 g h))), (za, .inl (cZ, 2, .inl (p2 (bI z0) (bI z1)))), (ca, .inl (cZ, 2, .inl (p2 (bI c0) (bI c1))))]) (w1 := [(o, .inr (5, [.int th, .ref im, .int (bI tr), .ref rc, .ref bg, .int ro, .ref oa, .ref xa, .ref ya, .ref rg, .ref me, .ref sa, .ref pa, .ref za, .ref ca, .int (bI kp), .ref ta, .ref na])), (rg, .inl (cI, 6, .inl (rg6 a x d v1159 b1 b2)))]) hP hD [0, 1] [2, 3, 4] rfl rfl (by decide) (by decide) hk1 hFc hP1 hD1
      generalize H1 = H at hP hS ⊢
      try dsimp only at e159
      have e159_0 := e159
      replace e159_0 := e159_0.symm
      subst e159_0
      have hP : va_P D vwCl [(me, .inl (cI, 512, .inl (mm2 g h))), (za, .inl (cZ, 2, .inl (p2 (bI z0) (bI z1)))), (ca, .inl (cZ, 2, .inl (p2 (bI c0) (bI c1)))), (o, .inr (5, [.int th, .ref im, .int (bI tr), .ref rc, .ref bg, .int ro, .ref oa, .ref xa, .ref ya, .ref rg, .ref me, .ref sa, .ref pa, .ref za, .ref ca, .int (bI kp), .ref ta, .ref na])), (rg, .inl (cI, 6, .inl (rg6 a x d ((rd h (j + b1)) &&& 255) b1 b2)))] H := hP
      have hD : va_D A [(me, .inl (cI, 512, .inl (mm2 g h))), (za, .inl (cZ, 2, .inl (p2 (bI z0) (bI z1)))), (ca, .inl (cZ, 2, .inl (p2 (bI c0) (bI c1)))), (o, .inr (5, [.int th, .ref im, .int (bI tr), .ref rc, .ref bg, .int ro, .ref oa, .ref xa, .ref ya, .ref rg, .ref me, .ref sa, .ref pa, .ref za, .ref ca, .int (bI kp), .ref ta, .ref na])), (rg, .inl (cI, 6, .inl (rg6 a x d ((rd h (j + b1)) &&& 255) b1 b2)))] := hD
      refine lv_goto (tgt := 302) hx hb d_MO_works_162 rfl ?_
      have hP9 : va_P D vwCl [(o, .inr (5, [.int th, .ref im, .int (bI tr), .ref rc, .ref bg, .int ro, .ref oa, .ref xa, .ref ya, .ref rg, .ref me, .ref sa, .ref pa, .ref za, .ref ca, .int (bI kp), .ref ta, .ref na])), (rg, .inl (cI, 6, .inl (rg6 a x d ((rd h (j + b1)) &&& 255) b1 b2))), (me, .inl (cI, 512, .inl (mm2 g h))), (za, .inl (cZ, 2, .inl (p2 (bI z0) (bI z1)))), (ca, .inl (cZ, 2, .inl (p2 (bI c0) (bI c1))))] H := hP.sub [3, 4, 0, 1, 2] rfl
      have hD9 : va_D A [(o, .inr (5, [.int th, .ref im, .int (bI tr), .ref rc, .ref bg, .int ro, .ref oa, .ref xa, .ref ya, .ref rg, .ref me, .ref sa, .ref pa, .ref za, .ref ca, .int (bI kp), .ref ta, .ref na])), (rg, .inl (cI, 6, .inl (rg6 a x d ((rd h (j + b1)) &&& 255) b1 b2))), (me, .inl (cI, 512, .inl (mm2 g h))), (za, .inl (cZ, 2, .inl (p2 (bI z0) (bI z1)))), (ca, .inl (cZ, 2, .inl (p2 (bI c0) (bI c1))))] := hD.sub [3, 4, 0, 1, 2] (by decide) rfl
      exact W.vret hx hb hr (fun t ht hW => ⟨⟨(h, (rd h (j + b1)) &&& 255, b1, b2, z1, c1), rfl, by rw [h25]; rfl, by rw [ht]; exact hP9, va_K.moved hW.alike hK, hD9⟩, hS.F ht⟩) hS.2.2 d_MO_works_302
    | 5, _, h25 =>
      have h25 : op = 7 := h25
      refine lv_tableIn (off := 140) (tgt := 165) hx hb d_MO_works_25 (by rw [h25]; decide) (by rw [h25]; decide) (by rw [h25]; rfl) rfl ?_
      refine lv_aload_n hx hb d_MO_works_165 rfl (lv_at hl 2 rfl) ?_
      refine lv_iconst (v := 1) hx hb d_MO_works_166 (by decide) ?_
      refine lv_iload_n hx hb d_MO_works_167 rfl (lv_at hl 5 rfl) ?_
      refine lv_aload_n hx hb d_MO_works_168 rfl (lv_at hl 2 rfl) ?_
      refine va_get (D := D) (ci := 5) (v := .ref rg) (C := R_MO) (T := T_MO) (N := 18) hx hb hts iw_MO hown hK hP 0 rfl rfl 9 (by decide) (hts _ k_704) (fun _ h9 => h9) rfl d_MO_works_169 ?_
      refine lv_iconst (v := 4) hx hb d_MO_works_172 (by decide) ?_
      refine va_iald hx hb hK hP 1 0 rfl rfl (vp_in_nI (n := 4) (by decide) (by decide)) d_MO_works_173 ?_
      refine lv_iadd hx hb d_MO_works_174 ?_
      refine lv_aload_n hx hb d_MO_works_175 rfl (lv_at hl 2 rfl) ?_
      refine va_get (D := D) (ci := 5) (v := .ref rg) (C := R_MO) (T := T_MO) (N := 18) hx hb hts iw_MO hown hK hP 0 rfl rfl 9 (by decide) (hts _ k_704) (fun _ h9 => h9) rfl d_MO_works_176 ?_
      refine lv_iconst (v := 3) hx hb d_MO_works_179 (by decide) ?_
      refine va_iald hx hb hK hP 1 0 rfl rfl (vp_in_nI (n := 3) (by decide) (by decide)) d_MO_works_180 ?_
      have hPc := hP.sub (ws' := [(o, .inr (5, [.int th, .ref im, .int (bI tr), .ref rc, .ref bg, .int ro, .ref oa, .ref xa, .ref ya, .ref rg, .ref me, .ref sa, .ref pa, .ref za, .ref ca, .int (bI kp), .ref ta, .ref na])), (me, .inl (cI, 512, .inl (mm2 g h)))]) [0, 2] rfl
      have hDc := hD.sub (ws' := [(o, .inr (5, [.int th, .ref im, .int (bI tr), .ref rc, .ref bg, .int ro, .ref oa, .ref xa, .ref ya, .ref rg, .ref me, .ref sa, .ref pa, .ref za, .ref ca, .int (bI kp), .ref ta, .ref na])), (me, .inl (cI, 512, .inl (mm2 g h)))]) [0, 2] (by decide) rfl
      have hFc := va_free (wc := [(o, .inr (5, [.int th, .ref im, .int (bI tr), .ref rc, .ref bg, .int ro, .ref oa, .ref xa, .ref ya, .ref rg, .ref me, .ref sa, .ref pa, .ref za, .ref ca, .int (bI kp), .ref ta, .ref na])), (me, .inl (cI, 512, .inl (mm2 g h)))]) hD hS hA [0, 2] rfl
      refine va_callv (va_runV (As := [.int 1, .int (j + b1), .int b0]) (rest := []) ⟨hx, hb, hml, hown, hts⟩ (q_put1 l D cI cZ o th im tr rc bg ro oa xa ya rg me sa pa za ca kp ta na g h (j + b1) b0 H.size) ⟨cB 3 hts k_837 k_62 k_834 hd_MO_put ⟨Nat.le_of_ble_eq_true rfl, Nat.le_of_ble_eq_true rfl⟩ rfl rfl, hts _ k_836, hts _ k_40⟩ (PcW.preV (va_recv hK hP (q0 := 0) (ci := 5) rfl rfl) hPc hK hDc hN) rfl rfl hl.1 rfl (lv_room (Nat.le_of_ble_eq_true rfl)) d_MO_works_181 ⟨Nat.le_of_ble_eq_true rfl, Nat.le_of_ble_eq_true rfl⟩) hS (fun q _ h => hFc q h) hFc (fun u t H1 locs ht hvm e181 hB hz1 hk1 hS => ?_)
      obtain ⟨f1181, rfl⟩ : ∃ z, z = u := ⟨_, rfl⟩
      obtain ⟨hP1, hK1, hD1⟩ := hB
      rw [ht] at hP1
      obtain ⟨hP, hD⟩ := va_join (wr := [(rg, .inl (cI, 6, .inl (rg6 a x d b0 b1 b2))), (za, .inl (cZ, 2, .inl (p2 (bI z0) (bI z1)))), (ca, .inl (cZ, 2, .inl (p2 (bI c0) (bI c1))))]) (w1 := [(o, .inr (5, [.int th, .ref im, .int (bI tr), .ref rc, .ref bg, .int ro, .ref oa, .ref xa, .ref ya, .ref rg, .ref me, .ref sa, .ref pa, .ref za, .ref ca, .int (bI kp), .ref ta, .ref na])), (me, .inl (cI, 512, .inl f1181))]) hP hD [0, 2] [1, 3, 4] rfl rfl (by decide) (by decide) hk1 hFc hP1 hD1
      generalize H1 = H at hP hS ⊢
      try dsimp only at e181
      have e181_0 := e181
      replace e181_0 := e181_0.symm
      subst e181_0
      have hP : va_P D vwCl [(rg, .inl (cI, 6, .inl (rg6 a x d b0 b1 b2))), (za, .inl (cZ, 2, .inl (p2 (bI z0) (bI z1)))), (ca, .inl (cZ, 2, .inl (p2 (bI c0) (bI c1)))), (o, .inr (5, [.int th, .ref im, .int (bI tr), .ref rc, .ref bg, .int ro, .ref oa, .ref xa, .ref ya, .ref rg, .ref me, .ref sa, .ref pa, .ref za, .ref ca, .int (bI kp), .ref ta, .ref na])), (me, .inl (cI, 512, .inl (mm2 g (wr h (j + b1) b0))))] H := hP
      have hD : va_D A [(rg, .inl (cI, 6, .inl (rg6 a x d b0 b1 b2))), (za, .inl (cZ, 2, .inl (p2 (bI z0) (bI z1)))), (ca, .inl (cZ, 2, .inl (p2 (bI c0) (bI c1)))), (o, .inr (5, [.int th, .ref im, .int (bI tr), .ref rc, .ref bg, .int ro, .ref oa, .ref xa, .ref ya, .ref rg, .ref me, .ref sa, .ref pa, .ref za, .ref ca, .int (bI kp), .ref ta, .ref na])), (me, .inl (cI, 512, .inl (mm2 g (wr h (j + b1) b0))))] := hD
      refine lv_goto (tgt := 302) hx hb d_MO_works_184 rfl ?_
      have hP9 : va_P D vwCl [(o, .inr (5, [.int th, .ref im, .int (bI tr), .ref rc, .ref bg, .int ro, .ref oa, .ref xa, .ref ya, .ref rg, .ref me, .ref sa, .ref pa, .ref za, .ref ca, .int (bI kp), .ref ta, .ref na])), (rg, .inl (cI, 6, .inl (rg6 a x d b0 b1 b2))), (me, .inl (cI, 512, .inl (mm2 g (wr h (j + b1) b0)))), (za, .inl (cZ, 2, .inl (p2 (bI z0) (bI z1)))), (ca, .inl (cZ, 2, .inl (p2 (bI c0) (bI c1))))] H := hP.sub [3, 0, 4, 1, 2] rfl
      have hD9 : va_D A [(o, .inr (5, [.int th, .ref im, .int (bI tr), .ref rc, .ref bg, .int ro, .ref oa, .ref xa, .ref ya, .ref rg, .ref me, .ref sa, .ref pa, .ref za, .ref ca, .int (bI kp), .ref ta, .ref na])), (rg, .inl (cI, 6, .inl (rg6 a x d b0 b1 b2))), (me, .inl (cI, 512, .inl (mm2 g (wr h (j + b1) b0)))), (za, .inl (cZ, 2, .inl (p2 (bI z0) (bI z1)))), (ca, .inl (cZ, 2, .inl (p2 (bI c0) (bI c1))))] := hD.sub [3, 0, 4, 1, 2] (by decide) rfl
      exact W.vret hx hb hr (fun t ht hW => ⟨⟨(wr h (j + b1) b0, b0, b1, b2, z1, c1), rfl, by rw [h25]; rfl, by rw [ht]; exact hP9, va_K.moved hW.alike hK, hD9⟩, hS.F ht⟩) hS.2.2 d_MO_works_302
    | 6, _, h25 =>
      have h25 : op = 8 := h25
      refine lv_tableIn (off := 162) (tgt := 187) hx hb d_MO_works_25 (by rw [h25]; decide) (by rw [h25]; decide) (by rw [h25]; rfl) rfl ?_
      refine lv_aload_n hx hb d_MO_works_187 rfl (lv_at hl 2 rfl) ?_
      refine lv_iconst (v := 1) hx hb d_MO_works_188 (by decide) ?_
      refine lv_iload_n hx hb d_MO_works_189 rfl (lv_at hl 4 rfl) ?_
      refine lv_iload hx hb d_MO_works_190 (lv_at hl 1 rfl) ?_
      have hPc := hP.sub (ws' := [(o, .inr (5, [.int th, .ref im, .int (bI tr), .ref rc, .ref bg, .int ro, .ref oa, .ref xa, .ref ya, .ref rg, .ref me, .ref sa, .ref pa, .ref za, .ref ca, .int (bI kp), .ref ta, .ref na])), (rg, .inl (cI, 6, .inl (rg6 a x d b0 b1 b2))), (za, .inl (cZ, 2, .inl (p2 (bI z0) (bI z1)))), (ca, .inl (cZ, 2, .inl (p2 (bI c0) (bI c1))))]) [0, 1, 3, 4] rfl
      have hDc := hD.sub (ws' := [(o, .inr (5, [.int th, .ref im, .int (bI tr), .ref rc, .ref bg, .int ro, .ref oa, .ref xa, .ref ya, .ref rg, .ref me, .ref sa, .ref pa, .ref za, .ref ca, .int (bI kp), .ref ta, .ref na])), (rg, .inl (cI, 6, .inl (rg6 a x d b0 b1 b2))), (za, .inl (cZ, 2, .inl (p2 (bI z0) (bI z1)))), (ca, .inl (cZ, 2, .inl (p2 (bI c0) (bI c1))))]) [0, 1, 3, 4] (by decide) rfl
      have hFc := va_free (wc := [(o, .inr (5, [.int th, .ref im, .int (bI tr), .ref rc, .ref bg, .int ro, .ref oa, .ref xa, .ref ya, .ref rg, .ref me, .ref sa, .ref pa, .ref za, .ref ca, .int (bI kp), .ref ta, .ref na])), (rg, .inl (cI, 6, .inl (rg6 a x d b0 b1 b2))), (za, .inl (cZ, 2, .inl (p2 (bI z0) (bI z1)))), (ca, .inl (cZ, 2, .inl (p2 (bI c0) (bI c1))))]) hD hS hA [0, 1, 3, 4] rfl
      refine va_callv (va_runV (As := [.int 1, .int 2, .int b2]) (rest := []) ⟨hx, hb, hml, hown, hts⟩ (q_plain12 l D cI cZ o th im tr rc bg ro oa xa ya rg me sa pa za ca kp ta na a x d b0 b1 b2 z0 z1 c0 c1 b2 H.size) ⟨cB 3 hts k_865 k_62 k_862 hd_MO_plain ⟨Nat.le_of_ble_eq_true rfl, Nat.le_of_ble_eq_true rfl⟩ rfl rfl, hts _ k_864, hts _ k_47⟩ (PcW.preV (va_recv hK hP (q0 := 0) (ci := 5) rfl rfl) hPc hK hDc hN) rfl rfl hl.1 rfl (lv_room (Nat.le_of_ble_eq_true rfl)) d_MO_works_192 ⟨Nat.le_of_ble_eq_true rfl, Nat.le_of_ble_eq_true rfl⟩) hS (fun q _ h => hFc q h) hFc (fun u t H1 locs ht hvm e192 hB hz1 hk1 hS => ?_)
      obtain ⟨v1192, zz192, cy192⟩ := u
      obtain ⟨hP1, hK1, hD1⟩ := hB
      rw [ht] at hP1
      obtain ⟨hP, hD⟩ := va_join (wr := [(me, .inl (cI, 512, .inl (mm2 g h)))]) (w1 := [(o, .inr (5, [.int th, .ref im, .int (bI tr), .ref rc, .ref bg, .int ro, .ref oa, .ref xa, .ref ya, .ref rg, .ref me, .ref sa, .ref pa, .ref za, .ref ca, .int (bI kp), .ref ta, .ref na])), (rg, .inl (cI, 6, .inl (rg6 a x d b0 b1 v1192))), (za, .inl (cZ, 2, .inl (p2 (bI z0) (bI zz192)))), (ca, .inl (cZ, 2, .inl (p2 (bI c0) (bI cy192))))]) hP hD [0, 1, 3, 4] [2] rfl rfl (by decide) (by decide) hk1 hFc hP1 hD1
      generalize H1 = H at hP hS ⊢
      try dsimp only at e192
      obtain ⟨e192_0, e192_1, e192_2⟩ := e192
      replace e192_0 := e192_0.symm
      subst e192_0
      replace e192_1 := e192_1.symm
      subst e192_1
      replace e192_2 := e192_2.symm
      subst e192_2
      have hP : va_P D vwCl [(me, .inl (cI, 512, .inl (mm2 g h))), (o, .inr (5, [.int th, .ref im, .int (bI tr), .ref rc, .ref bg, .int ro, .ref oa, .ref xa, .ref ya, .ref rg, .ref me, .ref sa, .ref pa, .ref za, .ref ca, .int (bI kp), .ref ta, .ref na])), (rg, .inl (cI, 6, .inl (rg6 a x d b0 b1 (b2 &&& 255)))), (za, .inl (cZ, 2, .inl (p2 (bI z0) (bI (decide (b2 &&& 255 = 0)))))), (ca, .inl (cZ, 2, .inl (p2 (bI c0) (bI false))))] H := hP
      have hD : va_D A [(me, .inl (cI, 512, .inl (mm2 g h))), (o, .inr (5, [.int th, .ref im, .int (bI tr), .ref rc, .ref bg, .int ro, .ref oa, .ref xa, .ref ya, .ref rg, .ref me, .ref sa, .ref pa, .ref za, .ref ca, .int (bI kp), .ref ta, .ref na])), (rg, .inl (cI, 6, .inl (rg6 a x d b0 b1 (b2 &&& 255)))), (za, .inl (cZ, 2, .inl (p2 (bI z0) (bI (decide (b2 &&& 255 = 0)))))), (ca, .inl (cZ, 2, .inl (p2 (bI c0) (bI false))))] := hD
      refine lv_goto (tgt := 302) hx hb d_MO_works_195 rfl ?_
      have hP9 : va_P D vwCl [(o, .inr (5, [.int th, .ref im, .int (bI tr), .ref rc, .ref bg, .int ro, .ref oa, .ref xa, .ref ya, .ref rg, .ref me, .ref sa, .ref pa, .ref za, .ref ca, .int (bI kp), .ref ta, .ref na])), (rg, .inl (cI, 6, .inl (rg6 a x d b0 b1 (b2 &&& 255)))), (me, .inl (cI, 512, .inl (mm2 g h))), (za, .inl (cZ, 2, .inl (p2 (bI z0) (bI (decide (b2 &&& 255 = 0)))))), (ca, .inl (cZ, 2, .inl (p2 (bI c0) (bI false))))] H := hP.sub [1, 2, 0, 3, 4] rfl
      have hD9 : va_D A [(o, .inr (5, [.int th, .ref im, .int (bI tr), .ref rc, .ref bg, .int ro, .ref oa, .ref xa, .ref ya, .ref rg, .ref me, .ref sa, .ref pa, .ref za, .ref ca, .int (bI kp), .ref ta, .ref na])), (rg, .inl (cI, 6, .inl (rg6 a x d b0 b1 (b2 &&& 255)))), (me, .inl (cI, 512, .inl (mm2 g h))), (za, .inl (cZ, 2, .inl (p2 (bI z0) (bI (decide (b2 &&& 255 = 0)))))), (ca, .inl (cZ, 2, .inl (p2 (bI c0) (bI false))))] := hD.sub [1, 2, 0, 3, 4] (by decide) rfl
      exact W.vret hx hb hr (fun t ht hW => ⟨⟨(h, b0, b1, b2 &&& 255, decide (b2 &&& 255 = 0), false), rfl, by rw [h25]; rfl, by rw [ht]; exact hP9, va_K.moved hW.alike hK, hD9⟩, hS.F ht⟩) hS.2.2 d_MO_works_302
    | 7, _, h25 =>
      have h25 : op = 9 := h25
      refine lv_tableIn (off := 173) (tgt := 198) hx hb d_MO_works_25 (by rw [h25]; decide) (by rw [h25]; decide) (by rw [h25]; rfl) rfl ?_
      refine lv_aload_n hx hb d_MO_works_198 rfl (lv_at hl 2 rfl) ?_
      refine lv_iconst (v := 1) hx hb d_MO_works_199 (by decide) ?_
      refine lv_iload_n hx hb d_MO_works_200 rfl (lv_at hl 4 rfl) ?_
      refine lv_iload hx hb d_MO_works_201 (lv_at hl 0 rfl) ?_
      refine lv_iconst (v := 0) hx hb d_MO_works_203 (by decide) ?_
      have hPc := hP.sub (ws' := [(o, .inr (5, [.int th, .ref im, .int (bI tr), .ref rc, .ref bg, .int ro, .ref oa, .ref xa, .ref ya, .ref rg, .ref me, .ref sa, .ref pa, .ref za, .ref ca, .int (bI kp), .ref ta, .ref na])), (rg, .inl (cI, 6, .inl (rg6 a x d b0 b1 b2))), (za, .inl (cZ, 2, .inl (p2 (bI z0) (bI z1)))), (ca, .inl (cZ, 2, .inl (p2 (bI c0) (bI c1))))]) [0, 1, 3, 4] rfl
      have hDc := hD.sub (ws' := [(o, .inr (5, [.int th, .ref im, .int (bI tr), .ref rc, .ref bg, .int ro, .ref oa, .ref xa, .ref ya, .ref rg, .ref me, .ref sa, .ref pa, .ref za, .ref ca, .int (bI kp), .ref ta, .ref na])), (rg, .inl (cI, 6, .inl (rg6 a x d b0 b1 b2))), (za, .inl (cZ, 2, .inl (p2 (bI z0) (bI z1)))), (ca, .inl (cZ, 2, .inl (p2 (bI c0) (bI c1))))]) [0, 1, 3, 4] (by decide) rfl
      have hFc := va_free (wc := [(o, .inr (5, [.int th, .ref im, .int (bI tr), .ref rc, .ref bg, .int ro, .ref oa, .ref xa, .ref ya, .ref rg, .ref me, .ref sa, .ref pa, .ref za, .ref ca, .int (bI kp), .ref ta, .ref na])), (rg, .inl (cI, 6, .inl (rg6 a x d b0 b1 b2))), (za, .inl (cZ, 2, .inl (p2 (bI z0) (bI z1)))), (ca, .inl (cZ, 2, .inl (p2 (bI c0) (bI c1))))]) hD hS hA [0, 1, 3, 4] rfl
      refine va_callv (va_runV (As := [.int 1, .int 2, .int (selM j b0 b1 b2), .int 0]) (rest := []) ⟨hx, hb, hml, hown, hts⟩ (q_adds12 l D cI cZ o th im tr rc bg ro oa xa ya rg me sa pa za ca kp ta na a x d b0 b1 b2 z0 z1 c0 c1 (selM j b0 b1 b2) 0 H.size) ⟨cB 4 hts k_857 k_62 k_854 hd_MO_adds ⟨Nat.le_of_ble_eq_true rfl, Nat.le_of_ble_eq_true rfl⟩ rfl rfl, hts _ k_856, hts _ k_45⟩ (PcW.preV (va_recv hK hP (q0 := 0) (ci := 5) rfl rfl) hPc hK hDc hN) rfl rfl hl.1 rfl (lv_room (Nat.le_of_ble_eq_true rfl)) d_MO_works_204 ⟨Nat.le_of_ble_eq_true rfl, Nat.le_of_ble_eq_true rfl⟩) hS (fun q _ h => hFc q h) hFc (fun u t H1 locs ht hvm e204 hB hz1 hk1 hS => ?_)
      obtain ⟨v1204, zz204, cy204⟩ := u
      obtain ⟨hP1, hK1, hD1⟩ := hB
      rw [ht] at hP1
      obtain ⟨hP, hD⟩ := va_join (wr := [(me, .inl (cI, 512, .inl (mm2 g h)))]) (w1 := [(o, .inr (5, [.int th, .ref im, .int (bI tr), .ref rc, .ref bg, .int ro, .ref oa, .ref xa, .ref ya, .ref rg, .ref me, .ref sa, .ref pa, .ref za, .ref ca, .int (bI kp), .ref ta, .ref na])), (rg, .inl (cI, 6, .inl (rg6 a x d b0 b1 v1204))), (za, .inl (cZ, 2, .inl (p2 (bI z0) (bI zz204)))), (ca, .inl (cZ, 2, .inl (p2 (bI c0) (bI cy204))))]) hP hD [0, 1, 3, 4] [2] rfl rfl (by decide) (by decide) hk1 hFc hP1 hD1
      generalize H1 = H at hP hS ⊢
      try dsimp only at e204
      obtain ⟨e204_0, e204_1, e204_2⟩ := e204
      replace e204_0 := e204_0.symm
      subst e204_0
      replace e204_1 := e204_1.symm
      subst e204_1
      replace e204_2 := e204_2.symm
      subst e204_2
      have hP : va_P D vwCl [(me, .inl (cI, 512, .inl (mm2 g h))), (o, .inr (5, [.int th, .ref im, .int (bI tr), .ref rc, .ref bg, .int ro, .ref oa, .ref xa, .ref ya, .ref rg, .ref me, .ref sa, .ref pa, .ref za, .ref ca, .int (bI kp), .ref ta, .ref na])), (rg, .inl (cI, 6, .inl (rg6 a x d b0 b1 ((b2 + (selM j b0 b1 b2) + 0) &&& 255)))), (za, .inl (cZ, 2, .inl (p2 (bI z0) (bI (decide ((b2 + (selM j b0 b1 b2) + 0) &&& 255 = 0)))))), (ca, .inl (cZ, 2, .inl (p2 (bI c0) (bI (decide (¬ b2 + (selM j b0 b1 b2) + 0 ≤ 255))))))] H := hP
      have hD : va_D A [(me, .inl (cI, 512, .inl (mm2 g h))), (o, .inr (5, [.int th, .ref im, .int (bI tr), .ref rc, .ref bg, .int ro, .ref oa, .ref xa, .ref ya, .ref rg, .ref me, .ref sa, .ref pa, .ref za, .ref ca, .int (bI kp), .ref ta, .ref na])), (rg, .inl (cI, 6, .inl (rg6 a x d b0 b1 ((b2 + (selM j b0 b1 b2) + 0) &&& 255)))), (za, .inl (cZ, 2, .inl (p2 (bI z0) (bI (decide ((b2 + (selM j b0 b1 b2) + 0) &&& 255 = 0)))))), (ca, .inl (cZ, 2, .inl (p2 (bI c0) (bI (decide (¬ b2 + (selM j b0 b1 b2) + 0 ≤ 255))))))] := hD
      refine lv_goto (tgt := 302) hx hb d_MO_works_207 rfl ?_
      have hP9 : va_P D vwCl [(o, .inr (5, [.int th, .ref im, .int (bI tr), .ref rc, .ref bg, .int ro, .ref oa, .ref xa, .ref ya, .ref rg, .ref me, .ref sa, .ref pa, .ref za, .ref ca, .int (bI kp), .ref ta, .ref na])), (rg, .inl (cI, 6, .inl (rg6 a x d b0 b1 ((b2 + (selM j b0 b1 b2) + 0) &&& 255)))), (me, .inl (cI, 512, .inl (mm2 g h))), (za, .inl (cZ, 2, .inl (p2 (bI z0) (bI (decide ((b2 + (selM j b0 b1 b2) + 0) &&& 255 = 0)))))), (ca, .inl (cZ, 2, .inl (p2 (bI c0) (bI (decide (¬ b2 + (selM j b0 b1 b2) + 0 ≤ 255))))))] H := hP.sub [1, 2, 0, 3, 4] rfl
      have hD9 : va_D A [(o, .inr (5, [.int th, .ref im, .int (bI tr), .ref rc, .ref bg, .int ro, .ref oa, .ref xa, .ref ya, .ref rg, .ref me, .ref sa, .ref pa, .ref za, .ref ca, .int (bI kp), .ref ta, .ref na])), (rg, .inl (cI, 6, .inl (rg6 a x d b0 b1 ((b2 + (selM j b0 b1 b2) + 0) &&& 255)))), (me, .inl (cI, 512, .inl (mm2 g h))), (za, .inl (cZ, 2, .inl (p2 (bI z0) (bI (decide ((b2 + (selM j b0 b1 b2) + 0) &&& 255 = 0)))))), (ca, .inl (cZ, 2, .inl (p2 (bI c0) (bI (decide (¬ b2 + (selM j b0 b1 b2) + 0 ≤ 255))))))] := hD.sub [1, 2, 0, 3, 4] (by decide) rfl
      exact W.vret hx hb hr (fun t ht hW => ⟨⟨(h, b0, b1, (b2 + (selM j b0 b1 b2) + 0) &&& 255, decide ((b2 + (selM j b0 b1 b2) + 0) &&& 255 = 0), decide (¬ b2 + (selM j b0 b1 b2) + 0 ≤ 255)), rfl, by rw [h25]; rfl, by rw [ht]; exact hP9, va_K.moved hW.alike hK, hD9⟩, hS.F ht⟩) hS.2.2 d_MO_works_302
    | 8, _, h25 =>
      have h25 : op = 10 := h25
      refine lv_tableIn (off := 185) (tgt := 210) hx hb d_MO_works_25 (by rw [h25]; decide) (by rw [h25]; decide) (by rw [h25]; rfl) rfl ?_
      refine lv_aload_n hx hb d_MO_works_210 rfl (lv_at hl 2 rfl) ?_
      refine lv_iconst (v := 1) hx hb d_MO_works_211 (by decide) ?_
      refine lv_iload_n hx hb d_MO_works_212 rfl (lv_at hl 4 rfl) ?_
      refine lv_iload hx hb d_MO_works_213 (lv_at hl 0 rfl) ?_
      refine lv_aload_n hx hb d_MO_works_215 rfl (lv_at hl 2 rfl) ?_
      refine va_get (D := D) (ci := 5) (v := .ref ca) (C := R_MO) (T := T_MO) (N := 18) hx hb hts iw_MO hown hK hP 0 rfl rfl 14 (by decide) (hts _ k_709) (fun _ h9 => h9) rfl d_MO_works_216 ?_
      refine lv_iconst (v := 1) hx hb d_MO_works_219 (by decide) ?_
      refine va_zald hx hb hK hP 4 1 rfl rfl (vp_in_nI (n := 1) (by decide) (by decide)) d_MO_works_220 ?_
      refine lv_if_eq (tgt := 228) hx hb d_MO_works_221 rfl (fun h221 => ?_) (fun h221 => ?_)
      · have h221 : c1 = false := bI_f h221
        refine lv_iconst (v := 0) hx hb d_MO_works_228 (by decide) ?_
        have hPc := hP.sub (ws' := [(o, .inr (5, [.int th, .ref im, .int (bI tr), .ref rc, .ref bg, .int ro, .ref oa, .ref xa, .ref ya, .ref rg, .ref me, .ref sa, .ref pa, .ref za, .ref ca, .int (bI kp), .ref ta, .ref na])), (rg, .inl (cI, 6, .inl (rg6 a x d b0 b1 b2))), (za, .inl (cZ, 2, .inl (p2 (bI z0) (bI z1)))), (ca, .inl (cZ, 2, .inl (p2 (bI c0) (bI c1))))]) [0, 1, 3, 4] rfl
        have hDc := hD.sub (ws' := [(o, .inr (5, [.int th, .ref im, .int (bI tr), .ref rc, .ref bg, .int ro, .ref oa, .ref xa, .ref ya, .ref rg, .ref me, .ref sa, .ref pa, .ref za, .ref ca, .int (bI kp), .ref ta, .ref na])), (rg, .inl (cI, 6, .inl (rg6 a x d b0 b1 b2))), (za, .inl (cZ, 2, .inl (p2 (bI z0) (bI z1)))), (ca, .inl (cZ, 2, .inl (p2 (bI c0) (bI c1))))]) [0, 1, 3, 4] (by decide) rfl
        have hFc := va_free (wc := [(o, .inr (5, [.int th, .ref im, .int (bI tr), .ref rc, .ref bg, .int ro, .ref oa, .ref xa, .ref ya, .ref rg, .ref me, .ref sa, .ref pa, .ref za, .ref ca, .int (bI kp), .ref ta, .ref na])), (rg, .inl (cI, 6, .inl (rg6 a x d b0 b1 b2))), (za, .inl (cZ, 2, .inl (p2 (bI z0) (bI z1)))), (ca, .inl (cZ, 2, .inl (p2 (bI c0) (bI c1))))]) hD hS hA [0, 1, 3, 4] rfl
        refine va_callv (va_runV (As := [.int 1, .int 2, .int (selM j b0 b1 b2), .int 0]) (rest := []) ⟨hx, hb, hml, hown, hts⟩ (q_adds12 l D cI cZ o th im tr rc bg ro oa xa ya rg me sa pa za ca kp ta na a x d b0 b1 b2 z0 z1 c0 c1 (selM j b0 b1 b2) 0 H.size) ⟨cB 4 hts k_857 k_62 k_854 hd_MO_adds ⟨Nat.le_of_ble_eq_true rfl, Nat.le_of_ble_eq_true rfl⟩ rfl rfl, hts _ k_856, hts _ k_45⟩ (PcW.preV (va_recv hK hP (q0 := 0) (ci := 5) rfl rfl) hPc hK hDc hN) rfl rfl hl.1 rfl (lv_room (Nat.le_of_ble_eq_true rfl)) d_MO_works_229 ⟨Nat.le_of_ble_eq_true rfl, Nat.le_of_ble_eq_true rfl⟩) hS (fun q _ h => hFc q h) hFc (fun u t H1 locs ht hvm e229 hB hz1 hk1 hS => ?_)
        obtain ⟨v1229, zz229, cy229⟩ := u
        obtain ⟨hP1, hK1, hD1⟩ := hB
        rw [ht] at hP1
        obtain ⟨hP, hD⟩ := va_join (wr := [(me, .inl (cI, 512, .inl (mm2 g h)))]) (w1 := [(o, .inr (5, [.int th, .ref im, .int (bI tr), .ref rc, .ref bg, .int ro, .ref oa, .ref xa, .ref ya, .ref rg, .ref me, .ref sa, .ref pa, .ref za, .ref ca, .int (bI kp), .ref ta, .ref na])), (rg, .inl (cI, 6, .inl (rg6 a x d b0 b1 v1229))), (za, .inl (cZ, 2, .inl (p2 (bI z0) (bI zz229)))), (ca, .inl (cZ, 2, .inl (p2 (bI c0) (bI cy229))))]) hP hD [0, 1, 3, 4] [2] rfl rfl (by decide) (by decide) hk1 hFc hP1 hD1
        generalize H1 = H at hP hS ⊢
        try dsimp only at e229
        obtain ⟨e229_0, e229_1, e229_2⟩ := e229
        replace e229_0 := e229_0.symm
        subst e229_0
        replace e229_1 := e229_1.symm
        subst e229_1
        replace e229_2 := e229_2.symm
        subst e229_2
        have hP : va_P D vwCl [(me, .inl (cI, 512, .inl (mm2 g h))), (o, .inr (5, [.int th, .ref im, .int (bI tr), .ref rc, .ref bg, .int ro, .ref oa, .ref xa, .ref ya, .ref rg, .ref me, .ref sa, .ref pa, .ref za, .ref ca, .int (bI kp), .ref ta, .ref na])), (rg, .inl (cI, 6, .inl (rg6 a x d b0 b1 ((b2 + (selM j b0 b1 b2) + 0) &&& 255)))), (za, .inl (cZ, 2, .inl (p2 (bI z0) (bI (decide ((b2 + (selM j b0 b1 b2) + 0) &&& 255 = 0)))))), (ca, .inl (cZ, 2, .inl (p2 (bI c0) (bI (decide (¬ b2 + (selM j b0 b1 b2) + 0 ≤ 255))))))] H := hP
        have hD : va_D A [(me, .inl (cI, 512, .inl (mm2 g h))), (o, .inr (5, [.int th, .ref im, .int (bI tr), .ref rc, .ref bg, .int ro, .ref oa, .ref xa, .ref ya, .ref rg, .ref me, .ref sa, .ref pa, .ref za, .ref ca, .int (bI kp), .ref ta, .ref na])), (rg, .inl (cI, 6, .inl (rg6 a x d b0 b1 ((b2 + (selM j b0 b1 b2) + 0) &&& 255)))), (za, .inl (cZ, 2, .inl (p2 (bI z0) (bI (decide ((b2 + (selM j b0 b1 b2) + 0) &&& 255 = 0)))))), (ca, .inl (cZ, 2, .inl (p2 (bI c0) (bI (decide (¬ b2 + (selM j b0 b1 b2) + 0 ≤ 255))))))] := hD
        refine lv_goto (tgt := 302) hx hb d_MO_works_232 rfl ?_
        have hP9 : va_P D vwCl [(o, .inr (5, [.int th, .ref im, .int (bI tr), .ref rc, .ref bg, .int ro, .ref oa, .ref xa, .ref ya, .ref rg, .ref me, .ref sa, .ref pa, .ref za, .ref ca, .int (bI kp), .ref ta, .ref na])), (rg, .inl (cI, 6, .inl (rg6 a x d b0 b1 ((b2 + (selM j b0 b1 b2) + 0) &&& 255)))), (me, .inl (cI, 512, .inl (mm2 g h))), (za, .inl (cZ, 2, .inl (p2 (bI z0) (bI (decide ((b2 + (selM j b0 b1 b2) + 0) &&& 255 = 0)))))), (ca, .inl (cZ, 2, .inl (p2 (bI c0) (bI (decide (¬ b2 + (selM j b0 b1 b2) + 0 ≤ 255))))))] H := hP.sub [1, 2, 0, 3, 4] rfl
        have hD9 : va_D A [(o, .inr (5, [.int th, .ref im, .int (bI tr), .ref rc, .ref bg, .int ro, .ref oa, .ref xa, .ref ya, .ref rg, .ref me, .ref sa, .ref pa, .ref za, .ref ca, .int (bI kp), .ref ta, .ref na])), (rg, .inl (cI, 6, .inl (rg6 a x d b0 b1 ((b2 + (selM j b0 b1 b2) + 0) &&& 255)))), (me, .inl (cI, 512, .inl (mm2 g h))), (za, .inl (cZ, 2, .inl (p2 (bI z0) (bI (decide ((b2 + (selM j b0 b1 b2) + 0) &&& 255 = 0)))))), (ca, .inl (cZ, 2, .inl (p2 (bI c0) (bI (decide (¬ b2 + (selM j b0 b1 b2) + 0 ≤ 255))))))] := hD.sub [1, 2, 0, 3, 4] (by decide) rfl
        exact W.vret hx hb hr (fun t ht hW => ⟨⟨(h, b0, b1, (b2 + (selM j b0 b1 b2) + 0) &&& 255, decide ((b2 + (selM j b0 b1 b2) + 0) &&& 255 = 0), decide (¬ b2 + (selM j b0 b1 b2) + 0 ≤ 255)), rfl, by rw [h25, h221]; rfl, by rw [ht]; exact hP9, va_K.moved hW.alike hK, hD9⟩, hS.F ht⟩) hS.2.2 d_MO_works_302
      · have h221 : c1 = true := bI_t h221
        refine lv_iconst (v := 1) hx hb d_MO_works_224 (by decide) ?_
        refine lv_goto (tgt := 229) hx hb d_MO_works_225 rfl ?_
        have hPc := hP.sub (ws' := [(o, .inr (5, [.int th, .ref im, .int (bI tr), .ref rc, .ref bg, .int ro, .ref oa, .ref xa, .ref ya, .ref rg, .ref me, .ref sa, .ref pa, .ref za, .ref ca, .int (bI kp), .ref ta, .ref na])), (rg, .inl (cI, 6, .inl (rg6 a x d b0 b1 b2))), (za, .inl (cZ, 2, .inl (p2 (bI z0) (bI z1)))), (ca, .inl (cZ, 2, .inl (p2 (bI c0) (bI c1))))]) [0, 1, 3, 4] rfl
        have hDc := hD.sub (ws' := [(o, .inr (5, [.int th, .ref im, .int (bI tr), .ref rc, .ref bg, .int ro, .ref oa, .ref xa, .ref ya, .ref rg, .ref me, .ref sa, .ref pa, .ref za, .ref ca, .int (bI kp), .ref ta, .ref na])), (rg, .inl (cI, 6, .inl (rg6 a x d b0 b1 b2))), (za, .inl (cZ, 2, .inl (p2 (bI z0) (bI z1)))), (ca, .inl (cZ, 2, .inl (p2 (bI c0) (bI c1))))]) [0, 1, 3, 4] (by decide) rfl
        have hFc := va_free (wc := [(o, .inr (5, [.int th, .ref im, .int (bI tr), .ref rc, .ref bg, .int ro, .ref oa, .ref xa, .ref ya, .ref rg, .ref me, .ref sa, .ref pa, .ref za, .ref ca, .int (bI kp), .ref ta, .ref na])), (rg, .inl (cI, 6, .inl (rg6 a x d b0 b1 b2))), (za, .inl (cZ, 2, .inl (p2 (bI z0) (bI z1)))), (ca, .inl (cZ, 2, .inl (p2 (bI c0) (bI c1))))]) hD hS hA [0, 1, 3, 4] rfl
        refine va_callv (va_runV (As := [.int 1, .int 2, .int (selM j b0 b1 b2), .int 1]) (rest := []) ⟨hx, hb, hml, hown, hts⟩ (q_adds12 l D cI cZ o th im tr rc bg ro oa xa ya rg me sa pa za ca kp ta na a x d b0 b1 b2 z0 z1 c0 c1 (selM j b0 b1 b2) 1 H.size) ⟨cB 4 hts k_857 k_62 k_854 hd_MO_adds ⟨Nat.le_of_ble_eq_true rfl, Nat.le_of_ble_eq_true rfl⟩ rfl rfl, hts _ k_856, hts _ k_45⟩ (PcW.preV (va_recv hK hP (q0 := 0) (ci := 5) rfl rfl) hPc hK hDc hN) rfl rfl hl.1 rfl (lv_room (Nat.le_of_ble_eq_true rfl)) d_MO_works_229 ⟨Nat.le_of_ble_eq_true rfl, Nat.le_of_ble_eq_true rfl⟩) hS (fun q _ h => hFc q h) hFc (fun u t H1 locs ht hvm e229 hB hz1 hk1 hS => ?_)
        obtain ⟨v1229, zz229, cy229⟩ := u
        obtain ⟨hP1, hK1, hD1⟩ := hB
        rw [ht] at hP1
        obtain ⟨hP, hD⟩ := va_join (wr := [(me, .inl (cI, 512, .inl (mm2 g h)))]) (w1 := [(o, .inr (5, [.int th, .ref im, .int (bI tr), .ref rc, .ref bg, .int ro, .ref oa, .ref xa, .ref ya, .ref rg, .ref me, .ref sa, .ref pa, .ref za, .ref ca, .int (bI kp), .ref ta, .ref na])), (rg, .inl (cI, 6, .inl (rg6 a x d b0 b1 v1229))), (za, .inl (cZ, 2, .inl (p2 (bI z0) (bI zz229)))), (ca, .inl (cZ, 2, .inl (p2 (bI c0) (bI cy229))))]) hP hD [0, 1, 3, 4] [2] rfl rfl (by decide) (by decide) hk1 hFc hP1 hD1
        generalize H1 = H at hP hS ⊢
        try dsimp only at e229
        obtain ⟨e229_0, e229_1, e229_2⟩ := e229
        replace e229_0 := e229_0.symm
        subst e229_0
        replace e229_1 := e229_1.symm
        subst e229_1
        replace e229_2 := e229_2.symm
        subst e229_2
        have hP : va_P D vwCl [(me, .inl (cI, 512, .inl (mm2 g h))), (o, .inr (5, [.int th, .ref im, .int (bI tr), .ref rc, .ref bg, .int ro, .ref oa, .ref xa, .ref ya, .ref rg, .ref me, .ref sa, .ref pa, .ref za, .ref ca, .int (bI kp), .ref ta, .ref na])), (rg, .inl (cI, 6, .inl (rg6 a x d b0 b1 ((b2 + (selM j b0 b1 b2) + 1) &&& 255)))), (za, .inl (cZ, 2, .inl (p2 (bI z0) (bI (decide ((b2 + (selM j b0 b1 b2) + 1) &&& 255 = 0)))))), (ca, .inl (cZ, 2, .inl (p2 (bI c0) (bI (decide (¬ b2 + (selM j b0 b1 b2) + 1 ≤ 255))))))] H := hP
        have hD : va_D A [(me, .inl (cI, 512, .inl (mm2 g h))), (o, .inr (5, [.int th, .ref im, .int (bI tr), .ref rc, .ref bg, .int ro, .ref oa, .ref xa, .ref ya, .ref rg, .ref me, .ref sa, .ref pa, .ref za, .ref ca, .int (bI kp), .ref ta, .ref na])), (rg, .inl (cI, 6, .inl (rg6 a x d b0 b1 ((b2 + (selM j b0 b1 b2) + 1) &&& 255)))), (za, .inl (cZ, 2, .inl (p2 (bI z0) (bI (decide ((b2 + (selM j b0 b1 b2) + 1) &&& 255 = 0)))))), (ca, .inl (cZ, 2, .inl (p2 (bI c0) (bI (decide (¬ b2 + (selM j b0 b1 b2) + 1 ≤ 255))))))] := hD
        refine lv_goto (tgt := 302) hx hb d_MO_works_232 rfl ?_
        have hP9 : va_P D vwCl [(o, .inr (5, [.int th, .ref im, .int (bI tr), .ref rc, .ref bg, .int ro, .ref oa, .ref xa, .ref ya, .ref rg, .ref me, .ref sa, .ref pa, .ref za, .ref ca, .int (bI kp), .ref ta, .ref na])), (rg, .inl (cI, 6, .inl (rg6 a x d b0 b1 ((b2 + (selM j b0 b1 b2) + 1) &&& 255)))), (me, .inl (cI, 512, .inl (mm2 g h))), (za, .inl (cZ, 2, .inl (p2 (bI z0) (bI (decide ((b2 + (selM j b0 b1 b2) + 1) &&& 255 = 0)))))), (ca, .inl (cZ, 2, .inl (p2 (bI c0) (bI (decide (¬ b2 + (selM j b0 b1 b2) + 1 ≤ 255))))))] H := hP.sub [1, 2, 0, 3, 4] rfl
        have hD9 : va_D A [(o, .inr (5, [.int th, .ref im, .int (bI tr), .ref rc, .ref bg, .int ro, .ref oa, .ref xa, .ref ya, .ref rg, .ref me, .ref sa, .ref pa, .ref za, .ref ca, .int (bI kp), .ref ta, .ref na])), (rg, .inl (cI, 6, .inl (rg6 a x d b0 b1 ((b2 + (selM j b0 b1 b2) + 1) &&& 255)))), (me, .inl (cI, 512, .inl (mm2 g h))), (za, .inl (cZ, 2, .inl (p2 (bI z0) (bI (decide ((b2 + (selM j b0 b1 b2) + 1) &&& 255 = 0)))))), (ca, .inl (cZ, 2, .inl (p2 (bI c0) (bI (decide (¬ b2 + (selM j b0 b1 b2) + 1 ≤ 255))))))] := hD.sub [1, 2, 0, 3, 4] (by decide) rfl
        exact W.vret hx hb hr (fun t ht hW => ⟨⟨(h, b0, b1, (b2 + (selM j b0 b1 b2) + 1) &&& 255, decide ((b2 + (selM j b0 b1 b2) + 1) &&& 255 = 0), decide (¬ b2 + (selM j b0 b1 b2) + 1 ≤ 255)), rfl, by rw [h25, h221]; rfl, by rw [ht]; exact hP9, va_K.moved hW.alike hK, hD9⟩, hS.F ht⟩) hS.2.2 d_MO_works_302
    | 9, _, h25 =>
      have h25 : op = 11 := h25
      refine lv_tableIn (off := 210) (tgt := 235) hx hb d_MO_works_25 (by rw [h25]; decide) (by rw [h25]; decide) (by rw [h25]; rfl) rfl ?_
      refine lv_aload_n hx hb d_MO_works_235 rfl (lv_at hl 2 rfl) ?_
      refine lv_iconst (v := 1) hx hb d_MO_works_236 (by decide) ?_
      refine lv_iload_n hx hb d_MO_works_237 rfl (lv_at hl 4 rfl) ?_
      refine lv_iload hx hb d_MO_works_238 (lv_at hl 0 rfl) ?_
      refine lv_iconst (v := 0) hx hb d_MO_works_240 (by decide) ?_
      have hPc := hP.sub (ws' := [(o, .inr (5, [.int th, .ref im, .int (bI tr), .ref rc, .ref bg, .int ro, .ref oa, .ref xa, .ref ya, .ref rg, .ref me, .ref sa, .ref pa, .ref za, .ref ca, .int (bI kp), .ref ta, .ref na])), (rg, .inl (cI, 6, .inl (rg6 a x d b0 b1 b2))), (za, .inl (cZ, 2, .inl (p2 (bI z0) (bI z1)))), (ca, .inl (cZ, 2, .inl (p2 (bI c0) (bI c1))))]) [0, 1, 3, 4] rfl
      have hDc := hD.sub (ws' := [(o, .inr (5, [.int th, .ref im, .int (bI tr), .ref rc, .ref bg, .int ro, .ref oa, .ref xa, .ref ya, .ref rg, .ref me, .ref sa, .ref pa, .ref za, .ref ca, .int (bI kp), .ref ta, .ref na])), (rg, .inl (cI, 6, .inl (rg6 a x d b0 b1 b2))), (za, .inl (cZ, 2, .inl (p2 (bI z0) (bI z1)))), (ca, .inl (cZ, 2, .inl (p2 (bI c0) (bI c1))))]) [0, 1, 3, 4] (by decide) rfl
      have hFc := va_free (wc := [(o, .inr (5, [.int th, .ref im, .int (bI tr), .ref rc, .ref bg, .int ro, .ref oa, .ref xa, .ref ya, .ref rg, .ref me, .ref sa, .ref pa, .ref za, .ref ca, .int (bI kp), .ref ta, .ref na])), (rg, .inl (cI, 6, .inl (rg6 a x d b0 b1 b2))), (za, .inl (cZ, 2, .inl (p2 (bI z0) (bI z1)))), (ca, .inl (cZ, 2, .inl (p2 (bI c0) (bI c1))))]) hD hS hA [0, 1, 3, 4] rfl
      refine va_callv (va_runV (As := [.int 1, .int 2, .int (selM j b0 b1 b2), .int 0]) (rest := []) ⟨hx, hb, hml, hown, hts⟩ (q_subs12 l D cI cZ o th im tr rc bg ro oa xa ya rg me sa pa za ca kp ta na a x d b0 b1 b2 z0 z1 c0 c1 (selM j b0 b1 b2) false H.size) ⟨cB 4 hts k_861 k_62 k_858 hd_MO_subtracts ⟨Nat.le_of_ble_eq_true rfl, Nat.le_of_ble_eq_true rfl⟩ rfl rfl, hts _ k_860, hts _ k_46⟩ (PcW.preV (va_recv hK hP (q0 := 0) (ci := 5) rfl rfl) hPc hK hDc hN) rfl rfl hl.1 rfl (lv_room (Nat.le_of_ble_eq_true rfl)) d_MO_works_241 ⟨Nat.le_of_ble_eq_true rfl, Nat.le_of_ble_eq_true rfl⟩) hS (fun q _ h => hFc q h) hFc (fun u t H1 locs ht hvm e241 hB hz1 hk1 hS => ?_)
      obtain ⟨v1241, zz241, cy241⟩ := u
      obtain ⟨hP1, hK1, hD1⟩ := hB
      rw [ht] at hP1
      obtain ⟨hP, hD⟩ := va_join (wr := [(me, .inl (cI, 512, .inl (mm2 g h)))]) (w1 := [(o, .inr (5, [.int th, .ref im, .int (bI tr), .ref rc, .ref bg, .int ro, .ref oa, .ref xa, .ref ya, .ref rg, .ref me, .ref sa, .ref pa, .ref za, .ref ca, .int (bI kp), .ref ta, .ref na])), (rg, .inl (cI, 6, .inl (rg6 a x d b0 b1 v1241))), (za, .inl (cZ, 2, .inl (p2 (bI z0) (bI zz241)))), (ca, .inl (cZ, 2, .inl (p2 (bI c0) (bI cy241))))]) hP hD [0, 1, 3, 4] [2] rfl rfl (by decide) (by decide) hk1 hFc hP1 hD1
      generalize H1 = H at hP hS ⊢
      try dsimp only at e241
      obtain ⟨e241_0, e241_1, e241_2⟩ := e241
      replace e241_0 := e241_0.symm
      subst e241_0
      replace e241_1 := e241_1.symm
      subst e241_1
      replace e241_2 := e241_2.symm
      subst e241_2
      have hP : va_P D vwCl [(me, .inl (cI, 512, .inl (mm2 g h))), (o, .inr (5, [.int th, .ref im, .int (bI tr), .ref rc, .ref bg, .int ro, .ref oa, .ref xa, .ref ya, .ref rg, .ref me, .ref sa, .ref pa, .ref za, .ref ca, .int (bI kp), .ref ta, .ref na])), (rg, .inl (cI, 6, .inl (rg6 a x d b0 b1 (if false = true then b2 &&& 255 else (b2 - (selM j b0 b1 b2)) &&& 255)))), (za, .inl (cZ, 2, .inl (p2 (bI z0) (bI (decide ((b2 - (selM j b0 b1 b2)) &&& 255 = 0)))))), (ca, .inl (cZ, 2, .inl (p2 (bI c0) (bI (decide (¬ (selM j b0 b1 b2) ≤ b2))))))] H := hP
      have hD : va_D A [(me, .inl (cI, 512, .inl (mm2 g h))), (o, .inr (5, [.int th, .ref im, .int (bI tr), .ref rc, .ref bg, .int ro, .ref oa, .ref xa, .ref ya, .ref rg, .ref me, .ref sa, .ref pa, .ref za, .ref ca, .int (bI kp), .ref ta, .ref na])), (rg, .inl (cI, 6, .inl (rg6 a x d b0 b1 (if false = true then b2 &&& 255 else (b2 - (selM j b0 b1 b2)) &&& 255)))), (za, .inl (cZ, 2, .inl (p2 (bI z0) (bI (decide ((b2 - (selM j b0 b1 b2)) &&& 255 = 0)))))), (ca, .inl (cZ, 2, .inl (p2 (bI c0) (bI (decide (¬ (selM j b0 b1 b2) ≤ b2))))))] := hD
      refine lv_goto (tgt := 302) hx hb d_MO_works_244 rfl ?_
      have hP9 : va_P D vwCl [(o, .inr (5, [.int th, .ref im, .int (bI tr), .ref rc, .ref bg, .int ro, .ref oa, .ref xa, .ref ya, .ref rg, .ref me, .ref sa, .ref pa, .ref za, .ref ca, .int (bI kp), .ref ta, .ref na])), (rg, .inl (cI, 6, .inl (rg6 a x d b0 b1 (if false = true then b2 &&& 255 else (b2 - (selM j b0 b1 b2)) &&& 255)))), (me, .inl (cI, 512, .inl (mm2 g h))), (za, .inl (cZ, 2, .inl (p2 (bI z0) (bI (decide ((b2 - (selM j b0 b1 b2)) &&& 255 = 0)))))), (ca, .inl (cZ, 2, .inl (p2 (bI c0) (bI (decide (¬ (selM j b0 b1 b2) ≤ b2))))))] H := hP.sub [1, 2, 0, 3, 4] rfl
      have hD9 : va_D A [(o, .inr (5, [.int th, .ref im, .int (bI tr), .ref rc, .ref bg, .int ro, .ref oa, .ref xa, .ref ya, .ref rg, .ref me, .ref sa, .ref pa, .ref za, .ref ca, .int (bI kp), .ref ta, .ref na])), (rg, .inl (cI, 6, .inl (rg6 a x d b0 b1 (if false = true then b2 &&& 255 else (b2 - (selM j b0 b1 b2)) &&& 255)))), (me, .inl (cI, 512, .inl (mm2 g h))), (za, .inl (cZ, 2, .inl (p2 (bI z0) (bI (decide ((b2 - (selM j b0 b1 b2)) &&& 255 = 0)))))), (ca, .inl (cZ, 2, .inl (p2 (bI c0) (bI (decide (¬ (selM j b0 b1 b2) ≤ b2))))))] := hD.sub [1, 2, 0, 3, 4] (by decide) rfl
      exact W.vret hx hb hr (fun t ht hW => ⟨⟨(h, b0, b1, if false = true then b2 &&& 255 else (b2 - (selM j b0 b1 b2)) &&& 255, decide ((b2 - (selM j b0 b1 b2)) &&& 255 = 0), decide (¬ (selM j b0 b1 b2) ≤ b2)), rfl, by rw [h25]; rfl, by rw [ht]; exact hP9, va_K.moved hW.alike hK, hD9⟩, hS.F ht⟩) hS.2.2 d_MO_works_302
    | 10, _, h25 =>
      have h25 : op = 12 := h25
      refine lv_tableIn (off := 222) (tgt := 247) hx hb d_MO_works_25 (by rw [h25]; decide) (by rw [h25]; decide) (by rw [h25]; rfl) rfl ?_
      refine lv_aload_n hx hb d_MO_works_247 rfl (lv_at hl 2 rfl) ?_
      refine lv_iconst (v := 1) hx hb d_MO_works_248 (by decide) ?_
      refine lv_iload_n hx hb d_MO_works_249 rfl (lv_at hl 4 rfl) ?_
      refine lv_iload hx hb d_MO_works_250 (lv_at hl 1 rfl) ?_
      refine lv_iload hx hb d_MO_works_252 (lv_at hl 0 rfl) ?_
      refine lv_iand hx hb d_MO_works_254 ?_
      have hPc := hP.sub (ws' := [(o, .inr (5, [.int th, .ref im, .int (bI tr), .ref rc, .ref bg, .int ro, .ref oa, .ref xa, .ref ya, .ref rg, .ref me, .ref sa, .ref pa, .ref za, .ref ca, .int (bI kp), .ref ta, .ref na])), (rg, .inl (cI, 6, .inl (rg6 a x d b0 b1 b2))), (za, .inl (cZ, 2, .inl (p2 (bI z0) (bI z1)))), (ca, .inl (cZ, 2, .inl (p2 (bI c0) (bI c1))))]) [0, 1, 3, 4] rfl
      have hDc := hD.sub (ws' := [(o, .inr (5, [.int th, .ref im, .int (bI tr), .ref rc, .ref bg, .int ro, .ref oa, .ref xa, .ref ya, .ref rg, .ref me, .ref sa, .ref pa, .ref za, .ref ca, .int (bI kp), .ref ta, .ref na])), (rg, .inl (cI, 6, .inl (rg6 a x d b0 b1 b2))), (za, .inl (cZ, 2, .inl (p2 (bI z0) (bI z1)))), (ca, .inl (cZ, 2, .inl (p2 (bI c0) (bI c1))))]) [0, 1, 3, 4] (by decide) rfl
      have hFc := va_free (wc := [(o, .inr (5, [.int th, .ref im, .int (bI tr), .ref rc, .ref bg, .int ro, .ref oa, .ref xa, .ref ya, .ref rg, .ref me, .ref sa, .ref pa, .ref za, .ref ca, .int (bI kp), .ref ta, .ref na])), (rg, .inl (cI, 6, .inl (rg6 a x d b0 b1 b2))), (za, .inl (cZ, 2, .inl (p2 (bI z0) (bI z1)))), (ca, .inl (cZ, 2, .inl (p2 (bI c0) (bI c1))))]) hD hS hA [0, 1, 3, 4] rfl
      refine va_callv (va_runV (As := [.int 1, .int 2, .int (b2 &&& (selM j b0 b1 b2))]) (rest := []) ⟨hx, hb, hml, hown, hts⟩ (q_plain12 l D cI cZ o th im tr rc bg ro oa xa ya rg me sa pa za ca kp ta na a x d b0 b1 b2 z0 z1 c0 c1 (b2 &&& (selM j b0 b1 b2)) H.size) ⟨cB 3 hts k_865 k_62 k_862 hd_MO_plain ⟨Nat.le_of_ble_eq_true rfl, Nat.le_of_ble_eq_true rfl⟩ rfl rfl, hts _ k_864, hts _ k_47⟩ (PcW.preV (va_recv hK hP (q0 := 0) (ci := 5) rfl rfl) hPc hK hDc hN) rfl rfl hl.1 rfl (lv_room (Nat.le_of_ble_eq_true rfl)) d_MO_works_255 ⟨Nat.le_of_ble_eq_true rfl, Nat.le_of_ble_eq_true rfl⟩) hS (fun q _ h => hFc q h) hFc (fun u t H1 locs ht hvm e255 hB hz1 hk1 hS => ?_)
      obtain ⟨v1255, zz255, cy255⟩ := u
      obtain ⟨hP1, hK1, hD1⟩ := hB
      rw [ht] at hP1
      obtain ⟨hP, hD⟩ := va_join (wr := [(me, .inl (cI, 512, .inl (mm2 g h)))]) (w1 := [(o, .inr (5, [.int th, .ref im, .int (bI tr), .ref rc, .ref bg, .int ro, .ref oa, .ref xa, .ref ya, .ref rg, .ref me, .ref sa, .ref pa, .ref za, .ref ca, .int (bI kp), .ref ta, .ref na])), (rg, .inl (cI, 6, .inl (rg6 a x d b0 b1 v1255))), (za, .inl (cZ, 2, .inl (p2 (bI z0) (bI zz255)))), (ca, .inl (cZ, 2, .inl (p2 (bI c0) (bI cy255))))]) hP hD [0, 1, 3, 4] [2] rfl rfl (by decide) (by decide) hk1 hFc hP1 hD1
      generalize H1 = H at hP hS ⊢
      try dsimp only at e255
      obtain ⟨e255_0, e255_1, e255_2⟩ := e255
      replace e255_0 := e255_0.symm
      subst e255_0
      replace e255_1 := e255_1.symm
      subst e255_1
      replace e255_2 := e255_2.symm
      subst e255_2
      have hP : va_P D vwCl [(me, .inl (cI, 512, .inl (mm2 g h))), (o, .inr (5, [.int th, .ref im, .int (bI tr), .ref rc, .ref bg, .int ro, .ref oa, .ref xa, .ref ya, .ref rg, .ref me, .ref sa, .ref pa, .ref za, .ref ca, .int (bI kp), .ref ta, .ref na])), (rg, .inl (cI, 6, .inl (rg6 a x d b0 b1 ((b2 &&& (selM j b0 b1 b2)) &&& 255)))), (za, .inl (cZ, 2, .inl (p2 (bI z0) (bI (decide ((b2 &&& (selM j b0 b1 b2)) &&& 255 = 0)))))), (ca, .inl (cZ, 2, .inl (p2 (bI c0) (bI false))))] H := hP
      have hD : va_D A [(me, .inl (cI, 512, .inl (mm2 g h))), (o, .inr (5, [.int th, .ref im, .int (bI tr), .ref rc, .ref bg, .int ro, .ref oa, .ref xa, .ref ya, .ref rg, .ref me, .ref sa, .ref pa, .ref za, .ref ca, .int (bI kp), .ref ta, .ref na])), (rg, .inl (cI, 6, .inl (rg6 a x d b0 b1 ((b2 &&& (selM j b0 b1 b2)) &&& 255)))), (za, .inl (cZ, 2, .inl (p2 (bI z0) (bI (decide ((b2 &&& (selM j b0 b1 b2)) &&& 255 = 0)))))), (ca, .inl (cZ, 2, .inl (p2 (bI c0) (bI false))))] := hD
      refine lv_goto (tgt := 302) hx hb d_MO_works_258 rfl ?_
      have hP9 : va_P D vwCl [(o, .inr (5, [.int th, .ref im, .int (bI tr), .ref rc, .ref bg, .int ro, .ref oa, .ref xa, .ref ya, .ref rg, .ref me, .ref sa, .ref pa, .ref za, .ref ca, .int (bI kp), .ref ta, .ref na])), (rg, .inl (cI, 6, .inl (rg6 a x d b0 b1 ((b2 &&& (selM j b0 b1 b2)) &&& 255)))), (me, .inl (cI, 512, .inl (mm2 g h))), (za, .inl (cZ, 2, .inl (p2 (bI z0) (bI (decide ((b2 &&& (selM j b0 b1 b2)) &&& 255 = 0)))))), (ca, .inl (cZ, 2, .inl (p2 (bI c0) (bI false))))] H := hP.sub [1, 2, 0, 3, 4] rfl
      have hD9 : va_D A [(o, .inr (5, [.int th, .ref im, .int (bI tr), .ref rc, .ref bg, .int ro, .ref oa, .ref xa, .ref ya, .ref rg, .ref me, .ref sa, .ref pa, .ref za, .ref ca, .int (bI kp), .ref ta, .ref na])), (rg, .inl (cI, 6, .inl (rg6 a x d b0 b1 ((b2 &&& (selM j b0 b1 b2)) &&& 255)))), (me, .inl (cI, 512, .inl (mm2 g h))), (za, .inl (cZ, 2, .inl (p2 (bI z0) (bI (decide ((b2 &&& (selM j b0 b1 b2)) &&& 255 = 0)))))), (ca, .inl (cZ, 2, .inl (p2 (bI c0) (bI false))))] := hD.sub [1, 2, 0, 3, 4] (by decide) rfl
      exact W.vret hx hb hr (fun t ht hW => ⟨⟨(h, b0, b1, (b2 &&& (selM j b0 b1 b2)) &&& 255, decide ((b2 &&& (selM j b0 b1 b2)) &&& 255 = 0), false), rfl, by rw [h25]; rfl, by rw [ht]; exact hP9, va_K.moved hW.alike hK, hD9⟩, hS.F ht⟩) hS.2.2 d_MO_works_302
    | 11, _, h25 =>
      have h25 : op = 13 := h25
      refine lv_tableIn (off := 236) (tgt := 261) hx hb d_MO_works_25 (by rw [h25]; decide) (by rw [h25]; decide) (by rw [h25]; rfl) rfl ?_
      refine lv_aload_n hx hb d_MO_works_261 rfl (lv_at hl 2 rfl) ?_
      refine lv_iconst (v := 1) hx hb d_MO_works_262 (by decide) ?_
      refine lv_iload_n hx hb d_MO_works_263 rfl (lv_at hl 4 rfl) ?_
      refine lv_iload hx hb d_MO_works_264 (lv_at hl 1 rfl) ?_
      refine lv_iload hx hb d_MO_works_266 (lv_at hl 0 rfl) ?_
      refine lv_ixor hx hb d_MO_works_268 ?_
      have hPc := hP.sub (ws' := [(o, .inr (5, [.int th, .ref im, .int (bI tr), .ref rc, .ref bg, .int ro, .ref oa, .ref xa, .ref ya, .ref rg, .ref me, .ref sa, .ref pa, .ref za, .ref ca, .int (bI kp), .ref ta, .ref na])), (rg, .inl (cI, 6, .inl (rg6 a x d b0 b1 b2))), (za, .inl (cZ, 2, .inl (p2 (bI z0) (bI z1)))), (ca, .inl (cZ, 2, .inl (p2 (bI c0) (bI c1))))]) [0, 1, 3, 4] rfl
      have hDc := hD.sub (ws' := [(o, .inr (5, [.int th, .ref im, .int (bI tr), .ref rc, .ref bg, .int ro, .ref oa, .ref xa, .ref ya, .ref rg, .ref me, .ref sa, .ref pa, .ref za, .ref ca, .int (bI kp), .ref ta, .ref na])), (rg, .inl (cI, 6, .inl (rg6 a x d b0 b1 b2))), (za, .inl (cZ, 2, .inl (p2 (bI z0) (bI z1)))), (ca, .inl (cZ, 2, .inl (p2 (bI c0) (bI c1))))]) [0, 1, 3, 4] (by decide) rfl
      have hFc := va_free (wc := [(o, .inr (5, [.int th, .ref im, .int (bI tr), .ref rc, .ref bg, .int ro, .ref oa, .ref xa, .ref ya, .ref rg, .ref me, .ref sa, .ref pa, .ref za, .ref ca, .int (bI kp), .ref ta, .ref na])), (rg, .inl (cI, 6, .inl (rg6 a x d b0 b1 b2))), (za, .inl (cZ, 2, .inl (p2 (bI z0) (bI z1)))), (ca, .inl (cZ, 2, .inl (p2 (bI c0) (bI c1))))]) hD hS hA [0, 1, 3, 4] rfl
      refine va_callv (va_runV (As := [.int 1, .int 2, .int (b2 ^^^ (selM j b0 b1 b2))]) (rest := []) ⟨hx, hb, hml, hown, hts⟩ (q_plain12 l D cI cZ o th im tr rc bg ro oa xa ya rg me sa pa za ca kp ta na a x d b0 b1 b2 z0 z1 c0 c1 (b2 ^^^ (selM j b0 b1 b2)) H.size) ⟨cB 3 hts k_865 k_62 k_862 hd_MO_plain ⟨Nat.le_of_ble_eq_true rfl, Nat.le_of_ble_eq_true rfl⟩ rfl rfl, hts _ k_864, hts _ k_47⟩ (PcW.preV (va_recv hK hP (q0 := 0) (ci := 5) rfl rfl) hPc hK hDc hN) rfl rfl hl.1 rfl (lv_room (Nat.le_of_ble_eq_true rfl)) d_MO_works_269 ⟨Nat.le_of_ble_eq_true rfl, Nat.le_of_ble_eq_true rfl⟩) hS (fun q _ h => hFc q h) hFc (fun u t H1 locs ht hvm e269 hB hz1 hk1 hS => ?_)
      obtain ⟨v1269, zz269, cy269⟩ := u
      obtain ⟨hP1, hK1, hD1⟩ := hB
      rw [ht] at hP1
      obtain ⟨hP, hD⟩ := va_join (wr := [(me, .inl (cI, 512, .inl (mm2 g h)))]) (w1 := [(o, .inr (5, [.int th, .ref im, .int (bI tr), .ref rc, .ref bg, .int ro, .ref oa, .ref xa, .ref ya, .ref rg, .ref me, .ref sa, .ref pa, .ref za, .ref ca, .int (bI kp), .ref ta, .ref na])), (rg, .inl (cI, 6, .inl (rg6 a x d b0 b1 v1269))), (za, .inl (cZ, 2, .inl (p2 (bI z0) (bI zz269)))), (ca, .inl (cZ, 2, .inl (p2 (bI c0) (bI cy269))))]) hP hD [0, 1, 3, 4] [2] rfl rfl (by decide) (by decide) hk1 hFc hP1 hD1
      generalize H1 = H at hP hS ⊢
      try dsimp only at e269
      obtain ⟨e269_0, e269_1, e269_2⟩ := e269
      replace e269_0 := e269_0.symm
      subst e269_0
      replace e269_1 := e269_1.symm
      subst e269_1
      replace e269_2 := e269_2.symm
      subst e269_2
      have hP : va_P D vwCl [(me, .inl (cI, 512, .inl (mm2 g h))), (o, .inr (5, [.int th, .ref im, .int (bI tr), .ref rc, .ref bg, .int ro, .ref oa, .ref xa, .ref ya, .ref rg, .ref me, .ref sa, .ref pa, .ref za, .ref ca, .int (bI kp), .ref ta, .ref na])), (rg, .inl (cI, 6, .inl (rg6 a x d b0 b1 ((b2 ^^^ (selM j b0 b1 b2)) &&& 255)))), (za, .inl (cZ, 2, .inl (p2 (bI z0) (bI (decide ((b2 ^^^ (selM j b0 b1 b2)) &&& 255 = 0)))))), (ca, .inl (cZ, 2, .inl (p2 (bI c0) (bI false))))] H := hP
      have hD : va_D A [(me, .inl (cI, 512, .inl (mm2 g h))), (o, .inr (5, [.int th, .ref im, .int (bI tr), .ref rc, .ref bg, .int ro, .ref oa, .ref xa, .ref ya, .ref rg, .ref me, .ref sa, .ref pa, .ref za, .ref ca, .int (bI kp), .ref ta, .ref na])), (rg, .inl (cI, 6, .inl (rg6 a x d b0 b1 ((b2 ^^^ (selM j b0 b1 b2)) &&& 255)))), (za, .inl (cZ, 2, .inl (p2 (bI z0) (bI (decide ((b2 ^^^ (selM j b0 b1 b2)) &&& 255 = 0)))))), (ca, .inl (cZ, 2, .inl (p2 (bI c0) (bI false))))] := hD
      refine lv_goto (tgt := 302) hx hb d_MO_works_272 rfl ?_
      have hP9 : va_P D vwCl [(o, .inr (5, [.int th, .ref im, .int (bI tr), .ref rc, .ref bg, .int ro, .ref oa, .ref xa, .ref ya, .ref rg, .ref me, .ref sa, .ref pa, .ref za, .ref ca, .int (bI kp), .ref ta, .ref na])), (rg, .inl (cI, 6, .inl (rg6 a x d b0 b1 ((b2 ^^^ (selM j b0 b1 b2)) &&& 255)))), (me, .inl (cI, 512, .inl (mm2 g h))), (za, .inl (cZ, 2, .inl (p2 (bI z0) (bI (decide ((b2 ^^^ (selM j b0 b1 b2)) &&& 255 = 0)))))), (ca, .inl (cZ, 2, .inl (p2 (bI c0) (bI false))))] H := hP.sub [1, 2, 0, 3, 4] rfl
      have hD9 : va_D A [(o, .inr (5, [.int th, .ref im, .int (bI tr), .ref rc, .ref bg, .int ro, .ref oa, .ref xa, .ref ya, .ref rg, .ref me, .ref sa, .ref pa, .ref za, .ref ca, .int (bI kp), .ref ta, .ref na])), (rg, .inl (cI, 6, .inl (rg6 a x d b0 b1 ((b2 ^^^ (selM j b0 b1 b2)) &&& 255)))), (me, .inl (cI, 512, .inl (mm2 g h))), (za, .inl (cZ, 2, .inl (p2 (bI z0) (bI (decide ((b2 ^^^ (selM j b0 b1 b2)) &&& 255 = 0)))))), (ca, .inl (cZ, 2, .inl (p2 (bI c0) (bI false))))] := hD.sub [1, 2, 0, 3, 4] (by decide) rfl
      exact W.vret hx hb hr (fun t ht hW => ⟨⟨(h, b0, b1, (b2 ^^^ (selM j b0 b1 b2)) &&& 255, decide ((b2 ^^^ (selM j b0 b1 b2)) &&& 255 = 0), false), rfl, by rw [h25]; rfl, by rw [ht]; exact hP9, va_K.moved hW.alike hK, hD9⟩, hS.F ht⟩) hS.2.2 d_MO_works_302
    | 12, _, h25 =>
      have h25 : op = 14 := h25
      refine lv_tableIn (off := 250) (tgt := 275) hx hb d_MO_works_25 (by rw [h25]; decide) (by rw [h25]; decide) (by rw [h25]; rfl) rfl ?_
      refine lv_aload_n hx hb d_MO_works_275 rfl (lv_at hl 2 rfl) ?_
      refine lv_iconst (v := 1) hx hb d_MO_works_276 (by decide) ?_
      refine lv_iload_n hx hb d_MO_works_277 rfl (lv_at hl 4 rfl) ?_
      refine lv_iload hx hb d_MO_works_278 (lv_at hl 0 rfl) ?_
      refine lv_iconst (v := 1) hx hb d_MO_works_280 (by decide) ?_
      have hPc := hP.sub (ws' := [(o, .inr (5, [.int th, .ref im, .int (bI tr), .ref rc, .ref bg, .int ro, .ref oa, .ref xa, .ref ya, .ref rg, .ref me, .ref sa, .ref pa, .ref za, .ref ca, .int (bI kp), .ref ta, .ref na])), (rg, .inl (cI, 6, .inl (rg6 a x d b0 b1 b2))), (za, .inl (cZ, 2, .inl (p2 (bI z0) (bI z1)))), (ca, .inl (cZ, 2, .inl (p2 (bI c0) (bI c1))))]) [0, 1, 3, 4] rfl
      have hDc := hD.sub (ws' := [(o, .inr (5, [.int th, .ref im, .int (bI tr), .ref rc, .ref bg, .int ro, .ref oa, .ref xa, .ref ya, .ref rg, .ref me, .ref sa, .ref pa, .ref za, .ref ca, .int (bI kp), .ref ta, .ref na])), (rg, .inl (cI, 6, .inl (rg6 a x d b0 b1 b2))), (za, .inl (cZ, 2, .inl (p2 (bI z0) (bI z1)))), (ca, .inl (cZ, 2, .inl (p2 (bI c0) (bI c1))))]) [0, 1, 3, 4] (by decide) rfl
      have hFc := va_free (wc := [(o, .inr (5, [.int th, .ref im, .int (bI tr), .ref rc, .ref bg, .int ro, .ref oa, .ref xa, .ref ya, .ref rg, .ref me, .ref sa, .ref pa, .ref za, .ref ca, .int (bI kp), .ref ta, .ref na])), (rg, .inl (cI, 6, .inl (rg6 a x d b0 b1 b2))), (za, .inl (cZ, 2, .inl (p2 (bI z0) (bI z1)))), (ca, .inl (cZ, 2, .inl (p2 (bI c0) (bI c1))))]) hD hS hA [0, 1, 3, 4] rfl
      refine va_callv (va_runV (As := [.int 1, .int 2, .int (selM j b0 b1 b2), .int 1]) (rest := []) ⟨hx, hb, hml, hown, hts⟩ (q_subs12 l D cI cZ o th im tr rc bg ro oa xa ya rg me sa pa za ca kp ta na a x d b0 b1 b2 z0 z1 c0 c1 (selM j b0 b1 b2) true H.size) ⟨cB 4 hts k_861 k_62 k_858 hd_MO_subtracts ⟨Nat.le_of_ble_eq_true rfl, Nat.le_of_ble_eq_true rfl⟩ rfl rfl, hts _ k_860, hts _ k_46⟩ (PcW.preV (va_recv hK hP (q0 := 0) (ci := 5) rfl rfl) hPc hK hDc hN) rfl rfl hl.1 rfl (lv_room (Nat.le_of_ble_eq_true rfl)) d_MO_works_281 ⟨Nat.le_of_ble_eq_true rfl, Nat.le_of_ble_eq_true rfl⟩) hS (fun q _ h => hFc q h) hFc (fun u t H1 locs ht hvm e281 hB hz1 hk1 hS => ?_)
      obtain ⟨v1281, zz281, cy281⟩ := u
      obtain ⟨hP1, hK1, hD1⟩ := hB
      rw [ht] at hP1
      obtain ⟨hP, hD⟩ := va_join (wr := [(me, .inl (cI, 512, .inl (mm2 g h)))]) (w1 := [(o, .inr (5, [.int th, .ref im, .int (bI tr), .ref rc, .ref bg, .int ro, .ref oa, .ref xa, .ref ya, .ref rg, .ref me, .ref sa, .ref pa, .ref za, .ref ca, .int (bI kp), .ref ta, .ref na])), (rg, .inl (cI, 6, .inl (rg6 a x d b0 b1 v1281))), (za, .inl (cZ, 2, .inl (p2 (bI z0) (bI zz281)))), (ca, .inl (cZ, 2, .inl (p2 (bI c0) (bI cy281))))]) hP hD [0, 1, 3, 4] [2] rfl rfl (by decide) (by decide) hk1 hFc hP1 hD1
      generalize H1 = H at hP hS ⊢
      try dsimp only at e281
      obtain ⟨e281_0, e281_1, e281_2⟩ := e281
      replace e281_0 := e281_0.symm
      subst e281_0
      replace e281_1 := e281_1.symm
      subst e281_1
      replace e281_2 := e281_2.symm
      subst e281_2
      have hP : va_P D vwCl [(me, .inl (cI, 512, .inl (mm2 g h))), (o, .inr (5, [.int th, .ref im, .int (bI tr), .ref rc, .ref bg, .int ro, .ref oa, .ref xa, .ref ya, .ref rg, .ref me, .ref sa, .ref pa, .ref za, .ref ca, .int (bI kp), .ref ta, .ref na])), (rg, .inl (cI, 6, .inl (rg6 a x d b0 b1 (if true = true then b2 &&& 255 else (b2 - (selM j b0 b1 b2)) &&& 255)))), (za, .inl (cZ, 2, .inl (p2 (bI z0) (bI (decide ((b2 - (selM j b0 b1 b2)) &&& 255 = 0)))))), (ca, .inl (cZ, 2, .inl (p2 (bI c0) (bI (decide (¬ (selM j b0 b1 b2) ≤ b2))))))] H := hP
      have hD : va_D A [(me, .inl (cI, 512, .inl (mm2 g h))), (o, .inr (5, [.int th, .ref im, .int (bI tr), .ref rc, .ref bg, .int ro, .ref oa, .ref xa, .ref ya, .ref rg, .ref me, .ref sa, .ref pa, .ref za, .ref ca, .int (bI kp), .ref ta, .ref na])), (rg, .inl (cI, 6, .inl (rg6 a x d b0 b1 (if true = true then b2 &&& 255 else (b2 - (selM j b0 b1 b2)) &&& 255)))), (za, .inl (cZ, 2, .inl (p2 (bI z0) (bI (decide ((b2 - (selM j b0 b1 b2)) &&& 255 = 0)))))), (ca, .inl (cZ, 2, .inl (p2 (bI c0) (bI (decide (¬ (selM j b0 b1 b2) ≤ b2))))))] := hD
      refine lv_goto (tgt := 302) hx hb d_MO_works_284 rfl ?_
      have hP9 : va_P D vwCl [(o, .inr (5, [.int th, .ref im, .int (bI tr), .ref rc, .ref bg, .int ro, .ref oa, .ref xa, .ref ya, .ref rg, .ref me, .ref sa, .ref pa, .ref za, .ref ca, .int (bI kp), .ref ta, .ref na])), (rg, .inl (cI, 6, .inl (rg6 a x d b0 b1 (if true = true then b2 &&& 255 else (b2 - (selM j b0 b1 b2)) &&& 255)))), (me, .inl (cI, 512, .inl (mm2 g h))), (za, .inl (cZ, 2, .inl (p2 (bI z0) (bI (decide ((b2 - (selM j b0 b1 b2)) &&& 255 = 0)))))), (ca, .inl (cZ, 2, .inl (p2 (bI c0) (bI (decide (¬ (selM j b0 b1 b2) ≤ b2))))))] H := hP.sub [1, 2, 0, 3, 4] rfl
      have hD9 : va_D A [(o, .inr (5, [.int th, .ref im, .int (bI tr), .ref rc, .ref bg, .int ro, .ref oa, .ref xa, .ref ya, .ref rg, .ref me, .ref sa, .ref pa, .ref za, .ref ca, .int (bI kp), .ref ta, .ref na])), (rg, .inl (cI, 6, .inl (rg6 a x d b0 b1 (if true = true then b2 &&& 255 else (b2 - (selM j b0 b1 b2)) &&& 255)))), (me, .inl (cI, 512, .inl (mm2 g h))), (za, .inl (cZ, 2, .inl (p2 (bI z0) (bI (decide ((b2 - (selM j b0 b1 b2)) &&& 255 = 0)))))), (ca, .inl (cZ, 2, .inl (p2 (bI c0) (bI (decide (¬ (selM j b0 b1 b2) ≤ b2))))))] := hD.sub [1, 2, 0, 3, 4] (by decide) rfl
      exact W.vret hx hb hr (fun t ht hW => ⟨⟨(h, b0, b1, if true = true then b2 &&& 255 else (b2 - (selM j b0 b1 b2)) &&& 255, decide ((b2 - (selM j b0 b1 b2)) &&& 255 = 0), decide (¬ (selM j b0 b1 b2) ≤ b2)), rfl, by rw [h25]; rfl, by rw [ht]; exact hP9, va_K.moved hW.alike hK, hD9⟩, hS.F ht⟩) hS.2.2 d_MO_works_302
    | 13, _, h25 =>
      have h25 : op = 15 := h25
      refine lv_tableIn (off := 262) (tgt := 287) hx hb d_MO_works_25 (by rw [h25]; decide) (by rw [h25]; decide) (by rw [h25]; rfl) rfl ?_
      refine lv_aload_n hx hb d_MO_works_287 rfl (lv_at hl 2 rfl) ?_
      refine lv_iconst (v := 1) hx hb d_MO_works_288 (by decide) ?_
      refine lv_iload_n hx hb d_MO_works_289 rfl (lv_at hl 4 rfl) ?_
      have hPc := hP.sub (ws' := [(o, .inr (5, [.int th, .ref im, .int (bI tr), .ref rc, .ref bg, .int ro, .ref oa, .ref xa, .ref ya, .ref rg, .ref me, .ref sa, .ref pa, .ref za, .ref ca, .int (bI kp), .ref ta, .ref na])), (rg, .inl (cI, 6, .inl (rg6 a x d b0 b1 b2))), (za, .inl (cZ, 2, .inl (p2 (bI z0) (bI z1)))), (ca, .inl (cZ, 2, .inl (p2 (bI c0) (bI c1))))]) [0, 1, 3, 4] rfl
      have hDc := hD.sub (ws' := [(o, .inr (5, [.int th, .ref im, .int (bI tr), .ref rc, .ref bg, .int ro, .ref oa, .ref xa, .ref ya, .ref rg, .ref me, .ref sa, .ref pa, .ref za, .ref ca, .int (bI kp), .ref ta, .ref na])), (rg, .inl (cI, 6, .inl (rg6 a x d b0 b1 b2))), (za, .inl (cZ, 2, .inl (p2 (bI z0) (bI z1)))), (ca, .inl (cZ, 2, .inl (p2 (bI c0) (bI c1))))]) [0, 1, 3, 4] (by decide) rfl
      have hFc := va_free (wc := [(o, .inr (5, [.int th, .ref im, .int (bI tr), .ref rc, .ref bg, .int ro, .ref oa, .ref xa, .ref ya, .ref rg, .ref me, .ref sa, .ref pa, .ref za, .ref ca, .int (bI kp), .ref ta, .ref na])), (rg, .inl (cI, 6, .inl (rg6 a x d b0 b1 b2))), (za, .inl (cZ, 2, .inl (p2 (bI z0) (bI z1)))), (ca, .inl (cZ, 2, .inl (p2 (bI c0) (bI c1))))]) hD hS hA [0, 1, 3, 4] rfl
      refine va_callv (va_runV (As := [.int 1, .int 2]) (rest := []) ⟨hx, hb, hml, hown, hts⟩ (q_dbl12 l D cI cZ o th im tr rc bg ro oa xa ya rg me sa pa za ca kp ta na a x d b0 b1 b2 z0 z1 c0 c1 H.size) ⟨cB 2 hts k_869 k_62 k_866 hd_MO_doubles ⟨Nat.le_of_ble_eq_true rfl, Nat.le_of_ble_eq_true rfl⟩ rfl rfl, hts _ k_868, hts _ k_48⟩ (PcW.preV (va_recv hK hP (q0 := 0) (ci := 5) rfl rfl) hPc hK hDc hN) rfl rfl hl.1 rfl (lv_room (Nat.le_of_ble_eq_true rfl)) d_MO_works_290 ⟨Nat.le_of_ble_eq_true rfl, Nat.le_of_ble_eq_true rfl⟩) hS (fun q _ h => hFc q h) hFc (fun u t H1 locs ht hvm e290 hB hz1 hk1 hS => ?_)
      obtain ⟨v1290, zz290, cy290⟩ := u
      obtain ⟨hP1, hK1, hD1⟩ := hB
      rw [ht] at hP1
      obtain ⟨hP, hD⟩ := va_join (wr := [(me, .inl (cI, 512, .inl (mm2 g h)))]) (w1 := [(o, .inr (5, [.int th, .ref im, .int (bI tr), .ref rc, .ref bg, .int ro, .ref oa, .ref xa, .ref ya, .ref rg, .ref me, .ref sa, .ref pa, .ref za, .ref ca, .int (bI kp), .ref ta, .ref na])), (rg, .inl (cI, 6, .inl (rg6 a x d b0 b1 v1290))), (za, .inl (cZ, 2, .inl (p2 (bI z0) (bI zz290)))), (ca, .inl (cZ, 2, .inl (p2 (bI c0) (bI cy290))))]) hP hD [0, 1, 3, 4] [2] rfl rfl (by decide) (by decide) hk1 hFc hP1 hD1
      generalize H1 = H at hP hS ⊢
      try dsimp only at e290
      obtain ⟨e290_0, e290_1, e290_2⟩ := e290
      replace e290_0 := e290_0.symm
      subst e290_0
      replace e290_1 := e290_1.symm
      subst e290_1
      replace e290_2 := e290_2.symm
      subst e290_2
      have hP : va_P D vwCl [(me, .inl (cI, 512, .inl (mm2 g h))), (o, .inr (5, [.int th, .ref im, .int (bI tr), .ref rc, .ref bg, .int ro, .ref oa, .ref xa, .ref ya, .ref rg, .ref me, .ref sa, .ref pa, .ref za, .ref ca, .int (bI kp), .ref ta, .ref na])), (rg, .inl (cI, 6, .inl (rg6 a x d b0 b1 ((2 * b2) &&& 255)))), (za, .inl (cZ, 2, .inl (p2 (bI z0) (bI (decide ((2 * b2) &&& 255 = 0)))))), (ca, .inl (cZ, 2, .inl (p2 (bI c0) (bI (decide (¬ b2 ≤ 127))))))] H := hP
      have hD : va_D A [(me, .inl (cI, 512, .inl (mm2 g h))), (o, .inr (5, [.int th, .ref im, .int (bI tr), .ref rc, .ref bg, .int ro, .ref oa, .ref xa, .ref ya, .ref rg, .ref me, .ref sa, .ref pa, .ref za, .ref ca, .int (bI kp), .ref ta, .ref na])), (rg, .inl (cI, 6, .inl (rg6 a x d b0 b1 ((2 * b2) &&& 255)))), (za, .inl (cZ, 2, .inl (p2 (bI z0) (bI (decide ((2 * b2) &&& 255 = 0)))))), (ca, .inl (cZ, 2, .inl (p2 (bI c0) (bI (decide (¬ b2 ≤ 127))))))] := hD
      refine lv_goto (tgt := 302) hx hb d_MO_works_293 rfl ?_
      have hP9 : va_P D vwCl [(o, .inr (5, [.int th, .ref im, .int (bI tr), .ref rc, .ref bg, .int ro, .ref oa, .ref xa, .ref ya, .ref rg, .ref me, .ref sa, .ref pa, .ref za, .ref ca, .int (bI kp), .ref ta, .ref na])), (rg, .inl (cI, 6, .inl (rg6 a x d b0 b1 ((2 * b2) &&& 255)))), (me, .inl (cI, 512, .inl (mm2 g h))), (za, .inl (cZ, 2, .inl (p2 (bI z0) (bI (decide ((2 * b2) &&& 255 = 0)))))), (ca, .inl (cZ, 2, .inl (p2 (bI c0) (bI (decide (¬ b2 ≤ 127))))))] H := hP.sub [1, 2, 0, 3, 4] rfl
      have hD9 : va_D A [(o, .inr (5, [.int th, .ref im, .int (bI tr), .ref rc, .ref bg, .int ro, .ref oa, .ref xa, .ref ya, .ref rg, .ref me, .ref sa, .ref pa, .ref za, .ref ca, .int (bI kp), .ref ta, .ref na])), (rg, .inl (cI, 6, .inl (rg6 a x d b0 b1 ((2 * b2) &&& 255)))), (me, .inl (cI, 512, .inl (mm2 g h))), (za, .inl (cZ, 2, .inl (p2 (bI z0) (bI (decide ((2 * b2) &&& 255 = 0)))))), (ca, .inl (cZ, 2, .inl (p2 (bI c0) (bI (decide (¬ b2 ≤ 127))))))] := hD.sub [1, 2, 0, 3, 4] (by decide) rfl
      exact W.vret hx hb hr (fun t ht hW => ⟨⟨(h, b0, b1, (2 * b2) &&& 255, decide ((2 * b2) &&& 255 = 0), decide (¬ b2 ≤ 127)), rfl, by rw [h25]; rfl, by rw [ht]; exact hP9, va_K.moved hW.alike hK, hD9⟩, hS.F ht⟩) hS.2.2 d_MO_works_302
    | n + 14, h9, _ => exact absurd h9 (by omega)
