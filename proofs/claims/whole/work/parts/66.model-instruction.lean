set_option maxHeartbeats 4000000 in
set_option maxRecDepth 100000 in
theorem q_instruction (l : Launch) (D : va_G) (cI cZ : ClassId) (o : Nat) (th : Int32) (im : Nat) (tr : Bool) (rc : Nat) (bg : Nat) (oa : Nat) (xa : Nat) (ya : Nat) (rg : Nat) (me : Nat) (sa : Nat) (pa : Nat) (za : Nat) (ca : Nat) (kp : Bool) (ta : Nat) (na : Nat) (n : Nat) (fo : Nat → Int32) (fx : Nat → Int32) (fy : Nat → Int32) (fi : Nat → Int32) (i : Nat) (sz : Nat) (hn : n + 4 ≤ 1024) (hi : i < 256) : MetV l y_MO_instruction w_MO_instruction { frames := 2, cells := 0, slots := 0, locals := 46 } D cI cZ [.ref o, .int (nI i)] [(o, .inr (5, [.int th, .ref im, .int (bI tr), .ref rc, .ref bg, .int (nI n), .ref oa, .ref xa, .ref ya, .ref rg, .ref me, .ref sa, .ref pa, .ref za, .ref ca, .int (bI kp), .ref ta, .ref na])), (oa, .inl (cI, 1024, .inl fo)), (xa, .inl (cI, 1024, .inl fx)), (ya, .inl (cI, 1024, .inl fy)), (im, .inl (cI, 256, .inl fi))] sz (fun (u : Nat × (Nat → Int32) × (Nat → Int32) × (Nat → Int32)) => match u with | (n1, fo1, fx1, fy1) => (n1, fo1, fx1, fy1) = instM (fi i) (rd fi (nI i + 1)) ((nI i + 2) &&& 255) (n, fo, fx, fy) ∧ n1 ≤ n + 4) (fun (u : Nat × (Nat → Int32) × (Nat → Int32) × (Nat → Int32)) => match u with | (n1, fo1, fx1, fy1) => [(o, .inr (5, [.int th, .ref im, .int (bI tr), .ref rc, .ref bg, .int (nI n1), .ref oa, .ref xa, .ref ya, .ref rg, .ref me, .ref sa, .ref pa, .ref za, .ref ca, .int (bI kp), .ref ta, .ref na])), (oa, .inl (cI, 1024, .inl fo1)), (xa, .inl (cI, 1024, .inl fx1)), (ya, .inl (cI, 1024, .inl fy1)), (im, .inl (cI, 256, .inl fi))]) 0 0 := by
  refine ofV (cc := c_MO_instruction) (maxL := 4) (ret := none) (by decide) rfl (Nat.le_of_ble_eq_true rfl) ?_
  intro p e s m args below meth c A H hH0 hx hb hr hlocks hts hown hnm hml ls hl hP hK hD hA hS hN
  have hown : s.vm.findClass R_MO = some m.cls := hown
  have hl : lv_has ls 4 [(0, .ref o), (1, .int (nI i))] := hl
  refine lv_aload_n hx hb d_MO_instruction_0 rfl (lv_at hl 0 rfl) ?_
  refine va_get (D := D) (ci := 5) (v := .ref im) (C := R_MO) (T := T_MO) (N := 18) hx hb hts iw_MO hown hK hP 0 rfl rfl 1 (by decide) (hts _ k_696) (fun _ h9 => h9) rfl d_MO_instruction_1 ?_
  refine lv_iload_n hx hb d_MO_instruction_4 rfl (lv_at hl 1 rfl) ?_
  refine va_iald hx hb hK hP 4 0 rfl rfl (vp_in_nI (by omega) (by decide)) d_MO_instruction_5 ?_
  refine lv_topi (fun y9 e9 => ?_)
  have e9 : y9 = fi i := e9.trans (by rw [nI_clamp (by omega)])
  subst e9
  refine lv_istore_n hx hb d_MO_instruction_6 rfl hl (by decide) rfl (fun ls hl => ?_)
  have hl : lv_has ls 4 [(2, .int (fi i)), (0, .ref o), (1, .int (nI i))] := hl
  refine lv_aload_n hx hb d_MO_instruction_7 rfl (lv_at hl 1 rfl) ?_
  refine va_get (D := D) (ci := 5) (v := .ref im) (C := R_MO) (T := T_MO) (N := 18) hx hb hts iw_MO hown hK hP 0 rfl rfl 1 (by decide) (hts _ k_696) (fun _ h9 => h9) rfl d_MO_instruction_8 ?_
  refine lv_iload_n hx hb d_MO_instruction_11 rfl (lv_at hl 2 rfl) ?_
  refine lv_iconst (v := 1) hx hb d_MO_instruction_12 (by decide) ?_
  refine lv_iadd hx hb d_MO_instruction_13 ?_
  refine lv_sipush (v := 255) hx hb d_MO_instruction_14 (by decide) ?_
  refine lv_iand hx hb d_MO_instruction_17 ?_
  refine va_iald hx hb hK hP 4 0 rfl rfl (in255 _) d_MO_instruction_18 ?_
  refine lv_topi (fun y9 e9 => ?_)
  have e9 : y9 = rd fi (nI i + 1) := e9.trans rfl
  subst e9
  refine lv_istore_n hx hb d_MO_instruction_19 rfl hl (by decide) rfl (fun ls hl => ?_)
  have hl : lv_has ls 4 [(3, .int (rd fi (nI i + 1))), (2, .int (fi i)), (0, .ref o), (1, .int (nI i))] := hl
  refine lv_iload_n hx hb d_MO_instruction_20 rfl (lv_at hl 1 rfl) ?_
  rcases sw_cases (fi i) 2 30 with h21 | ⟨j21, hj21, h21⟩
  · refine lv_tableOut (tgt := 450) hx hb d_MO_instruction_21 h21 rfl ?_
    have n21_2 : ¬ fi i = 2 := fun h9 => by rw [h9] at h21; revert h21; decide
    have n21_3 : ¬ fi i = 3 := fun h9 => by rw [h9] at h21; revert h21; decide
    have n21_4 : ¬ fi i = 4 := fun h9 => by rw [h9] at h21; revert h21; decide
    have n21_5 : ¬ fi i = 5 := fun h9 => by rw [h9] at h21; revert h21; decide
    have n21_6 : ¬ fi i = 6 := fun h9 => by rw [h9] at h21; revert h21; decide
    have n21_7 : ¬ fi i = 7 := fun h9 => by rw [h9] at h21; revert h21; decide
    have n21_8 : ¬ fi i = 8 := fun h9 => by rw [h9] at h21; revert h21; decide
    have n21_9 : ¬ fi i = 9 := fun h9 => by rw [h9] at h21; revert h21; decide
    have n21_10 : ¬ fi i = 10 := fun h9 => by rw [h9] at h21; revert h21; decide
    have n21_11 : ¬ fi i = 11 := fun h9 => by rw [h9] at h21; revert h21; decide
    have n21_12 : ¬ fi i = 12 := fun h9 => by rw [h9] at h21; revert h21; decide
    have n21_13 : ¬ fi i = 13 := fun h9 => by rw [h9] at h21; revert h21; decide
    have n21_14 : ¬ fi i = 14 := fun h9 => by rw [h9] at h21; revert h21; decide
    have n21_15 : ¬ fi i = 15 := fun h9 => by rw [h9] at h21; revert h21; decide
    have n21_16 : ¬ fi i = 16 := fun h9 => by rw [h9] at h21; revert h21; decide
    have n21_17 : ¬ fi i = 17 := fun h9 => by rw [h9] at h21; revert h21; decide
    have n21_18 : ¬ fi i = 18 := fun h9 => by rw [h9] at h21; revert h21; decide
    have n21_19 : ¬ fi i = 19 := fun h9 => by rw [h9] at h21; revert h21; decide
    have n21_20 : ¬ fi i = 20 := fun h9 => by rw [h9] at h21; revert h21; decide
    have n21_21 : ¬ fi i = 21 := fun h9 => by rw [h9] at h21; revert h21; decide
    have n21_22 : ¬ fi i = 22 := fun h9 => by rw [h9] at h21; revert h21; decide
    have n21_23 : ¬ fi i = 23 := fun h9 => by rw [h9] at h21; revert h21; decide
    have n21_24 : ¬ fi i = 24 := fun h9 => by rw [h9] at h21; revert h21; decide
    have n21_25 : ¬ fi i = 25 := fun h9 => by rw [h9] at h21; revert h21; decide
    have n21_26 : ¬ fi i = 26 := fun h9 => by rw [h9] at h21; revert h21; decide
    have n21_27 : ¬ fi i = 27 := fun h9 => by rw [h9] at h21; revert h21; decide
    have n21_28 : ¬ fi i = 28 := fun h9 => by rw [h9] at h21; revert h21; decide
    have n21_29 : ¬ fi i = 29 := fun h9 => by rw [h9] at h21; revert h21; decide
    have n21_30 : ¬ fi i = 30 := fun h9 => by rw [h9] at h21; revert h21; decide
    have n21_31 : ¬ fi i = 31 := fun h9 => by rw [h9] at h21; revert h21; decide
    refine lv_aload_n hx hb d_MO_instruction_450 rfl (lv_at hl 2 rfl) ?_
    refine lv_iload_n hx hb d_MO_instruction_451 rfl (lv_at hl 1 rfl) ?_
    refine lv_iconst (v := 2) hx hb d_MO_instruction_452 (by decide) ?_
    refine lv_icmp_ge (tgt := 460) hx hb d_MO_instruction_453 rfl (fun h453 => ?_) (fun h453 => ?_)
    · refine lv_iload_n hx hb d_MO_instruction_460 rfl (lv_at hl 1 rfl) ?_
      refine lv_iconst (v := 3) hx hb d_MO_instruction_461 (by decide) ?_
      refine lv_isub hx hb d_MO_instruction_462 ?_
      refine lv_iconst (v := 0) hx hb d_MO_instruction_463 (by decide) ?_
      refine lv_iload_n hx hb d_MO_instruction_464 rfl (lv_at hl 1 rfl) ?_
      refine lv_iconst (v := 2) hx hb d_MO_instruction_465 (by decide) ?_
      refine lv_icmp_ge (tgt := 473) hx hb d_MO_instruction_466 rfl (fun _ => ?_) (fun hq9 => absurd h453 hq9)
      refine lv_iload_n hx hb d_MO_instruction_473 rfl (lv_at hl 0 rfl) ?_
      have hPc := hP.sub (ws' := [(o, .inr (5, [.int th, .ref im, .int (bI tr), .ref rc, .ref bg, .int (nI n), .ref oa, .ref xa, .ref ya, .ref rg, .ref me, .ref sa, .ref pa, .ref za, .ref ca, .int (bI kp), .ref ta, .ref na])), (oa, .inl (cI, 1024, .inl fo)), (xa, .inl (cI, 1024, .inl fx)), (ya, .inl (cI, 1024, .inl fy))]) [0, 1, 2, 3] rfl
      have hDc := hD.sub (ws' := [(o, .inr (5, [.int th, .ref im, .int (bI tr), .ref rc, .ref bg, .int (nI n), .ref oa, .ref xa, .ref ya, .ref rg, .ref me, .ref sa, .ref pa, .ref za, .ref ca, .int (bI kp), .ref ta, .ref na])), (oa, .inl (cI, 1024, .inl fo)), (xa, .inl (cI, 1024, .inl fx)), (ya, .inl (cI, 1024, .inl fy))]) [0, 1, 2, 3] (by decide) rfl
      have hFc := va_free (wc := [(o, .inr (5, [.int th, .ref im, .int (bI tr), .ref rc, .ref bg, .int (nI n), .ref oa, .ref xa, .ref ya, .ref rg, .ref me, .ref sa, .ref pa, .ref za, .ref ca, .int (bI kp), .ref ta, .ref na])), (oa, .inl (cI, 1024, .inl fo)), (xa, .inl (cI, 1024, .inl fx)), (ya, .inl (cI, 1024, .inl fy))]) hD hS hA [0, 1, 2, 3] rfl
      refine va_callv (va_runV (As := [.int ((fi i) - 3), .int 0, .int (rd fi (nI i + 1))]) (rest := []) ⟨hx, hb, hml, hown, hts⟩ (q_row l D cI cZ o th im tr rc bg oa xa ya rg me sa pa za ca kp ta na n fo fx fy ((fi i) - 3) 0 (rd fi (nI i + 1)) H.size (by omega)) ⟨cB 3 hts k_801 k_62 k_798 hd_MO_row ⟨Nat.le_of_ble_eq_true rfl, Nat.le_of_ble_eq_true rfl⟩ rfl rfl, hts _ k_800, hts _ k_32⟩ (PcW.preV (va_recv hK hP (q0 := 0) (ci := 5) rfl rfl) hPc hK hDc hN) rfl rfl hl.1 rfl (lv_room (Nat.le_of_ble_eq_true rfl)) d_MO_instruction_474 ⟨Nat.le_of_ble_eq_true rfl, Nat.le_of_ble_eq_true rfl⟩) hS (fun q _ h => hFc q h) hFc (fun u t H1 locs ht hvm e474 hB hz1 hk1 hS => ?_)
      obtain ⟨n1474, fo1474, fx1474, fy1474⟩ := u
      obtain ⟨hP1, hK1, hD1⟩ := hB
      rw [ht] at hP1
      obtain ⟨hP, hD⟩ := va_join (wr := [(im, .inl (cI, 256, .inl fi))]) (w1 := [(o, .inr (5, [.int th, .ref im, .int (bI tr), .ref rc, .ref bg, .int (nI n1474), .ref oa, .ref xa, .ref ya, .ref rg, .ref me, .ref sa, .ref pa, .ref za, .ref ca, .int (bI kp), .ref ta, .ref na])), (oa, .inl (cI, 1024, .inl fo1474)), (xa, .inl (cI, 1024, .inl fx1474)), (ya, .inl (cI, 1024, .inl fy1474))]) hP hD [0, 1, 2, 3] [4] rfl rfl (by decide) (by decide) hk1 hFc hP1 hD1
      generalize H1 = H at hP hS ⊢
      try dsimp only at e474
      have hP : va_P D vwCl [(im, .inl (cI, 256, .inl fi)), (o, .inr (5, [.int th, .ref im, .int (bI tr), .ref rc, .ref bg, .int (nI n1474), .ref oa, .ref xa, .ref ya, .ref rg, .ref me, .ref sa, .ref pa, .ref za, .ref ca, .int (bI kp), .ref ta, .ref na])), (oa, .inl (cI, 1024, .inl fo1474)), (xa, .inl (cI, 1024, .inl fx1474)), (ya, .inl (cI, 1024, .inl fy1474))] H := hP
      have hD : va_D A [(im, .inl (cI, 256, .inl fi)), (o, .inr (5, [.int th, .ref im, .int (bI tr), .ref rc, .ref bg, .int (nI n1474), .ref oa, .ref xa, .ref ya, .ref rg, .ref me, .ref sa, .ref pa, .ref za, .ref ca, .int (bI kp), .ref ta, .ref na])), (oa, .inl (cI, 1024, .inl fo1474)), (xa, .inl (cI, 1024, .inl fx1474)), (ya, .inl (cI, 1024, .inl fy1474))] := hD
      have hP9 : va_P D vwCl [(o, .inr (5, [.int th, .ref im, .int (bI tr), .ref rc, .ref bg, .int (nI n1474), .ref oa, .ref xa, .ref ya, .ref rg, .ref me, .ref sa, .ref pa, .ref za, .ref ca, .int (bI kp), .ref ta, .ref na])), (oa, .inl (cI, 1024, .inl fo1474)), (xa, .inl (cI, 1024, .inl fx1474)), (ya, .inl (cI, 1024, .inl fy1474)), (im, .inl (cI, 256, .inl fi))] H := hP.sub [1, 2, 3, 4, 0] rfl
      have hD9 : va_D A [(o, .inr (5, [.int th, .ref im, .int (bI tr), .ref rc, .ref bg, .int (nI n1474), .ref oa, .ref xa, .ref ya, .ref rg, .ref me, .ref sa, .ref pa, .ref za, .ref ca, .int (bI kp), .ref ta, .ref na])), (oa, .inl (cI, 1024, .inl fo1474)), (xa, .inl (cI, 1024, .inl fx1474)), (ya, .inl (cI, 1024, .inl fy1474)), (im, .inl (cI, 256, .inl fi))] := hD.sub [1, 2, 3, 4, 0] (by decide) rfl
      exact W.vret hx hb hr (fun t ht hW => ⟨⟨(n1474, fo1474, fx1474, fy1474), rfl, ⟨by rw [e474.1, instM, if_neg n21_2, if_neg n21_3, if_neg n21_4, if_neg n21_5, if_neg n21_6, if_neg n21_7, if_neg n21_8, if_neg n21_9, if_neg n21_10, if_neg n21_11, if_neg n21_12, if_neg n21_13, if_neg n21_14, if_neg n21_15, if_neg n21_16, if_neg n21_17, if_neg n21_18, if_neg n21_19, if_neg n21_20, if_neg n21_21, if_neg n21_27, if_neg n21_28, if_neg n21_29, if_neg n21_30, if_neg n21_31, if_pos h453]; try rfl, by omega⟩, by rw [ht]; exact hP9, va_K.moved hW.alike hK, hD9⟩, hS.F ht⟩) hS.2.2 d_MO_instruction_477
    · refine lv_iload_n hx hb d_MO_instruction_456 rfl (lv_at hl 1 rfl) ?_
      refine lv_goto (tgt := 463) hx hb d_MO_instruction_457 rfl ?_
      refine lv_iconst (v := 0) hx hb d_MO_instruction_463 (by decide) ?_
      refine lv_iload_n hx hb d_MO_instruction_464 rfl (lv_at hl 1 rfl) ?_
      refine lv_iconst (v := 2) hx hb d_MO_instruction_465 (by decide) ?_
      refine lv_icmp_ge (tgt := 473) hx hb d_MO_instruction_466 rfl (fun hq9 => absurd hq9 h453) (fun _ => ?_)
      refine lv_iconst (v := 0) hx hb d_MO_instruction_469 (by decide) ?_
      refine lv_goto (tgt := 474) hx hb d_MO_instruction_470 rfl ?_
      have hPc := hP.sub (ws' := [(o, .inr (5, [.int th, .ref im, .int (bI tr), .ref rc, .ref bg, .int (nI n), .ref oa, .ref xa, .ref ya, .ref rg, .ref me, .ref sa, .ref pa, .ref za, .ref ca, .int (bI kp), .ref ta, .ref na])), (oa, .inl (cI, 1024, .inl fo)), (xa, .inl (cI, 1024, .inl fx)), (ya, .inl (cI, 1024, .inl fy))]) [0, 1, 2, 3] rfl
      have hDc := hD.sub (ws' := [(o, .inr (5, [.int th, .ref im, .int (bI tr), .ref rc, .ref bg, .int (nI n), .ref oa, .ref xa, .ref ya, .ref rg, .ref me, .ref sa, .ref pa, .ref za, .ref ca, .int (bI kp), .ref ta, .ref na])), (oa, .inl (cI, 1024, .inl fo)), (xa, .inl (cI, 1024, .inl fx)), (ya, .inl (cI, 1024, .inl fy))]) [0, 1, 2, 3] (by decide) rfl
      have hFc := va_free (wc := [(o, .inr (5, [.int th, .ref im, .int (bI tr), .ref rc, .ref bg, .int (nI n), .ref oa, .ref xa, .ref ya, .ref rg, .ref me, .ref sa, .ref pa, .ref za, .ref ca, .int (bI kp), .ref ta, .ref na])), (oa, .inl (cI, 1024, .inl fo)), (xa, .inl (cI, 1024, .inl fx)), (ya, .inl (cI, 1024, .inl fy))]) hD hS hA [0, 1, 2, 3] rfl
      refine va_callv (va_runV (As := [.int (fi i), .int 0, .int 0]) (rest := []) ⟨hx, hb, hml, hown, hts⟩ (q_row l D cI cZ o th im tr rc bg oa xa ya rg me sa pa za ca kp ta na n fo fx fy (fi i) 0 0 H.size (by omega)) ⟨cB 3 hts k_801 k_62 k_798 hd_MO_row ⟨Nat.le_of_ble_eq_true rfl, Nat.le_of_ble_eq_true rfl⟩ rfl rfl, hts _ k_800, hts _ k_32⟩ (PcW.preV (va_recv hK hP (q0 := 0) (ci := 5) rfl rfl) hPc hK hDc hN) rfl rfl hl.1 rfl (lv_room (Nat.le_of_ble_eq_true rfl)) d_MO_instruction_474 ⟨Nat.le_of_ble_eq_true rfl, Nat.le_of_ble_eq_true rfl⟩) hS (fun q _ h => hFc q h) hFc (fun u t H1 locs ht hvm e474 hB hz1 hk1 hS => ?_)
      obtain ⟨n1474, fo1474, fx1474, fy1474⟩ := u
      obtain ⟨hP1, hK1, hD1⟩ := hB
      rw [ht] at hP1
      obtain ⟨hP, hD⟩ := va_join (wr := [(im, .inl (cI, 256, .inl fi))]) (w1 := [(o, .inr (5, [.int th, .ref im, .int (bI tr), .ref rc, .ref bg, .int (nI n1474), .ref oa, .ref xa, .ref ya, .ref rg, .ref me, .ref sa, .ref pa, .ref za, .ref ca, .int (bI kp), .ref ta, .ref na])), (oa, .inl (cI, 1024, .inl fo1474)), (xa, .inl (cI, 1024, .inl fx1474)), (ya, .inl (cI, 1024, .inl fy1474))]) hP hD [0, 1, 2, 3] [4] rfl rfl (by decide) (by decide) hk1 hFc hP1 hD1
      generalize H1 = H at hP hS ⊢
      try dsimp only at e474
      have hP : va_P D vwCl [(im, .inl (cI, 256, .inl fi)), (o, .inr (5, [.int th, .ref im, .int (bI tr), .ref rc, .ref bg, .int (nI n1474), .ref oa, .ref xa, .ref ya, .ref rg, .ref me, .ref sa, .ref pa, .ref za, .ref ca, .int (bI kp), .ref ta, .ref na])), (oa, .inl (cI, 1024, .inl fo1474)), (xa, .inl (cI, 1024, .inl fx1474)), (ya, .inl (cI, 1024, .inl fy1474))] H := hP
      have hD : va_D A [(im, .inl (cI, 256, .inl fi)), (o, .inr (5, [.int th, .ref im, .int (bI tr), .ref rc, .ref bg, .int (nI n1474), .ref oa, .ref xa, .ref ya, .ref rg, .ref me, .ref sa, .ref pa, .ref za, .ref ca, .int (bI kp), .ref ta, .ref na])), (oa, .inl (cI, 1024, .inl fo1474)), (xa, .inl (cI, 1024, .inl fx1474)), (ya, .inl (cI, 1024, .inl fy1474))] := hD
      have hP9 : va_P D vwCl [(o, .inr (5, [.int th, .ref im, .int (bI tr), .ref rc, .ref bg, .int (nI n1474), .ref oa, .ref xa, .ref ya, .ref rg, .ref me, .ref sa, .ref pa, .ref za, .ref ca, .int (bI kp), .ref ta, .ref na])), (oa, .inl (cI, 1024, .inl fo1474)), (xa, .inl (cI, 1024, .inl fx1474)), (ya, .inl (cI, 1024, .inl fy1474)), (im, .inl (cI, 256, .inl fi))] H := hP.sub [1, 2, 3, 4, 0] rfl
      have hD9 : va_D A [(o, .inr (5, [.int th, .ref im, .int (bI tr), .ref rc, .ref bg, .int (nI n1474), .ref oa, .ref xa, .ref ya, .ref rg, .ref me, .ref sa, .ref pa, .ref za, .ref ca, .int (bI kp), .ref ta, .ref na])), (oa, .inl (cI, 1024, .inl fo1474)), (xa, .inl (cI, 1024, .inl fx1474)), (ya, .inl (cI, 1024, .inl fy1474)), (im, .inl (cI, 256, .inl fi))] := hD.sub [1, 2, 3, 4, 0] (by decide) rfl
      exact W.vret hx hb hr (fun t ht hW => ⟨⟨(n1474, fo1474, fx1474, fy1474), rfl, ⟨by rw [e474.1, instM, if_neg n21_2, if_neg n21_3, if_neg n21_4, if_neg n21_5, if_neg n21_6, if_neg n21_7, if_neg n21_8, if_neg n21_9, if_neg n21_10, if_neg n21_11, if_neg n21_12, if_neg n21_13, if_neg n21_14, if_neg n21_15, if_neg n21_16, if_neg n21_17, if_neg n21_18, if_neg n21_19, if_neg n21_20, if_neg n21_21, if_neg n21_27, if_neg n21_28, if_neg n21_29, if_neg n21_30, if_neg n21_31, if_neg h453]; try rfl, by omega⟩, by rw [ht]; exact hP9, va_K.moved hW.alike hK, hD9⟩, hS.F ht⟩) hS.2.2 d_MO_instruction_477
  · match j21, hj21, h21 with
    | 0, _, h21 =>
      have h21 : fi i = 2 := h21
      refine lv_tableIn (off := 135) (tgt := 156) hx hb d_MO_instruction_21 (by rw [h21]; decide) (by rw [h21]; decide) (by rw [h21]; rfl) rfl ?_
      refine lv_aload_n hx hb d_MO_instruction_156 rfl (lv_at hl 2 rfl) ?_
      refine lv_iconst (v := 2) hx hb d_MO_instruction_157 (by decide) ?_
      refine lv_iconst (v := 0) hx hb d_MO_instruction_158 (by decide) ?_
      refine lv_iload_n hx hb d_MO_instruction_159 rfl (lv_at hl 0 rfl) ?_
      have hPc := hP.sub (ws' := [(o, .inr (5, [.int th, .ref im, .int (bI tr), .ref rc, .ref bg, .int (nI n), .ref oa, .ref xa, .ref ya, .ref rg, .ref me, .ref sa, .ref pa, .ref za, .ref ca, .int (bI kp), .ref ta, .ref na])), (oa, .inl (cI, 1024, .inl fo)), (xa, .inl (cI, 1024, .inl fx)), (ya, .inl (cI, 1024, .inl fy))]) [0, 1, 2, 3] rfl
      have hDc := hD.sub (ws' := [(o, .inr (5, [.int th, .ref im, .int (bI tr), .ref rc, .ref bg, .int (nI n), .ref oa, .ref xa, .ref ya, .ref rg, .ref me, .ref sa, .ref pa, .ref za, .ref ca, .int (bI kp), .ref ta, .ref na])), (oa, .inl (cI, 1024, .inl fo)), (xa, .inl (cI, 1024, .inl fx)), (ya, .inl (cI, 1024, .inl fy))]) [0, 1, 2, 3] (by decide) rfl
      have hFc := va_free (wc := [(o, .inr (5, [.int th, .ref im, .int (bI tr), .ref rc, .ref bg, .int (nI n), .ref oa, .ref xa, .ref ya, .ref rg, .ref me, .ref sa, .ref pa, .ref za, .ref ca, .int (bI kp), .ref ta, .ref na])), (oa, .inl (cI, 1024, .inl fo)), (xa, .inl (cI, 1024, .inl fx)), (ya, .inl (cI, 1024, .inl fy))]) hD hS hA [0, 1, 2, 3] rfl
      refine va_callv (va_runV (As := [.int 2, .int 0, .int (rd fi (nI i + 1))]) (rest := []) ⟨hx, hb, hml, hown, hts⟩ (q_around l D cI cZ o th im tr rc bg oa xa ya rg me sa pa za ca kp ta na n fo fx fy 2 0 (rd fi (nI i + 1)) H.size (by omega)) ⟨cB 3 hts k_797 k_62 k_794 hd_MO_around ⟨Nat.le_of_ble_eq_true rfl, Nat.le_of_ble_eq_true rfl⟩ rfl rfl, hts _ k_796, hts _ k_31⟩ (PcW.preV (va_recv hK hP (q0 := 0) (ci := 5) rfl rfl) hPc hK hDc hN) rfl rfl hl.1 rfl (lv_room (Nat.le_of_ble_eq_true rfl)) d_MO_instruction_160 ⟨Nat.le_of_ble_eq_true rfl, Nat.le_of_ble_eq_true rfl⟩) hS (fun q _ h => hFc q h) hFc (fun u t H1 locs ht hvm e160 hB hz1 hk1 hS => ?_)
      obtain ⟨n1160, fo1160, fx1160, fy1160⟩ := u
      obtain ⟨hP1, hK1, hD1⟩ := hB
      rw [ht] at hP1
      obtain ⟨hP, hD⟩ := va_join (wr := [(im, .inl (cI, 256, .inl fi))]) (w1 := [(o, .inr (5, [.int th, .ref im, .int (bI tr), .ref rc, .ref bg, .int (nI n1160), .ref oa, .ref xa, .ref ya, .ref rg, .ref me, .ref sa, .ref pa, .ref za, .ref ca, .int (bI kp), .ref ta, .ref na])), (oa, .inl (cI, 1024, .inl fo1160)), (xa, .inl (cI, 1024, .inl fx1160)), (ya, .inl (cI, 1024, .inl fy1160))]) hP hD [0, 1, 2, 3] [4] rfl rfl (by decide) (by decide) hk1 hFc hP1 hD1
      generalize H1 = H at hP hS ⊢
      try dsimp only at e160
      have hP : va_P D vwCl [(im, .inl (cI, 256, .inl fi)), (o, .inr (5, [.int th, .ref im, .int (bI tr), .ref rc, .ref bg, .int (nI n1160), .ref oa, .ref xa, .ref ya, .ref rg, .ref me, .ref sa, .ref pa, .ref za, .ref ca, .int (bI kp), .ref ta, .ref na])), (oa, .inl (cI, 1024, .inl fo1160)), (xa, .inl (cI, 1024, .inl fx1160)), (ya, .inl (cI, 1024, .inl fy1160))] H := hP
      have hD : va_D A [(im, .inl (cI, 256, .inl fi)), (o, .inr (5, [.int th, .ref im, .int (bI tr), .ref rc, .ref bg, .int (nI n1160), .ref oa, .ref xa, .ref ya, .ref rg, .ref me, .ref sa, .ref pa, .ref za, .ref ca, .int (bI kp), .ref ta, .ref na])), (oa, .inl (cI, 1024, .inl fo1160)), (xa, .inl (cI, 1024, .inl fx1160)), (ya, .inl (cI, 1024, .inl fy1160))] := hD
      refine lv_goto (tgt := 477) hx hb d_MO_instruction_163 rfl ?_
      have hP9 : va_P D vwCl [(o, .inr (5, [.int th, .ref im, .int (bI tr), .ref rc, .ref bg, .int (nI n1160), .ref oa, .ref xa, .ref ya, .ref rg, .ref me, .ref sa, .ref pa, .ref za, .ref ca, .int (bI kp), .ref ta, .ref na])), (oa, .inl (cI, 1024, .inl fo1160)), (xa, .inl (cI, 1024, .inl fx1160)), (ya, .inl (cI, 1024, .inl fy1160)), (im, .inl (cI, 256, .inl fi))] H := hP.sub [1, 2, 3, 4, 0] rfl
      have hD9 : va_D A [(o, .inr (5, [.int th, .ref im, .int (bI tr), .ref rc, .ref bg, .int (nI n1160), .ref oa, .ref xa, .ref ya, .ref rg, .ref me, .ref sa, .ref pa, .ref za, .ref ca, .int (bI kp), .ref ta, .ref na])), (oa, .inl (cI, 1024, .inl fo1160)), (xa, .inl (cI, 1024, .inl fx1160)), (ya, .inl (cI, 1024, .inl fy1160)), (im, .inl (cI, 256, .inl fi))] := hD.sub [1, 2, 3, 4, 0] (by decide) rfl
      exact W.vret hx hb hr (fun t ht hW => ⟨⟨(n1160, fo1160, fx1160, fy1160), rfl, ⟨by rw [e160.1, instM, h21]; try rfl, by omega⟩, by rw [ht]; exact hP9, va_K.moved hW.alike hK, hD9⟩, hS.F ht⟩) hS.2.2 d_MO_instruction_477
    | 1, _, h21 =>
      have h21 : fi i = 3 := h21
      refine lv_tableIn (off := 145) (tgt := 166) hx hb d_MO_instruction_21 (by rw [h21]; decide) (by rw [h21]; decide) (by rw [h21]; rfl) rfl ?_
      refine lv_aload_n hx hb d_MO_instruction_166 rfl (lv_at hl 2 rfl) ?_
      refine lv_iconst (v := 4) hx hb d_MO_instruction_167 (by decide) ?_
      refine lv_iconst (v := 0) hx hb d_MO_instruction_168 (by decide) ?_
      refine lv_iload_n hx hb d_MO_instruction_169 rfl (lv_at hl 0 rfl) ?_
      have hPc := hP.sub (ws' := [(o, .inr (5, [.int th, .ref im, .int (bI tr), .ref rc, .ref bg, .int (nI n), .ref oa, .ref xa, .ref ya, .ref rg, .ref me, .ref sa, .ref pa, .ref za, .ref ca, .int (bI kp), .ref ta, .ref na])), (oa, .inl (cI, 1024, .inl fo)), (xa, .inl (cI, 1024, .inl fx)), (ya, .inl (cI, 1024, .inl fy))]) [0, 1, 2, 3] rfl
      have hDc := hD.sub (ws' := [(o, .inr (5, [.int th, .ref im, .int (bI tr), .ref rc, .ref bg, .int (nI n), .ref oa, .ref xa, .ref ya, .ref rg, .ref me, .ref sa, .ref pa, .ref za, .ref ca, .int (bI kp), .ref ta, .ref na])), (oa, .inl (cI, 1024, .inl fo)), (xa, .inl (cI, 1024, .inl fx)), (ya, .inl (cI, 1024, .inl fy))]) [0, 1, 2, 3] (by decide) rfl
      have hFc := va_free (wc := [(o, .inr (5, [.int th, .ref im, .int (bI tr), .ref rc, .ref bg, .int (nI n), .ref oa, .ref xa, .ref ya, .ref rg, .ref me, .ref sa, .ref pa, .ref za, .ref ca, .int (bI kp), .ref ta, .ref na])), (oa, .inl (cI, 1024, .inl fo)), (xa, .inl (cI, 1024, .inl fx)), (ya, .inl (cI, 1024, .inl fy))]) hD hS hA [0, 1, 2, 3] rfl
      refine va_callv (va_runV (As := [.int 4, .int 0, .int (rd fi (nI i + 1))]) (rest := []) ⟨hx, hb, hml, hown, hts⟩ (q_around l D cI cZ o th im tr rc bg oa xa ya rg me sa pa za ca kp ta na n fo fx fy 4 0 (rd fi (nI i + 1)) H.size (by omega)) ⟨cB 3 hts k_797 k_62 k_794 hd_MO_around ⟨Nat.le_of_ble_eq_true rfl, Nat.le_of_ble_eq_true rfl⟩ rfl rfl, hts _ k_796, hts _ k_31⟩ (PcW.preV (va_recv hK hP (q0 := 0) (ci := 5) rfl rfl) hPc hK hDc hN) rfl rfl hl.1 rfl (lv_room (Nat.le_of_ble_eq_true rfl)) d_MO_instruction_170 ⟨Nat.le_of_ble_eq_true rfl, Nat.le_of_ble_eq_true rfl⟩) hS (fun q _ h => hFc q h) hFc (fun u t H1 locs ht hvm e170 hB hz1 hk1 hS => ?_)
      obtain ⟨n1170, fo1170, fx1170, fy1170⟩ := u
      obtain ⟨hP1, hK1, hD1⟩ := hB
      rw [ht] at hP1
      obtain ⟨hP, hD⟩ := va_join (wr := [(im, .inl (cI, 256, .inl fi))]) (w1 := [(o, .inr (5, [.int th, .ref im, .int (bI tr), .ref rc, .ref bg, .int (nI n1170), .ref oa, .ref xa, .ref ya, .ref rg, .ref me, .ref sa, .ref pa, .ref za, .ref ca, .int (bI kp), .ref ta, .ref na])), (oa, .inl (cI, 1024, .inl fo1170)), (xa, .inl (cI, 1024, .inl fx1170)), (ya, .inl (cI, 1024, .inl fy1170))]) hP hD [0, 1, 2, 3] [4] rfl rfl (by decide) (by decide) hk1 hFc hP1 hD1
      generalize H1 = H at hP hS ⊢
      try dsimp only at e170
      have hP : va_P D vwCl [(im, .inl (cI, 256, .inl fi)), (o, .inr (5, [.int th, .ref im, .int (bI tr), .ref rc, .ref bg, .int (nI n1170), .ref oa, .ref xa, .ref ya, .ref rg, .ref me, .ref sa, .ref pa, .ref za, .ref ca, .int (bI kp), .ref ta, .ref na])), (oa, .inl (cI, 1024, .inl fo1170)), (xa, .inl (cI, 1024, .inl fx1170)), (ya, .inl (cI, 1024, .inl fy1170))] H := hP
      have hD : va_D A [(im, .inl (cI, 256, .inl fi)), (o, .inr (5, [.int th, .ref im, .int (bI tr), .ref rc, .ref bg, .int (nI n1170), .ref oa, .ref xa, .ref ya, .ref rg, .ref me, .ref sa, .ref pa, .ref za, .ref ca, .int (bI kp), .ref ta, .ref na])), (oa, .inl (cI, 1024, .inl fo1170)), (xa, .inl (cI, 1024, .inl fx1170)), (ya, .inl (cI, 1024, .inl fy1170))] := hD
      refine lv_goto (tgt := 477) hx hb d_MO_instruction_173 rfl ?_
      have hP9 : va_P D vwCl [(o, .inr (5, [.int th, .ref im, .int (bI tr), .ref rc, .ref bg, .int (nI n1170), .ref oa, .ref xa, .ref ya, .ref rg, .ref me, .ref sa, .ref pa, .ref za, .ref ca, .int (bI kp), .ref ta, .ref na])), (oa, .inl (cI, 1024, .inl fo1170)), (xa, .inl (cI, 1024, .inl fx1170)), (ya, .inl (cI, 1024, .inl fy1170)), (im, .inl (cI, 256, .inl fi))] H := hP.sub [1, 2, 3, 4, 0] rfl
      have hD9 : va_D A [(o, .inr (5, [.int th, .ref im, .int (bI tr), .ref rc, .ref bg, .int (nI n1170), .ref oa, .ref xa, .ref ya, .ref rg, .ref me, .ref sa, .ref pa, .ref za, .ref ca, .int (bI kp), .ref ta, .ref na])), (oa, .inl (cI, 1024, .inl fo1170)), (xa, .inl (cI, 1024, .inl fx1170)), (ya, .inl (cI, 1024, .inl fy1170)), (im, .inl (cI, 256, .inl fi))] := hD.sub [1, 2, 3, 4, 0] (by decide) rfl
      exact W.vret hx hb hr (fun t ht hW => ⟨⟨(n1170, fo1170, fx1170, fy1170), rfl, ⟨by rw [e170.1, instM, h21]; try rfl, by omega⟩, by rw [ht]; exact hP9, va_K.moved hW.alike hK, hD9⟩, hS.F ht⟩) hS.2.2 d_MO_instruction_477
    | 2, _, h21 =>
      have h21 : fi i = 4 := h21
      refine lv_tableIn (off := 155) (tgt := 176) hx hb d_MO_instruction_21 (by rw [h21]; decide) (by rw [h21]; decide) (by rw [h21]; rfl) rfl ?_
      refine lv_aload_n hx hb d_MO_instruction_176 rfl (lv_at hl 2 rfl) ?_
      refine lv_bipush (v := 6) hx hb d_MO_instruction_177 (by decide) ?_
      refine lv_iconst (v := 0) hx hb d_MO_instruction_179 (by decide) ?_
      refine lv_iload_n hx hb d_MO_instruction_180 rfl (lv_at hl 0 rfl) ?_
      have hPc := hP.sub (ws' := [(o, .inr (5, [.int th, .ref im, .int (bI tr), .ref rc, .ref bg, .int (nI n), .ref oa, .ref xa, .ref ya, .ref rg, .ref me, .ref sa, .ref pa, .ref za, .ref ca, .int (bI kp), .ref ta, .ref na])), (oa, .inl (cI, 1024, .inl fo)), (xa, .inl (cI, 1024, .inl fx)), (ya, .inl (cI, 1024, .inl fy))]) [0, 1, 2, 3] rfl
      have hDc := hD.sub (ws' := [(o, .inr (5, [.int th, .ref im, .int (bI tr), .ref rc, .ref bg, .int (nI n), .ref oa, .ref xa, .ref ya, .ref rg, .ref me, .ref sa, .ref pa, .ref za, .ref ca, .int (bI kp), .ref ta, .ref na])), (oa, .inl (cI, 1024, .inl fo)), (xa, .inl (cI, 1024, .inl fx)), (ya, .inl (cI, 1024, .inl fy))]) [0, 1, 2, 3] (by decide) rfl
      have hFc := va_free (wc := [(o, .inr (5, [.int th, .ref im, .int (bI tr), .ref rc, .ref bg, .int (nI n), .ref oa, .ref xa, .ref ya, .ref rg, .ref me, .ref sa, .ref pa, .ref za, .ref ca, .int (bI kp), .ref ta, .ref na])), (oa, .inl (cI, 1024, .inl fo)), (xa, .inl (cI, 1024, .inl fx)), (ya, .inl (cI, 1024, .inl fy))]) hD hS hA [0, 1, 2, 3] rfl
      refine va_callv (va_runV (As := [.int 6, .int 0, .int (rd fi (nI i + 1))]) (rest := []) ⟨hx, hb, hml, hown, hts⟩ (q_around l D cI cZ o th im tr rc bg oa xa ya rg me sa pa za ca kp ta na n fo fx fy 6 0 (rd fi (nI i + 1)) H.size (by omega)) ⟨cB 3 hts k_797 k_62 k_794 hd_MO_around ⟨Nat.le_of_ble_eq_true rfl, Nat.le_of_ble_eq_true rfl⟩ rfl rfl, hts _ k_796, hts _ k_31⟩ (PcW.preV (va_recv hK hP (q0 := 0) (ci := 5) rfl rfl) hPc hK hDc hN) rfl rfl hl.1 rfl (lv_room (Nat.le_of_ble_eq_true rfl)) d_MO_instruction_181 ⟨Nat.le_of_ble_eq_true rfl, Nat.le_of_ble_eq_true rfl⟩) hS (fun q _ h => hFc q h) hFc (fun u t H1 locs ht hvm e181 hB hz1 hk1 hS => ?_)
      obtain ⟨n1181, fo1181, fx1181, fy1181⟩ := u
      obtain ⟨hP1, hK1, hD1⟩ := hB
      rw [ht] at hP1
      obtain ⟨hP, hD⟩ := va_join (wr := [(im, .inl (cI, 256, .inl fi))]) (w1 := [(o, .inr (5, [.int th, .ref im, .int (bI tr), .ref rc, .ref bg, .int (nI n1181), .ref oa, .ref xa, .ref ya, .ref rg, .ref me, .ref sa, .ref pa, .ref za, .ref ca, .int (bI kp), .ref ta, .ref na])), (oa, .inl (cI, 1024, .inl fo1181)), (xa, .inl (cI, 1024, .inl fx1181)), (ya, .inl (cI, 1024, .inl fy1181))]) hP hD [0, 1, 2, 3] [4] rfl rfl (by decide) (by decide) hk1 hFc hP1 hD1
      generalize H1 = H at hP hS ⊢
      try dsimp only at e181
      have hP : va_P D vwCl [(im, .inl (cI, 256, .inl fi)), (o, .inr (5, [.int th, .ref im, .int (bI tr), .ref rc, .ref bg, .int (nI n1181), .ref oa, .ref xa, .ref ya, .ref rg, .ref me, .ref sa, .ref pa, .ref za, .ref ca, .int (bI kp), .ref ta, .ref na])), (oa, .inl (cI, 1024, .inl fo1181)), (xa, .inl (cI, 1024, .inl fx1181)), (ya, .inl (cI, 1024, .inl fy1181))] H := hP
      have hD : va_D A [(im, .inl (cI, 256, .inl fi)), (o, .inr (5, [.int th, .ref im, .int (bI tr), .ref rc, .ref bg, .int (nI n1181), .ref oa, .ref xa, .ref ya, .ref rg, .ref me, .ref sa, .ref pa, .ref za, .ref ca, .int (bI kp), .ref ta, .ref na])), (oa, .inl (cI, 1024, .inl fo1181)), (xa, .inl (cI, 1024, .inl fx1181)), (ya, .inl (cI, 1024, .inl fy1181))] := hD
      refine lv_goto (tgt := 477) hx hb d_MO_instruction_184 rfl ?_
      have hP9 : va_P D vwCl [(o, .inr (5, [.int th, .ref im, .int (bI tr), .ref rc, .ref bg, .int (nI n1181), .ref oa, .ref xa, .ref ya, .ref rg, .ref me, .ref sa, .ref pa, .ref za, .ref ca, .int (bI kp), .ref ta, .ref na])), (oa, .inl (cI, 1024, .inl fo1181)), (xa, .inl (cI, 1024, .inl fx1181)), (ya, .inl (cI, 1024, .inl fy1181)), (im, .inl (cI, 256, .inl fi))] H := hP.sub [1, 2, 3, 4, 0] rfl
      have hD9 : va_D A [(o, .inr (5, [.int th, .ref im, .int (bI tr), .ref rc, .ref bg, .int (nI n1181), .ref oa, .ref xa, .ref ya, .ref rg, .ref me, .ref sa, .ref pa, .ref za, .ref ca, .int (bI kp), .ref ta, .ref na])), (oa, .inl (cI, 1024, .inl fo1181)), (xa, .inl (cI, 1024, .inl fx1181)), (ya, .inl (cI, 1024, .inl fy1181)), (im, .inl (cI, 256, .inl fi))] := hD.sub [1, 2, 3, 4, 0] (by decide) rfl
      exact W.vret hx hb hr (fun t ht hW => ⟨⟨(n1181, fo1181, fx1181, fy1181), rfl, ⟨by rw [e181.1, instM, h21]; try rfl, by omega⟩, by rw [ht]; exact hP9, va_K.moved hW.alike hK, hD9⟩, hS.F ht⟩) hS.2.2 d_MO_instruction_477
    | 3, _, h21 =>
      have h21 : fi i = 5 := h21
      refine lv_tableIn (off := 166) (tgt := 187) hx hb d_MO_instruction_21 (by rw [h21]; decide) (by rw [h21]; decide) (by rw [h21]; rfl) rfl ?_
      refine lv_aload_n hx hb d_MO_instruction_187 rfl (lv_at hl 2 rfl) ?_
      refine lv_iconst (v := 5) hx hb d_MO_instruction_188 (by decide) ?_
      refine lv_iconst (v := 0) hx hb d_MO_instruction_189 (by decide) ?_
      refine lv_iload_n hx hb d_MO_instruction_190 rfl (lv_at hl 0 rfl) ?_
      have hPc := hP.sub (ws' := [(o, .inr (5, [.int th, .ref im, .int (bI tr), .ref rc, .ref bg, .int (nI n), .ref oa, .ref xa, .ref ya, .ref rg, .ref me, .ref sa, .ref pa, .ref za, .ref ca, .int (bI kp), .ref ta, .ref na])), (oa, .inl (cI, 1024, .inl fo)), (xa, .inl (cI, 1024, .inl fx)), (ya, .inl (cI, 1024, .inl fy))]) [0, 1, 2, 3] rfl
      have hDc := hD.sub (ws' := [(o, .inr (5, [.int th, .ref im, .int (bI tr), .ref rc, .ref bg, .int (nI n), .ref oa, .ref xa, .ref ya, .ref rg, .ref me, .ref sa, .ref pa, .ref za, .ref ca, .int (bI kp), .ref ta, .ref na])), (oa, .inl (cI, 1024, .inl fo)), (xa, .inl (cI, 1024, .inl fx)), (ya, .inl (cI, 1024, .inl fy))]) [0, 1, 2, 3] (by decide) rfl
      have hFc := va_free (wc := [(o, .inr (5, [.int th, .ref im, .int (bI tr), .ref rc, .ref bg, .int (nI n), .ref oa, .ref xa, .ref ya, .ref rg, .ref me, .ref sa, .ref pa, .ref za, .ref ca, .int (bI kp), .ref ta, .ref na])), (oa, .inl (cI, 1024, .inl fo)), (xa, .inl (cI, 1024, .inl fx)), (ya, .inl (cI, 1024, .inl fy))]) hD hS hA [0, 1, 2, 3] rfl
      refine va_callv (va_runV (As := [.int 5, .int 0, .int (rd fi (nI i + 1))]) (rest := []) ⟨hx, hb, hml, hown, hts⟩ (q_row l D cI cZ o th im tr rc bg oa xa ya rg me sa pa za ca kp ta na n fo fx fy 5 0 (rd fi (nI i + 1)) H.size (by omega)) ⟨cB 3 hts k_801 k_62 k_798 hd_MO_row ⟨Nat.le_of_ble_eq_true rfl, Nat.le_of_ble_eq_true rfl⟩ rfl rfl, hts _ k_800, hts _ k_32⟩ (PcW.preV (va_recv hK hP (q0 := 0) (ci := 5) rfl rfl) hPc hK hDc hN) rfl rfl hl.1 rfl (lv_room (Nat.le_of_ble_eq_true rfl)) d_MO_instruction_191 ⟨Nat.le_of_ble_eq_true rfl, Nat.le_of_ble_eq_true rfl⟩) hS (fun q _ h => hFc q h) hFc (fun u t H1 locs ht hvm e191 hB hz1 hk1 hS => ?_)
      obtain ⟨n1191, fo1191, fx1191, fy1191⟩ := u
      obtain ⟨hP1, hK1, hD1⟩ := hB
      rw [ht] at hP1
      obtain ⟨hP, hD⟩ := va_join (wr := [(im, .inl (cI, 256, .inl fi))]) (w1 := [(o, .inr (5, [.int th, .ref im, .int (bI tr), .ref rc, .ref bg, .int (nI n1191), .ref oa, .ref xa, .ref ya, .ref rg, .ref me, .ref sa, .ref pa, .ref za, .ref ca, .int (bI kp), .ref ta, .ref na])), (oa, .inl (cI, 1024, .inl fo1191)), (xa, .inl (cI, 1024, .inl fx1191)), (ya, .inl (cI, 1024, .inl fy1191))]) hP hD [0, 1, 2, 3] [4] rfl rfl (by decide) (by decide) hk1 hFc hP1 hD1
      generalize H1 = H at hP hS ⊢
      try dsimp only at e191
      have hP : va_P D vwCl [(im, .inl (cI, 256, .inl fi)), (o, .inr (5, [.int th, .ref im, .int (bI tr), .ref rc, .ref bg, .int (nI n1191), .ref oa, .ref xa, .ref ya, .ref rg, .ref me, .ref sa, .ref pa, .ref za, .ref ca, .int (bI kp), .ref ta, .ref na])), (oa, .inl (cI, 1024, .inl fo1191)), (xa, .inl (cI, 1024, .inl fx1191)), (ya, .inl (cI, 1024, .inl fy1191))] H := hP
      have hD : va_D A [(im, .inl (cI, 256, .inl fi)), (o, .inr (5, [.int th, .ref im, .int (bI tr), .ref rc, .ref bg, .int (nI n1191), .ref oa, .ref xa, .ref ya, .ref rg, .ref me, .ref sa, .ref pa, .ref za, .ref ca, .int (bI kp), .ref ta, .ref na])), (oa, .inl (cI, 1024, .inl fo1191)), (xa, .inl (cI, 1024, .inl fx1191)), (ya, .inl (cI, 1024, .inl fy1191))] := hD
      refine lv_goto (tgt := 477) hx hb d_MO_instruction_194 rfl ?_
      have hP9 : va_P D vwCl [(o, .inr (5, [.int th, .ref im, .int (bI tr), .ref rc, .ref bg, .int (nI n1191), .ref oa, .ref xa, .ref ya, .ref rg, .ref me, .ref sa, .ref pa, .ref za, .ref ca, .int (bI kp), .ref ta, .ref na])), (oa, .inl (cI, 1024, .inl fo1191)), (xa, .inl (cI, 1024, .inl fx1191)), (ya, .inl (cI, 1024, .inl fy1191)), (im, .inl (cI, 256, .inl fi))] H := hP.sub [1, 2, 3, 4, 0] rfl
      have hD9 : va_D A [(o, .inr (5, [.int th, .ref im, .int (bI tr), .ref rc, .ref bg, .int (nI n1191), .ref oa, .ref xa, .ref ya, .ref rg, .ref me, .ref sa, .ref pa, .ref za, .ref ca, .int (bI kp), .ref ta, .ref na])), (oa, .inl (cI, 1024, .inl fo1191)), (xa, .inl (cI, 1024, .inl fx1191)), (ya, .inl (cI, 1024, .inl fy1191)), (im, .inl (cI, 256, .inl fi))] := hD.sub [1, 2, 3, 4, 0] (by decide) rfl
      exact W.vret hx hb hr (fun t ht hW => ⟨⟨(n1191, fo1191, fx1191, fy1191), rfl, ⟨by rw [e191.1, instM, h21]; try rfl, by omega⟩, by rw [ht]; exact hP9, va_K.moved hW.alike hK, hD9⟩, hS.F ht⟩) hS.2.2 d_MO_instruction_477
    | 4, _, h21 =>
      have h21 : fi i = 6 := h21
      refine lv_tableIn (off := 176) (tgt := 197) hx hb d_MO_instruction_21 (by rw [h21]; decide) (by rw [h21]; decide) (by rw [h21]; rfl) rfl ?_
      refine lv_aload_n hx hb d_MO_instruction_197 rfl (lv_at hl 2 rfl) ?_
      refine lv_bipush (v := 7) hx hb d_MO_instruction_198 (by decide) ?_
      refine lv_iconst (v := 0) hx hb d_MO_instruction_200 (by decide) ?_
      refine lv_iload_n hx hb d_MO_instruction_201 rfl (lv_at hl 0 rfl) ?_
      have hPc := hP.sub (ws' := [(o, .inr (5, [.int th, .ref im, .int (bI tr), .ref rc, .ref bg, .int (nI n), .ref oa, .ref xa, .ref ya, .ref rg, .ref me, .ref sa, .ref pa, .ref za, .ref ca, .int (bI kp), .ref ta, .ref na])), (oa, .inl (cI, 1024, .inl fo)), (xa, .inl (cI, 1024, .inl fx)), (ya, .inl (cI, 1024, .inl fy))]) [0, 1, 2, 3] rfl
      have hDc := hD.sub (ws' := [(o, .inr (5, [.int th, .ref im, .int (bI tr), .ref rc, .ref bg, .int (nI n), .ref oa, .ref xa, .ref ya, .ref rg, .ref me, .ref sa, .ref pa, .ref za, .ref ca, .int (bI kp), .ref ta, .ref na])), (oa, .inl (cI, 1024, .inl fo)), (xa, .inl (cI, 1024, .inl fx)), (ya, .inl (cI, 1024, .inl fy))]) [0, 1, 2, 3] (by decide) rfl
      have hFc := va_free (wc := [(o, .inr (5, [.int th, .ref im, .int (bI tr), .ref rc, .ref bg, .int (nI n), .ref oa, .ref xa, .ref ya, .ref rg, .ref me, .ref sa, .ref pa, .ref za, .ref ca, .int (bI kp), .ref ta, .ref na])), (oa, .inl (cI, 1024, .inl fo)), (xa, .inl (cI, 1024, .inl fx)), (ya, .inl (cI, 1024, .inl fy))]) hD hS hA [0, 1, 2, 3] rfl
      refine va_callv (va_runV (As := [.int 7, .int 0, .int (rd fi (nI i + 1))]) (rest := []) ⟨hx, hb, hml, hown, hts⟩ (q_row l D cI cZ o th im tr rc bg oa xa ya rg me sa pa za ca kp ta na n fo fx fy 7 0 (rd fi (nI i + 1)) H.size (by omega)) ⟨cB 3 hts k_801 k_62 k_798 hd_MO_row ⟨Nat.le_of_ble_eq_true rfl, Nat.le_of_ble_eq_true rfl⟩ rfl rfl, hts _ k_800, hts _ k_32⟩ (PcW.preV (va_recv hK hP (q0 := 0) (ci := 5) rfl rfl) hPc hK hDc hN) rfl rfl hl.1 rfl (lv_room (Nat.le_of_ble_eq_true rfl)) d_MO_instruction_202 ⟨Nat.le_of_ble_eq_true rfl, Nat.le_of_ble_eq_true rfl⟩) hS (fun q _ h => hFc q h) hFc (fun u t H1 locs ht hvm e202 hB hz1 hk1 hS => ?_)
      obtain ⟨n1202, fo1202, fx1202, fy1202⟩ := u
      obtain ⟨hP1, hK1, hD1⟩ := hB
      rw [ht] at hP1
      obtain ⟨hP, hD⟩ := va_join (wr := [(im, .inl (cI, 256, .inl fi))]) (w1 := [(o, .inr (5, [.int th, .ref im, .int (bI tr), .ref rc, .ref bg, .int (nI n1202), .ref oa, .ref xa, .ref ya, .ref rg, .ref me, .ref sa, .ref pa, .ref za, .ref ca, .int (bI kp), .ref ta, .ref na])), (oa, .inl (cI, 1024, .inl fo1202)), (xa, .inl (cI, 1024, .inl fx1202)), (ya, .inl (cI, 1024, .inl fy1202))]) hP hD [0, 1, 2, 3] [4] rfl rfl (by decide) (by decide) hk1 hFc hP1 hD1
      generalize H1 = H at hP hS ⊢
      try dsimp only at e202
      have hP : va_P D vwCl [(im, .inl (cI, 256, .inl fi)), (o, .inr (5, [.int th, .ref im, .int (bI tr), .ref rc, .ref bg, .int (nI n1202), .ref oa, .ref xa, .ref ya, .ref rg, .ref me, .ref sa, .ref pa, .ref za, .ref ca, .int (bI kp), .ref ta, .ref na])), (oa, .inl (cI, 1024, .inl fo1202)), (xa, .inl (cI, 1024, .inl fx1202)), (ya, .inl (cI, 1024, .inl fy1202))] H := hP
      have hD : va_D A [(im, .inl (cI, 256, .inl fi)), (o, .inr (5, [.int th, .ref im, .int (bI tr), .ref rc, .ref bg, .int (nI n1202), .ref oa, .ref xa, .ref ya, .ref rg, .ref me, .ref sa, .ref pa, .ref za, .ref ca, .int (bI kp), .ref ta, .ref na])), (oa, .inl (cI, 1024, .inl fo1202)), (xa, .inl (cI, 1024, .inl fx1202)), (ya, .inl (cI, 1024, .inl fy1202))] := hD
      refine lv_goto (tgt := 477) hx hb d_MO_instruction_205 rfl ?_
      have hP9 : va_P D vwCl [(o, .inr (5, [.int th, .ref im, .int (bI tr), .ref rc, .ref bg, .int (nI n1202), .ref oa, .ref xa, .ref ya, .ref rg, .ref me, .ref sa, .ref pa, .ref za, .ref ca, .int (bI kp), .ref ta, .ref na])), (oa, .inl (cI, 1024, .inl fo1202)), (xa, .inl (cI, 1024, .inl fx1202)), (ya, .inl (cI, 1024, .inl fy1202)), (im, .inl (cI, 256, .inl fi))] H := hP.sub [1, 2, 3, 4, 0] rfl
      have hD9 : va_D A [(o, .inr (5, [.int th, .ref im, .int (bI tr), .ref rc, .ref bg, .int (nI n1202), .ref oa, .ref xa, .ref ya, .ref rg, .ref me, .ref sa, .ref pa, .ref za, .ref ca, .int (bI kp), .ref ta, .ref na])), (oa, .inl (cI, 1024, .inl fo1202)), (xa, .inl (cI, 1024, .inl fx1202)), (ya, .inl (cI, 1024, .inl fy1202)), (im, .inl (cI, 256, .inl fi))] := hD.sub [1, 2, 3, 4, 0] (by decide) rfl
      exact W.vret hx hb hr (fun t ht hW => ⟨⟨(n1202, fo1202, fx1202, fy1202), rfl, ⟨by rw [e202.1, instM, h21]; try rfl, by omega⟩, by rw [ht]; exact hP9, va_K.moved hW.alike hK, hD9⟩, hS.F ht⟩) hS.2.2 d_MO_instruction_477
    | 5, _, h21 =>
      have h21 : fi i = 7 := h21
      refine lv_tableIn (off := 187) (tgt := 208) hx hb d_MO_instruction_21 (by rw [h21]; decide) (by rw [h21]; decide) (by rw [h21]; rfl) rfl ?_
      refine lv_aload_n hx hb d_MO_instruction_208 rfl (lv_at hl 2 rfl) ?_
      refine lv_iconst (v := 2) hx hb d_MO_instruction_209 (by decide) ?_
      refine lv_iconst (v := 1) hx hb d_MO_instruction_210 (by decide) ?_
      refine lv_iload_n hx hb d_MO_instruction_211 rfl (lv_at hl 0 rfl) ?_
      have hPc := hP.sub (ws' := [(o, .inr (5, [.int th, .ref im, .int (bI tr), .ref rc, .ref bg, .int (nI n), .ref oa, .ref xa, .ref ya, .ref rg, .ref me, .ref sa, .ref pa, .ref za, .ref ca, .int (bI kp), .ref ta, .ref na])), (oa, .inl (cI, 1024, .inl fo)), (xa, .inl (cI, 1024, .inl fx)), (ya, .inl (cI, 1024, .inl fy))]) [0, 1, 2, 3] rfl
      have hDc := hD.sub (ws' := [(o, .inr (5, [.int th, .ref im, .int (bI tr), .ref rc, .ref bg, .int (nI n), .ref oa, .ref xa, .ref ya, .ref rg, .ref me, .ref sa, .ref pa, .ref za, .ref ca, .int (bI kp), .ref ta, .ref na])), (oa, .inl (cI, 1024, .inl fo)), (xa, .inl (cI, 1024, .inl fx)), (ya, .inl (cI, 1024, .inl fy))]) [0, 1, 2, 3] (by decide) rfl
      have hFc := va_free (wc := [(o, .inr (5, [.int th, .ref im, .int (bI tr), .ref rc, .ref bg, .int (nI n), .ref oa, .ref xa, .ref ya, .ref rg, .ref me, .ref sa, .ref pa, .ref za, .ref ca, .int (bI kp), .ref ta, .ref na])), (oa, .inl (cI, 1024, .inl fo)), (xa, .inl (cI, 1024, .inl fx)), (ya, .inl (cI, 1024, .inl fy))]) hD hS hA [0, 1, 2, 3] rfl
      refine va_callv (va_runV (As := [.int 2, .int 1, .int (rd fi (nI i + 1))]) (rest := []) ⟨hx, hb, hml, hown, hts⟩ (q_row l D cI cZ o th im tr rc bg oa xa ya rg me sa pa za ca kp ta na n fo fx fy 2 1 (rd fi (nI i + 1)) H.size (by omega)) ⟨cB 3 hts k_801 k_62 k_798 hd_MO_row ⟨Nat.le_of_ble_eq_true rfl, Nat.le_of_ble_eq_true rfl⟩ rfl rfl, hts _ k_800, hts _ k_32⟩ (PcW.preV (va_recv hK hP (q0 := 0) (ci := 5) rfl rfl) hPc hK hDc hN) rfl rfl hl.1 rfl (lv_room (Nat.le_of_ble_eq_true rfl)) d_MO_instruction_212 ⟨Nat.le_of_ble_eq_true rfl, Nat.le_of_ble_eq_true rfl⟩) hS (fun q _ h => hFc q h) hFc (fun u t H1 locs ht hvm e212 hB hz1 hk1 hS => ?_)
      obtain ⟨n1212, fo1212, fx1212, fy1212⟩ := u
      obtain ⟨hP1, hK1, hD1⟩ := hB
      rw [ht] at hP1
      obtain ⟨hP, hD⟩ := va_join (wr := [(im, .inl (cI, 256, .inl fi))]) (w1 := [(o, .inr (5, [.int th, .ref im, .int (bI tr), .ref rc, .ref bg, .int (nI n1212), .ref oa, .ref xa, .ref ya, .ref rg, .ref me, .ref sa, .ref pa, .ref za, .ref ca, .int (bI kp), .ref ta, .ref na])), (oa, .inl (cI, 1024, .inl fo1212)), (xa, .inl (cI, 1024, .inl fx1212)), (ya, .inl (cI, 1024, .inl fy1212))]) hP hD [0, 1, 2, 3] [4] rfl rfl (by decide) (by decide) hk1 hFc hP1 hD1
      generalize H1 = H at hP hS ⊢
      try dsimp only at e212
      have hP : va_P D vwCl [(im, .inl (cI, 256, .inl fi)), (o, .inr (5, [.int th, .ref im, .int (bI tr), .ref rc, .ref bg, .int (nI n1212), .ref oa, .ref xa, .ref ya, .ref rg, .ref me, .ref sa, .ref pa, .ref za, .ref ca, .int (bI kp), .ref ta, .ref na])), (oa, .inl (cI, 1024, .inl fo1212)), (xa, .inl (cI, 1024, .inl fx1212)), (ya, .inl (cI, 1024, .inl fy1212))] H := hP
      have hD : va_D A [(im, .inl (cI, 256, .inl fi)), (o, .inr (5, [.int th, .ref im, .int (bI tr), .ref rc, .ref bg, .int (nI n1212), .ref oa, .ref xa, .ref ya, .ref rg, .ref me, .ref sa, .ref pa, .ref za, .ref ca, .int (bI kp), .ref ta, .ref na])), (oa, .inl (cI, 1024, .inl fo1212)), (xa, .inl (cI, 1024, .inl fx1212)), (ya, .inl (cI, 1024, .inl fy1212))] := hD
      refine lv_goto (tgt := 477) hx hb d_MO_instruction_215 rfl ?_
      have hP9 : va_P D vwCl [(o, .inr (5, [.int th, .ref im, .int (bI tr), .ref rc, .ref bg, .int (nI n1212), .ref oa, .ref xa, .ref ya, .ref rg, .ref me, .ref sa, .ref pa, .ref za, .ref ca, .int (bI kp), .ref ta, .ref na])), (oa, .inl (cI, 1024, .inl fo1212)), (xa, .inl (cI, 1024, .inl fx1212)), (ya, .inl (cI, 1024, .inl fy1212)), (im, .inl (cI, 256, .inl fi))] H := hP.sub [1, 2, 3, 4, 0] rfl
      have hD9 : va_D A [(o, .inr (5, [.int th, .ref im, .int (bI tr), .ref rc, .ref bg, .int (nI n1212), .ref oa, .ref xa, .ref ya, .ref rg, .ref me, .ref sa, .ref pa, .ref za, .ref ca, .int (bI kp), .ref ta, .ref na])), (oa, .inl (cI, 1024, .inl fo1212)), (xa, .inl (cI, 1024, .inl fx1212)), (ya, .inl (cI, 1024, .inl fy1212)), (im, .inl (cI, 256, .inl fi))] := hD.sub [1, 2, 3, 4, 0] (by decide) rfl
      exact W.vret hx hb hr (fun t ht hW => ⟨⟨(n1212, fo1212, fx1212, fy1212), rfl, ⟨by rw [e212.1, instM, h21]; try rfl, by omega⟩, by rw [ht]; exact hP9, va_K.moved hW.alike hK, hD9⟩, hS.F ht⟩) hS.2.2 d_MO_instruction_477
    | 6, _, h21 =>
      have h21 : fi i = 8 := h21
      refine lv_tableIn (off := 197) (tgt := 218) hx hb d_MO_instruction_21 (by rw [h21]; decide) (by rw [h21]; decide) (by rw [h21]; rfl) rfl ?_
      refine lv_aload_n hx hb d_MO_instruction_218 rfl (lv_at hl 2 rfl) ?_
      refine lv_iconst (v := 3) hx hb d_MO_instruction_219 (by decide) ?_
      refine lv_iconst (v := 1) hx hb d_MO_instruction_220 (by decide) ?_
      refine lv_iconst (v := 0) hx hb d_MO_instruction_221 (by decide) ?_
      have hPc := hP.sub (ws' := [(o, .inr (5, [.int th, .ref im, .int (bI tr), .ref rc, .ref bg, .int (nI n), .ref oa, .ref xa, .ref ya, .ref rg, .ref me, .ref sa, .ref pa, .ref za, .ref ca, .int (bI kp), .ref ta, .ref na])), (oa, .inl (cI, 1024, .inl fo)), (xa, .inl (cI, 1024, .inl fx)), (ya, .inl (cI, 1024, .inl fy))]) [0, 1, 2, 3] rfl
      have hDc := hD.sub (ws' := [(o, .inr (5, [.int th, .ref im, .int (bI tr), .ref rc, .ref bg, .int (nI n), .ref oa, .ref xa, .ref ya, .ref rg, .ref me, .ref sa, .ref pa, .ref za, .ref ca, .int (bI kp), .ref ta, .ref na])), (oa, .inl (cI, 1024, .inl fo)), (xa, .inl (cI, 1024, .inl fx)), (ya, .inl (cI, 1024, .inl fy))]) [0, 1, 2, 3] (by decide) rfl
      have hFc := va_free (wc := [(o, .inr (5, [.int th, .ref im, .int (bI tr), .ref rc, .ref bg, .int (nI n), .ref oa, .ref xa, .ref ya, .ref rg, .ref me, .ref sa, .ref pa, .ref za, .ref ca, .int (bI kp), .ref ta, .ref na])), (oa, .inl (cI, 1024, .inl fo)), (xa, .inl (cI, 1024, .inl fx)), (ya, .inl (cI, 1024, .inl fy))]) hD hS hA [0, 1, 2, 3] rfl
      refine va_callv (va_runV (As := [.int 3, .int 1, .int 0]) (rest := []) ⟨hx, hb, hml, hown, hts⟩ (q_row l D cI cZ o th im tr rc bg oa xa ya rg me sa pa za ca kp ta na n fo fx fy 3 1 0 H.size (by omega)) ⟨cB 3 hts k_801 k_62 k_798 hd_MO_row ⟨Nat.le_of_ble_eq_true rfl, Nat.le_of_ble_eq_true rfl⟩ rfl rfl, hts _ k_800, hts _ k_32⟩ (PcW.preV (va_recv hK hP (q0 := 0) (ci := 5) rfl rfl) hPc hK hDc hN) rfl rfl hl.1 rfl (lv_room (Nat.le_of_ble_eq_true rfl)) d_MO_instruction_222 ⟨Nat.le_of_ble_eq_true rfl, Nat.le_of_ble_eq_true rfl⟩) hS (fun q _ h => hFc q h) hFc (fun u t H1 locs ht hvm e222 hB hz1 hk1 hS => ?_)
      obtain ⟨n1222, fo1222, fx1222, fy1222⟩ := u
      obtain ⟨hP1, hK1, hD1⟩ := hB
      rw [ht] at hP1
      obtain ⟨hP, hD⟩ := va_join (wr := [(im, .inl (cI, 256, .inl fi))]) (w1 := [(o, .inr (5, [.int th, .ref im, .int (bI tr), .ref rc, .ref bg, .int (nI n1222), .ref oa, .ref xa, .ref ya, .ref rg, .ref me, .ref sa, .ref pa, .ref za, .ref ca, .int (bI kp), .ref ta, .ref na])), (oa, .inl (cI, 1024, .inl fo1222)), (xa, .inl (cI, 1024, .inl fx1222)), (ya, .inl (cI, 1024, .inl fy1222))]) hP hD [0, 1, 2, 3] [4] rfl rfl (by decide) (by decide) hk1 hFc hP1 hD1
      generalize H1 = H at hP hS ⊢
      try dsimp only at e222
      have hP : va_P D vwCl [(im, .inl (cI, 256, .inl fi)), (o, .inr (5, [.int th, .ref im, .int (bI tr), .ref rc, .ref bg, .int (nI n1222), .ref oa, .ref xa, .ref ya, .ref rg, .ref me, .ref sa, .ref pa, .ref za, .ref ca, .int (bI kp), .ref ta, .ref na])), (oa, .inl (cI, 1024, .inl fo1222)), (xa, .inl (cI, 1024, .inl fx1222)), (ya, .inl (cI, 1024, .inl fy1222))] H := hP
      have hD : va_D A [(im, .inl (cI, 256, .inl fi)), (o, .inr (5, [.int th, .ref im, .int (bI tr), .ref rc, .ref bg, .int (nI n1222), .ref oa, .ref xa, .ref ya, .ref rg, .ref me, .ref sa, .ref pa, .ref za, .ref ca, .int (bI kp), .ref ta, .ref na])), (oa, .inl (cI, 1024, .inl fo1222)), (xa, .inl (cI, 1024, .inl fx1222)), (ya, .inl (cI, 1024, .inl fy1222))] := hD
      refine lv_goto (tgt := 477) hx hb d_MO_instruction_225 rfl ?_
      have hP9 : va_P D vwCl [(o, .inr (5, [.int th, .ref im, .int (bI tr), .ref rc, .ref bg, .int (nI n1222), .ref oa, .ref xa, .ref ya, .ref rg, .ref me, .ref sa, .ref pa, .ref za, .ref ca, .int (bI kp), .ref ta, .ref na])), (oa, .inl (cI, 1024, .inl fo1222)), (xa, .inl (cI, 1024, .inl fx1222)), (ya, .inl (cI, 1024, .inl fy1222)), (im, .inl (cI, 256, .inl fi))] H := hP.sub [1, 2, 3, 4, 0] rfl
      have hD9 : va_D A [(o, .inr (5, [.int th, .ref im, .int (bI tr), .ref rc, .ref bg, .int (nI n1222), .ref oa, .ref xa, .ref ya, .ref rg, .ref me, .ref sa, .ref pa, .ref za, .ref ca, .int (bI kp), .ref ta, .ref na])), (oa, .inl (cI, 1024, .inl fo1222)), (xa, .inl (cI, 1024, .inl fx1222)), (ya, .inl (cI, 1024, .inl fy1222)), (im, .inl (cI, 256, .inl fi))] := hD.sub [1, 2, 3, 4, 0] (by decide) rfl
      exact W.vret hx hb hr (fun t ht hW => ⟨⟨(n1222, fo1222, fx1222, fy1222), rfl, ⟨by rw [e222.1, instM, h21]; try rfl, by omega⟩, by rw [ht]; exact hP9, va_K.moved hW.alike hK, hD9⟩, hS.F ht⟩) hS.2.2 d_MO_instruction_477
    | 7, _, h21 =>
      have h21 : fi i = 9 := h21
      refine lv_tableIn (off := 207) (tgt := 228) hx hb d_MO_instruction_21 (by rw [h21]; decide) (by rw [h21]; decide) (by rw [h21]; rfl) rfl ?_
      refine lv_aload_n hx hb d_MO_instruction_228 rfl (lv_at hl 2 rfl) ?_
      refine lv_iconst (v := 3) hx hb d_MO_instruction_229 (by decide) ?_
      refine lv_iconst (v := 0) hx hb d_MO_instruction_230 (by decide) ?_
      refine lv_iconst (v := 1) hx hb d_MO_instruction_231 (by decide) ?_
      have hPc := hP.sub (ws' := [(o, .inr (5, [.int th, .ref im, .int (bI tr), .ref rc, .ref bg, .int (nI n), .ref oa, .ref xa, .ref ya, .ref rg, .ref me, .ref sa, .ref pa, .ref za, .ref ca, .int (bI kp), .ref ta, .ref na])), (oa, .inl (cI, 1024, .inl fo)), (xa, .inl (cI, 1024, .inl fx)), (ya, .inl (cI, 1024, .inl fy))]) [0, 1, 2, 3] rfl
      have hDc := hD.sub (ws' := [(o, .inr (5, [.int th, .ref im, .int (bI tr), .ref rc, .ref bg, .int (nI n), .ref oa, .ref xa, .ref ya, .ref rg, .ref me, .ref sa, .ref pa, .ref za, .ref ca, .int (bI kp), .ref ta, .ref na])), (oa, .inl (cI, 1024, .inl fo)), (xa, .inl (cI, 1024, .inl fx)), (ya, .inl (cI, 1024, .inl fy))]) [0, 1, 2, 3] (by decide) rfl
      have hFc := va_free (wc := [(o, .inr (5, [.int th, .ref im, .int (bI tr), .ref rc, .ref bg, .int (nI n), .ref oa, .ref xa, .ref ya, .ref rg, .ref me, .ref sa, .ref pa, .ref za, .ref ca, .int (bI kp), .ref ta, .ref na])), (oa, .inl (cI, 1024, .inl fo)), (xa, .inl (cI, 1024, .inl fx)), (ya, .inl (cI, 1024, .inl fy))]) hD hS hA [0, 1, 2, 3] rfl
      refine va_callv (va_runV (As := [.int 3, .int 0, .int 1]) (rest := []) ⟨hx, hb, hml, hown, hts⟩ (q_around l D cI cZ o th im tr rc bg oa xa ya rg me sa pa za ca kp ta na n fo fx fy 3 0 1 H.size (by omega)) ⟨cB 3 hts k_797 k_62 k_794 hd_MO_around ⟨Nat.le_of_ble_eq_true rfl, Nat.le_of_ble_eq_true rfl⟩ rfl rfl, hts _ k_796, hts _ k_31⟩ (PcW.preV (va_recv hK hP (q0 := 0) (ci := 5) rfl rfl) hPc hK hDc hN) rfl rfl hl.1 rfl (lv_room (Nat.le_of_ble_eq_true rfl)) d_MO_instruction_232 ⟨Nat.le_of_ble_eq_true rfl, Nat.le_of_ble_eq_true rfl⟩) hS (fun q _ h => hFc q h) hFc (fun u t H1 locs ht hvm e232 hB hz1 hk1 hS => ?_)
      obtain ⟨n1232, fo1232, fx1232, fy1232⟩ := u
      obtain ⟨hP1, hK1, hD1⟩ := hB
      rw [ht] at hP1
      obtain ⟨hP, hD⟩ := va_join (wr := [(im, .inl (cI, 256, .inl fi))]) (w1 := [(o, .inr (5, [.int th, .ref im, .int (bI tr), .ref rc, .ref bg, .int (nI n1232), .ref oa, .ref xa, .ref ya, .ref rg, .ref me, .ref sa, .ref pa, .ref za, .ref ca, .int (bI kp), .ref ta, .ref na])), (oa, .inl (cI, 1024, .inl fo1232)), (xa, .inl (cI, 1024, .inl fx1232)), (ya, .inl (cI, 1024, .inl fy1232))]) hP hD [0, 1, 2, 3] [4] rfl rfl (by decide) (by decide) hk1 hFc hP1 hD1
      generalize H1 = H at hP hS ⊢
      try dsimp only at e232
      have hP : va_P D vwCl [(im, .inl (cI, 256, .inl fi)), (o, .inr (5, [.int th, .ref im, .int (bI tr), .ref rc, .ref bg, .int (nI n1232), .ref oa, .ref xa, .ref ya, .ref rg, .ref me, .ref sa, .ref pa, .ref za, .ref ca, .int (bI kp), .ref ta, .ref na])), (oa, .inl (cI, 1024, .inl fo1232)), (xa, .inl (cI, 1024, .inl fx1232)), (ya, .inl (cI, 1024, .inl fy1232))] H := hP
      have hD : va_D A [(im, .inl (cI, 256, .inl fi)), (o, .inr (5, [.int th, .ref im, .int (bI tr), .ref rc, .ref bg, .int (nI n1232), .ref oa, .ref xa, .ref ya, .ref rg, .ref me, .ref sa, .ref pa, .ref za, .ref ca, .int (bI kp), .ref ta, .ref na])), (oa, .inl (cI, 1024, .inl fo1232)), (xa, .inl (cI, 1024, .inl fx1232)), (ya, .inl (cI, 1024, .inl fy1232))] := hD
      refine lv_goto (tgt := 477) hx hb d_MO_instruction_235 rfl ?_
      have hP9 : va_P D vwCl [(o, .inr (5, [.int th, .ref im, .int (bI tr), .ref rc, .ref bg, .int (nI n1232), .ref oa, .ref xa, .ref ya, .ref rg, .ref me, .ref sa, .ref pa, .ref za, .ref ca, .int (bI kp), .ref ta, .ref na])), (oa, .inl (cI, 1024, .inl fo1232)), (xa, .inl (cI, 1024, .inl fx1232)), (ya, .inl (cI, 1024, .inl fy1232)), (im, .inl (cI, 256, .inl fi))] H := hP.sub [1, 2, 3, 4, 0] rfl
      have hD9 : va_D A [(o, .inr (5, [.int th, .ref im, .int (bI tr), .ref rc, .ref bg, .int (nI n1232), .ref oa, .ref xa, .ref ya, .ref rg, .ref me, .ref sa, .ref pa, .ref za, .ref ca, .int (bI kp), .ref ta, .ref na])), (oa, .inl (cI, 1024, .inl fo1232)), (xa, .inl (cI, 1024, .inl fx1232)), (ya, .inl (cI, 1024, .inl fy1232)), (im, .inl (cI, 256, .inl fi))] := hD.sub [1, 2, 3, 4, 0] (by decide) rfl
      exact W.vret hx hb hr (fun t ht hW => ⟨⟨(n1232, fo1232, fx1232, fy1232), rfl, ⟨by rw [e232.1, instM, h21]; try rfl, by omega⟩, by rw [ht]; exact hP9, va_K.moved hW.alike hK, hD9⟩, hS.F ht⟩) hS.2.2 d_MO_instruction_477
    | 8, _, h21 =>
      have h21 : fi i = 10 := h21
      refine lv_tableIn (off := 217) (tgt := 238) hx hb d_MO_instruction_21 (by rw [h21]; decide) (by rw [h21]; decide) (by rw [h21]; rfl) rfl ?_
      refine lv_aload_n hx hb d_MO_instruction_238 rfl (lv_at hl 2 rfl) ?_
      refine lv_bipush (v := 9) hx hb d_MO_instruction_239 (by decide) ?_
      have hPc := hP.sub (ws' := [(o, .inr (5, [.int th, .ref im, .int (bI tr), .ref rc, .ref bg, .int (nI n), .ref oa, .ref xa, .ref ya, .ref rg, .ref me, .ref sa, .ref pa, .ref za, .ref ca, .int (bI kp), .ref ta, .ref na])), (oa, .inl (cI, 1024, .inl fo)), (xa, .inl (cI, 1024, .inl fx)), (ya, .inl (cI, 1024, .inl fy))]) [0, 1, 2, 3] rfl
      have hDc := hD.sub (ws' := [(o, .inr (5, [.int th, .ref im, .int (bI tr), .ref rc, .ref bg, .int (nI n), .ref oa, .ref xa, .ref ya, .ref rg, .ref me, .ref sa, .ref pa, .ref za, .ref ca, .int (bI kp), .ref ta, .ref na])), (oa, .inl (cI, 1024, .inl fo)), (xa, .inl (cI, 1024, .inl fx)), (ya, .inl (cI, 1024, .inl fy))]) [0, 1, 2, 3] (by decide) rfl
      have hFc := va_free (wc := [(o, .inr (5, [.int th, .ref im, .int (bI tr), .ref rc, .ref bg, .int (nI n), .ref oa, .ref xa, .ref ya, .ref rg, .ref me, .ref sa, .ref pa, .ref za, .ref ca, .int (bI kp), .ref ta, .ref na])), (oa, .inl (cI, 1024, .inl fo)), (xa, .inl (cI, 1024, .inl fx)), (ya, .inl (cI, 1024, .inl fy))]) hD hS hA [0, 1, 2, 3] rfl
      refine va_callv (va_runV (As := [.int 9]) (rest := []) ⟨hx, hb, hml, hown, hts⟩ (q_steps l D cI cZ o th im tr rc bg oa xa ya rg me sa pa za ca kp ta na n fo fx fy 9 H.size (by omega)) ⟨cB 1 hts k_805 k_62 k_802 hd_MO_steps ⟨Nat.le_of_ble_eq_true rfl, Nat.le_of_ble_eq_true rfl⟩ rfl rfl, hts _ k_804, hts _ k_33⟩ (PcW.preV (va_recv hK hP (q0 := 0) (ci := 5) rfl rfl) hPc hK hDc hN) rfl rfl hl.1 rfl (lv_room (Nat.le_of_ble_eq_true rfl)) d_MO_instruction_241 ⟨Nat.le_of_ble_eq_true rfl, Nat.le_of_ble_eq_true rfl⟩) hS (fun q _ h => hFc q h) hFc (fun u t H1 locs ht hvm e241 hB hz1 hk1 hS => ?_)
      obtain ⟨n1241, fo1241, fx1241, fy1241⟩ := u
      obtain ⟨hP1, hK1, hD1⟩ := hB
      rw [ht] at hP1
      obtain ⟨hP, hD⟩ := va_join (wr := [(im, .inl (cI, 256, .inl fi))]) (w1 := [(o, .inr (5, [.int th, .ref im, .int (bI tr), .ref rc, .ref bg, .int (nI n1241), .ref oa, .ref xa, .ref ya, .ref rg, .ref me, .ref sa, .ref pa, .ref za, .ref ca, .int (bI kp), .ref ta, .ref na])), (oa, .inl (cI, 1024, .inl fo1241)), (xa, .inl (cI, 1024, .inl fx1241)), (ya, .inl (cI, 1024, .inl fy1241))]) hP hD [0, 1, 2, 3] [4] rfl rfl (by decide) (by decide) hk1 hFc hP1 hD1
      generalize H1 = H at hP hS ⊢
      try dsimp only at e241
      have hP : va_P D vwCl [(im, .inl (cI, 256, .inl fi)), (o, .inr (5, [.int th, .ref im, .int (bI tr), .ref rc, .ref bg, .int (nI n1241), .ref oa, .ref xa, .ref ya, .ref rg, .ref me, .ref sa, .ref pa, .ref za, .ref ca, .int (bI kp), .ref ta, .ref na])), (oa, .inl (cI, 1024, .inl fo1241)), (xa, .inl (cI, 1024, .inl fx1241)), (ya, .inl (cI, 1024, .inl fy1241))] H := hP
      have hD : va_D A [(im, .inl (cI, 256, .inl fi)), (o, .inr (5, [.int th, .ref im, .int (bI tr), .ref rc, .ref bg, .int (nI n1241), .ref oa, .ref xa, .ref ya, .ref rg, .ref me, .ref sa, .ref pa, .ref za, .ref ca, .int (bI kp), .ref ta, .ref na])), (oa, .inl (cI, 1024, .inl fo1241)), (xa, .inl (cI, 1024, .inl fx1241)), (ya, .inl (cI, 1024, .inl fy1241))] := hD
      refine lv_goto (tgt := 477) hx hb d_MO_instruction_244 rfl ?_
      have hP9 : va_P D vwCl [(o, .inr (5, [.int th, .ref im, .int (bI tr), .ref rc, .ref bg, .int (nI n1241), .ref oa, .ref xa, .ref ya, .ref rg, .ref me, .ref sa, .ref pa, .ref za, .ref ca, .int (bI kp), .ref ta, .ref na])), (oa, .inl (cI, 1024, .inl fo1241)), (xa, .inl (cI, 1024, .inl fx1241)), (ya, .inl (cI, 1024, .inl fy1241)), (im, .inl (cI, 256, .inl fi))] H := hP.sub [1, 2, 3, 4, 0] rfl
      have hD9 : va_D A [(o, .inr (5, [.int th, .ref im, .int (bI tr), .ref rc, .ref bg, .int (nI n1241), .ref oa, .ref xa, .ref ya, .ref rg, .ref me, .ref sa, .ref pa, .ref za, .ref ca, .int (bI kp), .ref ta, .ref na])), (oa, .inl (cI, 1024, .inl fo1241)), (xa, .inl (cI, 1024, .inl fx1241)), (ya, .inl (cI, 1024, .inl fy1241)), (im, .inl (cI, 256, .inl fi))] := hD.sub [1, 2, 3, 4, 0] (by decide) rfl
      exact W.vret hx hb hr (fun t ht hW => ⟨⟨(n1241, fo1241, fx1241, fy1241), rfl, ⟨by rw [e241.1, instM, h21]; try rfl, by omega⟩, by rw [ht]; exact hP9, va_K.moved hW.alike hK, hD9⟩, hS.F ht⟩) hS.2.2 d_MO_instruction_477
    | 9, _, h21 =>
      have h21 : fi i = 11 := h21
      refine lv_tableIn (off := 226) (tgt := 247) hx hb d_MO_instruction_21 (by rw [h21]; decide) (by rw [h21]; decide) (by rw [h21]; rfl) rfl ?_
      refine lv_aload_n hx hb d_MO_instruction_247 rfl (lv_at hl 2 rfl) ?_
      refine lv_bipush (v := 11) hx hb d_MO_instruction_248 (by decide) ?_
      have hPc := hP.sub (ws' := [(o, .inr (5, [.int th, .ref im, .int (bI tr), .ref rc, .ref bg, .int (nI n), .ref oa, .ref xa, .ref ya, .ref rg, .ref me, .ref sa, .ref pa, .ref za, .ref ca, .int (bI kp), .ref ta, .ref na])), (oa, .inl (cI, 1024, .inl fo)), (xa, .inl (cI, 1024, .inl fx)), (ya, .inl (cI, 1024, .inl fy))]) [0, 1, 2, 3] rfl
      have hDc := hD.sub (ws' := [(o, .inr (5, [.int th, .ref im, .int (bI tr), .ref rc, .ref bg, .int (nI n), .ref oa, .ref xa, .ref ya, .ref rg, .ref me, .ref sa, .ref pa, .ref za, .ref ca, .int (bI kp), .ref ta, .ref na])), (oa, .inl (cI, 1024, .inl fo)), (xa, .inl (cI, 1024, .inl fx)), (ya, .inl (cI, 1024, .inl fy))]) [0, 1, 2, 3] (by decide) rfl
      have hFc := va_free (wc := [(o, .inr (5, [.int th, .ref im, .int (bI tr), .ref rc, .ref bg, .int (nI n), .ref oa, .ref xa, .ref ya, .ref rg, .ref me, .ref sa, .ref pa, .ref za, .ref ca, .int (bI kp), .ref ta, .ref na])), (oa, .inl (cI, 1024, .inl fo)), (xa, .inl (cI, 1024, .inl fx)), (ya, .inl (cI, 1024, .inl fy))]) hD hS hA [0, 1, 2, 3] rfl
      refine va_callv (va_runV (As := [.int 11]) (rest := []) ⟨hx, hb, hml, hown, hts⟩ (q_steps l D cI cZ o th im tr rc bg oa xa ya rg me sa pa za ca kp ta na n fo fx fy 11 H.size (by omega)) ⟨cB 1 hts k_805 k_62 k_802 hd_MO_steps ⟨Nat.le_of_ble_eq_true rfl, Nat.le_of_ble_eq_true rfl⟩ rfl rfl, hts _ k_804, hts _ k_33⟩ (PcW.preV (va_recv hK hP (q0 := 0) (ci := 5) rfl rfl) hPc hK hDc hN) rfl rfl hl.1 rfl (lv_room (Nat.le_of_ble_eq_true rfl)) d_MO_instruction_250 ⟨Nat.le_of_ble_eq_true rfl, Nat.le_of_ble_eq_true rfl⟩) hS (fun q _ h => hFc q h) hFc (fun u t H1 locs ht hvm e250 hB hz1 hk1 hS => ?_)
      obtain ⟨n1250, fo1250, fx1250, fy1250⟩ := u
      obtain ⟨hP1, hK1, hD1⟩ := hB
      rw [ht] at hP1
      obtain ⟨hP, hD⟩ := va_join (wr := [(im, .inl (cI, 256, .inl fi))]) (w1 := [(o, .inr (5, [.int th, .ref im, .int (bI tr), .ref rc, .ref bg, .int (nI n1250), .ref oa, .ref xa, .ref ya, .ref rg, .ref me, .ref sa, .ref pa, .ref za, .ref ca, .int (bI kp), .ref ta, .ref na])), (oa, .inl (cI, 1024, .inl fo1250)), (xa, .inl (cI, 1024, .inl fx1250)), (ya, .inl (cI, 1024, .inl fy1250))]) hP hD [0, 1, 2, 3] [4] rfl rfl (by decide) (by decide) hk1 hFc hP1 hD1
      generalize H1 = H at hP hS ⊢
      try dsimp only at e250
      have hP : va_P D vwCl [(im, .inl (cI, 256, .inl fi)), (o, .inr (5, [.int th, .ref im, .int (bI tr), .ref rc, .ref bg, .int (nI n1250), .ref oa, .ref xa, .ref ya, .ref rg, .ref me, .ref sa, .ref pa, .ref za, .ref ca, .int (bI kp), .ref ta, .ref na])), (oa, .inl (cI, 1024, .inl fo1250)), (xa, .inl (cI, 1024, .inl fx1250)), (ya, .inl (cI, 1024, .inl fy1250))] H := hP
      have hD : va_D A [(im, .inl (cI, 256, .inl fi)), (o, .inr (5, [.int th, .ref im, .int (bI tr), .ref rc, .ref bg, .int (nI n1250), .ref oa, .ref xa, .ref ya, .ref rg, .ref me, .ref sa, .ref pa, .ref za, .ref ca, .int (bI kp), .ref ta, .ref na])), (oa, .inl (cI, 1024, .inl fo1250)), (xa, .inl (cI, 1024, .inl fx1250)), (ya, .inl (cI, 1024, .inl fy1250))] := hD
      refine lv_goto (tgt := 477) hx hb d_MO_instruction_253 rfl ?_
      have hP9 : va_P D vwCl [(o, .inr (5, [.int th, .ref im, .int (bI tr), .ref rc, .ref bg, .int (nI n1250), .ref oa, .ref xa, .ref ya, .ref rg, .ref me, .ref sa, .ref pa, .ref za, .ref ca, .int (bI kp), .ref ta, .ref na])), (oa, .inl (cI, 1024, .inl fo1250)), (xa, .inl (cI, 1024, .inl fx1250)), (ya, .inl (cI, 1024, .inl fy1250)), (im, .inl (cI, 256, .inl fi))] H := hP.sub [1, 2, 3, 4, 0] rfl
      have hD9 : va_D A [(o, .inr (5, [.int th, .ref im, .int (bI tr), .ref rc, .ref bg, .int (nI n1250), .ref oa, .ref xa, .ref ya, .ref rg, .ref me, .ref sa, .ref pa, .ref za, .ref ca, .int (bI kp), .ref ta, .ref na])), (oa, .inl (cI, 1024, .inl fo1250)), (xa, .inl (cI, 1024, .inl fx1250)), (ya, .inl (cI, 1024, .inl fy1250)), (im, .inl (cI, 256, .inl fi))] := hD.sub [1, 2, 3, 4, 0] (by decide) rfl
      exact W.vret hx hb hr (fun t ht hW => ⟨⟨(n1250, fo1250, fx1250, fy1250), rfl, ⟨by rw [e250.1, instM, h21]; try rfl, by omega⟩, by rw [ht]; exact hP9, va_K.moved hW.alike hK, hD9⟩, hS.F ht⟩) hS.2.2 d_MO_instruction_477
    | 10, _, h21 =>
      have h21 : fi i = 12 := h21
      refine lv_tableIn (off := 235) (tgt := 256) hx hb d_MO_instruction_21 (by rw [h21]; decide) (by rw [h21]; decide) (by rw [h21]; rfl) rfl ?_
      refine lv_aload_n hx hb d_MO_instruction_256 rfl (lv_at hl 2 rfl) ?_
      refine lv_iconst (v := 2) hx hb d_MO_instruction_257 (by decide) ?_
      refine lv_iload_n hx hb d_MO_instruction_258 rfl (lv_at hl 0 rfl) ?_
      refine lv_bipush (v := 9) hx hb d_MO_instruction_259 (by decide) ?_
      have hPc := hP.sub (ws' := [(o, .inr (5, [.int th, .ref im, .int (bI tr), .ref rc, .ref bg, .int (nI n), .ref oa, .ref xa, .ref ya, .ref rg, .ref me, .ref sa, .ref pa, .ref za, .ref ca, .int (bI kp), .ref ta, .ref na])), (oa, .inl (cI, 1024, .inl fo)), (xa, .inl (cI, 1024, .inl fx)), (ya, .inl (cI, 1024, .inl fy))]) [0, 1, 2, 3] rfl
      have hDc := hD.sub (ws' := [(o, .inr (5, [.int th, .ref im, .int (bI tr), .ref rc, .ref bg, .int (nI n), .ref oa, .ref xa, .ref ya, .ref rg, .ref me, .ref sa, .ref pa, .ref za, .ref ca, .int (bI kp), .ref ta, .ref na])), (oa, .inl (cI, 1024, .inl fo)), (xa, .inl (cI, 1024, .inl fx)), (ya, .inl (cI, 1024, .inl fy))]) [0, 1, 2, 3] (by decide) rfl
      have hFc := va_free (wc := [(o, .inr (5, [.int th, .ref im, .int (bI tr), .ref rc, .ref bg, .int (nI n), .ref oa, .ref xa, .ref ya, .ref rg, .ref me, .ref sa, .ref pa, .ref za, .ref ca, .int (bI kp), .ref ta, .ref na])), (oa, .inl (cI, 1024, .inl fo)), (xa, .inl (cI, 1024, .inl fx)), (ya, .inl (cI, 1024, .inl fy))]) hD hS hA [0, 1, 2, 3] rfl
      refine va_callv (va_runV (As := [.int 2, .int (rd fi (nI i + 1)), .int 9]) (rest := []) ⟨hx, hb, hml, hown, hts⟩ (q_pair l D cI cZ o th im tr rc bg oa xa ya rg me sa pa za ca kp ta na n fo fx fy 2 (rd fi (nI i + 1)) 9 H.size (by omega)) ⟨cB 3 hts k_809 k_62 k_806 hd_MO_pair ⟨Nat.le_of_ble_eq_true rfl, Nat.le_of_ble_eq_true rfl⟩ rfl rfl, hts _ k_808, hts _ k_34⟩ (PcW.preV (va_recv hK hP (q0 := 0) (ci := 5) rfl rfl) hPc hK hDc hN) rfl rfl hl.1 rfl (lv_room (Nat.le_of_ble_eq_true rfl)) d_MO_instruction_261 ⟨Nat.le_of_ble_eq_true rfl, Nat.le_of_ble_eq_true rfl⟩) hS (fun q _ h => hFc q h) hFc (fun u t H1 locs ht hvm e261 hB hz1 hk1 hS => ?_)
      obtain ⟨n1261, fo1261, fx1261, fy1261⟩ := u
      obtain ⟨hP1, hK1, hD1⟩ := hB
      rw [ht] at hP1
      obtain ⟨hP, hD⟩ := va_join (wr := [(im, .inl (cI, 256, .inl fi))]) (w1 := [(o, .inr (5, [.int th, .ref im, .int (bI tr), .ref rc, .ref bg, .int (nI n1261), .ref oa, .ref xa, .ref ya, .ref rg, .ref me, .ref sa, .ref pa, .ref za, .ref ca, .int (bI kp), .ref ta, .ref na])), (oa, .inl (cI, 1024, .inl fo1261)), (xa, .inl (cI, 1024, .inl fx1261)), (ya, .inl (cI, 1024, .inl fy1261))]) hP hD [0, 1, 2, 3] [4] rfl rfl (by decide) (by decide) hk1 hFc hP1 hD1
      generalize H1 = H at hP hS ⊢
      try dsimp only at e261
      have hP : va_P D vwCl [(im, .inl (cI, 256, .inl fi)), (o, .inr (5, [.int th, .ref im, .int (bI tr), .ref rc, .ref bg, .int (nI n1261), .ref oa, .ref xa, .ref ya, .ref rg, .ref me, .ref sa, .ref pa, .ref za, .ref ca, .int (bI kp), .ref ta, .ref na])), (oa, .inl (cI, 1024, .inl fo1261)), (xa, .inl (cI, 1024, .inl fx1261)), (ya, .inl (cI, 1024, .inl fy1261))] H := hP
      have hD : va_D A [(im, .inl (cI, 256, .inl fi)), (o, .inr (5, [.int th, .ref im, .int (bI tr), .ref rc, .ref bg, .int (nI n1261), .ref oa, .ref xa, .ref ya, .ref rg, .ref me, .ref sa, .ref pa, .ref za, .ref ca, .int (bI kp), .ref ta, .ref na])), (oa, .inl (cI, 1024, .inl fo1261)), (xa, .inl (cI, 1024, .inl fx1261)), (ya, .inl (cI, 1024, .inl fy1261))] := hD
      refine lv_goto (tgt := 477) hx hb d_MO_instruction_264 rfl ?_
      have hP9 : va_P D vwCl [(o, .inr (5, [.int th, .ref im, .int (bI tr), .ref rc, .ref bg, .int (nI n1261), .ref oa, .ref xa, .ref ya, .ref rg, .ref me, .ref sa, .ref pa, .ref za, .ref ca, .int (bI kp), .ref ta, .ref na])), (oa, .inl (cI, 1024, .inl fo1261)), (xa, .inl (cI, 1024, .inl fx1261)), (ya, .inl (cI, 1024, .inl fy1261)), (im, .inl (cI, 256, .inl fi))] H := hP.sub [1, 2, 3, 4, 0] rfl
      have hD9 : va_D A [(o, .inr (5, [.int th, .ref im, .int (bI tr), .ref rc, .ref bg, .int (nI n1261), .ref oa, .ref xa, .ref ya, .ref rg, .ref me, .ref sa, .ref pa, .ref za, .ref ca, .int (bI kp), .ref ta, .ref na])), (oa, .inl (cI, 1024, .inl fo1261)), (xa, .inl (cI, 1024, .inl fx1261)), (ya, .inl (cI, 1024, .inl fy1261)), (im, .inl (cI, 256, .inl fi))] := hD.sub [1, 2, 3, 4, 0] (by decide) rfl
      exact W.vret hx hb hr (fun t ht hW => ⟨⟨(n1261, fo1261, fx1261, fy1261), rfl, ⟨by rw [e261.1, instM, h21]; try rfl, by omega⟩, by rw [ht]; exact hP9, va_K.moved hW.alike hK, hD9⟩, hS.F ht⟩) hS.2.2 d_MO_instruction_477
    | 11, _, h21 =>
      have h21 : fi i = 13 := h21
      refine lv_tableIn (off := 246) (tgt := 267) hx hb d_MO_instruction_21 (by rw [h21]; decide) (by rw [h21]; decide) (by rw [h21]; rfl) rfl ?_
      refine lv_aload_n hx hb d_MO_instruction_267 rfl (lv_at hl 2 rfl) ?_
      refine lv_iconst (v := 4) hx hb d_MO_instruction_268 (by decide) ?_
      refine lv_iload_n hx hb d_MO_instruction_269 rfl (lv_at hl 0 rfl) ?_
      refine lv_bipush (v := 9) hx hb d_MO_instruction_270 (by decide) ?_
      have hPc := hP.sub (ws' := [(o, .inr (5, [.int th, .ref im, .int (bI tr), .ref rc, .ref bg, .int (nI n), .ref oa, .ref xa, .ref ya, .ref rg, .ref me, .ref sa, .ref pa, .ref za, .ref ca, .int (bI kp), .ref ta, .ref na])), (oa, .inl (cI, 1024, .inl fo)), (xa, .inl (cI, 1024, .inl fx)), (ya, .inl (cI, 1024, .inl fy))]) [0, 1, 2, 3] rfl
      have hDc := hD.sub (ws' := [(o, .inr (5, [.int th, .ref im, .int (bI tr), .ref rc, .ref bg, .int (nI n), .ref oa, .ref xa, .ref ya, .ref rg, .ref me, .ref sa, .ref pa, .ref za, .ref ca, .int (bI kp), .ref ta, .ref na])), (oa, .inl (cI, 1024, .inl fo)), (xa, .inl (cI, 1024, .inl fx)), (ya, .inl (cI, 1024, .inl fy))]) [0, 1, 2, 3] (by decide) rfl
      have hFc := va_free (wc := [(o, .inr (5, [.int th, .ref im, .int (bI tr), .ref rc, .ref bg, .int (nI n), .ref oa, .ref xa, .ref ya, .ref rg, .ref me, .ref sa, .ref pa, .ref za, .ref ca, .int (bI kp), .ref ta, .ref na])), (oa, .inl (cI, 1024, .inl fo)), (xa, .inl (cI, 1024, .inl fx)), (ya, .inl (cI, 1024, .inl fy))]) hD hS hA [0, 1, 2, 3] rfl
      refine va_callv (va_runV (As := [.int 4, .int (rd fi (nI i + 1)), .int 9]) (rest := []) ⟨hx, hb, hml, hown, hts⟩ (q_pair l D cI cZ o th im tr rc bg oa xa ya rg me sa pa za ca kp ta na n fo fx fy 4 (rd fi (nI i + 1)) 9 H.size (by omega)) ⟨cB 3 hts k_809 k_62 k_806 hd_MO_pair ⟨Nat.le_of_ble_eq_true rfl, Nat.le_of_ble_eq_true rfl⟩ rfl rfl, hts _ k_808, hts _ k_34⟩ (PcW.preV (va_recv hK hP (q0 := 0) (ci := 5) rfl rfl) hPc hK hDc hN) rfl rfl hl.1 rfl (lv_room (Nat.le_of_ble_eq_true rfl)) d_MO_instruction_272 ⟨Nat.le_of_ble_eq_true rfl, Nat.le_of_ble_eq_true rfl⟩) hS (fun q _ h => hFc q h) hFc (fun u t H1 locs ht hvm e272 hB hz1 hk1 hS => ?_)
      obtain ⟨n1272, fo1272, fx1272, fy1272⟩ := u
      obtain ⟨hP1, hK1, hD1⟩ := hB
      rw [ht] at hP1
      obtain ⟨hP, hD⟩ := va_join (wr := [(im, .inl (cI, 256, .inl fi))]) (w1 := [(o, .inr (5, [.int th, .ref im, .int (bI tr), .ref rc, .ref bg, .int (nI n1272), .ref oa, .ref xa, .ref ya, .ref rg, .ref me, .ref sa, .ref pa, .ref za, .ref ca, .int (bI kp), .ref ta, .ref na])), (oa, .inl (cI, 1024, .inl fo1272)), (xa, .inl (cI, 1024, .inl fx1272)), (ya, .inl (cI, 1024, .inl fy1272))]) hP hD [0, 1, 2, 3] [4] rfl rfl (by decide) (by decide) hk1 hFc hP1 hD1
      generalize H1 = H at hP hS ⊢
      try dsimp only at e272
      have hP : va_P D vwCl [(im, .inl (cI, 256, .inl fi)), (o, .inr (5, [.int th, .ref im, .int (bI tr), .ref rc, .ref bg, .int (nI n1272), .ref oa, .ref xa, .ref ya, .ref rg, .ref me, .ref sa, .ref pa, .ref za, .ref ca, .int (bI kp), .ref ta, .ref na])), (oa, .inl (cI, 1024, .inl fo1272)), (xa, .inl (cI, 1024, .inl fx1272)), (ya, .inl (cI, 1024, .inl fy1272))] H := hP
      have hD : va_D A [(im, .inl (cI, 256, .inl fi)), (o, .inr (5, [.int th, .ref im, .int (bI tr), .ref rc, .ref bg, .int (nI n1272), .ref oa, .ref xa, .ref ya, .ref rg, .ref me, .ref sa, .ref pa, .ref za, .ref ca, .int (bI kp), .ref ta, .ref na])), (oa, .inl (cI, 1024, .inl fo1272)), (xa, .inl (cI, 1024, .inl fx1272)), (ya, .inl (cI, 1024, .inl fy1272))] := hD
      refine lv_goto (tgt := 477) hx hb d_MO_instruction_275 rfl ?_
      have hP9 : va_P D vwCl [(o, .inr (5, [.int th, .ref im, .int (bI tr), .ref rc, .ref bg, .int (nI n1272), .ref oa, .ref xa, .ref ya, .ref rg, .ref me, .ref sa, .ref pa, .ref za, .ref ca, .int (bI kp), .ref ta, .ref na])), (oa, .inl (cI, 1024, .inl fo1272)), (xa, .inl (cI, 1024, .inl fx1272)), (ya, .inl (cI, 1024, .inl fy1272)), (im, .inl (cI, 256, .inl fi))] H := hP.sub [1, 2, 3, 4, 0] rfl
      have hD9 : va_D A [(o, .inr (5, [.int th, .ref im, .int (bI tr), .ref rc, .ref bg, .int (nI n1272), .ref oa, .ref xa, .ref ya, .ref rg, .ref me, .ref sa, .ref pa, .ref za, .ref ca, .int (bI kp), .ref ta, .ref na])), (oa, .inl (cI, 1024, .inl fo1272)), (xa, .inl (cI, 1024, .inl fx1272)), (ya, .inl (cI, 1024, .inl fy1272)), (im, .inl (cI, 256, .inl fi))] := hD.sub [1, 2, 3, 4, 0] (by decide) rfl
      exact W.vret hx hb hr (fun t ht hW => ⟨⟨(n1272, fo1272, fx1272, fy1272), rfl, ⟨by rw [e272.1, instM, h21]; try rfl, by omega⟩, by rw [ht]; exact hP9, va_K.moved hW.alike hK, hD9⟩, hS.F ht⟩) hS.2.2 d_MO_instruction_477
    | 12, _, h21 =>
      have h21 : fi i = 14 := h21
      refine lv_tableIn (off := 257) (tgt := 278) hx hb d_MO_instruction_21 (by rw [h21]; decide) (by rw [h21]; decide) (by rw [h21]; rfl) rfl ?_
      refine lv_aload_n hx hb d_MO_instruction_278 rfl (lv_at hl 2 rfl) ?_
      refine lv_iconst (v := 4) hx hb d_MO_instruction_279 (by decide) ?_
      refine lv_iload_n hx hb d_MO_instruction_280 rfl (lv_at hl 0 rfl) ?_
      refine lv_bipush (v := 10) hx hb d_MO_instruction_281 (by decide) ?_
      have hPc := hP.sub (ws' := [(o, .inr (5, [.int th, .ref im, .int (bI tr), .ref rc, .ref bg, .int (nI n), .ref oa, .ref xa, .ref ya, .ref rg, .ref me, .ref sa, .ref pa, .ref za, .ref ca, .int (bI kp), .ref ta, .ref na])), (oa, .inl (cI, 1024, .inl fo)), (xa, .inl (cI, 1024, .inl fx)), (ya, .inl (cI, 1024, .inl fy))]) [0, 1, 2, 3] rfl
      have hDc := hD.sub (ws' := [(o, .inr (5, [.int th, .ref im, .int (bI tr), .ref rc, .ref bg, .int (nI n), .ref oa, .ref xa, .ref ya, .ref rg, .ref me, .ref sa, .ref pa, .ref za, .ref ca, .int (bI kp), .ref ta, .ref na])), (oa, .inl (cI, 1024, .inl fo)), (xa, .inl (cI, 1024, .inl fx)), (ya, .inl (cI, 1024, .inl fy))]) [0, 1, 2, 3] (by decide) rfl
      have hFc := va_free (wc := [(o, .inr (5, [.int th, .ref im, .int (bI tr), .ref rc, .ref bg, .int (nI n), .ref oa, .ref xa, .ref ya, .ref rg, .ref me, .ref sa, .ref pa, .ref za, .ref ca, .int (bI kp), .ref ta, .ref na])), (oa, .inl (cI, 1024, .inl fo)), (xa, .inl (cI, 1024, .inl fx)), (ya, .inl (cI, 1024, .inl fy))]) hD hS hA [0, 1, 2, 3] rfl
      refine va_callv (va_runV (As := [.int 4, .int (rd fi (nI i + 1)), .int 10]) (rest := []) ⟨hx, hb, hml, hown, hts⟩ (q_pair l D cI cZ o th im tr rc bg oa xa ya rg me sa pa za ca kp ta na n fo fx fy 4 (rd fi (nI i + 1)) 10 H.size (by omega)) ⟨cB 3 hts k_809 k_62 k_806 hd_MO_pair ⟨Nat.le_of_ble_eq_true rfl, Nat.le_of_ble_eq_true rfl⟩ rfl rfl, hts _ k_808, hts _ k_34⟩ (PcW.preV (va_recv hK hP (q0 := 0) (ci := 5) rfl rfl) hPc hK hDc hN) rfl rfl hl.1 rfl (lv_room (Nat.le_of_ble_eq_true rfl)) d_MO_instruction_283 ⟨Nat.le_of_ble_eq_true rfl, Nat.le_of_ble_eq_true rfl⟩) hS (fun q _ h => hFc q h) hFc (fun u t H1 locs ht hvm e283 hB hz1 hk1 hS => ?_)
      obtain ⟨n1283, fo1283, fx1283, fy1283⟩ := u
      obtain ⟨hP1, hK1, hD1⟩ := hB
      rw [ht] at hP1
      obtain ⟨hP, hD⟩ := va_join (wr := [(im, .inl (cI, 256, .inl fi))]) (w1 := [(o, .inr (5, [.int th, .ref im, .int (bI tr), .ref rc, .ref bg, .int (nI n1283), .ref oa, .ref xa, .ref ya, .ref rg, .ref me, .ref sa, .ref pa, .ref za, .ref ca, .int (bI kp), .ref ta, .ref na])), (oa, .inl (cI, 1024, .inl fo1283)), (xa, .inl (cI, 1024, .inl fx1283)), (ya, .inl (cI, 1024, .inl fy1283))]) hP hD [0, 1, 2, 3] [4] rfl rfl (by decide) (by decide) hk1 hFc hP1 hD1
      generalize H1 = H at hP hS ⊢
      try dsimp only at e283
      have hP : va_P D vwCl [(im, .inl (cI, 256, .inl fi)), (o, .inr (5, [.int th, .ref im, .int (bI tr), .ref rc, .ref bg, .int (nI n1283), .ref oa, .ref xa, .ref ya, .ref rg, .ref me, .ref sa, .ref pa, .ref za, .ref ca, .int (bI kp), .ref ta, .ref na])), (oa, .inl (cI, 1024, .inl fo1283)), (xa, .inl (cI, 1024, .inl fx1283)), (ya, .inl (cI, 1024, .inl fy1283))] H := hP
      have hD : va_D A [(im, .inl (cI, 256, .inl fi)), (o, .inr (5, [.int th, .ref im, .int (bI tr), .ref rc, .ref bg, .int (nI n1283), .ref oa, .ref xa, .ref ya, .ref rg, .ref me, .ref sa, .ref pa, .ref za, .ref ca, .int (bI kp), .ref ta, .ref na])), (oa, .inl (cI, 1024, .inl fo1283)), (xa, .inl (cI, 1024, .inl fx1283)), (ya, .inl (cI, 1024, .inl fy1283))] := hD
      refine lv_goto (tgt := 477) hx hb d_MO_instruction_286 rfl ?_
      have hP9 : va_P D vwCl [(o, .inr (5, [.int th, .ref im, .int (bI tr), .ref rc, .ref bg, .int (nI n1283), .ref oa, .ref xa, .ref ya, .ref rg, .ref me, .ref sa, .ref pa, .ref za, .ref ca, .int (bI kp), .ref ta, .ref na])), (oa, .inl (cI, 1024, .inl fo1283)), (xa, .inl (cI, 1024, .inl fx1283)), (ya, .inl (cI, 1024, .inl fy1283)), (im, .inl (cI, 256, .inl fi))] H := hP.sub [1, 2, 3, 4, 0] rfl
      have hD9 : va_D A [(o, .inr (5, [.int th, .ref im, .int (bI tr), .ref rc, .ref bg, .int (nI n1283), .ref oa, .ref xa, .ref ya, .ref rg, .ref me, .ref sa, .ref pa, .ref za, .ref ca, .int (bI kp), .ref ta, .ref na])), (oa, .inl (cI, 1024, .inl fo1283)), (xa, .inl (cI, 1024, .inl fx1283)), (ya, .inl (cI, 1024, .inl fy1283)), (im, .inl (cI, 256, .inl fi))] := hD.sub [1, 2, 3, 4, 0] (by decide) rfl
      exact W.vret hx hb hr (fun t ht hW => ⟨⟨(n1283, fo1283, fx1283, fy1283), rfl, ⟨by rw [e283.1, instM, h21]; try rfl, by omega⟩, by rw [ht]; exact hP9, va_K.moved hW.alike hK, hD9⟩, hS.F ht⟩) hS.2.2 d_MO_instruction_477
    | 13, _, h21 =>
      have h21 : fi i = 15 := h21
      refine lv_tableIn (off := 268) (tgt := 289) hx hb d_MO_instruction_21 (by rw [h21]; decide) (by rw [h21]; decide) (by rw [h21]; rfl) rfl ?_
      refine lv_aload_n hx hb d_MO_instruction_289 rfl (lv_at hl 2 rfl) ?_
      refine lv_iconst (v := 2) hx hb d_MO_instruction_290 (by decide) ?_
      refine lv_iload_n hx hb d_MO_instruction_291 rfl (lv_at hl 0 rfl) ?_
      refine lv_bipush (v := 11) hx hb d_MO_instruction_292 (by decide) ?_
      have hPc := hP.sub (ws' := [(o, .inr (5, [.int th, .ref im, .int (bI tr), .ref rc, .ref bg, .int (nI n), .ref oa, .ref xa, .ref ya, .ref rg, .ref me, .ref sa, .ref pa, .ref za, .ref ca, .int (bI kp), .ref ta, .ref na])), (oa, .inl (cI, 1024, .inl fo)), (xa, .inl (cI, 1024, .inl fx)), (ya, .inl (cI, 1024, .inl fy))]) [0, 1, 2, 3] rfl
      have hDc := hD.sub (ws' := [(o, .inr (5, [.int th, .ref im, .int (bI tr), .ref rc, .ref bg, .int (nI n), .ref oa, .ref xa, .ref ya, .ref rg, .ref me, .ref sa, .ref pa, .ref za, .ref ca, .int (bI kp), .ref ta, .ref na])), (oa, .inl (cI, 1024, .inl fo)), (xa, .inl (cI, 1024, .inl fx)), (ya, .inl (cI, 1024, .inl fy))]) [0, 1, 2, 3] (by decide) rfl
      have hFc := va_free (wc := [(o, .inr (5, [.int th, .ref im, .int (bI tr), .ref rc, .ref bg, .int (nI n), .ref oa, .ref xa, .ref ya, .ref rg, .ref me, .ref sa, .ref pa, .ref za, .ref ca, .int (bI kp), .ref ta, .ref na])), (oa, .inl (cI, 1024, .inl fo)), (xa, .inl (cI, 1024, .inl fx)), (ya, .inl (cI, 1024, .inl fy))]) hD hS hA [0, 1, 2, 3] rfl
      refine va_callv (va_runV (As := [.int 2, .int (rd fi (nI i + 1)), .int 11]) (rest := []) ⟨hx, hb, hml, hown, hts⟩ (q_pair l D cI cZ o th im tr rc bg oa xa ya rg me sa pa za ca kp ta na n fo fx fy 2 (rd fi (nI i + 1)) 11 H.size (by omega)) ⟨cB 3 hts k_809 k_62 k_806 hd_MO_pair ⟨Nat.le_of_ble_eq_true rfl, Nat.le_of_ble_eq_true rfl⟩ rfl rfl, hts _ k_808, hts _ k_34⟩ (PcW.preV (va_recv hK hP (q0 := 0) (ci := 5) rfl rfl) hPc hK hDc hN) rfl rfl hl.1 rfl (lv_room (Nat.le_of_ble_eq_true rfl)) d_MO_instruction_294 ⟨Nat.le_of_ble_eq_true rfl, Nat.le_of_ble_eq_true rfl⟩) hS (fun q _ h => hFc q h) hFc (fun u t H1 locs ht hvm e294 hB hz1 hk1 hS => ?_)
      obtain ⟨n1294, fo1294, fx1294, fy1294⟩ := u
      obtain ⟨hP1, hK1, hD1⟩ := hB
      rw [ht] at hP1
      obtain ⟨hP, hD⟩ := va_join (wr := [(im, .inl (cI, 256, .inl fi))]) (w1 := [(o, .inr (5, [.int th, .ref im, .int (bI tr), .ref rc, .ref bg, .int (nI n1294), .ref oa, .ref xa, .ref ya, .ref rg, .ref me, .ref sa, .ref pa, .ref za, .ref ca, .int (bI kp), .ref ta, .ref na])), (oa, .inl (cI, 1024, .inl fo1294)), (xa, .inl (cI, 1024, .inl fx1294)), (ya, .inl (cI, 1024, .inl fy1294))]) hP hD [0, 1, 2, 3] [4] rfl rfl (by decide) (by decide) hk1 hFc hP1 hD1
      generalize H1 = H at hP hS ⊢
      try dsimp only at e294
      have hP : va_P D vwCl [(im, .inl (cI, 256, .inl fi)), (o, .inr (5, [.int th, .ref im, .int (bI tr), .ref rc, .ref bg, .int (nI n1294), .ref oa, .ref xa, .ref ya, .ref rg, .ref me, .ref sa, .ref pa, .ref za, .ref ca, .int (bI kp), .ref ta, .ref na])), (oa, .inl (cI, 1024, .inl fo1294)), (xa, .inl (cI, 1024, .inl fx1294)), (ya, .inl (cI, 1024, .inl fy1294))] H := hP
      have hD : va_D A [(im, .inl (cI, 256, .inl fi)), (o, .inr (5, [.int th, .ref im, .int (bI tr), .ref rc, .ref bg, .int (nI n1294), .ref oa, .ref xa, .ref ya, .ref rg, .ref me, .ref sa, .ref pa, .ref za, .ref ca, .int (bI kp), .ref ta, .ref na])), (oa, .inl (cI, 1024, .inl fo1294)), (xa, .inl (cI, 1024, .inl fx1294)), (ya, .inl (cI, 1024, .inl fy1294))] := hD
      refine lv_goto (tgt := 477) hx hb d_MO_instruction_297 rfl ?_
      have hP9 : va_P D vwCl [(o, .inr (5, [.int th, .ref im, .int (bI tr), .ref rc, .ref bg, .int (nI n1294), .ref oa, .ref xa, .ref ya, .ref rg, .ref me, .ref sa, .ref pa, .ref za, .ref ca, .int (bI kp), .ref ta, .ref na])), (oa, .inl (cI, 1024, .inl fo1294)), (xa, .inl (cI, 1024, .inl fx1294)), (ya, .inl (cI, 1024, .inl fy1294)), (im, .inl (cI, 256, .inl fi))] H := hP.sub [1, 2, 3, 4, 0] rfl
      have hD9 : va_D A [(o, .inr (5, [.int th, .ref im, .int (bI tr), .ref rc, .ref bg, .int (nI n1294), .ref oa, .ref xa, .ref ya, .ref rg, .ref me, .ref sa, .ref pa, .ref za, .ref ca, .int (bI kp), .ref ta, .ref na])), (oa, .inl (cI, 1024, .inl fo1294)), (xa, .inl (cI, 1024, .inl fx1294)), (ya, .inl (cI, 1024, .inl fy1294)), (im, .inl (cI, 256, .inl fi))] := hD.sub [1, 2, 3, 4, 0] (by decide) rfl
      exact W.vret hx hb hr (fun t ht hW => ⟨⟨(n1294, fo1294, fx1294, fy1294), rfl, ⟨by rw [e294.1, instM, h21]; try rfl, by omega⟩, by rw [ht]; exact hP9, va_K.moved hW.alike hK, hD9⟩, hS.F ht⟩) hS.2.2 d_MO_instruction_477
    | 14, _, h21 =>
      have h21 : fi i = 16 := h21
      refine lv_tableIn (off := 279) (tgt := 300) hx hb d_MO_instruction_21 (by rw [h21]; decide) (by rw [h21]; decide) (by rw [h21]; rfl) rfl ?_
      refine lv_aload_n hx hb d_MO_instruction_300 rfl (lv_at hl 2 rfl) ?_
      refine lv_iconst (v := 4) hx hb d_MO_instruction_301 (by decide) ?_
      refine lv_iload_n hx hb d_MO_instruction_302 rfl (lv_at hl 0 rfl) ?_
      refine lv_bipush (v := 11) hx hb d_MO_instruction_303 (by decide) ?_
      have hPc := hP.sub (ws' := [(o, .inr (5, [.int th, .ref im, .int (bI tr), .ref rc, .ref bg, .int (nI n), .ref oa, .ref xa, .ref ya, .ref rg, .ref me, .ref sa, .ref pa, .ref za, .ref ca, .int (bI kp), .ref ta, .ref na])), (oa, .inl (cI, 1024, .inl fo)), (xa, .inl (cI, 1024, .inl fx)), (ya, .inl (cI, 1024, .inl fy))]) [0, 1, 2, 3] rfl
      have hDc := hD.sub (ws' := [(o, .inr (5, [.int th, .ref im, .int (bI tr), .ref rc, .ref bg, .int (nI n), .ref oa, .ref xa, .ref ya, .ref rg, .ref me, .ref sa, .ref pa, .ref za, .ref ca, .int (bI kp), .ref ta, .ref na])), (oa, .inl (cI, 1024, .inl fo)), (xa, .inl (cI, 1024, .inl fx)), (ya, .inl (cI, 1024, .inl fy))]) [0, 1, 2, 3] (by decide) rfl
      have hFc := va_free (wc := [(o, .inr (5, [.int th, .ref im, .int (bI tr), .ref rc, .ref bg, .int (nI n), .ref oa, .ref xa, .ref ya, .ref rg, .ref me, .ref sa, .ref pa, .ref za, .ref ca, .int (bI kp), .ref ta, .ref na])), (oa, .inl (cI, 1024, .inl fo)), (xa, .inl (cI, 1024, .inl fx)), (ya, .inl (cI, 1024, .inl fy))]) hD hS hA [0, 1, 2, 3] rfl
      refine va_callv (va_runV (As := [.int 4, .int (rd fi (nI i + 1)), .int 11]) (rest := []) ⟨hx, hb, hml, hown, hts⟩ (q_pair l D cI cZ o th im tr rc bg oa xa ya rg me sa pa za ca kp ta na n fo fx fy 4 (rd fi (nI i + 1)) 11 H.size (by omega)) ⟨cB 3 hts k_809 k_62 k_806 hd_MO_pair ⟨Nat.le_of_ble_eq_true rfl, Nat.le_of_ble_eq_true rfl⟩ rfl rfl, hts _ k_808, hts _ k_34⟩ (PcW.preV (va_recv hK hP (q0 := 0) (ci := 5) rfl rfl) hPc hK hDc hN) rfl rfl hl.1 rfl (lv_room (Nat.le_of_ble_eq_true rfl)) d_MO_instruction_305 ⟨Nat.le_of_ble_eq_true rfl, Nat.le_of_ble_eq_true rfl⟩) hS (fun q _ h => hFc q h) hFc (fun u t H1 locs ht hvm e305 hB hz1 hk1 hS => ?_)
      obtain ⟨n1305, fo1305, fx1305, fy1305⟩ := u
      obtain ⟨hP1, hK1, hD1⟩ := hB
      rw [ht] at hP1
      obtain ⟨hP, hD⟩ := va_join (wr := [(im, .inl (cI, 256, .inl fi))]) (w1 := [(o, .inr (5, [.int th, .ref im, .int (bI tr), .ref rc, .ref bg, .int (nI n1305), .ref oa, .ref xa, .ref ya, .ref rg, .ref me, .ref sa, .ref pa, .ref za, .ref ca, .int (bI kp), .ref ta, .ref na])), (oa, .inl (cI, 1024, .inl fo1305)), (xa, .inl (cI, 1024, .inl fx1305)), (ya, .inl (cI, 1024, .inl fy1305))]) hP hD [0, 1, 2, 3] [4] rfl rfl (by decide) (by decide) hk1 hFc hP1 hD1
      generalize H1 = H at hP hS ⊢
      try dsimp only at e305
      have hP : va_P D vwCl [(im, .inl (cI, 256, .inl fi)), (o, .inr (5, [.int th, .ref im, .int (bI tr), .ref rc, .ref bg, .int (nI n1305), .ref oa, .ref xa, .ref ya, .ref rg, .ref me, .ref sa, .ref pa, .ref za, .ref ca, .int (bI kp), .ref ta, .ref na])), (oa, .inl (cI, 1024, .inl fo1305)), (xa, .inl (cI, 1024, .inl fx1305)), (ya, .inl (cI, 1024, .inl fy1305))] H := hP
      have hD : va_D A [(im, .inl (cI, 256, .inl fi)), (o, .inr (5, [.int th, .ref im, .int (bI tr), .ref rc, .ref bg, .int (nI n1305), .ref oa, .ref xa, .ref ya, .ref rg, .ref me, .ref sa, .ref pa, .ref za, .ref ca, .int (bI kp), .ref ta, .ref na])), (oa, .inl (cI, 1024, .inl fo1305)), (xa, .inl (cI, 1024, .inl fx1305)), (ya, .inl (cI, 1024, .inl fy1305))] := hD
      refine lv_goto (tgt := 477) hx hb d_MO_instruction_308 rfl ?_
      have hP9 : va_P D vwCl [(o, .inr (5, [.int th, .ref im, .int (bI tr), .ref rc, .ref bg, .int (nI n1305), .ref oa, .ref xa, .ref ya, .ref rg, .ref me, .ref sa, .ref pa, .ref za, .ref ca, .int (bI kp), .ref ta, .ref na])), (oa, .inl (cI, 1024, .inl fo1305)), (xa, .inl (cI, 1024, .inl fx1305)), (ya, .inl (cI, 1024, .inl fy1305)), (im, .inl (cI, 256, .inl fi))] H := hP.sub [1, 2, 3, 4, 0] rfl
      have hD9 : va_D A [(o, .inr (5, [.int th, .ref im, .int (bI tr), .ref rc, .ref bg, .int (nI n1305), .ref oa, .ref xa, .ref ya, .ref rg, .ref me, .ref sa, .ref pa, .ref za, .ref ca, .int (bI kp), .ref ta, .ref na])), (oa, .inl (cI, 1024, .inl fo1305)), (xa, .inl (cI, 1024, .inl fx1305)), (ya, .inl (cI, 1024, .inl fy1305)), (im, .inl (cI, 256, .inl fi))] := hD.sub [1, 2, 3, 4, 0] (by decide) rfl
      exact W.vret hx hb hr (fun t ht hW => ⟨⟨(n1305, fo1305, fx1305, fy1305), rfl, ⟨by rw [e305.1, instM, h21]; try rfl, by omega⟩, by rw [ht]; exact hP9, va_K.moved hW.alike hK, hD9⟩, hS.F ht⟩) hS.2.2 d_MO_instruction_477
    | 15, _, h21 =>
      have h21 : fi i = 17 := h21
      refine lv_tableIn (off := 290) (tgt := 311) hx hb d_MO_instruction_21 (by rw [h21]; decide) (by rw [h21]; decide) (by rw [h21]; rfl) rfl ?_
      refine lv_aload_n hx hb d_MO_instruction_311 rfl (lv_at hl 2 rfl) ?_
      refine lv_iconst (v := 2) hx hb d_MO_instruction_312 (by decide) ?_
      refine lv_iload_n hx hb d_MO_instruction_313 rfl (lv_at hl 0 rfl) ?_
      refine lv_bipush (v := 12) hx hb d_MO_instruction_314 (by decide) ?_
      have hPc := hP.sub (ws' := [(o, .inr (5, [.int th, .ref im, .int (bI tr), .ref rc, .ref bg, .int (nI n), .ref oa, .ref xa, .ref ya, .ref rg, .ref me, .ref sa, .ref pa, .ref za, .ref ca, .int (bI kp), .ref ta, .ref na])), (oa, .inl (cI, 1024, .inl fo)), (xa, .inl (cI, 1024, .inl fx)), (ya, .inl (cI, 1024, .inl fy))]) [0, 1, 2, 3] rfl
      have hDc := hD.sub (ws' := [(o, .inr (5, [.int th, .ref im, .int (bI tr), .ref rc, .ref bg, .int (nI n), .ref oa, .ref xa, .ref ya, .ref rg, .ref me, .ref sa, .ref pa, .ref za, .ref ca, .int (bI kp), .ref ta, .ref na])), (oa, .inl (cI, 1024, .inl fo)), (xa, .inl (cI, 1024, .inl fx)), (ya, .inl (cI, 1024, .inl fy))]) [0, 1, 2, 3] (by decide) rfl
      have hFc := va_free (wc := [(o, .inr (5, [.int th, .ref im, .int (bI tr), .ref rc, .ref bg, .int (nI n), .ref oa, .ref xa, .ref ya, .ref rg, .ref me, .ref sa, .ref pa, .ref za, .ref ca, .int (bI kp), .ref ta, .ref na])), (oa, .inl (cI, 1024, .inl fo)), (xa, .inl (cI, 1024, .inl fx)), (ya, .inl (cI, 1024, .inl fy))]) hD hS hA [0, 1, 2, 3] rfl
      refine va_callv (va_runV (As := [.int 2, .int (rd fi (nI i + 1)), .int 12]) (rest := []) ⟨hx, hb, hml, hown, hts⟩ (q_pair l D cI cZ o th im tr rc bg oa xa ya rg me sa pa za ca kp ta na n fo fx fy 2 (rd fi (nI i + 1)) 12 H.size (by omega)) ⟨cB 3 hts k_809 k_62 k_806 hd_MO_pair ⟨Nat.le_of_ble_eq_true rfl, Nat.le_of_ble_eq_true rfl⟩ rfl rfl, hts _ k_808, hts _ k_34⟩ (PcW.preV (va_recv hK hP (q0 := 0) (ci := 5) rfl rfl) hPc hK hDc hN) rfl rfl hl.1 rfl (lv_room (Nat.le_of_ble_eq_true rfl)) d_MO_instruction_316 ⟨Nat.le_of_ble_eq_true rfl, Nat.le_of_ble_eq_true rfl⟩) hS (fun q _ h => hFc q h) hFc (fun u t H1 locs ht hvm e316 hB hz1 hk1 hS => ?_)
      obtain ⟨n1316, fo1316, fx1316, fy1316⟩ := u
      obtain ⟨hP1, hK1, hD1⟩ := hB
      rw [ht] at hP1
      obtain ⟨hP, hD⟩ := va_join (wr := [(im, .inl (cI, 256, .inl fi))]) (w1 := [(o, .inr (5, [.int th, .ref im, .int (bI tr), .ref rc, .ref bg, .int (nI n1316), .ref oa, .ref xa, .ref ya, .ref rg, .ref me, .ref sa, .ref pa, .ref za, .ref ca, .int (bI kp), .ref ta, .ref na])), (oa, .inl (cI, 1024, .inl fo1316)), (xa, .inl (cI, 1024, .inl fx1316)), (ya, .inl (cI, 1024, .inl fy1316))]) hP hD [0, 1, 2, 3] [4] rfl rfl (by decide) (by decide) hk1 hFc hP1 hD1
      generalize H1 = H at hP hS ⊢
      try dsimp only at e316
      have hP : va_P D vwCl [(im, .inl (cI, 256, .inl fi)), (o, .inr (5, [.int th, .ref im, .int (bI tr), .ref rc, .ref bg, .int (nI n1316), .ref oa, .ref xa, .ref ya, .ref rg, .ref me, .ref sa, .ref pa, .ref za, .ref ca, .int (bI kp), .ref ta, .ref na])), (oa, .inl (cI, 1024, .inl fo1316)), (xa, .inl (cI, 1024, .inl fx1316)), (ya, .inl (cI, 1024, .inl fy1316))] H := hP
      have hD : va_D A [(im, .inl (cI, 256, .inl fi)), (o, .inr (5, [.int th, .ref im, .int (bI tr), .ref rc, .ref bg, .int (nI n1316), .ref oa, .ref xa, .ref ya, .ref rg, .ref me, .ref sa, .ref pa, .ref za, .ref ca, .int (bI kp), .ref ta, .ref na])), (oa, .inl (cI, 1024, .inl fo1316)), (xa, .inl (cI, 1024, .inl fx1316)), (ya, .inl (cI, 1024, .inl fy1316))] := hD
      refine lv_goto (tgt := 477) hx hb d_MO_instruction_319 rfl ?_
      have hP9 : va_P D vwCl [(o, .inr (5, [.int th, .ref im, .int (bI tr), .ref rc, .ref bg, .int (nI n1316), .ref oa, .ref xa, .ref ya, .ref rg, .ref me, .ref sa, .ref pa, .ref za, .ref ca, .int (bI kp), .ref ta, .ref na])), (oa, .inl (cI, 1024, .inl fo1316)), (xa, .inl (cI, 1024, .inl fx1316)), (ya, .inl (cI, 1024, .inl fy1316)), (im, .inl (cI, 256, .inl fi))] H := hP.sub [1, 2, 3, 4, 0] rfl
      have hD9 : va_D A [(o, .inr (5, [.int th, .ref im, .int (bI tr), .ref rc, .ref bg, .int (nI n1316), .ref oa, .ref xa, .ref ya, .ref rg, .ref me, .ref sa, .ref pa, .ref za, .ref ca, .int (bI kp), .ref ta, .ref na])), (oa, .inl (cI, 1024, .inl fo1316)), (xa, .inl (cI, 1024, .inl fx1316)), (ya, .inl (cI, 1024, .inl fy1316)), (im, .inl (cI, 256, .inl fi))] := hD.sub [1, 2, 3, 4, 0] (by decide) rfl
      exact W.vret hx hb hr (fun t ht hW => ⟨⟨(n1316, fo1316, fx1316, fy1316), rfl, ⟨by rw [e316.1, instM, h21]; try rfl, by omega⟩, by rw [ht]; exact hP9, va_K.moved hW.alike hK, hD9⟩, hS.F ht⟩) hS.2.2 d_MO_instruction_477
    | 16, _, h21 =>
      have h21 : fi i = 18 := h21
      refine lv_tableIn (off := 301) (tgt := 322) hx hb d_MO_instruction_21 (by rw [h21]; decide) (by rw [h21]; decide) (by rw [h21]; rfl) rfl ?_
      refine lv_aload_n hx hb d_MO_instruction_322 rfl (lv_at hl 2 rfl) ?_
      refine lv_iconst (v := 2) hx hb d_MO_instruction_323 (by decide) ?_
      refine lv_iload_n hx hb d_MO_instruction_324 rfl (lv_at hl 0 rfl) ?_
      refine lv_bipush (v := 13) hx hb d_MO_instruction_325 (by decide) ?_
      have hPc := hP.sub (ws' := [(o, .inr (5, [.int th, .ref im, .int (bI tr), .ref rc, .ref bg, .int (nI n), .ref oa, .ref xa, .ref ya, .ref rg, .ref me, .ref sa, .ref pa, .ref za, .ref ca, .int (bI kp), .ref ta, .ref na])), (oa, .inl (cI, 1024, .inl fo)), (xa, .inl (cI, 1024, .inl fx)), (ya, .inl (cI, 1024, .inl fy))]) [0, 1, 2, 3] rfl
      have hDc := hD.sub (ws' := [(o, .inr (5, [.int th, .ref im, .int (bI tr), .ref rc, .ref bg, .int (nI n), .ref oa, .ref xa, .ref ya, .ref rg, .ref me, .ref sa, .ref pa, .ref za, .ref ca, .int (bI kp), .ref ta, .ref na])), (oa, .inl (cI, 1024, .inl fo)), (xa, .inl (cI, 1024, .inl fx)), (ya, .inl (cI, 1024, .inl fy))]) [0, 1, 2, 3] (by decide) rfl
      have hFc := va_free (wc := [(o, .inr (5, [.int th, .ref im, .int (bI tr), .ref rc, .ref bg, .int (nI n), .ref oa, .ref xa, .ref ya, .ref rg, .ref me, .ref sa, .ref pa, .ref za, .ref ca, .int (bI kp), .ref ta, .ref na])), (oa, .inl (cI, 1024, .inl fo)), (xa, .inl (cI, 1024, .inl fx)), (ya, .inl (cI, 1024, .inl fy))]) hD hS hA [0, 1, 2, 3] rfl
      refine va_callv (va_runV (As := [.int 2, .int (rd fi (nI i + 1)), .int 13]) (rest := []) ⟨hx, hb, hml, hown, hts⟩ (q_pair l D cI cZ o th im tr rc bg oa xa ya rg me sa pa za ca kp ta na n fo fx fy 2 (rd fi (nI i + 1)) 13 H.size (by omega)) ⟨cB 3 hts k_809 k_62 k_806 hd_MO_pair ⟨Nat.le_of_ble_eq_true rfl, Nat.le_of_ble_eq_true rfl⟩ rfl rfl, hts _ k_808, hts _ k_34⟩ (PcW.preV (va_recv hK hP (q0 := 0) (ci := 5) rfl rfl) hPc hK hDc hN) rfl rfl hl.1 rfl (lv_room (Nat.le_of_ble_eq_true rfl)) d_MO_instruction_327 ⟨Nat.le_of_ble_eq_true rfl, Nat.le_of_ble_eq_true rfl⟩) hS (fun q _ h => hFc q h) hFc (fun u t H1 locs ht hvm e327 hB hz1 hk1 hS => ?_)
      obtain ⟨n1327, fo1327, fx1327, fy1327⟩ := u
      obtain ⟨hP1, hK1, hD1⟩ := hB
      rw [ht] at hP1
      obtain ⟨hP, hD⟩ := va_join (wr := [(im, .inl (cI, 256, .inl fi))]) (w1 := [(o, .inr (5, [.int th, .ref im, .int (bI tr), .ref rc, .ref bg, .int (nI n1327), .ref oa, .ref xa, .ref ya, .ref rg, .ref me, .ref sa, .ref pa, .ref za, .ref ca, .int (bI kp), .ref ta, .ref na])), (oa, .inl (cI, 1024, .inl fo1327)), (xa, .inl (cI, 1024, .inl fx1327)), (ya, .inl (cI, 1024, .inl fy1327))]) hP hD [0, 1, 2, 3] [4] rfl rfl (by decide) (by decide) hk1 hFc hP1 hD1
      generalize H1 = H at hP hS ⊢
      try dsimp only at e327
      have hP : va_P D vwCl [(im, .inl (cI, 256, .inl fi)), (o, .inr (5, [.int th, .ref im, .int (bI tr), .ref rc, .ref bg, .int (nI n1327), .ref oa, .ref xa, .ref ya, .ref rg, .ref me, .ref sa, .ref pa, .ref za, .ref ca, .int (bI kp), .ref ta, .ref na])), (oa, .inl (cI, 1024, .inl fo1327)), (xa, .inl (cI, 1024, .inl fx1327)), (ya, .inl (cI, 1024, .inl fy1327))] H := hP
      have hD : va_D A [(im, .inl (cI, 256, .inl fi)), (o, .inr (5, [.int th, .ref im, .int (bI tr), .ref rc, .ref bg, .int (nI n1327), .ref oa, .ref xa, .ref ya, .ref rg, .ref me, .ref sa, .ref pa, .ref za, .ref ca, .int (bI kp), .ref ta, .ref na])), (oa, .inl (cI, 1024, .inl fo1327)), (xa, .inl (cI, 1024, .inl fx1327)), (ya, .inl (cI, 1024, .inl fy1327))] := hD
      refine lv_goto (tgt := 477) hx hb d_MO_instruction_330 rfl ?_
      have hP9 : va_P D vwCl [(o, .inr (5, [.int th, .ref im, .int (bI tr), .ref rc, .ref bg, .int (nI n1327), .ref oa, .ref xa, .ref ya, .ref rg, .ref me, .ref sa, .ref pa, .ref za, .ref ca, .int (bI kp), .ref ta, .ref na])), (oa, .inl (cI, 1024, .inl fo1327)), (xa, .inl (cI, 1024, .inl fx1327)), (ya, .inl (cI, 1024, .inl fy1327)), (im, .inl (cI, 256, .inl fi))] H := hP.sub [1, 2, 3, 4, 0] rfl
      have hD9 : va_D A [(o, .inr (5, [.int th, .ref im, .int (bI tr), .ref rc, .ref bg, .int (nI n1327), .ref oa, .ref xa, .ref ya, .ref rg, .ref me, .ref sa, .ref pa, .ref za, .ref ca, .int (bI kp), .ref ta, .ref na])), (oa, .inl (cI, 1024, .inl fo1327)), (xa, .inl (cI, 1024, .inl fx1327)), (ya, .inl (cI, 1024, .inl fy1327)), (im, .inl (cI, 256, .inl fi))] := hD.sub [1, 2, 3, 4, 0] (by decide) rfl
      exact W.vret hx hb hr (fun t ht hW => ⟨⟨(n1327, fo1327, fx1327, fy1327), rfl, ⟨by rw [e327.1, instM, h21]; try rfl, by omega⟩, by rw [ht]; exact hP9, va_K.moved hW.alike hK, hD9⟩, hS.F ht⟩) hS.2.2 d_MO_instruction_477
    | 17, _, h21 =>
      have h21 : fi i = 19 := h21
      refine lv_tableIn (off := 312) (tgt := 333) hx hb d_MO_instruction_21 (by rw [h21]; decide) (by rw [h21]; decide) (by rw [h21]; rfl) rfl ?_
      refine lv_aload_n hx hb d_MO_instruction_333 rfl (lv_at hl 2 rfl) ?_
      refine lv_iconst (v := 2) hx hb d_MO_instruction_334 (by decide) ?_
      refine lv_iload_n hx hb d_MO_instruction_335 rfl (lv_at hl 0 rfl) ?_
      refine lv_bipush (v := 14) hx hb d_MO_instruction_336 (by decide) ?_
      have hPc := hP.sub (ws' := [(o, .inr (5, [.int th, .ref im, .int (bI tr), .ref rc, .ref bg, .int (nI n), .ref oa, .ref xa, .ref ya, .ref rg, .ref me, .ref sa, .ref pa, .ref za, .ref ca, .int (bI kp), .ref ta, .ref na])), (oa, .inl (cI, 1024, .inl fo)), (xa, .inl (cI, 1024, .inl fx)), (ya, .inl (cI, 1024, .inl fy))]) [0, 1, 2, 3] rfl
      have hDc := hD.sub (ws' := [(o, .inr (5, [.int th, .ref im, .int (bI tr), .ref rc, .ref bg, .int (nI n), .ref oa, .ref xa, .ref ya, .ref rg, .ref me, .ref sa, .ref pa, .ref za, .ref ca, .int (bI kp), .ref ta, .ref na])), (oa, .inl (cI, 1024, .inl fo)), (xa, .inl (cI, 1024, .inl fx)), (ya, .inl (cI, 1024, .inl fy))]) [0, 1, 2, 3] (by decide) rfl
      have hFc := va_free (wc := [(o, .inr (5, [.int th, .ref im, .int (bI tr), .ref rc, .ref bg, .int (nI n), .ref oa, .ref xa, .ref ya, .ref rg, .ref me, .ref sa, .ref pa, .ref za, .ref ca, .int (bI kp), .ref ta, .ref na])), (oa, .inl (cI, 1024, .inl fo)), (xa, .inl (cI, 1024, .inl fx)), (ya, .inl (cI, 1024, .inl fy))]) hD hS hA [0, 1, 2, 3] rfl
      refine va_callv (va_runV (As := [.int 2, .int (rd fi (nI i + 1)), .int 14]) (rest := []) ⟨hx, hb, hml, hown, hts⟩ (q_pair l D cI cZ o th im tr rc bg oa xa ya rg me sa pa za ca kp ta na n fo fx fy 2 (rd fi (nI i + 1)) 14 H.size (by omega)) ⟨cB 3 hts k_809 k_62 k_806 hd_MO_pair ⟨Nat.le_of_ble_eq_true rfl, Nat.le_of_ble_eq_true rfl⟩ rfl rfl, hts _ k_808, hts _ k_34⟩ (PcW.preV (va_recv hK hP (q0 := 0) (ci := 5) rfl rfl) hPc hK hDc hN) rfl rfl hl.1 rfl (lv_room (Nat.le_of_ble_eq_true rfl)) d_MO_instruction_338 ⟨Nat.le_of_ble_eq_true rfl, Nat.le_of_ble_eq_true rfl⟩) hS (fun q _ h => hFc q h) hFc (fun u t H1 locs ht hvm e338 hB hz1 hk1 hS => ?_)
      obtain ⟨n1338, fo1338, fx1338, fy1338⟩ := u
      obtain ⟨hP1, hK1, hD1⟩ := hB
      rw [ht] at hP1
      obtain ⟨hP, hD⟩ := va_join (wr := [(im, .inl (cI, 256, .inl fi))]) (w1 := [(o, .inr (5, [.int th, .ref im, .int (bI tr), .ref rc, .ref bg, .int (nI n1338), .ref oa, .ref xa, .ref ya, .ref rg, .ref me, .ref sa, .ref pa, .ref za, .ref ca, .int (bI kp), .ref ta, .ref na])), (oa, .inl (cI, 1024, .inl fo1338)), (xa, .inl (cI, 1024, .inl fx1338)), (ya, .inl (cI, 1024, .inl fy1338))]) hP hD [0, 1, 2, 3] [4] rfl rfl (by decide) (by decide) hk1 hFc hP1 hD1
      generalize H1 = H at hP hS ⊢
      try dsimp only at e338
      have hP : va_P D vwCl [(im, .inl (cI, 256, .inl fi)), (o, .inr (5, [.int th, .ref im, .int (bI tr), .ref rc, .ref bg, .int (nI n1338), .ref oa, .ref xa, .ref ya, .ref rg, .ref me, .ref sa, .ref pa, .ref za, .ref ca, .int (bI kp), .ref ta, .ref na])), (oa, .inl (cI, 1024, .inl fo1338)), (xa, .inl (cI, 1024, .inl fx1338)), (ya, .inl (cI, 1024, .inl fy1338))] H := hP
      have hD : va_D A [(im, .inl (cI, 256, .inl fi)), (o, .inr (5, [.int th, .ref im, .int (bI tr), .ref rc, .ref bg, .int (nI n1338), .ref oa, .ref xa, .ref ya, .ref rg, .ref me, .ref sa, .ref pa, .ref za, .ref ca, .int (bI kp), .ref ta, .ref na])), (oa, .inl (cI, 1024, .inl fo1338)), (xa, .inl (cI, 1024, .inl fx1338)), (ya, .inl (cI, 1024, .inl fy1338))] := hD
      refine lv_goto (tgt := 477) hx hb d_MO_instruction_341 rfl ?_
      have hP9 : va_P D vwCl [(o, .inr (5, [.int th, .ref im, .int (bI tr), .ref rc, .ref bg, .int (nI n1338), .ref oa, .ref xa, .ref ya, .ref rg, .ref me, .ref sa, .ref pa, .ref za, .ref ca, .int (bI kp), .ref ta, .ref na])), (oa, .inl (cI, 1024, .inl fo1338)), (xa, .inl (cI, 1024, .inl fx1338)), (ya, .inl (cI, 1024, .inl fy1338)), (im, .inl (cI, 256, .inl fi))] H := hP.sub [1, 2, 3, 4, 0] rfl
      have hD9 : va_D A [(o, .inr (5, [.int th, .ref im, .int (bI tr), .ref rc, .ref bg, .int (nI n1338), .ref oa, .ref xa, .ref ya, .ref rg, .ref me, .ref sa, .ref pa, .ref za, .ref ca, .int (bI kp), .ref ta, .ref na])), (oa, .inl (cI, 1024, .inl fo1338)), (xa, .inl (cI, 1024, .inl fx1338)), (ya, .inl (cI, 1024, .inl fy1338)), (im, .inl (cI, 256, .inl fi))] := hD.sub [1, 2, 3, 4, 0] (by decide) rfl
      exact W.vret hx hb hr (fun t ht hW => ⟨⟨(n1338, fo1338, fx1338, fy1338), rfl, ⟨by rw [e338.1, instM, h21]; try rfl, by omega⟩, by rw [ht]; exact hP9, va_K.moved hW.alike hK, hD9⟩, hS.F ht⟩) hS.2.2 d_MO_instruction_477
    | 18, _, h21 =>
      have h21 : fi i = 20 := h21
      refine lv_tableIn (off := 323) (tgt := 344) hx hb d_MO_instruction_21 (by rw [h21]; decide) (by rw [h21]; decide) (by rw [h21]; rfl) rfl ?_
      refine lv_aload_n hx hb d_MO_instruction_344 rfl (lv_at hl 2 rfl) ?_
      refine lv_bipush (v := 15) hx hb d_MO_instruction_345 (by decide) ?_
      refine lv_iconst (v := 0) hx hb d_MO_instruction_347 (by decide) ?_
      refine lv_iconst (v := 0) hx hb d_MO_instruction_348 (by decide) ?_
      have hPc := hP.sub (ws' := [(o, .inr (5, [.int th, .ref im, .int (bI tr), .ref rc, .ref bg, .int (nI n), .ref oa, .ref xa, .ref ya, .ref rg, .ref me, .ref sa, .ref pa, .ref za, .ref ca, .int (bI kp), .ref ta, .ref na])), (oa, .inl (cI, 1024, .inl fo)), (xa, .inl (cI, 1024, .inl fx)), (ya, .inl (cI, 1024, .inl fy))]) [0, 1, 2, 3] rfl
      have hDc := hD.sub (ws' := [(o, .inr (5, [.int th, .ref im, .int (bI tr), .ref rc, .ref bg, .int (nI n), .ref oa, .ref xa, .ref ya, .ref rg, .ref me, .ref sa, .ref pa, .ref za, .ref ca, .int (bI kp), .ref ta, .ref na])), (oa, .inl (cI, 1024, .inl fo)), (xa, .inl (cI, 1024, .inl fx)), (ya, .inl (cI, 1024, .inl fy))]) [0, 1, 2, 3] (by decide) rfl
      have hFc := va_free (wc := [(o, .inr (5, [.int th, .ref im, .int (bI tr), .ref rc, .ref bg, .int (nI n), .ref oa, .ref xa, .ref ya, .ref rg, .ref me, .ref sa, .ref pa, .ref za, .ref ca, .int (bI kp), .ref ta, .ref na])), (oa, .inl (cI, 1024, .inl fo)), (xa, .inl (cI, 1024, .inl fx)), (ya, .inl (cI, 1024, .inl fy))]) hD hS hA [0, 1, 2, 3] rfl
      refine va_callv (va_runV (As := [.int 15, .int 0, .int 0]) (rest := []) ⟨hx, hb, hml, hown, hts⟩ (q_row l D cI cZ o th im tr rc bg oa xa ya rg me sa pa za ca kp ta na n fo fx fy 15 0 0 H.size (by omega)) ⟨cB 3 hts k_801 k_62 k_798 hd_MO_row ⟨Nat.le_of_ble_eq_true rfl, Nat.le_of_ble_eq_true rfl⟩ rfl rfl, hts _ k_800, hts _ k_32⟩ (PcW.preV (va_recv hK hP (q0 := 0) (ci := 5) rfl rfl) hPc hK hDc hN) rfl rfl hl.1 rfl (lv_room (Nat.le_of_ble_eq_true rfl)) d_MO_instruction_349 ⟨Nat.le_of_ble_eq_true rfl, Nat.le_of_ble_eq_true rfl⟩) hS (fun q _ h => hFc q h) hFc (fun u t H1 locs ht hvm e349 hB hz1 hk1 hS => ?_)
      obtain ⟨n1349, fo1349, fx1349, fy1349⟩ := u
      obtain ⟨hP1, hK1, hD1⟩ := hB
      rw [ht] at hP1
      obtain ⟨hP, hD⟩ := va_join (wr := [(im, .inl (cI, 256, .inl fi))]) (w1 := [(o, .inr (5, [.int th, .ref im, .int (bI tr), .ref rc, .ref bg, .int (nI n1349), .ref oa, .ref xa, .ref ya, .ref rg, .ref me, .ref sa, .ref pa, .ref za, .ref ca, .int (bI kp), .ref ta, .ref na])), (oa, .inl (cI, 1024, .inl fo1349)), (xa, .inl (cI, 1024, .inl fx1349)), (ya, .inl (cI, 1024, .inl fy1349))]) hP hD [0, 1, 2, 3] [4] rfl rfl (by decide) (by decide) hk1 hFc hP1 hD1
      generalize H1 = H at hP hS ⊢
      try dsimp only at e349
      have hP : va_P D vwCl [(im, .inl (cI, 256, .inl fi)), (o, .inr (5, [.int th, .ref im, .int (bI tr), .ref rc, .ref bg, .int (nI n1349), .ref oa, .ref xa, .ref ya, .ref rg, .ref me, .ref sa, .ref pa, .ref za, .ref ca, .int (bI kp), .ref ta, .ref na])), (oa, .inl (cI, 1024, .inl fo1349)), (xa, .inl (cI, 1024, .inl fx1349)), (ya, .inl (cI, 1024, .inl fy1349))] H := hP
      have hD : va_D A [(im, .inl (cI, 256, .inl fi)), (o, .inr (5, [.int th, .ref im, .int (bI tr), .ref rc, .ref bg, .int (nI n1349), .ref oa, .ref xa, .ref ya, .ref rg, .ref me, .ref sa, .ref pa, .ref za, .ref ca, .int (bI kp), .ref ta, .ref na])), (oa, .inl (cI, 1024, .inl fo1349)), (xa, .inl (cI, 1024, .inl fx1349)), (ya, .inl (cI, 1024, .inl fy1349))] := hD
      refine lv_goto (tgt := 477) hx hb d_MO_instruction_352 rfl ?_
      have hP9 : va_P D vwCl [(o, .inr (5, [.int th, .ref im, .int (bI tr), .ref rc, .ref bg, .int (nI n1349), .ref oa, .ref xa, .ref ya, .ref rg, .ref me, .ref sa, .ref pa, .ref za, .ref ca, .int (bI kp), .ref ta, .ref na])), (oa, .inl (cI, 1024, .inl fo1349)), (xa, .inl (cI, 1024, .inl fx1349)), (ya, .inl (cI, 1024, .inl fy1349)), (im, .inl (cI, 256, .inl fi))] H := hP.sub [1, 2, 3, 4, 0] rfl
      have hD9 : va_D A [(o, .inr (5, [.int th, .ref im, .int (bI tr), .ref rc, .ref bg, .int (nI n1349), .ref oa, .ref xa, .ref ya, .ref rg, .ref me, .ref sa, .ref pa, .ref za, .ref ca, .int (bI kp), .ref ta, .ref na])), (oa, .inl (cI, 1024, .inl fo1349)), (xa, .inl (cI, 1024, .inl fx1349)), (ya, .inl (cI, 1024, .inl fy1349)), (im, .inl (cI, 256, .inl fi))] := hD.sub [1, 2, 3, 4, 0] (by decide) rfl
      exact W.vret hx hb hr (fun t ht hW => ⟨⟨(n1349, fo1349, fx1349, fy1349), rfl, ⟨by rw [e349.1, instM, h21]; try rfl, by omega⟩, by rw [ht]; exact hP9, va_K.moved hW.alike hK, hD9⟩, hS.F ht⟩) hS.2.2 d_MO_instruction_477
    | 19, _, h21 =>
      have h21 : fi i = 21 := h21
      refine lv_tableIn (off := 334) (tgt := 355) hx hb d_MO_instruction_21 (by rw [h21]; decide) (by rw [h21]; decide) (by rw [h21]; rfl) rfl ?_
      refine lv_aload_n hx hb d_MO_instruction_355 rfl (lv_at hl 2 rfl) ?_
      refine lv_bipush (v := 16) hx hb d_MO_instruction_356 (by decide) ?_
      refine lv_iconst (v := 0) hx hb d_MO_instruction_358 (by decide) ?_
      refine lv_iconst (v := 0) hx hb d_MO_instruction_359 (by decide) ?_
      have hPc := hP.sub (ws' := [(o, .inr (5, [.int th, .ref im, .int (bI tr), .ref rc, .ref bg, .int (nI n), .ref oa, .ref xa, .ref ya, .ref rg, .ref me, .ref sa, .ref pa, .ref za, .ref ca, .int (bI kp), .ref ta, .ref na])), (oa, .inl (cI, 1024, .inl fo)), (xa, .inl (cI, 1024, .inl fx)), (ya, .inl (cI, 1024, .inl fy))]) [0, 1, 2, 3] rfl
      have hDc := hD.sub (ws' := [(o, .inr (5, [.int th, .ref im, .int (bI tr), .ref rc, .ref bg, .int (nI n), .ref oa, .ref xa, .ref ya, .ref rg, .ref me, .ref sa, .ref pa, .ref za, .ref ca, .int (bI kp), .ref ta, .ref na])), (oa, .inl (cI, 1024, .inl fo)), (xa, .inl (cI, 1024, .inl fx)), (ya, .inl (cI, 1024, .inl fy))]) [0, 1, 2, 3] (by decide) rfl
      have hFc := va_free (wc := [(o, .inr (5, [.int th, .ref im, .int (bI tr), .ref rc, .ref bg, .int (nI n), .ref oa, .ref xa, .ref ya, .ref rg, .ref me, .ref sa, .ref pa, .ref za, .ref ca, .int (bI kp), .ref ta, .ref na])), (oa, .inl (cI, 1024, .inl fo)), (xa, .inl (cI, 1024, .inl fx)), (ya, .inl (cI, 1024, .inl fy))]) hD hS hA [0, 1, 2, 3] rfl
      refine va_callv (va_runV (As := [.int 16, .int 0, .int 0]) (rest := []) ⟨hx, hb, hml, hown, hts⟩ (q_row l D cI cZ o th im tr rc bg oa xa ya rg me sa pa za ca kp ta na n fo fx fy 16 0 0 H.size (by omega)) ⟨cB 3 hts k_801 k_62 k_798 hd_MO_row ⟨Nat.le_of_ble_eq_true rfl, Nat.le_of_ble_eq_true rfl⟩ rfl rfl, hts _ k_800, hts _ k_32⟩ (PcW.preV (va_recv hK hP (q0 := 0) (ci := 5) rfl rfl) hPc hK hDc hN) rfl rfl hl.1 rfl (lv_room (Nat.le_of_ble_eq_true rfl)) d_MO_instruction_360 ⟨Nat.le_of_ble_eq_true rfl, Nat.le_of_ble_eq_true rfl⟩) hS (fun q _ h => hFc q h) hFc (fun u t H1 locs ht hvm e360 hB hz1 hk1 hS => ?_)
      obtain ⟨n1360, fo1360, fx1360, fy1360⟩ := u
      obtain ⟨hP1, hK1, hD1⟩ := hB
      rw [ht] at hP1
      obtain ⟨hP, hD⟩ := va_join (wr := [(im, .inl (cI, 256, .inl fi))]) (w1 := [(o, .inr (5, [.int th, .ref im, .int (bI tr), .ref rc, .ref bg, .int (nI n1360), .ref oa, .ref xa, .ref ya, .ref rg, .ref me, .ref sa, .ref pa, .ref za, .ref ca, .int (bI kp), .ref ta, .ref na])), (oa, .inl (cI, 1024, .inl fo1360)), (xa, .inl (cI, 1024, .inl fx1360)), (ya, .inl (cI, 1024, .inl fy1360))]) hP hD [0, 1, 2, 3] [4] rfl rfl (by decide) (by decide) hk1 hFc hP1 hD1
      generalize H1 = H at hP hS ⊢
      try dsimp only at e360
      have hP : va_P D vwCl [(im, .inl (cI, 256, .inl fi)), (o, .inr (5, [.int th, .ref im, .int (bI tr), .ref rc, .ref bg, .int (nI n1360), .ref oa, .ref xa, .ref ya, .ref rg, .ref me, .ref sa, .ref pa, .ref za, .ref ca, .int (bI kp), .ref ta, .ref na])), (oa, .inl (cI, 1024, .inl fo1360)), (xa, .inl (cI, 1024, .inl fx1360)), (ya, .inl (cI, 1024, .inl fy1360))] H := hP
      have hD : va_D A [(im, .inl (cI, 256, .inl fi)), (o, .inr (5, [.int th, .ref im, .int (bI tr), .ref rc, .ref bg, .int (nI n1360), .ref oa, .ref xa, .ref ya, .ref rg, .ref me, .ref sa, .ref pa, .ref za, .ref ca, .int (bI kp), .ref ta, .ref na])), (oa, .inl (cI, 1024, .inl fo1360)), (xa, .inl (cI, 1024, .inl fx1360)), (ya, .inl (cI, 1024, .inl fy1360))] := hD
      refine lv_goto (tgt := 477) hx hb d_MO_instruction_363 rfl ?_
      have hP9 : va_P D vwCl [(o, .inr (5, [.int th, .ref im, .int (bI tr), .ref rc, .ref bg, .int (nI n1360), .ref oa, .ref xa, .ref ya, .ref rg, .ref me, .ref sa, .ref pa, .ref za, .ref ca, .int (bI kp), .ref ta, .ref na])), (oa, .inl (cI, 1024, .inl fo1360)), (xa, .inl (cI, 1024, .inl fx1360)), (ya, .inl (cI, 1024, .inl fy1360)), (im, .inl (cI, 256, .inl fi))] H := hP.sub [1, 2, 3, 4, 0] rfl
      have hD9 : va_D A [(o, .inr (5, [.int th, .ref im, .int (bI tr), .ref rc, .ref bg, .int (nI n1360), .ref oa, .ref xa, .ref ya, .ref rg, .ref me, .ref sa, .ref pa, .ref za, .ref ca, .int (bI kp), .ref ta, .ref na])), (oa, .inl (cI, 1024, .inl fo1360)), (xa, .inl (cI, 1024, .inl fx1360)), (ya, .inl (cI, 1024, .inl fy1360)), (im, .inl (cI, 256, .inl fi))] := hD.sub [1, 2, 3, 4, 0] (by decide) rfl
      exact W.vret hx hb hr (fun t ht hW => ⟨⟨(n1360, fo1360, fx1360, fy1360), rfl, ⟨by rw [e360.1, instM, h21]; try rfl, by omega⟩, by rw [ht]; exact hP9, va_K.moved hW.alike hK, hD9⟩, hS.F ht⟩) hS.2.2 d_MO_instruction_477
    | 20, _, h21 =>
      have h21 : fi i = 22 := h21
      refine lv_tableIn (off := 429) (tgt := 450) hx hb d_MO_instruction_21 (by rw [h21]; decide) (by rw [h21]; decide) (by rw [h21]; rfl) rfl ?_
      refine lv_aload_n hx hb d_MO_instruction_450 rfl (lv_at hl 2 rfl) ?_
      refine lv_iload_n hx hb d_MO_instruction_451 rfl (lv_at hl 1 rfl) ?_
      refine lv_iconst (v := 2) hx hb d_MO_instruction_452 (by decide) ?_
      refine lv_icmp_ge (tgt := 460) hx hb d_MO_instruction_453 rfl (fun _ => ?_) (fun hq9 => absurd (by rw [h21]; first | done | decide) hq9)
      refine lv_iload_n hx hb d_MO_instruction_460 rfl (lv_at hl 1 rfl) ?_
      refine lv_iconst (v := 3) hx hb d_MO_instruction_461 (by decide) ?_
      refine lv_isub hx hb d_MO_instruction_462 ?_
      refine lv_iconst (v := 0) hx hb d_MO_instruction_463 (by decide) ?_
      refine lv_iload_n hx hb d_MO_instruction_464 rfl (lv_at hl 1 rfl) ?_
      refine lv_iconst (v := 2) hx hb d_MO_instruction_465 (by decide) ?_
      refine lv_icmp_ge (tgt := 473) hx hb d_MO_instruction_466 rfl (fun _ => ?_) (fun hq9 => absurd (by rw [h21]; first | done | decide) hq9)
      refine lv_iload_n hx hb d_MO_instruction_473 rfl (lv_at hl 0 rfl) ?_
      have hPc := hP.sub (ws' := [(o, .inr (5, [.int th, .ref im, .int (bI tr), .ref rc, .ref bg, .int (nI n), .ref oa, .ref xa, .ref ya, .ref rg, .ref me, .ref sa, .ref pa, .ref za, .ref ca, .int (bI kp), .ref ta, .ref na])), (oa, .inl (cI, 1024, .inl fo)), (xa, .inl (cI, 1024, .inl fx)), (ya, .inl (cI, 1024, .inl fy))]) [0, 1, 2, 3] rfl
      have hDc := hD.sub (ws' := [(o, .inr (5, [.int th, .ref im, .int (bI tr), .ref rc, .ref bg, .int (nI n), .ref oa, .ref xa, .ref ya, .ref rg, .ref me, .ref sa, .ref pa, .ref za, .ref ca, .int (bI kp), .ref ta, .ref na])), (oa, .inl (cI, 1024, .inl fo)), (xa, .inl (cI, 1024, .inl fx)), (ya, .inl (cI, 1024, .inl fy))]) [0, 1, 2, 3] (by decide) rfl
      have hFc := va_free (wc := [(o, .inr (5, [.int th, .ref im, .int (bI tr), .ref rc, .ref bg, .int (nI n), .ref oa, .ref xa, .ref ya, .ref rg, .ref me, .ref sa, .ref pa, .ref za, .ref ca, .int (bI kp), .ref ta, .ref na])), (oa, .inl (cI, 1024, .inl fo)), (xa, .inl (cI, 1024, .inl fx)), (ya, .inl (cI, 1024, .inl fy))]) hD hS hA [0, 1, 2, 3] rfl
      refine va_callv (va_runV (As := [.int ((fi i) - 3), .int 0, .int (rd fi (nI i + 1))]) (rest := []) ⟨hx, hb, hml, hown, hts⟩ (q_row l D cI cZ o th im tr rc bg oa xa ya rg me sa pa za ca kp ta na n fo fx fy ((fi i) - 3) 0 (rd fi (nI i + 1)) H.size (by omega)) ⟨cB 3 hts k_801 k_62 k_798 hd_MO_row ⟨Nat.le_of_ble_eq_true rfl, Nat.le_of_ble_eq_true rfl⟩ rfl rfl, hts _ k_800, hts _ k_32⟩ (PcW.preV (va_recv hK hP (q0 := 0) (ci := 5) rfl rfl) hPc hK hDc hN) rfl rfl hl.1 rfl (lv_room (Nat.le_of_ble_eq_true rfl)) d_MO_instruction_474 ⟨Nat.le_of_ble_eq_true rfl, Nat.le_of_ble_eq_true rfl⟩) hS (fun q _ h => hFc q h) hFc (fun u t H1 locs ht hvm e474 hB hz1 hk1 hS => ?_)
      obtain ⟨n1474, fo1474, fx1474, fy1474⟩ := u
      obtain ⟨hP1, hK1, hD1⟩ := hB
      rw [ht] at hP1
      obtain ⟨hP, hD⟩ := va_join (wr := [(im, .inl (cI, 256, .inl fi))]) (w1 := [(o, .inr (5, [.int th, .ref im, .int (bI tr), .ref rc, .ref bg, .int (nI n1474), .ref oa, .ref xa, .ref ya, .ref rg, .ref me, .ref sa, .ref pa, .ref za, .ref ca, .int (bI kp), .ref ta, .ref na])), (oa, .inl (cI, 1024, .inl fo1474)), (xa, .inl (cI, 1024, .inl fx1474)), (ya, .inl (cI, 1024, .inl fy1474))]) hP hD [0, 1, 2, 3] [4] rfl rfl (by decide) (by decide) hk1 hFc hP1 hD1
      generalize H1 = H at hP hS ⊢
      try dsimp only at e474
      have hP : va_P D vwCl [(im, .inl (cI, 256, .inl fi)), (o, .inr (5, [.int th, .ref im, .int (bI tr), .ref rc, .ref bg, .int (nI n1474), .ref oa, .ref xa, .ref ya, .ref rg, .ref me, .ref sa, .ref pa, .ref za, .ref ca, .int (bI kp), .ref ta, .ref na])), (oa, .inl (cI, 1024, .inl fo1474)), (xa, .inl (cI, 1024, .inl fx1474)), (ya, .inl (cI, 1024, .inl fy1474))] H := hP
      have hD : va_D A [(im, .inl (cI, 256, .inl fi)), (o, .inr (5, [.int th, .ref im, .int (bI tr), .ref rc, .ref bg, .int (nI n1474), .ref oa, .ref xa, .ref ya, .ref rg, .ref me, .ref sa, .ref pa, .ref za, .ref ca, .int (bI kp), .ref ta, .ref na])), (oa, .inl (cI, 1024, .inl fo1474)), (xa, .inl (cI, 1024, .inl fx1474)), (ya, .inl (cI, 1024, .inl fy1474))] := hD
      have hP9 : va_P D vwCl [(o, .inr (5, [.int th, .ref im, .int (bI tr), .ref rc, .ref bg, .int (nI n1474), .ref oa, .ref xa, .ref ya, .ref rg, .ref me, .ref sa, .ref pa, .ref za, .ref ca, .int (bI kp), .ref ta, .ref na])), (oa, .inl (cI, 1024, .inl fo1474)), (xa, .inl (cI, 1024, .inl fx1474)), (ya, .inl (cI, 1024, .inl fy1474)), (im, .inl (cI, 256, .inl fi))] H := hP.sub [1, 2, 3, 4, 0] rfl
      have hD9 : va_D A [(o, .inr (5, [.int th, .ref im, .int (bI tr), .ref rc, .ref bg, .int (nI n1474), .ref oa, .ref xa, .ref ya, .ref rg, .ref me, .ref sa, .ref pa, .ref za, .ref ca, .int (bI kp), .ref ta, .ref na])), (oa, .inl (cI, 1024, .inl fo1474)), (xa, .inl (cI, 1024, .inl fx1474)), (ya, .inl (cI, 1024, .inl fy1474)), (im, .inl (cI, 256, .inl fi))] := hD.sub [1, 2, 3, 4, 0] (by decide) rfl
      exact W.vret hx hb hr (fun t ht hW => ⟨⟨(n1474, fo1474, fx1474, fy1474), rfl, ⟨by rw [e474.1, instM, h21]; try rfl, by omega⟩, by rw [ht]; exact hP9, va_K.moved hW.alike hK, hD9⟩, hS.F ht⟩) hS.2.2 d_MO_instruction_477
    | 21, _, h21 =>
      have h21 : fi i = 23 := h21
      refine lv_tableIn (off := 429) (tgt := 450) hx hb d_MO_instruction_21 (by rw [h21]; decide) (by rw [h21]; decide) (by rw [h21]; rfl) rfl ?_
      refine lv_aload_n hx hb d_MO_instruction_450 rfl (lv_at hl 2 rfl) ?_
      refine lv_iload_n hx hb d_MO_instruction_451 rfl (lv_at hl 1 rfl) ?_
      refine lv_iconst (v := 2) hx hb d_MO_instruction_452 (by decide) ?_
      refine lv_icmp_ge (tgt := 460) hx hb d_MO_instruction_453 rfl (fun _ => ?_) (fun hq9 => absurd (by rw [h21]; first | done | decide) hq9)
      refine lv_iload_n hx hb d_MO_instruction_460 rfl (lv_at hl 1 rfl) ?_
      refine lv_iconst (v := 3) hx hb d_MO_instruction_461 (by decide) ?_
      refine lv_isub hx hb d_MO_instruction_462 ?_
      refine lv_iconst (v := 0) hx hb d_MO_instruction_463 (by decide) ?_
      refine lv_iload_n hx hb d_MO_instruction_464 rfl (lv_at hl 1 rfl) ?_
      refine lv_iconst (v := 2) hx hb d_MO_instruction_465 (by decide) ?_
      refine lv_icmp_ge (tgt := 473) hx hb d_MO_instruction_466 rfl (fun _ => ?_) (fun hq9 => absurd (by rw [h21]; first | done | decide) hq9)
      refine lv_iload_n hx hb d_MO_instruction_473 rfl (lv_at hl 0 rfl) ?_
      have hPc := hP.sub (ws' := [(o, .inr (5, [.int th, .ref im, .int (bI tr), .ref rc, .ref bg, .int (nI n), .ref oa, .ref xa, .ref ya, .ref rg, .ref me, .ref sa, .ref pa, .ref za, .ref ca, .int (bI kp), .ref ta, .ref na])), (oa, .inl (cI, 1024, .inl fo)), (xa, .inl (cI, 1024, .inl fx)), (ya, .inl (cI, 1024, .inl fy))]) [0, 1, 2, 3] rfl
      have hDc := hD.sub (ws' := [(o, .inr (5, [.int th, .ref im, .int (bI tr), .ref rc, .ref bg, .int (nI n), .ref oa, .ref xa, .ref ya, .ref rg, .ref me, .ref sa, .ref pa, .ref za, .ref ca, .int (bI kp), .ref ta, .ref na])), (oa, .inl (cI, 1024, .inl fo)), (xa, .inl (cI, 1024, .inl fx)), (ya, .inl (cI, 1024, .inl fy))]) [0, 1, 2, 3] (by decide) rfl
      have hFc := va_free (wc := [(o, .inr (5, [.int th, .ref im, .int (bI tr), .ref rc, .ref bg, .int (nI n), .ref oa, .ref xa, .ref ya, .ref rg, .ref me, .ref sa, .ref pa, .ref za, .ref ca, .int (bI kp), .ref ta, .ref na])), (oa, .inl (cI, 1024, .inl fo)), (xa, .inl (cI, 1024, .inl fx)), (ya, .inl (cI, 1024, .inl fy))]) hD hS hA [0, 1, 2, 3] rfl
      refine va_callv (va_runV (As := [.int ((fi i) - 3), .int 0, .int (rd fi (nI i + 1))]) (rest := []) ⟨hx, hb, hml, hown, hts⟩ (q_row l D cI cZ o th im tr rc bg oa xa ya rg me sa pa za ca kp ta na n fo fx fy ((fi i) - 3) 0 (rd fi (nI i + 1)) H.size (by omega)) ⟨cB 3 hts k_801 k_62 k_798 hd_MO_row ⟨Nat.le_of_ble_eq_true rfl, Nat.le_of_ble_eq_true rfl⟩ rfl rfl, hts _ k_800, hts _ k_32⟩ (PcW.preV (va_recv hK hP (q0 := 0) (ci := 5) rfl rfl) hPc hK hDc hN) rfl rfl hl.1 rfl (lv_room (Nat.le_of_ble_eq_true rfl)) d_MO_instruction_474 ⟨Nat.le_of_ble_eq_true rfl, Nat.le_of_ble_eq_true rfl⟩) hS (fun q _ h => hFc q h) hFc (fun u t H1 locs ht hvm e474 hB hz1 hk1 hS => ?_)
      obtain ⟨n1474, fo1474, fx1474, fy1474⟩ := u
      obtain ⟨hP1, hK1, hD1⟩ := hB
      rw [ht] at hP1
      obtain ⟨hP, hD⟩ := va_join (wr := [(im, .inl (cI, 256, .inl fi))]) (w1 := [(o, .inr (5, [.int th, .ref im, .int (bI tr), .ref rc, .ref bg, .int (nI n1474), .ref oa, .ref xa, .ref ya, .ref rg, .ref me, .ref sa, .ref pa, .ref za, .ref ca, .int (bI kp), .ref ta, .ref na])), (oa, .inl (cI, 1024, .inl fo1474)), (xa, .inl (cI, 1024, .inl fx1474)), (ya, .inl (cI, 1024, .inl fy1474))]) hP hD [0, 1, 2, 3] [4] rfl rfl (by decide) (by decide) hk1 hFc hP1 hD1
      generalize H1 = H at hP hS ⊢
      try dsimp only at e474
      have hP : va_P D vwCl [(im, .inl (cI, 256, .inl fi)), (o, .inr (5, [.int th, .ref im, .int (bI tr), .ref rc, .ref bg, .int (nI n1474), .ref oa, .ref xa, .ref ya, .ref rg, .ref me, .ref sa, .ref pa, .ref za, .ref ca, .int (bI kp), .ref ta, .ref na])), (oa, .inl (cI, 1024, .inl fo1474)), (xa, .inl (cI, 1024, .inl fx1474)), (ya, .inl (cI, 1024, .inl fy1474))] H := hP
      have hD : va_D A [(im, .inl (cI, 256, .inl fi)), (o, .inr (5, [.int th, .ref im, .int (bI tr), .ref rc, .ref bg, .int (nI n1474), .ref oa, .ref xa, .ref ya, .ref rg, .ref me, .ref sa, .ref pa, .ref za, .ref ca, .int (bI kp), .ref ta, .ref na])), (oa, .inl (cI, 1024, .inl fo1474)), (xa, .inl (cI, 1024, .inl fx1474)), (ya, .inl (cI, 1024, .inl fy1474))] := hD
      have hP9 : va_P D vwCl [(o, .inr (5, [.int th, .ref im, .int (bI tr), .ref rc, .ref bg, .int (nI n1474), .ref oa, .ref xa, .ref ya, .ref rg, .ref me, .ref sa, .ref pa, .ref za, .ref ca, .int (bI kp), .ref ta, .ref na])), (oa, .inl (cI, 1024, .inl fo1474)), (xa, .inl (cI, 1024, .inl fx1474)), (ya, .inl (cI, 1024, .inl fy1474)), (im, .inl (cI, 256, .inl fi))] H := hP.sub [1, 2, 3, 4, 0] rfl
      have hD9 : va_D A [(o, .inr (5, [.int th, .ref im, .int (bI tr), .ref rc, .ref bg, .int (nI n1474), .ref oa, .ref xa, .ref ya, .ref rg, .ref me, .ref sa, .ref pa, .ref za, .ref ca, .int (bI kp), .ref ta, .ref na])), (oa, .inl (cI, 1024, .inl fo1474)), (xa, .inl (cI, 1024, .inl fx1474)), (ya, .inl (cI, 1024, .inl fy1474)), (im, .inl (cI, 256, .inl fi))] := hD.sub [1, 2, 3, 4, 0] (by decide) rfl
      exact W.vret hx hb hr (fun t ht hW => ⟨⟨(n1474, fo1474, fx1474, fy1474), rfl, ⟨by rw [e474.1, instM, h21]; try rfl, by omega⟩, by rw [ht]; exact hP9, va_K.moved hW.alike hK, hD9⟩, hS.F ht⟩) hS.2.2 d_MO_instruction_477
    | 22, _, h21 =>
      have h21 : fi i = 24 := h21
      refine lv_tableIn (off := 429) (tgt := 450) hx hb d_MO_instruction_21 (by rw [h21]; decide) (by rw [h21]; decide) (by rw [h21]; rfl) rfl ?_
      refine lv_aload_n hx hb d_MO_instruction_450 rfl (lv_at hl 2 rfl) ?_
      refine lv_iload_n hx hb d_MO_instruction_451 rfl (lv_at hl 1 rfl) ?_
      refine lv_iconst (v := 2) hx hb d_MO_instruction_452 (by decide) ?_
      refine lv_icmp_ge (tgt := 460) hx hb d_MO_instruction_453 rfl (fun _ => ?_) (fun hq9 => absurd (by rw [h21]; first | done | decide) hq9)
      refine lv_iload_n hx hb d_MO_instruction_460 rfl (lv_at hl 1 rfl) ?_
      refine lv_iconst (v := 3) hx hb d_MO_instruction_461 (by decide) ?_
      refine lv_isub hx hb d_MO_instruction_462 ?_
      refine lv_iconst (v := 0) hx hb d_MO_instruction_463 (by decide) ?_
      refine lv_iload_n hx hb d_MO_instruction_464 rfl (lv_at hl 1 rfl) ?_
      refine lv_iconst (v := 2) hx hb d_MO_instruction_465 (by decide) ?_
      refine lv_icmp_ge (tgt := 473) hx hb d_MO_instruction_466 rfl (fun _ => ?_) (fun hq9 => absurd (by rw [h21]; first | done | decide) hq9)
      refine lv_iload_n hx hb d_MO_instruction_473 rfl (lv_at hl 0 rfl) ?_
      have hPc := hP.sub (ws' := [(o, .inr (5, [.int th, .ref im, .int (bI tr), .ref rc, .ref bg, .int (nI n), .ref oa, .ref xa, .ref ya, .ref rg, .ref me, .ref sa, .ref pa, .ref za, .ref ca, .int (bI kp), .ref ta, .ref na])), (oa, .inl (cI, 1024, .inl fo)), (xa, .inl (cI, 1024, .inl fx)), (ya, .inl (cI, 1024, .inl fy))]) [0, 1, 2, 3] rfl
      have hDc := hD.sub (ws' := [(o, .inr (5, [.int th, .ref im, .int (bI tr), .ref rc, .ref bg, .int (nI n), .ref oa, .ref xa, .ref ya, .ref rg, .ref me, .ref sa, .ref pa, .ref za, .ref ca, .int (bI kp), .ref ta, .ref na])), (oa, .inl (cI, 1024, .inl fo)), (xa, .inl (cI, 1024, .inl fx)), (ya, .inl (cI, 1024, .inl fy))]) [0, 1, 2, 3] (by decide) rfl
      have hFc := va_free (wc := [(o, .inr (5, [.int th, .ref im, .int (bI tr), .ref rc, .ref bg, .int (nI n), .ref oa, .ref xa, .ref ya, .ref rg, .ref me, .ref sa, .ref pa, .ref za, .ref ca, .int (bI kp), .ref ta, .ref na])), (oa, .inl (cI, 1024, .inl fo)), (xa, .inl (cI, 1024, .inl fx)), (ya, .inl (cI, 1024, .inl fy))]) hD hS hA [0, 1, 2, 3] rfl
      refine va_callv (va_runV (As := [.int ((fi i) - 3), .int 0, .int (rd fi (nI i + 1))]) (rest := []) ⟨hx, hb, hml, hown, hts⟩ (q_row l D cI cZ o th im tr rc bg oa xa ya rg me sa pa za ca kp ta na n fo fx fy ((fi i) - 3) 0 (rd fi (nI i + 1)) H.size (by omega)) ⟨cB 3 hts k_801 k_62 k_798 hd_MO_row ⟨Nat.le_of_ble_eq_true rfl, Nat.le_of_ble_eq_true rfl⟩ rfl rfl, hts _ k_800, hts _ k_32⟩ (PcW.preV (va_recv hK hP (q0 := 0) (ci := 5) rfl rfl) hPc hK hDc hN) rfl rfl hl.1 rfl (lv_room (Nat.le_of_ble_eq_true rfl)) d_MO_instruction_474 ⟨Nat.le_of_ble_eq_true rfl, Nat.le_of_ble_eq_true rfl⟩) hS (fun q _ h => hFc q h) hFc (fun u t H1 locs ht hvm e474 hB hz1 hk1 hS => ?_)
      obtain ⟨n1474, fo1474, fx1474, fy1474⟩ := u
      obtain ⟨hP1, hK1, hD1⟩ := hB
      rw [ht] at hP1
      obtain ⟨hP, hD⟩ := va_join (wr := [(im, .inl (cI, 256, .inl fi))]) (w1 := [(o, .inr (5, [.int th, .ref im, .int (bI tr), .ref rc, .ref bg, .int (nI n1474), .ref oa, .ref xa, .ref ya, .ref rg, .ref me, .ref sa, .ref pa, .ref za, .ref ca, .int (bI kp), .ref ta, .ref na])), (oa, .inl (cI, 1024, .inl fo1474)), (xa, .inl (cI, 1024, .inl fx1474)), (ya, .inl (cI, 1024, .inl fy1474))]) hP hD [0, 1, 2, 3] [4] rfl rfl (by decide) (by decide) hk1 hFc hP1 hD1
      generalize H1 = H at hP hS ⊢
      try dsimp only at e474
      have hP : va_P D vwCl [(im, .inl (cI, 256, .inl fi)), (o, .inr (5, [.int th, .ref im, .int (bI tr), .ref rc, .ref bg, .int (nI n1474), .ref oa, .ref xa, .ref ya, .ref rg, .ref me, .ref sa, .ref pa, .ref za, .ref ca, .int (bI kp), .ref ta, .ref na])), (oa, .inl (cI, 1024, .inl fo1474)), (xa, .inl (cI, 1024, .inl fx1474)), (ya, .inl (cI, 1024, .inl fy1474))] H := hP
      have hD : va_D A [(im, .inl (cI, 256, .inl fi)), (o, .inr (5, [.int th, .ref im, .int (bI tr), .ref rc, .ref bg, .int (nI n1474), .ref oa, .ref xa, .ref ya, .ref rg, .ref me, .ref sa, .ref pa, .ref za, .ref ca, .int (bI kp), .ref ta, .ref na])), (oa, .inl (cI, 1024, .inl fo1474)), (xa, .inl (cI, 1024, .inl fx1474)), (ya, .inl (cI, 1024, .inl fy1474))] := hD
      have hP9 : va_P D vwCl [(o, .inr (5, [.int th, .ref im, .int (bI tr), .ref rc, .ref bg, .int (nI n1474), .ref oa, .ref xa, .ref ya, .ref rg, .ref me, .ref sa, .ref pa, .ref za, .ref ca, .int (bI kp), .ref ta, .ref na])), (oa, .inl (cI, 1024, .inl fo1474)), (xa, .inl (cI, 1024, .inl fx1474)), (ya, .inl (cI, 1024, .inl fy1474)), (im, .inl (cI, 256, .inl fi))] H := hP.sub [1, 2, 3, 4, 0] rfl
      have hD9 : va_D A [(o, .inr (5, [.int th, .ref im, .int (bI tr), .ref rc, .ref bg, .int (nI n1474), .ref oa, .ref xa, .ref ya, .ref rg, .ref me, .ref sa, .ref pa, .ref za, .ref ca, .int (bI kp), .ref ta, .ref na])), (oa, .inl (cI, 1024, .inl fo1474)), (xa, .inl (cI, 1024, .inl fx1474)), (ya, .inl (cI, 1024, .inl fy1474)), (im, .inl (cI, 256, .inl fi))] := hD.sub [1, 2, 3, 4, 0] (by decide) rfl
      exact W.vret hx hb hr (fun t ht hW => ⟨⟨(n1474, fo1474, fx1474, fy1474), rfl, ⟨by rw [e474.1, instM, h21]; try rfl, by omega⟩, by rw [ht]; exact hP9, va_K.moved hW.alike hK, hD9⟩, hS.F ht⟩) hS.2.2 d_MO_instruction_477
    | 23, _, h21 =>
      have h21 : fi i = 25 := h21
      refine lv_tableIn (off := 429) (tgt := 450) hx hb d_MO_instruction_21 (by rw [h21]; decide) (by rw [h21]; decide) (by rw [h21]; rfl) rfl ?_
      refine lv_aload_n hx hb d_MO_instruction_450 rfl (lv_at hl 2 rfl) ?_
      refine lv_iload_n hx hb d_MO_instruction_451 rfl (lv_at hl 1 rfl) ?_
      refine lv_iconst (v := 2) hx hb d_MO_instruction_452 (by decide) ?_
      refine lv_icmp_ge (tgt := 460) hx hb d_MO_instruction_453 rfl (fun _ => ?_) (fun hq9 => absurd (by rw [h21]; first | done | decide) hq9)
      refine lv_iload_n hx hb d_MO_instruction_460 rfl (lv_at hl 1 rfl) ?_
      refine lv_iconst (v := 3) hx hb d_MO_instruction_461 (by decide) ?_
      refine lv_isub hx hb d_MO_instruction_462 ?_
      refine lv_iconst (v := 0) hx hb d_MO_instruction_463 (by decide) ?_
      refine lv_iload_n hx hb d_MO_instruction_464 rfl (lv_at hl 1 rfl) ?_
      refine lv_iconst (v := 2) hx hb d_MO_instruction_465 (by decide) ?_
      refine lv_icmp_ge (tgt := 473) hx hb d_MO_instruction_466 rfl (fun _ => ?_) (fun hq9 => absurd (by rw [h21]; first | done | decide) hq9)
      refine lv_iload_n hx hb d_MO_instruction_473 rfl (lv_at hl 0 rfl) ?_
      have hPc := hP.sub (ws' := [(o, .inr (5, [.int th, .ref im, .int (bI tr), .ref rc, .ref bg, .int (nI n), .ref oa, .ref xa, .ref ya, .ref rg, .ref me, .ref sa, .ref pa, .ref za, .ref ca, .int (bI kp), .ref ta, .ref na])), (oa, .inl (cI, 1024, .inl fo)), (xa, .inl (cI, 1024, .inl fx)), (ya, .inl (cI, 1024, .inl fy))]) [0, 1, 2, 3] rfl
      have hDc := hD.sub (ws' := [(o, .inr (5, [.int th, .ref im, .int (bI tr), .ref rc, .ref bg, .int (nI n), .ref oa, .ref xa, .ref ya, .ref rg, .ref me, .ref sa, .ref pa, .ref za, .ref ca, .int (bI kp), .ref ta, .ref na])), (oa, .inl (cI, 1024, .inl fo)), (xa, .inl (cI, 1024, .inl fx)), (ya, .inl (cI, 1024, .inl fy))]) [0, 1, 2, 3] (by decide) rfl
      have hFc := va_free (wc := [(o, .inr (5, [.int th, .ref im, .int (bI tr), .ref rc, .ref bg, .int (nI n), .ref oa, .ref xa, .ref ya, .ref rg, .ref me, .ref sa, .ref pa, .ref za, .ref ca, .int (bI kp), .ref ta, .ref na])), (oa, .inl (cI, 1024, .inl fo)), (xa, .inl (cI, 1024, .inl fx)), (ya, .inl (cI, 1024, .inl fy))]) hD hS hA [0, 1, 2, 3] rfl
      refine va_callv (va_runV (As := [.int ((fi i) - 3), .int 0, .int (rd fi (nI i + 1))]) (rest := []) ⟨hx, hb, hml, hown, hts⟩ (q_row l D cI cZ o th im tr rc bg oa xa ya rg me sa pa za ca kp ta na n fo fx fy ((fi i) - 3) 0 (rd fi (nI i + 1)) H.size (by omega)) ⟨cB 3 hts k_801 k_62 k_798 hd_MO_row ⟨Nat.le_of_ble_eq_true rfl, Nat.le_of_ble_eq_true rfl⟩ rfl rfl, hts _ k_800, hts _ k_32⟩ (PcW.preV (va_recv hK hP (q0 := 0) (ci := 5) rfl rfl) hPc hK hDc hN) rfl rfl hl.1 rfl (lv_room (Nat.le_of_ble_eq_true rfl)) d_MO_instruction_474 ⟨Nat.le_of_ble_eq_true rfl, Nat.le_of_ble_eq_true rfl⟩) hS (fun q _ h => hFc q h) hFc (fun u t H1 locs ht hvm e474 hB hz1 hk1 hS => ?_)
      obtain ⟨n1474, fo1474, fx1474, fy1474⟩ := u
      obtain ⟨hP1, hK1, hD1⟩ := hB
      rw [ht] at hP1
      obtain ⟨hP, hD⟩ := va_join (wr := [(im, .inl (cI, 256, .inl fi))]) (w1 := [(o, .inr (5, [.int th, .ref im, .int (bI tr), .ref rc, .ref bg, .int (nI n1474), .ref oa, .ref xa, .ref ya, .ref rg, .ref me, .ref sa, .ref pa, .ref za, .ref ca, .int (bI kp), .ref ta, .ref na])), (oa, .inl (cI, 1024, .inl fo1474)), (xa, .inl (cI, 1024, .inl fx1474)), (ya, .inl (cI, 1024, .inl fy1474))]) hP hD [0, 1, 2, 3] [4] rfl rfl (by decide) (by decide) hk1 hFc hP1 hD1
      generalize H1 = H at hP hS ⊢
      try dsimp only at e474
      have hP : va_P D vwCl [(im, .inl (cI, 256, .inl fi)), (o, .inr (5, [.int th, .ref im, .int (bI tr), .ref rc, .ref bg, .int (nI n1474), .ref oa, .ref xa, .ref ya, .ref rg, .ref me, .ref sa, .ref pa, .ref za, .ref ca, .int (bI kp), .ref ta, .ref na])), (oa, .inl (cI, 1024, .inl fo1474)), (xa, .inl (cI, 1024, .inl fx1474)), (ya, .inl (cI, 1024, .inl fy1474))] H := hP
      have hD : va_D A [(im, .inl (cI, 256, .inl fi)), (o, .inr (5, [.int th, .ref im, .int (bI tr), .ref rc, .ref bg, .int (nI n1474), .ref oa, .ref xa, .ref ya, .ref rg, .ref me, .ref sa, .ref pa, .ref za, .ref ca, .int (bI kp), .ref ta, .ref na])), (oa, .inl (cI, 1024, .inl fo1474)), (xa, .inl (cI, 1024, .inl fx1474)), (ya, .inl (cI, 1024, .inl fy1474))] := hD
      have hP9 : va_P D vwCl [(o, .inr (5, [.int th, .ref im, .int (bI tr), .ref rc, .ref bg, .int (nI n1474), .ref oa, .ref xa, .ref ya, .ref rg, .ref me, .ref sa, .ref pa, .ref za, .ref ca, .int (bI kp), .ref ta, .ref na])), (oa, .inl (cI, 1024, .inl fo1474)), (xa, .inl (cI, 1024, .inl fx1474)), (ya, .inl (cI, 1024, .inl fy1474)), (im, .inl (cI, 256, .inl fi))] H := hP.sub [1, 2, 3, 4, 0] rfl
      have hD9 : va_D A [(o, .inr (5, [.int th, .ref im, .int (bI tr), .ref rc, .ref bg, .int (nI n1474), .ref oa, .ref xa, .ref ya, .ref rg, .ref me, .ref sa, .ref pa, .ref za, .ref ca, .int (bI kp), .ref ta, .ref na])), (oa, .inl (cI, 1024, .inl fo1474)), (xa, .inl (cI, 1024, .inl fx1474)), (ya, .inl (cI, 1024, .inl fy1474)), (im, .inl (cI, 256, .inl fi))] := hD.sub [1, 2, 3, 4, 0] (by decide) rfl
      exact W.vret hx hb hr (fun t ht hW => ⟨⟨(n1474, fo1474, fx1474, fy1474), rfl, ⟨by rw [e474.1, instM, h21]; try rfl, by omega⟩, by rw [ht]; exact hP9, va_K.moved hW.alike hK, hD9⟩, hS.F ht⟩) hS.2.2 d_MO_instruction_477
    | 24, _, h21 =>
      have h21 : fi i = 26 := h21
      refine lv_tableIn (off := 429) (tgt := 450) hx hb d_MO_instruction_21 (by rw [h21]; decide) (by rw [h21]; decide) (by rw [h21]; rfl) rfl ?_
      refine lv_aload_n hx hb d_MO_instruction_450 rfl (lv_at hl 2 rfl) ?_
      refine lv_iload_n hx hb d_MO_instruction_451 rfl (lv_at hl 1 rfl) ?_
      refine lv_iconst (v := 2) hx hb d_MO_instruction_452 (by decide) ?_
      refine lv_icmp_ge (tgt := 460) hx hb d_MO_instruction_453 rfl (fun _ => ?_) (fun hq9 => absurd (by rw [h21]; first | done | decide) hq9)
      refine lv_iload_n hx hb d_MO_instruction_460 rfl (lv_at hl 1 rfl) ?_
      refine lv_iconst (v := 3) hx hb d_MO_instruction_461 (by decide) ?_
      refine lv_isub hx hb d_MO_instruction_462 ?_
      refine lv_iconst (v := 0) hx hb d_MO_instruction_463 (by decide) ?_
      refine lv_iload_n hx hb d_MO_instruction_464 rfl (lv_at hl 1 rfl) ?_
      refine lv_iconst (v := 2) hx hb d_MO_instruction_465 (by decide) ?_
      refine lv_icmp_ge (tgt := 473) hx hb d_MO_instruction_466 rfl (fun _ => ?_) (fun hq9 => absurd (by rw [h21]; first | done | decide) hq9)
      refine lv_iload_n hx hb d_MO_instruction_473 rfl (lv_at hl 0 rfl) ?_
      have hPc := hP.sub (ws' := [(o, .inr (5, [.int th, .ref im, .int (bI tr), .ref rc, .ref bg, .int (nI n), .ref oa, .ref xa, .ref ya, .ref rg, .ref me, .ref sa, .ref pa, .ref za, .ref ca, .int (bI kp), .ref ta, .ref na])), (oa, .inl (cI, 1024, .inl fo)), (xa, .inl (cI, 1024, .inl fx)), (ya, .inl (cI, 1024, .inl fy))]) [0, 1, 2, 3] rfl
      have hDc := hD.sub (ws' := [(o, .inr (5, [.int th, .ref im, .int (bI tr), .ref rc, .ref bg, .int (nI n), .ref oa, .ref xa, .ref ya, .ref rg, .ref me, .ref sa, .ref pa, .ref za, .ref ca, .int (bI kp), .ref ta, .ref na])), (oa, .inl (cI, 1024, .inl fo)), (xa, .inl (cI, 1024, .inl fx)), (ya, .inl (cI, 1024, .inl fy))]) [0, 1, 2, 3] (by decide) rfl
      have hFc := va_free (wc := [(o, .inr (5, [.int th, .ref im, .int (bI tr), .ref rc, .ref bg, .int (nI n), .ref oa, .ref xa, .ref ya, .ref rg, .ref me, .ref sa, .ref pa, .ref za, .ref ca, .int (bI kp), .ref ta, .ref na])), (oa, .inl (cI, 1024, .inl fo)), (xa, .inl (cI, 1024, .inl fx)), (ya, .inl (cI, 1024, .inl fy))]) hD hS hA [0, 1, 2, 3] rfl
      refine va_callv (va_runV (As := [.int ((fi i) - 3), .int 0, .int (rd fi (nI i + 1))]) (rest := []) ⟨hx, hb, hml, hown, hts⟩ (q_row l D cI cZ o th im tr rc bg oa xa ya rg me sa pa za ca kp ta na n fo fx fy ((fi i) - 3) 0 (rd fi (nI i + 1)) H.size (by omega)) ⟨cB 3 hts k_801 k_62 k_798 hd_MO_row ⟨Nat.le_of_ble_eq_true rfl, Nat.le_of_ble_eq_true rfl⟩ rfl rfl, hts _ k_800, hts _ k_32⟩ (PcW.preV (va_recv hK hP (q0 := 0) (ci := 5) rfl rfl) hPc hK hDc hN) rfl rfl hl.1 rfl (lv_room (Nat.le_of_ble_eq_true rfl)) d_MO_instruction_474 ⟨Nat.le_of_ble_eq_true rfl, Nat.le_of_ble_eq_true rfl⟩) hS (fun q _ h => hFc q h) hFc (fun u t H1 locs ht hvm e474 hB hz1 hk1 hS => ?_)
      obtain ⟨n1474, fo1474, fx1474, fy1474⟩ := u
      obtain ⟨hP1, hK1, hD1⟩ := hB
      rw [ht] at hP1
      obtain ⟨hP, hD⟩ := va_join (wr := [(im, .inl (cI, 256, .inl fi))]) (w1 := [(o, .inr (5, [.int th, .ref im, .int (bI tr), .ref rc, .ref bg, .int (nI n1474), .ref oa, .ref xa, .ref ya, .ref rg, .ref me, .ref sa, .ref pa, .ref za, .ref ca, .int (bI kp), .ref ta, .ref na])), (oa, .inl (cI, 1024, .inl fo1474)), (xa, .inl (cI, 1024, .inl fx1474)), (ya, .inl (cI, 1024, .inl fy1474))]) hP hD [0, 1, 2, 3] [4] rfl rfl (by decide) (by decide) hk1 hFc hP1 hD1
      generalize H1 = H at hP hS ⊢
      try dsimp only at e474
      have hP : va_P D vwCl [(im, .inl (cI, 256, .inl fi)), (o, .inr (5, [.int th, .ref im, .int (bI tr), .ref rc, .ref bg, .int (nI n1474), .ref oa, .ref xa, .ref ya, .ref rg, .ref me, .ref sa, .ref pa, .ref za, .ref ca, .int (bI kp), .ref ta, .ref na])), (oa, .inl (cI, 1024, .inl fo1474)), (xa, .inl (cI, 1024, .inl fx1474)), (ya, .inl (cI, 1024, .inl fy1474))] H := hP
      have hD : va_D A [(im, .inl (cI, 256, .inl fi)), (o, .inr (5, [.int th, .ref im, .int (bI tr), .ref rc, .ref bg, .int (nI n1474), .ref oa, .ref xa, .ref ya, .ref rg, .ref me, .ref sa, .ref pa, .ref za, .ref ca, .int (bI kp), .ref ta, .ref na])), (oa, .inl (cI, 1024, .inl fo1474)), (xa, .inl (cI, 1024, .inl fx1474)), (ya, .inl (cI, 1024, .inl fy1474))] := hD
      have hP9 : va_P D vwCl [(o, .inr (5, [.int th, .ref im, .int (bI tr), .ref rc, .ref bg, .int (nI n1474), .ref oa, .ref xa, .ref ya, .ref rg, .ref me, .ref sa, .ref pa, .ref za, .ref ca, .int (bI kp), .ref ta, .ref na])), (oa, .inl (cI, 1024, .inl fo1474)), (xa, .inl (cI, 1024, .inl fx1474)), (ya, .inl (cI, 1024, .inl fy1474)), (im, .inl (cI, 256, .inl fi))] H := hP.sub [1, 2, 3, 4, 0] rfl
      have hD9 : va_D A [(o, .inr (5, [.int th, .ref im, .int (bI tr), .ref rc, .ref bg, .int (nI n1474), .ref oa, .ref xa, .ref ya, .ref rg, .ref me, .ref sa, .ref pa, .ref za, .ref ca, .int (bI kp), .ref ta, .ref na])), (oa, .inl (cI, 1024, .inl fo1474)), (xa, .inl (cI, 1024, .inl fx1474)), (ya, .inl (cI, 1024, .inl fy1474)), (im, .inl (cI, 256, .inl fi))] := hD.sub [1, 2, 3, 4, 0] (by decide) rfl
      exact W.vret hx hb hr (fun t ht hW => ⟨⟨(n1474, fo1474, fx1474, fy1474), rfl, ⟨by rw [e474.1, instM, h21]; try rfl, by omega⟩, by rw [ht]; exact hP9, va_K.moved hW.alike hK, hD9⟩, hS.F ht⟩) hS.2.2 d_MO_instruction_477
    | 25, _, h21 =>
      have h21 : fi i = 27 := h21
      refine lv_tableIn (off := 345) (tgt := 366) hx hb d_MO_instruction_21 (by rw [h21]; decide) (by rw [h21]; decide) (by rw [h21]; rfl) rfl ?_
      refine lv_aload_n hx hb d_MO_instruction_366 rfl (lv_at hl 2 rfl) ?_
      refine lv_iconst (v := 2) hx hb d_MO_instruction_367 (by decide) ?_
      refine lv_iconst (v := 2) hx hb d_MO_instruction_368 (by decide) ?_
      refine lv_iload_n hx hb d_MO_instruction_369 rfl (lv_at hl 3 rfl) ?_
      refine lv_iconst (v := 2) hx hb d_MO_instruction_370 (by decide) ?_
      refine lv_iadd hx hb d_MO_instruction_371 ?_
      refine lv_sipush (v := 255) hx hb d_MO_instruction_372 (by decide) ?_
      refine lv_iand hx hb d_MO_instruction_375 ?_
      have hPc := hP.sub (ws' := [(o, .inr (5, [.int th, .ref im, .int (bI tr), .ref rc, .ref bg, .int (nI n), .ref oa, .ref xa, .ref ya, .ref rg, .ref me, .ref sa, .ref pa, .ref za, .ref ca, .int (bI kp), .ref ta, .ref na])), (oa, .inl (cI, 1024, .inl fo)), (xa, .inl (cI, 1024, .inl fx)), (ya, .inl (cI, 1024, .inl fy))]) [0, 1, 2, 3] rfl
      have hDc := hD.sub (ws' := [(o, .inr (5, [.int th, .ref im, .int (bI tr), .ref rc, .ref bg, .int (nI n), .ref oa, .ref xa, .ref ya, .ref rg, .ref me, .ref sa, .ref pa, .ref za, .ref ca, .int (bI kp), .ref ta, .ref na])), (oa, .inl (cI, 1024, .inl fo)), (xa, .inl (cI, 1024, .inl fx)), (ya, .inl (cI, 1024, .inl fy))]) [0, 1, 2, 3] (by decide) rfl
      have hFc := va_free (wc := [(o, .inr (5, [.int th, .ref im, .int (bI tr), .ref rc, .ref bg, .int (nI n), .ref oa, .ref xa, .ref ya, .ref rg, .ref me, .ref sa, .ref pa, .ref za, .ref ca, .int (bI kp), .ref ta, .ref na])), (oa, .inl (cI, 1024, .inl fo)), (xa, .inl (cI, 1024, .inl fx)), (ya, .inl (cI, 1024, .inl fy))]) hD hS hA [0, 1, 2, 3] rfl
      refine va_callv (va_runV (As := [.int 2, .int 2, .int (((nI i) + 2) &&& 255)]) (rest := []) ⟨hx, hb, hml, hown, hts⟩ (q_row l D cI cZ o th im tr rc bg oa xa ya rg me sa pa za ca kp ta na n fo fx fy 2 2 (((nI i) + 2) &&& 255) H.size (by omega)) ⟨cB 3 hts k_801 k_62 k_798 hd_MO_row ⟨Nat.le_of_ble_eq_true rfl, Nat.le_of_ble_eq_true rfl⟩ rfl rfl, hts _ k_800, hts _ k_32⟩ (PcW.preV (va_recv hK hP (q0 := 0) (ci := 5) rfl rfl) hPc hK hDc hN) rfl rfl hl.1 rfl (lv_room (Nat.le_of_ble_eq_true rfl)) d_MO_instruction_376 ⟨Nat.le_of_ble_eq_true rfl, Nat.le_of_ble_eq_true rfl⟩) hS (fun q _ h => hFc q h) hFc (fun u t H1 locs ht hvm e376 hB hz1 hk1 hS => ?_)
      obtain ⟨n1376, fo1376, fx1376, fy1376⟩ := u
      obtain ⟨hP1, hK1, hD1⟩ := hB
      rw [ht] at hP1
      obtain ⟨hP, hD⟩ := va_join (wr := [(im, .inl (cI, 256, .inl fi))]) (w1 := [(o, .inr (5, [.int th, .ref im, .int (bI tr), .ref rc, .ref bg, .int (nI n1376), .ref oa, .ref xa, .ref ya, .ref rg, .ref me, .ref sa, .ref pa, .ref za, .ref ca, .int (bI kp), .ref ta, .ref na])), (oa, .inl (cI, 1024, .inl fo1376)), (xa, .inl (cI, 1024, .inl fx1376)), (ya, .inl (cI, 1024, .inl fy1376))]) hP hD [0, 1, 2, 3] [4] rfl rfl (by decide) (by decide) hk1 hFc hP1 hD1
      generalize H1 = H at hP hS ⊢
      try dsimp only at e376
      have hP : va_P D vwCl [(im, .inl (cI, 256, .inl fi)), (o, .inr (5, [.int th, .ref im, .int (bI tr), .ref rc, .ref bg, .int (nI n1376), .ref oa, .ref xa, .ref ya, .ref rg, .ref me, .ref sa, .ref pa, .ref za, .ref ca, .int (bI kp), .ref ta, .ref na])), (oa, .inl (cI, 1024, .inl fo1376)), (xa, .inl (cI, 1024, .inl fx1376)), (ya, .inl (cI, 1024, .inl fy1376))] H := hP
      have hD : va_D A [(im, .inl (cI, 256, .inl fi)), (o, .inr (5, [.int th, .ref im, .int (bI tr), .ref rc, .ref bg, .int (nI n1376), .ref oa, .ref xa, .ref ya, .ref rg, .ref me, .ref sa, .ref pa, .ref za, .ref ca, .int (bI kp), .ref ta, .ref na])), (oa, .inl (cI, 1024, .inl fo1376)), (xa, .inl (cI, 1024, .inl fx1376)), (ya, .inl (cI, 1024, .inl fy1376))] := hD
      refine lv_aload_n hx hb d_MO_instruction_379 rfl (lv_at hl 2 rfl) ?_
      refine lv_bipush (v := 24) hx hb d_MO_instruction_380 (by decide) ?_
      refine lv_iconst (v := 2) hx hb d_MO_instruction_382 (by decide) ?_
      refine lv_iconst (v := 0) hx hb d_MO_instruction_383 (by decide) ?_
      have hPc := hP.sub (ws' := [(o, .inr (5, [.int th, .ref im, .int (bI tr), .ref rc, .ref bg, .int (nI n1376), .ref oa, .ref xa, .ref ya, .ref rg, .ref me, .ref sa, .ref pa, .ref za, .ref ca, .int (bI kp), .ref ta, .ref na])), (oa, .inl (cI, 1024, .inl fo1376)), (xa, .inl (cI, 1024, .inl fx1376)), (ya, .inl (cI, 1024, .inl fy1376))]) [1, 2, 3, 4] rfl
      have hDc := hD.sub (ws' := [(o, .inr (5, [.int th, .ref im, .int (bI tr), .ref rc, .ref bg, .int (nI n1376), .ref oa, .ref xa, .ref ya, .ref rg, .ref me, .ref sa, .ref pa, .ref za, .ref ca, .int (bI kp), .ref ta, .ref na])), (oa, .inl (cI, 1024, .inl fo1376)), (xa, .inl (cI, 1024, .inl fx1376)), (ya, .inl (cI, 1024, .inl fy1376))]) [1, 2, 3, 4] (by decide) rfl
      have hFc := va_free (wc := [(o, .inr (5, [.int th, .ref im, .int (bI tr), .ref rc, .ref bg, .int (nI n1376), .ref oa, .ref xa, .ref ya, .ref rg, .ref me, .ref sa, .ref pa, .ref za, .ref ca, .int (bI kp), .ref ta, .ref na])), (oa, .inl (cI, 1024, .inl fo1376)), (xa, .inl (cI, 1024, .inl fx1376)), (ya, .inl (cI, 1024, .inl fy1376))]) hD hS hA [1, 2, 3, 4] rfl
      refine va_callv (va_runV (As := [.int 24, .int 2, .int 0]) (rest := []) ⟨hx, hb, hml, hown, hts⟩ (q_row l D cI cZ o th im tr rc bg oa xa ya rg me sa pa za ca kp ta na n1376 fo1376 fx1376 fy1376 24 2 0 H.size (by omega)) ⟨cB 3 hts k_801 k_62 k_798 hd_MO_row ⟨Nat.le_of_ble_eq_true rfl, Nat.le_of_ble_eq_true rfl⟩ rfl rfl, hts _ k_800, hts _ k_32⟩ (PcW.preV (va_recv hK hP (q0 := 1) (ci := 5) rfl rfl) hPc hK hDc hN) rfl rfl hl.1 rfl (lv_room (Nat.le_of_ble_eq_true rfl)) d_MO_instruction_384 ⟨Nat.le_of_ble_eq_true rfl, Nat.le_of_ble_eq_true rfl⟩) hS (fun q _ h => hFc q h) hFc (fun u t H1 locs ht hvm e384 hB hz1 hk1 hS => ?_)
      obtain ⟨n1384, fo1384, fx1384, fy1384⟩ := u
      obtain ⟨hP1, hK1, hD1⟩ := hB
      rw [ht] at hP1
      obtain ⟨hP, hD⟩ := va_join (wr := [(im, .inl (cI, 256, .inl fi))]) (w1 := [(o, .inr (5, [.int th, .ref im, .int (bI tr), .ref rc, .ref bg, .int (nI n1384), .ref oa, .ref xa, .ref ya, .ref rg, .ref me, .ref sa, .ref pa, .ref za, .ref ca, .int (bI kp), .ref ta, .ref na])), (oa, .inl (cI, 1024, .inl fo1384)), (xa, .inl (cI, 1024, .inl fx1384)), (ya, .inl (cI, 1024, .inl fy1384))]) hP hD [1, 2, 3, 4] [0] rfl rfl (by decide) (by decide) hk1 hFc hP1 hD1
      generalize H1 = H at hP hS ⊢
      try dsimp only at e384
      have hP : va_P D vwCl [(im, .inl (cI, 256, .inl fi)), (o, .inr (5, [.int th, .ref im, .int (bI tr), .ref rc, .ref bg, .int (nI n1384), .ref oa, .ref xa, .ref ya, .ref rg, .ref me, .ref sa, .ref pa, .ref za, .ref ca, .int (bI kp), .ref ta, .ref na])), (oa, .inl (cI, 1024, .inl fo1384)), (xa, .inl (cI, 1024, .inl fx1384)), (ya, .inl (cI, 1024, .inl fy1384))] H := hP
      have hD : va_D A [(im, .inl (cI, 256, .inl fi)), (o, .inr (5, [.int th, .ref im, .int (bI tr), .ref rc, .ref bg, .int (nI n1384), .ref oa, .ref xa, .ref ya, .ref rg, .ref me, .ref sa, .ref pa, .ref za, .ref ca, .int (bI kp), .ref ta, .ref na])), (oa, .inl (cI, 1024, .inl fo1384)), (xa, .inl (cI, 1024, .inl fx1384)), (ya, .inl (cI, 1024, .inl fy1384))] := hD
      refine lv_aload_n hx hb d_MO_instruction_387 rfl (lv_at hl 2 rfl) ?_
      refine lv_bipush (v := 19) hx hb d_MO_instruction_388 (by decide) ?_
      refine lv_iconst (v := 0) hx hb d_MO_instruction_390 (by decide) ?_
      refine lv_iload_n hx hb d_MO_instruction_391 rfl (lv_at hl 0 rfl) ?_
      have hPc := hP.sub (ws' := [(o, .inr (5, [.int th, .ref im, .int (bI tr), .ref rc, .ref bg, .int (nI n1384), .ref oa, .ref xa, .ref ya, .ref rg, .ref me, .ref sa, .ref pa, .ref za, .ref ca, .int (bI kp), .ref ta, .ref na])), (oa, .inl (cI, 1024, .inl fo1384)), (xa, .inl (cI, 1024, .inl fx1384)), (ya, .inl (cI, 1024, .inl fy1384))]) [1, 2, 3, 4] rfl
      have hDc := hD.sub (ws' := [(o, .inr (5, [.int th, .ref im, .int (bI tr), .ref rc, .ref bg, .int (nI n1384), .ref oa, .ref xa, .ref ya, .ref rg, .ref me, .ref sa, .ref pa, .ref za, .ref ca, .int (bI kp), .ref ta, .ref na])), (oa, .inl (cI, 1024, .inl fo1384)), (xa, .inl (cI, 1024, .inl fx1384)), (ya, .inl (cI, 1024, .inl fy1384))]) [1, 2, 3, 4] (by decide) rfl
      have hFc := va_free (wc := [(o, .inr (5, [.int th, .ref im, .int (bI tr), .ref rc, .ref bg, .int (nI n1384), .ref oa, .ref xa, .ref ya, .ref rg, .ref me, .ref sa, .ref pa, .ref za, .ref ca, .int (bI kp), .ref ta, .ref na])), (oa, .inl (cI, 1024, .inl fo1384)), (xa, .inl (cI, 1024, .inl fx1384)), (ya, .inl (cI, 1024, .inl fy1384))]) hD hS hA [1, 2, 3, 4] rfl
      refine va_callv (va_runV (As := [.int 19, .int 0, .int (rd fi (nI i + 1))]) (rest := []) ⟨hx, hb, hml, hown, hts⟩ (q_row l D cI cZ o th im tr rc bg oa xa ya rg me sa pa za ca kp ta na n1384 fo1384 fx1384 fy1384 19 0 (rd fi (nI i + 1)) H.size (by omega)) ⟨cB 3 hts k_801 k_62 k_798 hd_MO_row ⟨Nat.le_of_ble_eq_true rfl, Nat.le_of_ble_eq_true rfl⟩ rfl rfl, hts _ k_800, hts _ k_32⟩ (PcW.preV (va_recv hK hP (q0 := 1) (ci := 5) rfl rfl) hPc hK hDc hN) rfl rfl hl.1 rfl (lv_room (Nat.le_of_ble_eq_true rfl)) d_MO_instruction_392 ⟨Nat.le_of_ble_eq_true rfl, Nat.le_of_ble_eq_true rfl⟩) hS (fun q _ h => hFc q h) hFc (fun u t H1 locs ht hvm e392 hB hz1 hk1 hS => ?_)
      obtain ⟨n1392, fo1392, fx1392, fy1392⟩ := u
      obtain ⟨hP1, hK1, hD1⟩ := hB
      rw [ht] at hP1
      obtain ⟨hP, hD⟩ := va_join (wr := [(im, .inl (cI, 256, .inl fi))]) (w1 := [(o, .inr (5, [.int th, .ref im, .int (bI tr), .ref rc, .ref bg, .int (nI n1392), .ref oa, .ref xa, .ref ya, .ref rg, .ref me, .ref sa, .ref pa, .ref za, .ref ca, .int (bI kp), .ref ta, .ref na])), (oa, .inl (cI, 1024, .inl fo1392)), (xa, .inl (cI, 1024, .inl fx1392)), (ya, .inl (cI, 1024, .inl fy1392))]) hP hD [1, 2, 3, 4] [0] rfl rfl (by decide) (by decide) hk1 hFc hP1 hD1
      generalize H1 = H at hP hS ⊢
      try dsimp only at e392
      have hP : va_P D vwCl [(im, .inl (cI, 256, .inl fi)), (o, .inr (5, [.int th, .ref im, .int (bI tr), .ref rc, .ref bg, .int (nI n1392), .ref oa, .ref xa, .ref ya, .ref rg, .ref me, .ref sa, .ref pa, .ref za, .ref ca, .int (bI kp), .ref ta, .ref na])), (oa, .inl (cI, 1024, .inl fo1392)), (xa, .inl (cI, 1024, .inl fx1392)), (ya, .inl (cI, 1024, .inl fy1392))] H := hP
      have hD : va_D A [(im, .inl (cI, 256, .inl fi)), (o, .inr (5, [.int th, .ref im, .int (bI tr), .ref rc, .ref bg, .int (nI n1392), .ref oa, .ref xa, .ref ya, .ref rg, .ref me, .ref sa, .ref pa, .ref za, .ref ca, .int (bI kp), .ref ta, .ref na])), (oa, .inl (cI, 1024, .inl fo1392)), (xa, .inl (cI, 1024, .inl fx1392)), (ya, .inl (cI, 1024, .inl fy1392))] := hD
      refine lv_goto (tgt := 477) hx hb d_MO_instruction_395 rfl ?_
      have hP9 : va_P D vwCl [(o, .inr (5, [.int th, .ref im, .int (bI tr), .ref rc, .ref bg, .int (nI n1392), .ref oa, .ref xa, .ref ya, .ref rg, .ref me, .ref sa, .ref pa, .ref za, .ref ca, .int (bI kp), .ref ta, .ref na])), (oa, .inl (cI, 1024, .inl fo1392)), (xa, .inl (cI, 1024, .inl fx1392)), (ya, .inl (cI, 1024, .inl fy1392)), (im, .inl (cI, 256, .inl fi))] H := hP.sub [1, 2, 3, 4, 0] rfl
      have hD9 : va_D A [(o, .inr (5, [.int th, .ref im, .int (bI tr), .ref rc, .ref bg, .int (nI n1392), .ref oa, .ref xa, .ref ya, .ref rg, .ref me, .ref sa, .ref pa, .ref za, .ref ca, .int (bI kp), .ref ta, .ref na])), (oa, .inl (cI, 1024, .inl fo1392)), (xa, .inl (cI, 1024, .inl fx1392)), (ya, .inl (cI, 1024, .inl fy1392)), (im, .inl (cI, 256, .inl fi))] := hD.sub [1, 2, 3, 4, 0] (by decide) rfl
      exact W.vret hx hb hr (fun t ht hW => ⟨⟨(n1392, fo1392, fx1392, fy1392), rfl, ⟨by rw [e392.1, e384.1, e376.1, instM, h21]; try rfl, by omega⟩, by rw [ht]; exact hP9, va_K.moved hW.alike hK, hD9⟩, hS.F ht⟩) hS.2.2 d_MO_instruction_477
    | 26, _, h21 =>
      have h21 : fi i = 28 := h21
      refine lv_tableIn (off := 377) (tgt := 398) hx hb d_MO_instruction_21 (by rw [h21]; decide) (by rw [h21]; decide) (by rw [h21]; rfl) rfl ?_
      refine lv_aload_n hx hb d_MO_instruction_398 rfl (lv_at hl 2 rfl) ?_
      refine lv_bipush (v := 25) hx hb d_MO_instruction_399 (by decide) ?_
      refine lv_iconst (v := 2) hx hb d_MO_instruction_401 (by decide) ?_
      refine lv_iconst (v := 0) hx hb d_MO_instruction_402 (by decide) ?_
      have hPc := hP.sub (ws' := [(o, .inr (5, [.int th, .ref im, .int (bI tr), .ref rc, .ref bg, .int (nI n), .ref oa, .ref xa, .ref ya, .ref rg, .ref me, .ref sa, .ref pa, .ref za, .ref ca, .int (bI kp), .ref ta, .ref na])), (oa, .inl (cI, 1024, .inl fo)), (xa, .inl (cI, 1024, .inl fx)), (ya, .inl (cI, 1024, .inl fy))]) [0, 1, 2, 3] rfl
      have hDc := hD.sub (ws' := [(o, .inr (5, [.int th, .ref im, .int (bI tr), .ref rc, .ref bg, .int (nI n), .ref oa, .ref xa, .ref ya, .ref rg, .ref me, .ref sa, .ref pa, .ref za, .ref ca, .int (bI kp), .ref ta, .ref na])), (oa, .inl (cI, 1024, .inl fo)), (xa, .inl (cI, 1024, .inl fx)), (ya, .inl (cI, 1024, .inl fy))]) [0, 1, 2, 3] (by decide) rfl
      have hFc := va_free (wc := [(o, .inr (5, [.int th, .ref im, .int (bI tr), .ref rc, .ref bg, .int (nI n), .ref oa, .ref xa, .ref ya, .ref rg, .ref me, .ref sa, .ref pa, .ref za, .ref ca, .int (bI kp), .ref ta, .ref na])), (oa, .inl (cI, 1024, .inl fo)), (xa, .inl (cI, 1024, .inl fx)), (ya, .inl (cI, 1024, .inl fy))]) hD hS hA [0, 1, 2, 3] rfl
      refine va_callv (va_runV (As := [.int 25, .int 2, .int 0]) (rest := []) ⟨hx, hb, hml, hown, hts⟩ (q_row l D cI cZ o th im tr rc bg oa xa ya rg me sa pa za ca kp ta na n fo fx fy 25 2 0 H.size (by omega)) ⟨cB 3 hts k_801 k_62 k_798 hd_MO_row ⟨Nat.le_of_ble_eq_true rfl, Nat.le_of_ble_eq_true rfl⟩ rfl rfl, hts _ k_800, hts _ k_32⟩ (PcW.preV (va_recv hK hP (q0 := 0) (ci := 5) rfl rfl) hPc hK hDc hN) rfl rfl hl.1 rfl (lv_room (Nat.le_of_ble_eq_true rfl)) d_MO_instruction_403 ⟨Nat.le_of_ble_eq_true rfl, Nat.le_of_ble_eq_true rfl⟩) hS (fun q _ h => hFc q h) hFc (fun u t H1 locs ht hvm e403 hB hz1 hk1 hS => ?_)
      obtain ⟨n1403, fo1403, fx1403, fy1403⟩ := u
      obtain ⟨hP1, hK1, hD1⟩ := hB
      rw [ht] at hP1
      obtain ⟨hP, hD⟩ := va_join (wr := [(im, .inl (cI, 256, .inl fi))]) (w1 := [(o, .inr (5, [.int th, .ref im, .int (bI tr), .ref rc, .ref bg, .int (nI n1403), .ref oa, .ref xa, .ref ya, .ref rg, .ref me, .ref sa, .ref pa, .ref za, .ref ca, .int (bI kp), .ref ta, .ref na])), (oa, .inl (cI, 1024, .inl fo1403)), (xa, .inl (cI, 1024, .inl fx1403)), (ya, .inl (cI, 1024, .inl fy1403))]) hP hD [0, 1, 2, 3] [4] rfl rfl (by decide) (by decide) hk1 hFc hP1 hD1
      generalize H1 = H at hP hS ⊢
      try dsimp only at e403
      have hP : va_P D vwCl [(im, .inl (cI, 256, .inl fi)), (o, .inr (5, [.int th, .ref im, .int (bI tr), .ref rc, .ref bg, .int (nI n1403), .ref oa, .ref xa, .ref ya, .ref rg, .ref me, .ref sa, .ref pa, .ref za, .ref ca, .int (bI kp), .ref ta, .ref na])), (oa, .inl (cI, 1024, .inl fo1403)), (xa, .inl (cI, 1024, .inl fx1403)), (ya, .inl (cI, 1024, .inl fy1403))] H := hP
      have hD : va_D A [(im, .inl (cI, 256, .inl fi)), (o, .inr (5, [.int th, .ref im, .int (bI tr), .ref rc, .ref bg, .int (nI n1403), .ref oa, .ref xa, .ref ya, .ref rg, .ref me, .ref sa, .ref pa, .ref za, .ref ca, .int (bI kp), .ref ta, .ref na])), (oa, .inl (cI, 1024, .inl fo1403)), (xa, .inl (cI, 1024, .inl fx1403)), (ya, .inl (cI, 1024, .inl fy1403))] := hD
      refine lv_aload_n hx hb d_MO_instruction_406 rfl (lv_at hl 2 rfl) ?_
      refine lv_bipush (v := 26) hx hb d_MO_instruction_407 (by decide) ?_
      refine lv_iconst (v := 2) hx hb d_MO_instruction_409 (by decide) ?_
      refine lv_iconst (v := 0) hx hb d_MO_instruction_410 (by decide) ?_
      have hPc := hP.sub (ws' := [(o, .inr (5, [.int th, .ref im, .int (bI tr), .ref rc, .ref bg, .int (nI n1403), .ref oa, .ref xa, .ref ya, .ref rg, .ref me, .ref sa, .ref pa, .ref za, .ref ca, .int (bI kp), .ref ta, .ref na])), (oa, .inl (cI, 1024, .inl fo1403)), (xa, .inl (cI, 1024, .inl fx1403)), (ya, .inl (cI, 1024, .inl fy1403))]) [1, 2, 3, 4] rfl
      have hDc := hD.sub (ws' := [(o, .inr (5, [.int th, .ref im, .int (bI tr), .ref rc, .ref bg, .int (nI n1403), .ref oa, .ref xa, .ref ya, .ref rg, .ref me, .ref sa, .ref pa, .ref za, .ref ca, .int (bI kp), .ref ta, .ref na])), (oa, .inl (cI, 1024, .inl fo1403)), (xa, .inl (cI, 1024, .inl fx1403)), (ya, .inl (cI, 1024, .inl fy1403))]) [1, 2, 3, 4] (by decide) rfl
      have hFc := va_free (wc := [(o, .inr (5, [.int th, .ref im, .int (bI tr), .ref rc, .ref bg, .int (nI n1403), .ref oa, .ref xa, .ref ya, .ref rg, .ref me, .ref sa, .ref pa, .ref za, .ref ca, .int (bI kp), .ref ta, .ref na])), (oa, .inl (cI, 1024, .inl fo1403)), (xa, .inl (cI, 1024, .inl fx1403)), (ya, .inl (cI, 1024, .inl fy1403))]) hD hS hA [1, 2, 3, 4] rfl
      refine va_callv (va_runV (As := [.int 26, .int 2, .int 0]) (rest := []) ⟨hx, hb, hml, hown, hts⟩ (q_row l D cI cZ o th im tr rc bg oa xa ya rg me sa pa za ca kp ta na n1403 fo1403 fx1403 fy1403 26 2 0 H.size (by omega)) ⟨cB 3 hts k_801 k_62 k_798 hd_MO_row ⟨Nat.le_of_ble_eq_true rfl, Nat.le_of_ble_eq_true rfl⟩ rfl rfl, hts _ k_800, hts _ k_32⟩ (PcW.preV (va_recv hK hP (q0 := 1) (ci := 5) rfl rfl) hPc hK hDc hN) rfl rfl hl.1 rfl (lv_room (Nat.le_of_ble_eq_true rfl)) d_MO_instruction_411 ⟨Nat.le_of_ble_eq_true rfl, Nat.le_of_ble_eq_true rfl⟩) hS (fun q _ h => hFc q h) hFc (fun u t H1 locs ht hvm e411 hB hz1 hk1 hS => ?_)
      obtain ⟨n1411, fo1411, fx1411, fy1411⟩ := u
      obtain ⟨hP1, hK1, hD1⟩ := hB
      rw [ht] at hP1
      obtain ⟨hP, hD⟩ := va_join (wr := [(im, .inl (cI, 256, .inl fi))]) (w1 := [(o, .inr (5, [.int th, .ref im, .int (bI tr), .ref rc, .ref bg, .int (nI n1411), .ref oa, .ref xa, .ref ya, .ref rg, .ref me, .ref sa, .ref pa, .ref za, .ref ca, .int (bI kp), .ref ta, .ref na])), (oa, .inl (cI, 1024, .inl fo1411)), (xa, .inl (cI, 1024, .inl fx1411)), (ya, .inl (cI, 1024, .inl fy1411))]) hP hD [1, 2, 3, 4] [0] rfl rfl (by decide) (by decide) hk1 hFc hP1 hD1
      generalize H1 = H at hP hS ⊢
      try dsimp only at e411
      have hP : va_P D vwCl [(im, .inl (cI, 256, .inl fi)), (o, .inr (5, [.int th, .ref im, .int (bI tr), .ref rc, .ref bg, .int (nI n1411), .ref oa, .ref xa, .ref ya, .ref rg, .ref me, .ref sa, .ref pa, .ref za, .ref ca, .int (bI kp), .ref ta, .ref na])), (oa, .inl (cI, 1024, .inl fo1411)), (xa, .inl (cI, 1024, .inl fx1411)), (ya, .inl (cI, 1024, .inl fy1411))] H := hP
      have hD : va_D A [(im, .inl (cI, 256, .inl fi)), (o, .inr (5, [.int th, .ref im, .int (bI tr), .ref rc, .ref bg, .int (nI n1411), .ref oa, .ref xa, .ref ya, .ref rg, .ref me, .ref sa, .ref pa, .ref za, .ref ca, .int (bI kp), .ref ta, .ref na])), (oa, .inl (cI, 1024, .inl fo1411)), (xa, .inl (cI, 1024, .inl fx1411)), (ya, .inl (cI, 1024, .inl fy1411))] := hD
      refine lv_goto (tgt := 477) hx hb d_MO_instruction_414 rfl ?_
      have hP9 : va_P D vwCl [(o, .inr (5, [.int th, .ref im, .int (bI tr), .ref rc, .ref bg, .int (nI n1411), .ref oa, .ref xa, .ref ya, .ref rg, .ref me, .ref sa, .ref pa, .ref za, .ref ca, .int (bI kp), .ref ta, .ref na])), (oa, .inl (cI, 1024, .inl fo1411)), (xa, .inl (cI, 1024, .inl fx1411)), (ya, .inl (cI, 1024, .inl fy1411)), (im, .inl (cI, 256, .inl fi))] H := hP.sub [1, 2, 3, 4, 0] rfl
      have hD9 : va_D A [(o, .inr (5, [.int th, .ref im, .int (bI tr), .ref rc, .ref bg, .int (nI n1411), .ref oa, .ref xa, .ref ya, .ref rg, .ref me, .ref sa, .ref pa, .ref za, .ref ca, .int (bI kp), .ref ta, .ref na])), (oa, .inl (cI, 1024, .inl fo1411)), (xa, .inl (cI, 1024, .inl fx1411)), (ya, .inl (cI, 1024, .inl fy1411)), (im, .inl (cI, 256, .inl fi))] := hD.sub [1, 2, 3, 4, 0] (by decide) rfl
      exact W.vret hx hb hr (fun t ht hW => ⟨⟨(n1411, fo1411, fx1411, fy1411), rfl, ⟨by rw [e411.1, e403.1, instM, h21]; try rfl, by omega⟩, by rw [ht]; exact hP9, va_K.moved hW.alike hK, hD9⟩, hS.F ht⟩) hS.2.2 d_MO_instruction_477
    | 27, _, h21 =>
      have h21 : fi i = 29 := h21
      refine lv_tableIn (off := 396) (tgt := 417) hx hb d_MO_instruction_21 (by rw [h21]; decide) (by rw [h21]; decide) (by rw [h21]; rfl) rfl ?_
      refine lv_aload_n hx hb d_MO_instruction_417 rfl (lv_at hl 2 rfl) ?_
      refine lv_bipush (v := 24) hx hb d_MO_instruction_418 (by decide) ?_
      refine lv_iconst (v := 0) hx hb d_MO_instruction_420 (by decide) ?_
      refine lv_iconst (v := 0) hx hb d_MO_instruction_421 (by decide) ?_
      have hPc := hP.sub (ws' := [(o, .inr (5, [.int th, .ref im, .int (bI tr), .ref rc, .ref bg, .int (nI n), .ref oa, .ref xa, .ref ya, .ref rg, .ref me, .ref sa, .ref pa, .ref za, .ref ca, .int (bI kp), .ref ta, .ref na])), (oa, .inl (cI, 1024, .inl fo)), (xa, .inl (cI, 1024, .inl fx)), (ya, .inl (cI, 1024, .inl fy))]) [0, 1, 2, 3] rfl
      have hDc := hD.sub (ws' := [(o, .inr (5, [.int th, .ref im, .int (bI tr), .ref rc, .ref bg, .int (nI n), .ref oa, .ref xa, .ref ya, .ref rg, .ref me, .ref sa, .ref pa, .ref za, .ref ca, .int (bI kp), .ref ta, .ref na])), (oa, .inl (cI, 1024, .inl fo)), (xa, .inl (cI, 1024, .inl fx)), (ya, .inl (cI, 1024, .inl fy))]) [0, 1, 2, 3] (by decide) rfl
      have hFc := va_free (wc := [(o, .inr (5, [.int th, .ref im, .int (bI tr), .ref rc, .ref bg, .int (nI n), .ref oa, .ref xa, .ref ya, .ref rg, .ref me, .ref sa, .ref pa, .ref za, .ref ca, .int (bI kp), .ref ta, .ref na])), (oa, .inl (cI, 1024, .inl fo)), (xa, .inl (cI, 1024, .inl fx)), (ya, .inl (cI, 1024, .inl fy))]) hD hS hA [0, 1, 2, 3] rfl
      refine va_callv (va_runV (As := [.int 24, .int 0, .int 0]) (rest := []) ⟨hx, hb, hml, hown, hts⟩ (q_row l D cI cZ o th im tr rc bg oa xa ya rg me sa pa za ca kp ta na n fo fx fy 24 0 0 H.size (by omega)) ⟨cB 3 hts k_801 k_62 k_798 hd_MO_row ⟨Nat.le_of_ble_eq_true rfl, Nat.le_of_ble_eq_true rfl⟩ rfl rfl, hts _ k_800, hts _ k_32⟩ (PcW.preV (va_recv hK hP (q0 := 0) (ci := 5) rfl rfl) hPc hK hDc hN) rfl rfl hl.1 rfl (lv_room (Nat.le_of_ble_eq_true rfl)) d_MO_instruction_422 ⟨Nat.le_of_ble_eq_true rfl, Nat.le_of_ble_eq_true rfl⟩) hS (fun q _ h => hFc q h) hFc (fun u t H1 locs ht hvm e422 hB hz1 hk1 hS => ?_)
      obtain ⟨n1422, fo1422, fx1422, fy1422⟩ := u
      obtain ⟨hP1, hK1, hD1⟩ := hB
      rw [ht] at hP1
      obtain ⟨hP, hD⟩ := va_join (wr := [(im, .inl (cI, 256, .inl fi))]) (w1 := [(o, .inr (5, [.int th, .ref im, .int (bI tr), .ref rc, .ref bg, .int (nI n1422), .ref oa, .ref xa, .ref ya, .ref rg, .ref me, .ref sa, .ref pa, .ref za, .ref ca, .int (bI kp), .ref ta, .ref na])), (oa, .inl (cI, 1024, .inl fo1422)), (xa, .inl (cI, 1024, .inl fx1422)), (ya, .inl (cI, 1024, .inl fy1422))]) hP hD [0, 1, 2, 3] [4] rfl rfl (by decide) (by decide) hk1 hFc hP1 hD1
      generalize H1 = H at hP hS ⊢
      try dsimp only at e422
      have hP : va_P D vwCl [(im, .inl (cI, 256, .inl fi)), (o, .inr (5, [.int th, .ref im, .int (bI tr), .ref rc, .ref bg, .int (nI n1422), .ref oa, .ref xa, .ref ya, .ref rg, .ref me, .ref sa, .ref pa, .ref za, .ref ca, .int (bI kp), .ref ta, .ref na])), (oa, .inl (cI, 1024, .inl fo1422)), (xa, .inl (cI, 1024, .inl fx1422)), (ya, .inl (cI, 1024, .inl fy1422))] H := hP
      have hD : va_D A [(im, .inl (cI, 256, .inl fi)), (o, .inr (5, [.int th, .ref im, .int (bI tr), .ref rc, .ref bg, .int (nI n1422), .ref oa, .ref xa, .ref ya, .ref rg, .ref me, .ref sa, .ref pa, .ref za, .ref ca, .int (bI kp), .ref ta, .ref na])), (oa, .inl (cI, 1024, .inl fo1422)), (xa, .inl (cI, 1024, .inl fx1422)), (ya, .inl (cI, 1024, .inl fy1422))] := hD
      refine lv_goto (tgt := 477) hx hb d_MO_instruction_425 rfl ?_
      have hP9 : va_P D vwCl [(o, .inr (5, [.int th, .ref im, .int (bI tr), .ref rc, .ref bg, .int (nI n1422), .ref oa, .ref xa, .ref ya, .ref rg, .ref me, .ref sa, .ref pa, .ref za, .ref ca, .int (bI kp), .ref ta, .ref na])), (oa, .inl (cI, 1024, .inl fo1422)), (xa, .inl (cI, 1024, .inl fx1422)), (ya, .inl (cI, 1024, .inl fy1422)), (im, .inl (cI, 256, .inl fi))] H := hP.sub [1, 2, 3, 4, 0] rfl
      have hD9 : va_D A [(o, .inr (5, [.int th, .ref im, .int (bI tr), .ref rc, .ref bg, .int (nI n1422), .ref oa, .ref xa, .ref ya, .ref rg, .ref me, .ref sa, .ref pa, .ref za, .ref ca, .int (bI kp), .ref ta, .ref na])), (oa, .inl (cI, 1024, .inl fo1422)), (xa, .inl (cI, 1024, .inl fx1422)), (ya, .inl (cI, 1024, .inl fy1422)), (im, .inl (cI, 256, .inl fi))] := hD.sub [1, 2, 3, 4, 0] (by decide) rfl
      exact W.vret hx hb hr (fun t ht hW => ⟨⟨(n1422, fo1422, fx1422, fy1422), rfl, ⟨by rw [e422.1, instM, h21]; try rfl, by omega⟩, by rw [ht]; exact hP9, va_K.moved hW.alike hK, hD9⟩, hS.F ht⟩) hS.2.2 d_MO_instruction_477
    | 28, _, h21 =>
      have h21 : fi i = 30 := h21
      refine lv_tableIn (off := 407) (tgt := 428) hx hb d_MO_instruction_21 (by rw [h21]; decide) (by rw [h21]; decide) (by rw [h21]; rfl) rfl ?_
      refine lv_aload_n hx hb d_MO_instruction_428 rfl (lv_at hl 2 rfl) ?_
      refine lv_bipush (v := 25) hx hb d_MO_instruction_429 (by decide) ?_
      refine lv_iconst (v := 0) hx hb d_MO_instruction_431 (by decide) ?_
      refine lv_iconst (v := 0) hx hb d_MO_instruction_432 (by decide) ?_
      have hPc := hP.sub (ws' := [(o, .inr (5, [.int th, .ref im, .int (bI tr), .ref rc, .ref bg, .int (nI n), .ref oa, .ref xa, .ref ya, .ref rg, .ref me, .ref sa, .ref pa, .ref za, .ref ca, .int (bI kp), .ref ta, .ref na])), (oa, .inl (cI, 1024, .inl fo)), (xa, .inl (cI, 1024, .inl fx)), (ya, .inl (cI, 1024, .inl fy))]) [0, 1, 2, 3] rfl
      have hDc := hD.sub (ws' := [(o, .inr (5, [.int th, .ref im, .int (bI tr), .ref rc, .ref bg, .int (nI n), .ref oa, .ref xa, .ref ya, .ref rg, .ref me, .ref sa, .ref pa, .ref za, .ref ca, .int (bI kp), .ref ta, .ref na])), (oa, .inl (cI, 1024, .inl fo)), (xa, .inl (cI, 1024, .inl fx)), (ya, .inl (cI, 1024, .inl fy))]) [0, 1, 2, 3] (by decide) rfl
      have hFc := va_free (wc := [(o, .inr (5, [.int th, .ref im, .int (bI tr), .ref rc, .ref bg, .int (nI n), .ref oa, .ref xa, .ref ya, .ref rg, .ref me, .ref sa, .ref pa, .ref za, .ref ca, .int (bI kp), .ref ta, .ref na])), (oa, .inl (cI, 1024, .inl fo)), (xa, .inl (cI, 1024, .inl fx)), (ya, .inl (cI, 1024, .inl fy))]) hD hS hA [0, 1, 2, 3] rfl
      refine va_callv (va_runV (As := [.int 25, .int 0, .int 0]) (rest := []) ⟨hx, hb, hml, hown, hts⟩ (q_around l D cI cZ o th im tr rc bg oa xa ya rg me sa pa za ca kp ta na n fo fx fy 25 0 0 H.size (by omega)) ⟨cB 3 hts k_797 k_62 k_794 hd_MO_around ⟨Nat.le_of_ble_eq_true rfl, Nat.le_of_ble_eq_true rfl⟩ rfl rfl, hts _ k_796, hts _ k_31⟩ (PcW.preV (va_recv hK hP (q0 := 0) (ci := 5) rfl rfl) hPc hK hDc hN) rfl rfl hl.1 rfl (lv_room (Nat.le_of_ble_eq_true rfl)) d_MO_instruction_433 ⟨Nat.le_of_ble_eq_true rfl, Nat.le_of_ble_eq_true rfl⟩) hS (fun q _ h => hFc q h) hFc (fun u t H1 locs ht hvm e433 hB hz1 hk1 hS => ?_)
      obtain ⟨n1433, fo1433, fx1433, fy1433⟩ := u
      obtain ⟨hP1, hK1, hD1⟩ := hB
      rw [ht] at hP1
      obtain ⟨hP, hD⟩ := va_join (wr := [(im, .inl (cI, 256, .inl fi))]) (w1 := [(o, .inr (5, [.int th, .ref im, .int (bI tr), .ref rc, .ref bg, .int (nI n1433), .ref oa, .ref xa, .ref ya, .ref rg, .ref me, .ref sa, .ref pa, .ref za, .ref ca, .int (bI kp), .ref ta, .ref na])), (oa, .inl (cI, 1024, .inl fo1433)), (xa, .inl (cI, 1024, .inl fx1433)), (ya, .inl (cI, 1024, .inl fy1433))]) hP hD [0, 1, 2, 3] [4] rfl rfl (by decide) (by decide) hk1 hFc hP1 hD1
      generalize H1 = H at hP hS ⊢
      try dsimp only at e433
      have hP : va_P D vwCl [(im, .inl (cI, 256, .inl fi)), (o, .inr (5, [.int th, .ref im, .int (bI tr), .ref rc, .ref bg, .int (nI n1433), .ref oa, .ref xa, .ref ya, .ref rg, .ref me, .ref sa, .ref pa, .ref za, .ref ca, .int (bI kp), .ref ta, .ref na])), (oa, .inl (cI, 1024, .inl fo1433)), (xa, .inl (cI, 1024, .inl fx1433)), (ya, .inl (cI, 1024, .inl fy1433))] H := hP
      have hD : va_D A [(im, .inl (cI, 256, .inl fi)), (o, .inr (5, [.int th, .ref im, .int (bI tr), .ref rc, .ref bg, .int (nI n1433), .ref oa, .ref xa, .ref ya, .ref rg, .ref me, .ref sa, .ref pa, .ref za, .ref ca, .int (bI kp), .ref ta, .ref na])), (oa, .inl (cI, 1024, .inl fo1433)), (xa, .inl (cI, 1024, .inl fx1433)), (ya, .inl (cI, 1024, .inl fy1433))] := hD
      refine lv_goto (tgt := 477) hx hb d_MO_instruction_436 rfl ?_
      have hP9 : va_P D vwCl [(o, .inr (5, [.int th, .ref im, .int (bI tr), .ref rc, .ref bg, .int (nI n1433), .ref oa, .ref xa, .ref ya, .ref rg, .ref me, .ref sa, .ref pa, .ref za, .ref ca, .int (bI kp), .ref ta, .ref na])), (oa, .inl (cI, 1024, .inl fo1433)), (xa, .inl (cI, 1024, .inl fx1433)), (ya, .inl (cI, 1024, .inl fy1433)), (im, .inl (cI, 256, .inl fi))] H := hP.sub [1, 2, 3, 4, 0] rfl
      have hD9 : va_D A [(o, .inr (5, [.int th, .ref im, .int (bI tr), .ref rc, .ref bg, .int (nI n1433), .ref oa, .ref xa, .ref ya, .ref rg, .ref me, .ref sa, .ref pa, .ref za, .ref ca, .int (bI kp), .ref ta, .ref na])), (oa, .inl (cI, 1024, .inl fo1433)), (xa, .inl (cI, 1024, .inl fx1433)), (ya, .inl (cI, 1024, .inl fy1433)), (im, .inl (cI, 256, .inl fi))] := hD.sub [1, 2, 3, 4, 0] (by decide) rfl
      exact W.vret hx hb hr (fun t ht hW => ⟨⟨(n1433, fo1433, fx1433, fy1433), rfl, ⟨by rw [e433.1, instM, h21]; try rfl, by omega⟩, by rw [ht]; exact hP9, va_K.moved hW.alike hK, hD9⟩, hS.F ht⟩) hS.2.2 d_MO_instruction_477
    | 29, _, h21 =>
      have h21 : fi i = 31 := h21
      refine lv_tableIn (off := 418) (tgt := 439) hx hb d_MO_instruction_21 (by rw [h21]; decide) (by rw [h21]; decide) (by rw [h21]; rfl) rfl ?_
      refine lv_aload_n hx hb d_MO_instruction_439 rfl (lv_at hl 2 rfl) ?_
      refine lv_bipush (v := 26) hx hb d_MO_instruction_440 (by decide) ?_
      refine lv_iconst (v := 1) hx hb d_MO_instruction_442 (by decide) ?_
      refine lv_iconst (v := 0) hx hb d_MO_instruction_443 (by decide) ?_
      have hPc := hP.sub (ws' := [(o, .inr (5, [.int th, .ref im, .int (bI tr), .ref rc, .ref bg, .int (nI n), .ref oa, .ref xa, .ref ya, .ref rg, .ref me, .ref sa, .ref pa, .ref za, .ref ca, .int (bI kp), .ref ta, .ref na])), (oa, .inl (cI, 1024, .inl fo)), (xa, .inl (cI, 1024, .inl fx)), (ya, .inl (cI, 1024, .inl fy))]) [0, 1, 2, 3] rfl
      have hDc := hD.sub (ws' := [(o, .inr (5, [.int th, .ref im, .int (bI tr), .ref rc, .ref bg, .int (nI n), .ref oa, .ref xa, .ref ya, .ref rg, .ref me, .ref sa, .ref pa, .ref za, .ref ca, .int (bI kp), .ref ta, .ref na])), (oa, .inl (cI, 1024, .inl fo)), (xa, .inl (cI, 1024, .inl fx)), (ya, .inl (cI, 1024, .inl fy))]) [0, 1, 2, 3] (by decide) rfl
      have hFc := va_free (wc := [(o, .inr (5, [.int th, .ref im, .int (bI tr), .ref rc, .ref bg, .int (nI n), .ref oa, .ref xa, .ref ya, .ref rg, .ref me, .ref sa, .ref pa, .ref za, .ref ca, .int (bI kp), .ref ta, .ref na])), (oa, .inl (cI, 1024, .inl fo)), (xa, .inl (cI, 1024, .inl fx)), (ya, .inl (cI, 1024, .inl fy))]) hD hS hA [0, 1, 2, 3] rfl
      refine va_callv (va_runV (As := [.int 26, .int 1, .int 0]) (rest := []) ⟨hx, hb, hml, hown, hts⟩ (q_row l D cI cZ o th im tr rc bg oa xa ya rg me sa pa za ca kp ta na n fo fx fy 26 1 0 H.size (by omega)) ⟨cB 3 hts k_801 k_62 k_798 hd_MO_row ⟨Nat.le_of_ble_eq_true rfl, Nat.le_of_ble_eq_true rfl⟩ rfl rfl, hts _ k_800, hts _ k_32⟩ (PcW.preV (va_recv hK hP (q0 := 0) (ci := 5) rfl rfl) hPc hK hDc hN) rfl rfl hl.1 rfl (lv_room (Nat.le_of_ble_eq_true rfl)) d_MO_instruction_444 ⟨Nat.le_of_ble_eq_true rfl, Nat.le_of_ble_eq_true rfl⟩) hS (fun q _ h => hFc q h) hFc (fun u t H1 locs ht hvm e444 hB hz1 hk1 hS => ?_)
      obtain ⟨n1444, fo1444, fx1444, fy1444⟩ := u
      obtain ⟨hP1, hK1, hD1⟩ := hB
      rw [ht] at hP1
      obtain ⟨hP, hD⟩ := va_join (wr := [(im, .inl (cI, 256, .inl fi))]) (w1 := [(o, .inr (5, [.int th, .ref im, .int (bI tr), .ref rc, .ref bg, .int (nI n1444), .ref oa, .ref xa, .ref ya, .ref rg, .ref me, .ref sa, .ref pa, .ref za, .ref ca, .int (bI kp), .ref ta, .ref na])), (oa, .inl (cI, 1024, .inl fo1444)), (xa, .inl (cI, 1024, .inl fx1444)), (ya, .inl (cI, 1024, .inl fy1444))]) hP hD [0, 1, 2, 3] [4] rfl rfl (by decide) (by decide) hk1 hFc hP1 hD1
      generalize H1 = H at hP hS ⊢
      try dsimp only at e444
      have hP : va_P D vwCl [(im, .inl (cI, 256, .inl fi)), (o, .inr (5, [.int th, .ref im, .int (bI tr), .ref rc, .ref bg, .int (nI n1444), .ref oa, .ref xa, .ref ya, .ref rg, .ref me, .ref sa, .ref pa, .ref za, .ref ca, .int (bI kp), .ref ta, .ref na])), (oa, .inl (cI, 1024, .inl fo1444)), (xa, .inl (cI, 1024, .inl fx1444)), (ya, .inl (cI, 1024, .inl fy1444))] H := hP
      have hD : va_D A [(im, .inl (cI, 256, .inl fi)), (o, .inr (5, [.int th, .ref im, .int (bI tr), .ref rc, .ref bg, .int (nI n1444), .ref oa, .ref xa, .ref ya, .ref rg, .ref me, .ref sa, .ref pa, .ref za, .ref ca, .int (bI kp), .ref ta, .ref na])), (oa, .inl (cI, 1024, .inl fo1444)), (xa, .inl (cI, 1024, .inl fx1444)), (ya, .inl (cI, 1024, .inl fy1444))] := hD
      refine lv_goto (tgt := 477) hx hb d_MO_instruction_447 rfl ?_
      have hP9 : va_P D vwCl [(o, .inr (5, [.int th, .ref im, .int (bI tr), .ref rc, .ref bg, .int (nI n1444), .ref oa, .ref xa, .ref ya, .ref rg, .ref me, .ref sa, .ref pa, .ref za, .ref ca, .int (bI kp), .ref ta, .ref na])), (oa, .inl (cI, 1024, .inl fo1444)), (xa, .inl (cI, 1024, .inl fx1444)), (ya, .inl (cI, 1024, .inl fy1444)), (im, .inl (cI, 256, .inl fi))] H := hP.sub [1, 2, 3, 4, 0] rfl
      have hD9 : va_D A [(o, .inr (5, [.int th, .ref im, .int (bI tr), .ref rc, .ref bg, .int (nI n1444), .ref oa, .ref xa, .ref ya, .ref rg, .ref me, .ref sa, .ref pa, .ref za, .ref ca, .int (bI kp), .ref ta, .ref na])), (oa, .inl (cI, 1024, .inl fo1444)), (xa, .inl (cI, 1024, .inl fx1444)), (ya, .inl (cI, 1024, .inl fy1444)), (im, .inl (cI, 256, .inl fi))] := hD.sub [1, 2, 3, 4, 0] (by decide) rfl
      exact W.vret hx hb hr (fun t ht hW => ⟨⟨(n1444, fo1444, fx1444, fy1444), rfl, ⟨by rw [e444.1, instM, h21]; try rfl, by omega⟩, by rw [ht]; exact hP9, va_K.moved hW.alike hK, hD9⟩, hS.F ht⟩) hS.2.2 d_MO_instruction_477
    | n + 30, h9, _ => exact absurd h9 (by omega)
