set_option maxHeartbeats 4000000 in
set_option maxRecDepth 100000 in
theorem t_chkB (l : Launch) (D : va_G) (cI cZ : ClassId) (v : Int32) (sz : Nat) (hv : isByteB v = true) : MetV l y_TM_checkByte w_TM_checkByte { frames := 1, cells := 0, slots := 0, locals := 20 } D cI cZ [.int v] [] sz (fun (_ : Unit) => True) (fun (_ : Unit) => []) 0 0 := by
  refine ofV (cc := c_TM_checkByte) (maxL := 1) (ret := none) (by decide) rfl (Nat.le_of_ble_eq_true rfl) ?_
  intro p e s m args below meth c A H hH0 hx hb hr hlocks hts hown hnm hml ls hl hP hK hD hA hS hN
  have hown : s.vm.findClass R_TM = some m.cls := hown
  have hl : lv_has ls 1 [(0, .int v)] := hl
  refine lv_iload_n hx hb d_TM_checkByte_0 rfl (lv_at hl 0 rfl) ?_
  have hPc := hP.sub (ws' := []) [] rfl
  refine vp_callSi (va_runS (As := [.int v]) (rest := []) ⟨hx, hb, hml, hown, hts⟩ (m_isByte l D cI cZ v) ⟨cB 1 hts k_241 k_56 k_294 hd_TM_isByte ⟨Nat.le_of_ble_eq_true rfl, Nat.le_of_ble_eq_true rfl⟩ rfl rfl, hts _ k_240⟩ (PcR.preS hPc hK hN) rfl rfl hl.1 rfl (lv_room (Nat.le_of_ble_eq_true rfl)) d_TM_checkByte_1 ⟨Nat.le_of_ble_eq_true rfl, Nat.le_of_ble_eq_true rfl⟩).run (fun r1 e1 => ?_)
  replace e1 := e1.symm
  subst e1
  refine lv_if_ne (tgt := 15) hx hb d_TM_checkByte_4 rfl (fun _ => ?_) (fun hq9 => absurd hq9 (by rw [hv]; decide))
  have hP9 : va_P D vwCl [] H := hP.sub [] rfl
  have hD9 : va_D A [] := hD.sub [] (by decide) rfl
  exact W.vret hx hb hr (fun t ht hW => ⟨⟨(), rfl, trivial, by rw [ht]; exact hP9, va_K.moved hW.alike hK, hD9⟩, hS.F ht⟩) hS.2.2 d_TM_checkByte_15
set_option maxHeartbeats 4000000 in
set_option maxRecDepth 100000 in
theorem t_chkS (l : Launch) (D : va_G) (cI cZ : ClassId) (v : Int32) (sz : Nat) (hv1 : ¬ v < 1) (hv2 : v ≤ 300) : MetV l y_TM_checkSteps w_TM_checkSteps { frames := 0, cells := 0, slots := 0, locals := 0 } D cI cZ [.int v] [] sz (fun (_ : Unit) => True) (fun (_ : Unit) => []) 0 0 := by
  refine ofV (cc := c_TM_checkSteps) (maxL := 1) (ret := none) (by decide) rfl (Nat.le_of_ble_eq_true rfl) ?_
  intro p e s m args below meth c A H hH0 hx hb hr hlocks hts hown hnm hml ls hl hP hK hD hA hS hN
  have hown : s.vm.findClass R_TM = some m.cls := hown
  have hl : lv_has ls 1 [(0, .int v)] := hl
  refine lv_iload_n hx hb d_TM_checkSteps_0 rfl (lv_at hl 0 rfl) ?_
  refine lv_iconst (v := 1) hx hb d_TM_checkSteps_1 (by decide) ?_
  refine lv_icmp_lt (tgt := 12) hx hb d_TM_checkSteps_2 rfl (fun hq9 => absurd hq9 hv1) (fun _ => ?_)
  refine lv_iload_n hx hb d_TM_checkSteps_5 rfl (lv_at hl 0 rfl) ?_
  refine lv_sipush (v := 300) hx hb d_TM_checkSteps_6 (by decide) ?_
  refine lv_icmp_le (tgt := 20) hx hb d_TM_checkSteps_9 rfl (fun _ => ?_) (fun hq9 => absurd hv2 hq9)
  have hP9 : va_P D vwCl [] H := hP.sub [] rfl
  have hD9 : va_D A [] := hD.sub [] (by decide) rfl
  exact W.vret hx hb hr (fun t ht hW => ⟨⟨(), rfl, trivial, by rw [ht]; exact hP9, va_K.moved hW.alike hK, hD9⟩, hS.F ht⟩) hS.2.2 d_TM_checkSteps_20
set_option maxHeartbeats 4000000 in
set_option maxRecDepth 100000 in
theorem t_chkT (l : Launch) (D : va_G) (cI cZ : ClassId) (o : Nat) (sr : Nat) (re : Nat) (pr : Nat) (fm : Nat) (sm : Nat) (nu : Nat) (xs : Nat) (ys : Nat) (be : Nat) (wh : Nat) (n : Int32) (sz : Nat) (hn0 : ¬ n = 0) : MetV l y_TM_checkTranslated w_TM_checkTranslated { frames := 0, cells := 0, slots := 0, locals := 0 } D cI cZ [.ref o] [(o, .inr (0, [.ref sr, .ref re, .ref pr, .ref fm, .ref sm])), (pr, .inr (2, [.ref nu, .ref xs, .ref ys, .ref be, .ref wh, .int n]))] sz (fun (_ : Unit) => True) (fun (_ : Unit) => [(o, .inr (0, [.ref sr, .ref re, .ref pr, .ref fm, .ref sm])), (pr, .inr (2, [.ref nu, .ref xs, .ref ys, .ref be, .ref wh, .int n]))]) 0 0 := by
  refine ofV (cc := c_TM_checkTranslated) (maxL := 1) (ret := none) (by decide) rfl (Nat.le_of_ble_eq_true rfl) ?_
  intro p e s m args below meth c A H hH0 hx hb hr hlocks hts hown hnm hml ls hl hP hK hD hA hS hN
  have hown : s.vm.findClass R_TM = some m.cls := hown
  have hl : lv_has ls 1 [(0, .ref o)] := hl
  refine lv_aload_n hx hb d_TM_checkTranslated_0 rfl (lv_at hl 0 rfl) ?_
  refine va_get (D := D) (ci := 0) (v := .ref pr) (C := R_TM) (T := T_TM) (N := 5) hx hb hts iw_TM hown hK hP 0 rfl rfl 2 (by decide) (hts _ k_217) (fun _ h9 => h9) rfl d_TM_checkTranslated_1 ?_
  refine va_getN (D := D) (ci := 2) (v := .int n) (C := R_PR) (T := T_PR) (N := 6) hx hb hts iw_PR hown hK hP 1 rfl rfl 5 (by decide) (va_Nw.use rfl (nw_2 hN)) (fun _ h9 => h9) rfl d_TM_checkTranslated_4 ?_
  refine lv_if_ne (tgt := 18) hx hb d_TM_checkTranslated_7 rfl (fun _ => ?_) (fun hq9 => absurd hq9 hn0)
  have hP9 : va_P D vwCl [(o, .inr (0, [.ref sr, .ref re, .ref pr, .ref fm, .ref sm])), (pr, .inr (2, [.ref nu, .ref xs, .ref ys, .ref be, .ref wh, .int n]))] H := hP.sub [0, 1] rfl
  have hD9 : va_D A [(o, .inr (0, [.ref sr, .ref re, .ref pr, .ref fm, .ref sm])), (pr, .inr (2, [.ref nu, .ref xs, .ref ys, .ref be, .ref wh, .int n]))] := hD.sub [0, 1] (by decide) rfl
  exact W.vret hx hb hr (fun t ht hW => ⟨⟨(), rfl, trivial, by rw [ht]; exact hP9, va_K.moved hW.alike hK, hD9⟩, hS.F ht⟩) hS.2.2 d_TM_checkTranslated_18
set_option maxHeartbeats 4000000 in
set_option maxRecDepth 100000 in
theorem t_imageO (l : Launch) (D : va_G) (cI cZ : ClassId) (o : Nat) (sr : Nat) (re : Nat) (pr : Nat) (fm : Nat) (sm : Nat) (fs : Nat → Int32) (ad : Int32) (v : Int32) (sz : Nat) (hb1 : isByteB ad = true) (hb2 : isByteB v = true) : MetI l y_TM_image w_TM_image { frames := 2, cells := 0, slots := 0, locals := 40 } D cI cZ [.ref o, .int ad, .int v] [(o, .inr (0, [.ref sr, .ref re, .ref pr, .ref fm, .ref sm])), (sr, .inl (cI, 256, .inl fs))] sz (fun r (fs1 : (Nat → Int32)) => r = bI true ∧ fs1 = upd fs ad.toNatClampNeg v) (fun (fs1 : (Nat → Int32)) => [(o, .inr (0, [.ref sr, .ref re, .ref pr, .ref fm, .ref sm])), (sr, .inl (cI, 256, .inl fs1))]) 0 0 := by
  refine ofI (cc := c_TM_image) (maxL := 3) (ret := (some .boolean)) (by decide) rfl (Nat.le_of_ble_eq_true rfl) ?_
  intro p e s m args below meth c A H hH0 hx hb hr hlocks hts hown hnm hml ls hl hP hK hD hA hS hN
  have hown : s.vm.findClass R_TM = some m.cls := hown
  have hl : lv_has ls 3 [(0, .ref o), (1, .int ad), (2, .int v)] := hl
  refine lv_iload_n hx hb d_TM_image_0 rfl (lv_at hl 1 rfl) ?_
  have hPc := hP.sub (ws' := []) [] rfl
  have hDc := hD.sub (ws' := []) [] (by decide) rfl
  have hFc := va_free (wc := []) hD hS hA [] rfl
  refine va_callv (va_runS (As := [.int ad]) (rest := []) ⟨hx, hb, hml, hown, hts⟩ (t_chkB l D cI cZ ad H.size hb1) ⟨cB 1 hts k_311 k_56 k_309 hd_TM_checkByte ⟨Nat.le_of_ble_eq_true rfl, Nat.le_of_ble_eq_true rfl⟩ rfl rfl, hts _ k_310⟩ (PcW.preS hPc hK hDc hN) rfl rfl hl.1 rfl (lv_room (Nat.le_of_ble_eq_true rfl)) d_TM_image_1 ⟨Nat.le_of_ble_eq_true rfl, Nat.le_of_ble_eq_true rfl⟩) hS (fun q _ h => hFc q h) hFc (fun u t H1 locs ht hvm e1 hB hz1 hk1 hS => ?_)
  obtain ⟨hP1, hK1, hD1⟩ := hB
  rw [ht] at hP1
  obtain ⟨hP, hD⟩ := va_join (wr := [(o, .inr (0, [.ref sr, .ref re, .ref pr, .ref fm, .ref sm])), (sr, .inl (cI, 256, .inl fs))]) (w1 := []) hP hD [] [0, 1] rfl rfl (by decide) (by decide) hk1 hFc hP1 hD1
  generalize H1 = H at hP hS ⊢
  try dsimp only at e1
  have hP : va_P D vwCl [(o, .inr (0, [.ref sr, .ref re, .ref pr, .ref fm, .ref sm])), (sr, .inl (cI, 256, .inl fs))] H := hP
  have hD : va_D A [(o, .inr (0, [.ref sr, .ref re, .ref pr, .ref fm, .ref sm])), (sr, .inl (cI, 256, .inl fs))] := hD
  refine lv_iload_n hx hb d_TM_image_4 rfl (lv_at hl 2 rfl) ?_
  have hPc := hP.sub (ws' := []) [] rfl
  have hDc := hD.sub (ws' := []) [] (by decide) rfl
  have hFc := va_free (wc := []) hD hS hA [] rfl
  refine va_callv (va_runS (As := [.int v]) (rest := []) ⟨hx, hb, hml, hown, hts⟩ (t_chkB l D cI cZ v H.size hb2) ⟨cB 1 hts k_311 k_56 k_309 hd_TM_checkByte ⟨Nat.le_of_ble_eq_true rfl, Nat.le_of_ble_eq_true rfl⟩ rfl rfl, hts _ k_310⟩ (PcW.preS hPc hK hDc hN) rfl rfl hl.1 rfl (lv_room (Nat.le_of_ble_eq_true rfl)) d_TM_image_5 ⟨Nat.le_of_ble_eq_true rfl, Nat.le_of_ble_eq_true rfl⟩) hS (fun q _ h => hFc q h) hFc (fun u t H1 locs ht hvm e5 hB hz1 hk1 hS => ?_)
  obtain ⟨hP1, hK1, hD1⟩ := hB
  rw [ht] at hP1
  obtain ⟨hP, hD⟩ := va_join (wr := [(o, .inr (0, [.ref sr, .ref re, .ref pr, .ref fm, .ref sm])), (sr, .inl (cI, 256, .inl fs))]) (w1 := []) hP hD [] [0, 1] rfl rfl (by decide) (by decide) hk1 hFc hP1 hD1
  generalize H1 = H at hP hS ⊢
  try dsimp only at e5
  have hP : va_P D vwCl [(o, .inr (0, [.ref sr, .ref re, .ref pr, .ref fm, .ref sm])), (sr, .inl (cI, 256, .inl fs))] H := hP
  have hD : va_D A [(o, .inr (0, [.ref sr, .ref re, .ref pr, .ref fm, .ref sm])), (sr, .inl (cI, 256, .inl fs))] := hD
  refine lv_aload_n hx hb d_TM_image_8 rfl (lv_at hl 0 rfl) ?_
  refine va_get (D := D) (ci := 0) (v := .ref sr) (C := R_TM) (T := T_TM) (N := 5) hx hb hts iw_TM hown hK hP 0 rfl rfl 0 (by decide) (hts _ k_215) (fun _ h9 => h9) rfl d_TM_image_9 ?_
  refine lv_iload_n hx hb d_TM_image_12 rfl (lv_at hl 1 rfl) ?_
  refine lv_iload_n hx hb d_TM_image_13 rfl (lv_at hl 2 rfl) ?_
  refine va_iast hx hb hK hP hD hS 1 0 rfl rfl (isByte_in hb1) d_TM_image_14 (fun H locs hP hD hS => ?_)
  have hP : va_P D vwCl [(o, .inr (0, [.ref sr, .ref re, .ref pr, .ref fm, .ref sm])), (sr, .inl (cI, 256, .inl (upd fs ad.toNatClampNeg v)))] H := hP
  have hD : va_D A [(o, .inr (0, [.ref sr, .ref re, .ref pr, .ref fm, .ref sm])), (sr, .inl (cI, 256, .inl (upd fs ad.toNatClampNeg v)))] := hD
  refine lv_iconst (v := 1) hx hb d_TM_image_15 (by decide) ?_
  have hP9 : va_P D vwCl [(o, .inr (0, [.ref sr, .ref re, .ref pr, .ref fm, .ref sm])), (sr, .inl (cI, 256, .inl (upd fs ad.toNatClampNeg v)))] H := hP.sub [0, 1] rfl
  have hD9 : va_D A [(o, .inr (0, [.ref sr, .ref re, .ref pr, .ref fm, .ref sm])), (sr, .inl (cI, 256, .inl (upd fs ad.toNatClampNeg v)))] := hD.sub [0, 1] (by decide) rfl
  exact W.zret (v := (bI true)) hx hb hr (nb_n _) (fun t ht hW => ⟨⟨(bI true), (upd fs ad.toNatClampNeg v), rfl, ⟨rfl, rfl⟩, by rw [ht]; exact hP9, va_K.moved hW.alike hK, hD9⟩, hS.F ht⟩) hS.2.2 d_TM_image_16
