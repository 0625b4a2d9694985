set_option maxHeartbeats 4000000 in
set_option maxRecDepth 100000 in
theorem r_has (l : Launch) (D : va_G) (cI cZ : ClassId) (re : Nat) (sr : Nat) (rc : Nat) (pe : Nat) (fs : Nat → Int32) (fr : Nat → Int32) (fp : Nat → Int32) (fd : Nat) (ad : Int32) : MetR l y_RE_has w_RE_has { frames := 1, cells := 0, slots := 0, locals := 20 } D cI cZ [.ref re, .int ad] [(re, .inr (1, [.ref sr, .ref rc, .ref pe, .int (nI fd)])), (sr, .inl (cI, 256, .inl fs)), (rc, .inl (cZ, 256, .inl fr)), (pe, .inl (cI, 256, .inl fp))] (fun r => r = bI (hasB fr ad)) := by
  refine ofR (cc := c_RE_has) (maxL := 2) (ret := (some .boolean)) (by decide) rfl (Nat.le_of_ble_eq_true rfl) ?_
  intro p e s m args below meth c H hH0 hx hb hr hlocks hts hown hml ls hl hP hK hN
  have hown : s.vm.findClass R_RE = some m.cls := hown
  have hl : lv_has ls 2 [(0, .ref re), (1, .int ad)] := hl
  refine lv_iload_n hx hb d_RE_has_0 rfl (lv_at hl 1 rfl) ?_
  have hPc := hP.sub (ws' := []) [] rfl
  refine vp_callSi (va_runSN (As := [.int ad]) (rest := []) ⟨hx, hb, hml, hown, hts⟩ (m_isByte l D cI cZ ad) ⟨va_cnB 1 hts (gdt k_241) rfl rfl rfl (nw_9 hN) (hts _ k_56) hd_TM_isByte ⟨Nat.le_of_ble_eq_true rfl, Nat.le_of_ble_eq_true rfl⟩, hts _ k_240, trivial⟩ (PcR.preS hPc hK hN) rfl rfl hl.1 rfl (lv_room (Nat.le_of_ble_eq_true rfl)) d_RE_has_1 ⟨Nat.le_of_ble_eq_true rfl, Nat.le_of_ble_eq_true rfl⟩).run (fun r1 e1 => ?_)
  replace e1 := e1.symm
  subst e1
  refine lv_if_eq (tgt := 20) hx hb d_RE_has_4 rfl (fun h4 => ?_) (fun h4 => ?_)
  · have h4 : isByteB ad = false := bI_f h4
    refine lv_iconst (v := 0) hx hb d_RE_has_20 (by decide) ?_
    exact W.zret (v := (bI false)) hx hb hr (nb_n _) (fun t ht hW => ⟨(bI false), rfl, by rw [hasB, if_neg (by rw [h4]; decide)], ht.trans hH0.symm⟩) (fun _ h9 => absurd h9 List.not_mem_nil) d_RE_has_21
  · have h4 : isByteB ad = true := bI_t h4
    refine lv_aload_n hx hb d_RE_has_7 rfl (lv_at hl 0 rfl) ?_
    refine va_get (D := D) (ci := 1) (v := .ref rc) (C := R_RE) (T := T_RE) (N := 4) hx hb hts iw_RE hown hK hP 0 rfl rfl 1 (by decide) (hts _ k_86) (fun _ h9 => h9) rfl d_RE_has_8 ?_
    refine lv_iload_n hx hb d_RE_has_11 rfl (lv_at hl 1 rfl) ?_
    refine va_zald hx hb hK hP 2 1 rfl rfl (isByte_in h4) d_RE_has_12 ?_
    refine lv_if_eq (tgt := 20) hx hb d_RE_has_13 rfl (fun h13 => ?_) (fun h13 => ?_)
    · refine lv_iconst (v := 0) hx hb d_RE_has_20 (by decide) ?_
      exact W.zret (v := (bI false)) hx hb hr (nb_n _) (fun t ht hW => ⟨(bI false), rfl, by rw [hasB, if_pos h4, if_pos h13], ht.trans hH0.symm⟩) (fun _ h9 => absurd h9 List.not_mem_nil) d_RE_has_21
    · refine lv_iconst (v := 1) hx hb d_RE_has_16 (by decide) ?_
      refine lv_goto (tgt := 21) hx hb d_RE_has_17 rfl ?_
      exact W.zret (v := (bI true)) hx hb hr (nb_n _) (fun t ht hW => ⟨(bI true), rfl, by rw [hasB, if_pos h4, if_neg h13], ht.trans hH0.symm⟩) (fun _ h9 => absurd h9 List.not_mem_nil) d_RE_has_21
set_option maxHeartbeats 4000000 in
set_option maxRecDepth 100000 in
theorem r_mark (l : Launch) (D : va_G) (cI cZ : ClassId) (re : Nat) (sr : Nat) (rc : Nat) (pe : Nat) (fs : Nat → Int32) (fr : Nat → Int32) (fp : Nat → Int32) (fd : Nat) (ad : Int32) (sz : Nat) (hfd : fd ≤ 256) : MetV l y_RE_mark w_RE_mark { frames := 0, cells := 0, slots := 0, locals := 0 } D cI cZ [.ref re, .int ad] [(re, .inr (1, [.ref sr, .ref rc, .ref pe, .int (nI fd)])), (sr, .inl (cI, 256, .inl fs)), (rc, .inl (cZ, 256, .inl fr)), (pe, .inl (cI, 256, .inl fp))] sz (fun (u : (Nat → Int32) × (Nat → Int32) × Nat) => match u with | (fr1, fp1, fd1) => (fr1, fp1, fd1) = mrk (fr, fp, fd) ad ∧ fd1 ≤ 256) (fun (u : (Nat → Int32) × (Nat → Int32) × Nat) => match u with | (fr1, fp1, fd1) => [(re, .inr (1, [.ref sr, .ref rc, .ref pe, .int (nI fd1)])), (sr, .inl (cI, 256, .inl fs)), (rc, .inl (cZ, 256, .inl fr1)), (pe, .inl (cI, 256, .inl fp1))]) 0 0 := by
  refine ofV (cc := c_RE_mark) (maxL := 3) (ret := none) (by decide) rfl (Nat.le_of_ble_eq_true rfl) ?_
  intro p e s m args below meth c A H hH0 hx hb hr hlocks hts hown hnm hml ls hl hP hK hD hA hS hN
  have hown : s.vm.findClass R_RE = some m.cls := hown
  have hl : lv_has ls 3 [(0, .ref re), (1, .int ad)] := hl
  refine lv_iload_n hx hb d_RE_mark_0 rfl (lv_at hl 1 rfl) ?_
  refine lv_sipush (v := 255) hx hb d_RE_mark_1 (by decide) ?_
  refine lv_iand hx hb d_RE_mark_4 ?_
  refine lv_istore_n hx hb d_RE_mark_5 rfl hl (by decide) rfl (fun ls hl => ?_)
  have hl : lv_has ls 3 [(2, .int (ad &&& 255)), (0, .ref re), (1, .int ad)] := hl
  refine lv_aload_n hx hb d_RE_mark_6 rfl (lv_at hl 1 rfl) ?_
  refine va_get (D := D) (ci := 1) (v := .ref rc) (C := R_RE) (T := T_RE) (N := 4) hx hb hts iw_RE hown hK hP 0 rfl rfl 1 (by decide) (hts _ k_86) (fun _ h9 => h9) rfl d_RE_mark_7 ?_
  refine lv_iload_n hx hb d_RE_mark_10 rfl (lv_at hl 0 rfl) ?_
  refine va_zald hx hb hK hP 2 1 rfl rfl (in255 _) d_RE_mark_11 ?_
  refine lv_if_ne (tgt := 52) hx hb d_RE_mark_12 rfl (fun h12 => ?_) (fun h12 => ?_)
  · have hP9 : va_P D vwCl [(re, .inr (1, [.ref sr, .ref rc, .ref pe, .int (nI fd)])), (sr, .inl (cI, 256, .inl fs)), (rc, .inl (cZ, 256, .inl fr)), (pe, .inl (cI, 256, .inl fp))] H := hP.sub [0, 1, 2, 3] rfl
    have hD9 : va_D A [(re, .inr (1, [.ref sr, .ref rc, .ref pe, .int (nI fd)])), (sr, .inl (cI, 256, .inl fs)), (rc, .inl (cZ, 256, .inl fr)), (pe, .inl (cI, 256, .inl fp))] := hD.sub [0, 1, 2, 3] (by decide) rfl
    exact W.vret hx hb hr (fun t ht hW => ⟨⟨(fr, fp, fd), rfl, ⟨by rw [mrk, if_neg h12], hfd⟩, by rw [ht]; exact hP9, va_K.moved hW.alike hK, hD9⟩, hS.F ht⟩) hS.2.2 d_RE_mark_52
  · refine lv_aload_n hx hb d_RE_mark_15 rfl (lv_at hl 1 rfl) ?_
    refine va_get (D := D) (ci := 1) (v := .int (nI fd)) (C := R_RE) (T := T_RE) (N := 4) hx hb hts iw_RE hown hK hP 0 rfl rfl 3 (by decide) (hts _ k_88) (fun _ h9 => h9) rfl d_RE_mark_16 ?_
    refine lv_sipush (v := 256) hx hb d_RE_mark_19 (by decide) ?_
    refine lv_icmp_ge (tgt := 52) hx hb d_RE_mark_22 rfl (fun h22 => ?_) (fun h22 => ?_)
    · have hP9 : va_P D vwCl [(re, .inr (1, [.ref sr, .ref rc, .ref pe, .int (nI fd)])), (sr, .inl (cI, 256, .inl fs)), (rc, .inl (cZ, 256, .inl fr)), (pe, .inl (cI, 256, .inl fp))] H := hP.sub [0, 1, 2, 3] rfl
      have hD9 : va_D A [(re, .inr (1, [.ref sr, .ref rc, .ref pe, .int (nI fd)])), (sr, .inl (cI, 256, .inl fs)), (rc, .inl (cZ, 256, .inl fr)), (pe, .inl (cI, 256, .inl fp))] := hD.sub [0, 1, 2, 3] (by decide) rfl
      exact W.vret hx hb hr (fun t ht hW => ⟨⟨(fr, fp, fd), rfl, ⟨by rw [mrk, if_pos h12, if_neg (nlt256 h22)], hfd⟩, by rw [ht]; exact hP9, va_K.moved hW.alike hK, hD9⟩, hS.F ht⟩) hS.2.2 d_RE_mark_52
    · refine lv_aload_n hx hb d_RE_mark_25 rfl (lv_at hl 1 rfl) ?_
      refine va_get (D := D) (ci := 1) (v := .ref rc) (C := R_RE) (T := T_RE) (N := 4) hx hb hts iw_RE hown hK hP 0 rfl rfl 1 (by decide) (hts _ k_86) (fun _ h9 => h9) rfl d_RE_mark_26 ?_
      refine lv_iload_n hx hb d_RE_mark_29 rfl (lv_at hl 0 rfl) ?_
      refine lv_iconst (v := 1) hx hb d_RE_mark_30 (by decide) ?_
      refine va_zast hx hb hK hP hD hS 2 1 rfl rfl (in255 _) d_RE_mark_31 (fun H locs hP hD hS => ?_)
      have hP : va_P D vwCl [(re, .inr (1, [.ref sr, .ref rc, .ref pe, .int (nI fd)])), (sr, .inl (cI, 256, .inl fs)), (rc, .inl (cZ, 256, .inl (upd fr (ad &&& 255).toNatClampNeg 1))), (pe, .inl (cI, 256, .inl fp))] H := hP
      have hD : va_D A [(re, .inr (1, [.ref sr, .ref rc, .ref pe, .int (nI fd)])), (sr, .inl (cI, 256, .inl fs)), (rc, .inl (cZ, 256, .inl (upd fr (ad &&& 255).toNatClampNeg 1))), (pe, .inl (cI, 256, .inl fp))] := hD
      refine lv_aload_n hx hb d_RE_mark_32 rfl (lv_at hl 1 rfl) ?_
      refine va_get (D := D) (ci := 1) (v := .ref pe) (C := R_RE) (T := T_RE) (N := 4) hx hb hts iw_RE hown hK hP 0 rfl rfl 2 (by decide) (hts _ k_87) (fun _ h9 => h9) rfl d_RE_mark_33 ?_
      refine lv_aload_n hx hb d_RE_mark_36 rfl (lv_at hl 1 rfl) ?_
      refine va_get (D := D) (ci := 1) (v := .int (nI fd)) (C := R_RE) (T := T_RE) (N := 4) hx hb hts iw_RE hown hK hP 0 rfl rfl 3 (by decide) (hts _ k_88) (fun _ h9 => h9) rfl d_RE_mark_37 ?_
      refine lv_iload_n hx hb d_RE_mark_40 rfl (lv_at hl 0 rfl) ?_
      refine va_iast hx hb hK hP hD hS 3 0 rfl rfl (vp_in_nI (lt256 hfd h22) (by decide)) d_RE_mark_41 (fun H locs hP hD hS => ?_)
      have hP : va_P D vwCl [(re, .inr (1, [.ref sr, .ref rc, .ref pe, .int (nI fd)])), (sr, .inl (cI, 256, .inl fs)), (rc, .inl (cZ, 256, .inl (upd fr (ad &&& 255).toNatClampNeg 1))), (pe, .inl (cI, 256, .inl (upd fp (nI fd).toNatClampNeg (ad &&& 255))))] H := hP
      have hD : va_D A [(re, .inr (1, [.ref sr, .ref rc, .ref pe, .int (nI fd)])), (sr, .inl (cI, 256, .inl fs)), (rc, .inl (cZ, 256, .inl (upd fr (ad &&& 255).toNatClampNeg 1))), (pe, .inl (cI, 256, .inl (upd fp (nI fd).toNatClampNeg (ad &&& 255))))] := hD
      refine lv_aload_n hx hb d_RE_mark_42 rfl (lv_at hl 1 rfl) ?_
      refine lv_dup hx hb d_RE_mark_43 rfl ?_
      refine va_get (D := D) (ci := 1) (v := .int (nI fd)) (C := R_RE) (T := T_RE) (N := 4) hx hb hts iw_RE hown hK hP 0 rfl rfl 3 (by decide) (hts _ k_88) (fun _ h9 => h9) rfl d_RE_mark_44 ?_
      refine lv_iconst (v := 1) hx hb d_RE_mark_47 (by decide) ?_
      refine lv_iadd hx hb d_RE_mark_48 ?_
      refine lv_topi (fun y9 e9 => ?_)
      have e9 : y9 = nI (fd + 1) := e9.trans (nI_1 fd)
      subst e9
      refine va_put (D := D) (ci := 1) (v := .int (nI (fd + 1))) (ty := .int) (C := R_RE) (T := T_RE) (N := 4) hx hb hts iw_RE ty_RE ty_RE_ok nm_RE hown hK hP hD hS 0 rfl rfl 3 (by decide) (hts _ k_88) (fun _ h9 => h9) rfl (by decide +kernel) rfl rfl (Nat.le_of_ble_eq_true rfl) d_RE_mark_49 (fun H locs hP hD hS => ?_)
      have hP : va_P D vwCl [(re, .inr (1, [.ref sr, .ref rc, .ref pe, .int (nI (fd + 1))])), (sr, .inl (cI, 256, .inl fs)), (rc, .inl (cZ, 256, .inl (upd fr (ad &&& 255).toNatClampNeg 1))), (pe, .inl (cI, 256, .inl (upd fp (nI fd).toNatClampNeg (ad &&& 255))))] H := hP
      have hD : va_D A [(re, .inr (1, [.ref sr, .ref rc, .ref pe, .int (nI (fd + 1))])), (sr, .inl (cI, 256, .inl fs)), (rc, .inl (cZ, 256, .inl (upd fr (ad &&& 255).toNatClampNeg 1))), (pe, .inl (cI, 256, .inl (upd fp (nI fd).toNatClampNeg (ad &&& 255))))] := hD
      have hP9 : va_P D vwCl [(re, .inr (1, [.ref sr, .ref rc, .ref pe, .int (nI (fd + 1))])), (sr, .inl (cI, 256, .inl fs)), (rc, .inl (cZ, 256, .inl (upd fr (ad &&& 255).toNatClampNeg 1))), (pe, .inl (cI, 256, .inl (upd fp (nI fd).toNatClampNeg (ad &&& 255))))] H := hP.sub [0, 1, 2, 3] rfl
      have hD9 : va_D A [(re, .inr (1, [.ref sr, .ref rc, .ref pe, .int (nI (fd + 1))])), (sr, .inl (cI, 256, .inl fs)), (rc, .inl (cZ, 256, .inl (upd fr (ad &&& 255).toNatClampNeg 1))), (pe, .inl (cI, 256, .inl (upd fp (nI fd).toNatClampNeg (ad &&& 255))))] := hD.sub [0, 1, 2, 3] (by decide) rfl
      exact W.vret hx hb hr (fun t ht hW => ⟨⟨(upd fr (ad &&& 255).toNatClampNeg 1, upd fp (nI fd).toNatClampNeg (ad &&& 255), (fd + 1)), rfl, ⟨by rw [mrk, if_pos h12, if_pos (lt256 hfd h22), nI_clamp (by omega)], lt256 hfd h22⟩, by rw [ht]; exact hP9, va_K.moved hW.alike hK, hD9⟩, hS.F ht⟩) hS.2.2 d_RE_mark_52
set_option maxHeartbeats 4000000 in
set_option maxRecDepth 100000 in
theorem r_follow (l : Launch) (D : va_G) (cI cZ : ClassId) (re : Nat) (sr : Nat) (rc : Nat) (pe : Nat) (fs : Nat → Int32) (fr : Nat → Int32) (fp : Nat → Int32) (fd : Nat) (ad : Int32) (sz : Nat) (hfd : fd ≤ 256) : MetV l y_RE_follow w_RE_follow { frames := 2, cells := 0, slots := 0, locals := 41 } D cI cZ [.ref re, .int ad] [(re, .inr (1, [.ref sr, .ref rc, .ref pe, .int (nI fd)])), (sr, .inl (cI, 256, .inl fs)), (rc, .inl (cZ, 256, .inl fr)), (pe, .inl (cI, 256, .inl fp))] sz (fun (u : (Nat → Int32) × (Nat → Int32) × Nat) => match u with | (fr1, fp1, fd1) => (fr1, fp1, fd1) = flw fs (fr, fp, fd) ad ∧ fd1 ≤ 256) (fun (u : (Nat → Int32) × (Nat → Int32) × Nat) => match u with | (fr1, fp1, fd1) => [(re, .inr (1, [.ref sr, .ref rc, .ref pe, .int (nI fd1)])), (sr, .inl (cI, 256, .inl fs)), (rc, .inl (cZ, 256, .inl fr1)), (pe, .inl (cI, 256, .inl fp1))]) 0 0 := by
  refine ofV (cc := c_RE_follow) (maxL := 3) (ret := none) (by decide) rfl (Nat.le_of_ble_eq_true rfl) ?_
  intro p e s m args below meth c A H hH0 hx hb hr hlocks hts hown hnm hml ls hl hP hK hD hA hS hN
  have hown : s.vm.findClass R_RE = some m.cls := hown
  have hl : lv_has ls 3 [(0, .ref re), (1, .int ad)] := hl
  refine lv_aload_n hx hb d_RE_follow_0 rfl (lv_at hl 0 rfl) ?_
  refine va_get (D := D) (ci := 1) (v := .ref sr) (C := R_RE) (T := T_RE) (N := 4) hx hb hts iw_RE hown hK hP 0 rfl rfl 0 (by decide) (hts _ k_84) (fun _ h9 => h9) rfl d_RE_follow_1 ?_
  refine lv_iload_n hx hb d_RE_follow_4 rfl (lv_at hl 1 rfl) ?_
  refine lv_sipush (v := 255) hx hb d_RE_follow_5 (by decide) ?_
  refine lv_iand hx hb d_RE_follow_8 ?_
  refine va_iald hx hb hK hP 1 0 rfl rfl (in255 _) d_RE_follow_9 ?_
  refine lv_topi (fun y9 e9 => ?_)
  have e9 : y9 = rd fs ad := e9.trans rfl
  subst e9
  refine lv_istore_n hx hb d_RE_follow_10 rfl hl (by decide) rfl (fun ls hl => ?_)
  have hl : lv_has ls 3 [(2, .int (rd fs ad)), (0, .ref re), (1, .int ad)] := hl
  refine lv_iload_n hx hb d_RE_follow_11 rfl (lv_at hl 0 rfl) ?_
  have hPc := hP.sub (ws' := []) [] rfl
  refine vp_callSi (va_runS (As := [.int (rd fs ad)]) (rest := []) ⟨hx, hb, hml, hown, hts⟩ (m_isUnk l D cI cZ (rd fs ad)) ⟨cB 1 hts k_395 k_67 k_393 hd_FO_isUnknown ⟨Nat.le_of_ble_eq_true rfl, Nat.le_of_ble_eq_true rfl⟩ rfl rfl, hts _ k_394⟩ (PcR.preS hPc hK hN) rfl rfl hl.1 rfl (lv_room (Nat.le_of_ble_eq_true rfl)) d_RE_follow_12 ⟨Nat.le_of_ble_eq_true rfl, Nat.le_of_ble_eq_true rfl⟩).run (fun r12 e12 => ?_)
  replace e12 := e12.symm
  subst e12
  refine lv_if_eq (tgt := 19) hx hb d_RE_follow_15 rfl (fun h15 => ?_) (fun h15 => ?_)
  · have h15 : isUnkB (rd fs ad) = false := bI_f h15
    refine lv_iload_n hx hb d_RE_follow_19 rfl (lv_at hl 0 rfl) ?_
    have hPc := hP.sub (ws' := []) [] rfl
    refine vp_callSi (va_runS (As := [.int (rd fs ad)]) (rest := []) ⟨hx, hb, hml, hown, hts⟩ (m_beh l D cI cZ (rd fs ad)) ⟨cB 1 hts k_398 k_67 k_396 hd_FO_reachesBehind ⟨Nat.le_of_ble_eq_true rfl, Nat.le_of_ble_eq_true rfl⟩ rfl rfl, hts _ k_397⟩ (PcR.preS hPc hK hN) rfl rfl hl.1 rfl (lv_room (Nat.le_of_ble_eq_true rfl)) d_RE_follow_20 ⟨Nat.le_of_ble_eq_true rfl, Nat.le_of_ble_eq_true rfl⟩).run (fun r20 e20 => ?_)
    replace e20 := e20.symm
    subst e20
    refine lv_if_eq (tgt := 36) hx hb d_RE_follow_23 rfl (fun h23 => ?_) (fun h23 => ?_)
    · have h23 : behB (rd fs ad) = false := bI_f h23
      refine lv_iload_n hx hb d_RE_follow_36 rfl (lv_at hl 0 rfl) ?_
      have hPc := hP.sub (ws' := []) [] rfl
      refine vp_callSi (va_runS (As := [.int (rd fs ad)]) (rest := []) ⟨hx, hb, hml, hown, hts⟩ (m_hasT l D cI cZ (rd fs ad)) ⟨cB 1 hts k_404 k_67 k_405 hd_FO_hasTarget ⟨Nat.le_of_ble_eq_true rfl, Nat.le_of_ble_eq_true rfl⟩ rfl rfl, hts _ k_403⟩ (PcR.preS hPc hK hN) rfl rfl hl.1 rfl (lv_room (Nat.le_of_ble_eq_true rfl)) d_RE_follow_37 ⟨Nat.le_of_ble_eq_true rfl, Nat.le_of_ble_eq_true rfl⟩).run (fun r37 e37 => ?_)
      replace e37 := e37.symm
      subst e37
      refine lv_if_eq (tgt := 59) hx hb d_RE_follow_40 rfl (fun h40 => ?_) (fun h40 => ?_)
      · have h40 : hasTB (rd fs ad) = false := bI_f h40
        have hP9 : va_P D vwCl [(re, .inr (1, [.ref sr, .ref rc, .ref pe, .int (nI fd)])), (sr, .inl (cI, 256, .inl fs)), (rc, .inl (cZ, 256, .inl fr)), (pe, .inl (cI, 256, .inl fp))] H := hP.sub [0, 1, 2, 3] rfl
        have hD9 : va_D A [(re, .inr (1, [.ref sr, .ref rc, .ref pe, .int (nI fd)])), (sr, .inl (cI, 256, .inl fs)), (rc, .inl (cZ, 256, .inl fr)), (pe, .inl (cI, 256, .inl fp))] := hD.sub [0, 1, 2, 3] (by decide) rfl
        exact W.vret hx hb hr (fun t ht hW => ⟨⟨(fr, fp, fd), rfl, ⟨by rw [flw, if_neg (by rw [h15]; decide), if_neg (by rw [h23]; decide), if_neg (by rw [h40]; decide)], hfd⟩, by rw [ht]; exact hP9, va_K.moved hW.alike hK, hD9⟩, hS.F ht⟩) hS.2.2 d_RE_follow_59
      · have h40 : hasTB (rd fs ad) = true := bI_t h40
        refine lv_aload_n hx hb d_RE_follow_43 rfl (lv_at hl 1 rfl) ?_
        refine lv_aload_n hx hb d_RE_follow_44 rfl (lv_at hl 1 rfl) ?_
        refine va_get (D := D) (ci := 1) (v := .ref sr) (C := R_RE) (T := T_RE) (N := 4) hx hb hts iw_RE hown hK hP 0 rfl rfl 0 (by decide) (hts _ k_84) (fun _ h9 => h9) rfl d_RE_follow_45 ?_
        refine lv_iload_n hx hb d_RE_follow_48 rfl (lv_at hl 2 rfl) ?_
        refine lv_iconst (v := 1) hx hb d_RE_follow_49 (by decide) ?_
        refine lv_iadd hx hb d_RE_follow_50 ?_
        refine lv_sipush (v := 255) hx hb d_RE_follow_51 (by decide) ?_
        refine lv_iand hx hb d_RE_follow_54 ?_
        refine va_iald hx hb hK hP 1 0 rfl rfl (in255 _) d_RE_follow_55 ?_
        refine lv_topi (fun y9 e9 => ?_)
        have e9 : y9 = rd fs (ad + 1) := e9.trans rfl
        subst e9
        have hPc := hP.sub (ws' := [(re, .inr (1, [.ref sr, .ref rc, .ref pe, .int (nI fd)])), (sr, .inl (cI, 256, .inl fs)), (rc, .inl (cZ, 256, .inl fr)), (pe, .inl (cI, 256, .inl fp))]) [0, 1, 2, 3] rfl
        have hDc := hD.sub (ws' := [(re, .inr (1, [.ref sr, .ref rc, .ref pe, .int (nI fd)])), (sr, .inl (cI, 256, .inl fs)), (rc, .inl (cZ, 256, .inl fr)), (pe, .inl (cI, 256, .inl fp))]) [0, 1, 2, 3] (by decide) rfl
        have hFc := va_free (wc := [(re, .inr (1, [.ref sr, .ref rc, .ref pe, .int (nI fd)])), (sr, .inl (cI, 256, .inl fs)), (rc, .inl (cZ, 256, .inl fr)), (pe, .inl (cI, 256, .inl fp))]) hD hS hA [0, 1, 2, 3] rfl
        refine va_callv (va_runV (As := [.int (rd fs (ad + 1))]) (rest := []) ⟨hx, hb, hml, hown, hts⟩ (r_mark l D cI cZ re sr rc pe fs fr fp fd (rd fs (ad + 1)) H.size hfd) ⟨cB 1 hts k_388 k_57 k_385 hd_RE_mark ⟨Nat.le_of_ble_eq_true rfl, Nat.le_of_ble_eq_true rfl⟩ rfl rfl, hts _ k_387, hts _ k_2⟩ (PcW.preV (va_recv hK hP (q0 := 0) (ci := 1) rfl rfl) hPc hK hDc hN) rfl rfl hl.1 rfl (lv_room (Nat.le_of_ble_eq_true rfl)) d_RE_follow_56 ⟨Nat.le_of_ble_eq_true rfl, Nat.le_of_ble_eq_true rfl⟩) hS (fun q _ h => hFc q h) hFc (fun u t H1 locs ht hvm e56 hB hz1 hk1 hS => ?_)
        obtain ⟨fr156, fp156, fd156⟩ := u
        obtain ⟨hP1, hK1, hD1⟩ := hB
        rw [ht] at hP1
        obtain ⟨hP, hD⟩ := va_join (wr := []) (w1 := [(re, .inr (1, [.ref sr, .ref rc, .ref pe, .int (nI fd156)])), (sr, .inl (cI, 256, .inl fs)), (rc, .inl (cZ, 256, .inl fr156)), (pe, .inl (cI, 256, .inl fp156))]) hP hD [0, 1, 2, 3] [] rfl rfl (by decide) (by decide) hk1 hFc hP1 hD1
        generalize H1 = H at hP hS ⊢
        try dsimp only at e56
        have hP : va_P D vwCl [(re, .inr (1, [.ref sr, .ref rc, .ref pe, .int (nI fd156)])), (sr, .inl (cI, 256, .inl fs)), (rc, .inl (cZ, 256, .inl fr156)), (pe, .inl (cI, 256, .inl fp156))] H := hP
        have hD : va_D A [(re, .inr (1, [.ref sr, .ref rc, .ref pe, .int (nI fd156)])), (sr, .inl (cI, 256, .inl fs)), (rc, .inl (cZ, 256, .inl fr156)), (pe, .inl (cI, 256, .inl fp156))] := hD
        have hP9 : va_P D vwCl [(re, .inr (1, [.ref sr, .ref rc, .ref pe, .int (nI fd156)])), (sr, .inl (cI, 256, .inl fs)), (rc, .inl (cZ, 256, .inl fr156)), (pe, .inl (cI, 256, .inl fp156))] H := hP.sub [0, 1, 2, 3] rfl
        have hD9 : va_D A [(re, .inr (1, [.ref sr, .ref rc, .ref pe, .int (nI fd156)])), (sr, .inl (cI, 256, .inl fs)), (rc, .inl (cZ, 256, .inl fr156)), (pe, .inl (cI, 256, .inl fp156))] := hD.sub [0, 1, 2, 3] (by decide) rfl
        exact W.vret hx hb hr (fun t ht hW => ⟨⟨(fr156, fp156, fd156), rfl, ⟨by rw [e56.1, flw, if_neg (by rw [h15]; decide), if_neg (by rw [h23]; decide), if_pos h40], e56.2⟩, by rw [ht]; exact hP9, va_K.moved hW.alike hK, hD9⟩, hS.F ht⟩) hS.2.2 d_RE_follow_59
    · have h23 : behB (rd fs ad) = true := bI_t h23
      refine lv_aload_n hx hb d_RE_follow_26 rfl (lv_at hl 1 rfl) ?_
      refine lv_iload_n hx hb d_RE_follow_27 rfl (lv_at hl 2 rfl) ?_
      refine lv_iload_n hx hb d_RE_follow_28 rfl (lv_at hl 0 rfl) ?_
      have hPc := hP.sub (ws' := []) [] rfl
      refine vp_callSi (va_runS (As := [.int (rd fs ad)]) (rest := [.int ad, .ref re]) ⟨hx, hb, hml, hown, hts⟩ (m_len l D cI cZ (rd fs ad)) ⟨cB 1 hts k_401 k_67 k_399 hd_FO_length ⟨Nat.le_of_ble_eq_true rfl, Nat.le_of_ble_eq_true rfl⟩ rfl rfl, hts _ k_400⟩ (PcR.preS hPc hK hN) rfl rfl hl.1 rfl (lv_room (Nat.le_of_ble_eq_true rfl)) d_RE_follow_29 ⟨Nat.le_of_ble_eq_true rfl, Nat.le_of_ble_eq_true rfl⟩).run (fun r29 e29 => ?_)
      replace e29 := e29.symm
      subst e29
      refine lv_iadd hx hb d_RE_follow_32 ?_
      have hPc := hP.sub (ws' := [(re, .inr (1, [.ref sr, .ref rc, .ref pe, .int (nI fd)])), (sr, .inl (cI, 256, .inl fs)), (rc, .inl (cZ, 256, .inl fr)), (pe, .inl (cI, 256, .inl fp))]) [0, 1, 2, 3] rfl
      have hDc := hD.sub (ws' := [(re, .inr (1, [.ref sr, .ref rc, .ref pe, .int (nI fd)])), (sr, .inl (cI, 256, .inl fs)), (rc, .inl (cZ, 256, .inl fr)), (pe, .inl (cI, 256, .inl fp))]) [0, 1, 2, 3] (by decide) rfl
      have hFc := va_free (wc := [(re, .inr (1, [.ref sr, .ref rc, .ref pe, .int (nI fd)])), (sr, .inl (cI, 256, .inl fs)), (rc, .inl (cZ, 256, .inl fr)), (pe, .inl (cI, 256, .inl fp))]) hD hS hA [0, 1, 2, 3] rfl
      refine va_callv (va_runV (As := [.int (ad + (lenI (rd fs ad)))]) (rest := []) ⟨hx, hb, hml, hown, hts⟩ (r_mark l D cI cZ re sr rc pe fs fr fp fd (ad + (lenI (rd fs ad))) H.size hfd) ⟨cB 1 hts k_388 k_57 k_385 hd_RE_mark ⟨Nat.le_of_ble_eq_true rfl, Nat.le_of_ble_eq_true rfl⟩ rfl rfl, hts _ k_387, hts _ k_2⟩ (PcW.preV (va_recv hK hP (q0 := 0) (ci := 1) rfl rfl) hPc hK hDc hN) rfl rfl hl.1 rfl (lv_room (Nat.le_of_ble_eq_true rfl)) d_RE_follow_33 ⟨Nat.le_of_ble_eq_true rfl, Nat.le_of_ble_eq_true rfl⟩) hS (fun q _ h => hFc q h) hFc (fun u t H1 locs ht hvm e33 hB hz1 hk1 hS => ?_)
      obtain ⟨fr133, fp133, fd133⟩ := u
      obtain ⟨hP1, hK1, hD1⟩ := hB
      rw [ht] at hP1
      obtain ⟨hP, hD⟩ := va_join (wr := []) (w1 := [(re, .inr (1, [.ref sr, .ref rc, .ref pe, .int (nI fd133)])), (sr, .inl (cI, 256, .inl fs)), (rc, .inl (cZ, 256, .inl fr133)), (pe, .inl (cI, 256, .inl fp133))]) hP hD [0, 1, 2, 3] [] rfl rfl (by decide) (by decide) hk1 hFc hP1 hD1
      generalize H1 = H at hP hS ⊢
      try dsimp only at e33
      have hP : va_P D vwCl [(re, .inr (1, [.ref sr, .ref rc, .ref pe, .int (nI fd133)])), (sr, .inl (cI, 256, .inl fs)), (rc, .inl (cZ, 256, .inl fr133)), (pe, .inl (cI, 256, .inl fp133))] H := hP
      have hD : va_D A [(re, .inr (1, [.ref sr, .ref rc, .ref pe, .int (nI fd133)])), (sr, .inl (cI, 256, .inl fs)), (rc, .inl (cZ, 256, .inl fr133)), (pe, .inl (cI, 256, .inl fp133))] := hD
      refine lv_iload_n hx hb d_RE_follow_36 rfl (lv_at hl 0 rfl) ?_
      have hPc := hP.sub (ws' := []) [] rfl
      refine vp_callSi (va_runS (As := [.int (rd fs ad)]) (rest := []) ⟨hx, hb, hml, hown, hts⟩ (m_hasT l D cI cZ (rd fs ad)) ⟨cB 1 hts k_404 k_67 k_405 hd_FO_hasTarget ⟨Nat.le_of_ble_eq_true rfl, Nat.le_of_ble_eq_true rfl⟩ rfl rfl, hts _ k_403⟩ (PcR.preS hPc hK hN) rfl rfl hl.1 rfl (lv_room (Nat.le_of_ble_eq_true rfl)) d_RE_follow_37 ⟨Nat.le_of_ble_eq_true rfl, Nat.le_of_ble_eq_true rfl⟩).run (fun r37 e37 => ?_)
      replace e37 := e37.symm
      subst e37
      refine lv_if_eq (tgt := 59) hx hb d_RE_follow_40 rfl (fun h40 => ?_) (fun h40 => ?_)
      · have h40 : hasTB (rd fs ad) = false := bI_f h40
        have hP9 : va_P D vwCl [(re, .inr (1, [.ref sr, .ref rc, .ref pe, .int (nI fd133)])), (sr, .inl (cI, 256, .inl fs)), (rc, .inl (cZ, 256, .inl fr133)), (pe, .inl (cI, 256, .inl fp133))] H := hP.sub [0, 1, 2, 3] rfl
        have hD9 : va_D A [(re, .inr (1, [.ref sr, .ref rc, .ref pe, .int (nI fd133)])), (sr, .inl (cI, 256, .inl fs)), (rc, .inl (cZ, 256, .inl fr133)), (pe, .inl (cI, 256, .inl fp133))] := hD.sub [0, 1, 2, 3] (by decide) rfl
        exact W.vret hx hb hr (fun t ht hW => ⟨⟨(fr133, fp133, fd133), rfl, ⟨by rw [e33.1, flw, if_neg (by rw [h15]; decide), if_pos h23, if_neg (by rw [h40]; decide)], e33.2⟩, by rw [ht]; exact hP9, va_K.moved hW.alike hK, hD9⟩, hS.F ht⟩) hS.2.2 d_RE_follow_59
      · have h40 : hasTB (rd fs ad) = true := bI_t h40
        refine lv_aload_n hx hb d_RE_follow_43 rfl (lv_at hl 1 rfl) ?_
        refine lv_aload_n hx hb d_RE_follow_44 rfl (lv_at hl 1 rfl) ?_
        refine va_get (D := D) (ci := 1) (v := .ref sr) (C := R_RE) (T := T_RE) (N := 4) hx hb hts iw_RE hown hK hP 0 rfl rfl 0 (by decide) (hts _ k_84) (fun _ h9 => h9) rfl d_RE_follow_45 ?_
        refine lv_iload_n hx hb d_RE_follow_48 rfl (lv_at hl 2 rfl) ?_
        refine lv_iconst (v := 1) hx hb d_RE_follow_49 (by decide) ?_
        refine lv_iadd hx hb d_RE_follow_50 ?_
        refine lv_sipush (v := 255) hx hb d_RE_follow_51 (by decide) ?_
        refine lv_iand hx hb d_RE_follow_54 ?_
        refine va_iald hx hb hK hP 1 0 rfl rfl (in255 _) d_RE_follow_55 ?_
        refine lv_topi (fun y9 e9 => ?_)
        have e9 : y9 = rd fs (ad + 1) := e9.trans rfl
        subst e9
        have hPc := hP.sub (ws' := [(re, .inr (1, [.ref sr, .ref rc, .ref pe, .int (nI fd133)])), (sr, .inl (cI, 256, .inl fs)), (rc, .inl (cZ, 256, .inl fr133)), (pe, .inl (cI, 256, .inl fp133))]) [0, 1, 2, 3] rfl
        have hDc := hD.sub (ws' := [(re, .inr (1, [.ref sr, .ref rc, .ref pe, .int (nI fd133)])), (sr, .inl (cI, 256, .inl fs)), (rc, .inl (cZ, 256, .inl fr133)), (pe, .inl (cI, 256, .inl fp133))]) [0, 1, 2, 3] (by decide) rfl
        have hFc := va_free (wc := [(re, .inr (1, [.ref sr, .ref rc, .ref pe, .int (nI fd133)])), (sr, .inl (cI, 256, .inl fs)), (rc, .inl (cZ, 256, .inl fr133)), (pe, .inl (cI, 256, .inl fp133))]) hD hS hA [0, 1, 2, 3] rfl
        refine va_callv (va_runV (As := [.int (rd fs (ad + 1))]) (rest := []) ⟨hx, hb, hml, hown, hts⟩ (r_mark l D cI cZ re sr rc pe fs fr133 fp133 fd133 (rd fs (ad + 1)) H.size e33.2) ⟨cB 1 hts k_388 k_57 k_385 hd_RE_mark ⟨Nat.le_of_ble_eq_true rfl, Nat.le_of_ble_eq_true rfl⟩ rfl rfl, hts _ k_387, hts _ k_2⟩ (PcW.preV (va_recv hK hP (q0 := 0) (ci := 1) rfl rfl) hPc hK hDc hN) rfl rfl hl.1 rfl (lv_room (Nat.le_of_ble_eq_true rfl)) d_RE_follow_56 ⟨Nat.le_of_ble_eq_true rfl, Nat.le_of_ble_eq_true rfl⟩) hS (fun q _ h => hFc q h) hFc (fun u t H1 locs ht hvm e56 hB hz1 hk1 hS => ?_)
        obtain ⟨fr156, fp156, fd156⟩ := u
        obtain ⟨hP1, hK1, hD1⟩ := hB
        rw [ht] at hP1
        obtain ⟨hP, hD⟩ := va_join (wr := []) (w1 := [(re, .inr (1, [.ref sr, .ref rc, .ref pe, .int (nI fd156)])), (sr, .inl (cI, 256, .inl fs)), (rc, .inl (cZ, 256, .inl fr156)), (pe, .inl (cI, 256, .inl fp156))]) hP hD [0, 1, 2, 3] [] rfl rfl (by decide) (by decide) hk1 hFc hP1 hD1
        generalize H1 = H at hP hS ⊢
        try dsimp only at e56
        have hP : va_P D vwCl [(re, .inr (1, [.ref sr, .ref rc, .ref pe, .int (nI fd156)])), (sr, .inl (cI, 256, .inl fs)), (rc, .inl (cZ, 256, .inl fr156)), (pe, .inl (cI, 256, .inl fp156))] H := hP
        have hD : va_D A [(re, .inr (1, [.ref sr, .ref rc, .ref pe, .int (nI fd156)])), (sr, .inl (cI, 256, .inl fs)), (rc, .inl (cZ, 256, .inl fr156)), (pe, .inl (cI, 256, .inl fp156))] := hD
        have hP9 : va_P D vwCl [(re, .inr (1, [.ref sr, .ref rc, .ref pe, .int (nI fd156)])), (sr, .inl (cI, 256, .inl fs)), (rc, .inl (cZ, 256, .inl fr156)), (pe, .inl (cI, 256, .inl fp156))] H := hP.sub [0, 1, 2, 3] rfl
        have hD9 : va_D A [(re, .inr (1, [.ref sr, .ref rc, .ref pe, .int (nI fd156)])), (sr, .inl (cI, 256, .inl fs)), (rc, .inl (cZ, 256, .inl fr156)), (pe, .inl (cI, 256, .inl fp156))] := hD.sub [0, 1, 2, 3] (by decide) rfl
        exact W.vret hx hb hr (fun t ht hW => ⟨⟨(fr156, fp156, fd156), rfl, ⟨by rw [e56.1, e33.1, flw, if_neg (by rw [h15]; decide), if_pos h23, if_pos h40], e56.2⟩, by rw [ht]; exact hP9, va_K.moved hW.alike hK, hD9⟩, hS.F ht⟩) hS.2.2 d_RE_follow_59
  · have h15 : isUnkB (rd fs ad) = true := bI_t h15
    have hP9 : va_P D vwCl [(re, .inr (1, [.ref sr, .ref rc, .ref pe, .int (nI fd)])), (sr, .inl (cI, 256, .inl fs)), (rc, .inl (cZ, 256, .inl fr)), (pe, .inl (cI, 256, .inl fp))] H := hP.sub [0, 1, 2, 3] rfl
    have hD9 : va_D A [(re, .inr (1, [.ref sr, .ref rc, .ref pe, .int (nI fd)])), (sr, .inl (cI, 256, .inl fs)), (rc, .inl (cZ, 256, .inl fr)), (pe, .inl (cI, 256, .inl fp))] := hD.sub [0, 1, 2, 3] (by decide) rfl
    exact W.vret hx hb hr (fun t ht hW => ⟨⟨(fr, fp, fd), rfl, ⟨by rw [flw, if_pos h15], hfd⟩, by rw [ht]; exact hP9, va_K.moved hW.alike hK, hD9⟩, hS.F ht⟩) hS.2.2 d_RE_follow_18
