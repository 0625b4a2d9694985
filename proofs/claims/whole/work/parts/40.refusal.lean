set_option maxHeartbeats 4000000 in
set_option maxRecDepth 100000 in
theorem r_unknown (l : Launch) (D : va_G) (cI cZ : ClassId) (re : Nat) (sr : Nat) (rc : Nat) (pe : Nat) (fs : Nat → Int32) (fr : Nat → Int32) (fp : Nat → Int32) (fd : Nat) : MetR l y_RE_leastUnknown w_RE_leastUnknown { frames := 1, cells := 0, slots := 0, locals := 20 } D cI cZ [.ref re] [(re, .inr (1, [.ref sr, .ref rc, .ref pe, .int (nI fd)])), (sr, .inl (cI, 256, .inl fs)), (rc, .inl (cZ, 256, .inl fr)), (pe, .inl (cI, 256, .inl fp))] (fun r => r = least (unkP fr fs) 256 0) := by
  refine ofR (cc := c_RE_leastUnknown) (maxL := 2) (ret := (some .int)) (by decide) rfl (Nat.le_of_ble_eq_true rfl) ?_
  intro p e s m args below meth c H hH0 hx hb hr hlocks hts hown hml ls hl hP hK hN
  have hown : s.vm.findClass R_RE = some m.cls := hown
  have hl : lv_has ls 2 [(0, .ref re)] := hl
  refine lv_iconst (v := 0) hx hb d_RE_leastUnknown_0 (by decide) ?_
  refine lv_istore_n hx hb d_RE_leastUnknown_1 rfl hl (by decide) rfl (fun ls hl => ?_)
  have hl : lv_has ls 2 [(1, .int 0), (0, .ref re)] := hl
  have loop : ∀ (k : Nat) (i : Nat), (i + k = 256) → (least (unkP fr fs) 256 0 = least (unkP fr fs) k i) → ∀ (ls : Array Slot), lv_has ls 2 [(1, .int (nI i)), (0, .ref re)] → W p l e { frames := 1, cells := 0, slots := 0, locals := 20 } s m args below meth c H [] 0 0 (MQ below (vp_Si (fun r => r = least (unkP fr fs) 256 0)) args s 0 0 (fun _ => False)) (F0 m 2 ls []) := by
    intro k
    induction k with
    | zero =>
      intro i hk hI ls hl
      refine lv_iload_n hx hb d_RE_leastUnknown_2 rfl (lv_at hl 0 rfl) ?_
      refine lv_sipush (v := 256) hx hb d_RE_leastUnknown_3 (by decide) ?_
      refine lv_icmp_ge (tgt := 38) hx hb d_RE_leastUnknown_6 rfl (fun _ => ?_) (fun h9 => absurd (by rw [show i = 256 from hk]; decide) h9)
      refine lv_iconst (v := (-1)) hx hb d_RE_leastUnknown_38 (by decide) ?_
      exact W.iret (v := (-1)) hx hb hr (fun t ht hW => ⟨(-1), rfl, by rw [hI, least], ht.trans hH0.symm⟩) (fun _ h9 => absurd h9 List.not_mem_nil) d_RE_leastUnknown_39
    | succ k ih =>
      intro i hk hI ls hl
      refine lv_iload_n hx hb d_RE_leastUnknown_2 rfl (lv_at hl 0 rfl) ?_
      refine lv_sipush (v := 256) hx hb d_RE_leastUnknown_3 (by decide) ?_
      refine lv_icmp_ge (tgt := 38) hx hb d_RE_leastUnknown_6 rfl (fun h9 => absurd h9 (nI_ge (b := 256) (by omega) (by decide))) (fun _ => ?_)
      refine lv_aload_n hx hb d_RE_leastUnknown_9 rfl (lv_at hl 1 rfl) ?_
      refine va_get (D := D) (ci := 1) (v := .ref rc) (C := R_RE) (T := T_RE) (N := 4) hx hb hts iw_RE hown hK hP 0 rfl rfl 1 (by decide) (hts _ k_86) (fun _ h9 => h9) rfl d_RE_leastUnknown_10 ?_
      refine lv_iload_n hx hb d_RE_leastUnknown_13 rfl (lv_at hl 0 rfl) ?_
      refine va_zald hx hb hK hP 2 1 rfl rfl (vp_in_nI (by omega) (by decide)) d_RE_leastUnknown_14 ?_
      refine lv_topi (fun y9 e9 => ?_)
      have e9 : y9 = fr i := e9.trans (by rw [nI_clamp (by omega)])
      subst e9
      refine lv_if_eq (tgt := 32) hx hb d_RE_leastUnknown_15 rfl (fun h15 => ?_) (fun h15 => ?_)
      · refine lv_iinc (k := 0) (v := nI (i + 1)) hx hb d_RE_leastUnknown_32 hl rfl (nI_inc _) (by decide) rfl (fun ls hl => ?_)
        have hl : lv_has ls 2 [(1, .int (nI (i + 1))), (0, .ref re)] := hl
        refine lv_goto (tgt := 2) hx hb d_RE_leastUnknown_35 rfl ?_
        exact ih (i + 1) (by omega) (by rw [hI, least, if_neg (by rw [unkP, if_pos h15]; decide)]) ls hl
      · refine lv_aload_n hx hb d_RE_leastUnknown_18 rfl (lv_at hl 1 rfl) ?_
        refine va_get (D := D) (ci := 1) (v := .ref sr) (C := R_RE) (T := T_RE) (N := 4) hx hb hts iw_RE hown hK hP 0 rfl rfl 0 (by decide) (hts _ k_84) (fun _ h9 => h9) rfl d_RE_leastUnknown_19 ?_
        refine lv_iload_n hx hb d_RE_leastUnknown_22 rfl (lv_at hl 0 rfl) ?_
        refine va_iald hx hb hK hP 1 0 rfl rfl (vp_in_nI (by omega) (by decide)) d_RE_leastUnknown_23 ?_
        refine lv_topi (fun y9 e9 => ?_)
        have e9 : y9 = fs i := e9.trans (by rw [nI_clamp (by omega)])
        subst e9
        have hPc := hP.sub (ws' := []) [] rfl
        refine vp_callSi (va_runS (As := [.int (fs i)]) (rest := []) ⟨hx, hb, hml, hown, hts⟩ (m_isUnk l D cI cZ (fs i)) ⟨cB 1 hts k_395 k_67 k_393 hd_FO_isUnknown ⟨Nat.le_of_ble_eq_true rfl, Nat.le_of_ble_eq_true rfl⟩ rfl rfl, hts _ k_394⟩ (PcR.preS hPc hK hN) rfl rfl hl.1 rfl (lv_room (Nat.le_of_ble_eq_true rfl)) d_RE_leastUnknown_24 ⟨Nat.le_of_ble_eq_true rfl, Nat.le_of_ble_eq_true rfl⟩).run (fun r24 e24 => ?_)
        replace e24 := e24.symm
        subst e24
        refine lv_if_eq (tgt := 32) hx hb d_RE_leastUnknown_27 rfl (fun h27 => ?_) (fun h27 => ?_)
        · have h27 : isUnkB (fs i) = false := bI_f h27
          refine lv_iinc (k := 0) (v := nI (i + 1)) hx hb d_RE_leastUnknown_32 hl rfl (nI_inc _) (by decide) rfl (fun ls hl => ?_)
          have hl : lv_has ls 2 [(1, .int (nI (i + 1))), (0, .ref re)] := hl
          refine lv_goto (tgt := 2) hx hb d_RE_leastUnknown_35 rfl ?_
          exact ih (i + 1) (by omega) (by rw [hI, least, if_neg (by rw [unkP, if_neg h15, h27]; decide)]) ls hl
        · have h27 : isUnkB (fs i) = true := bI_t h27
          refine lv_iload_n hx hb d_RE_leastUnknown_30 rfl (lv_at hl 0 rfl) ?_
          exact W.iret (v := (nI i)) hx hb hr (fun t ht hW => ⟨(nI i), rfl, by rw [hI, least, if_pos (by rw [unkP, if_neg h15]; exact h27)], ht.trans hH0.symm⟩) (fun _ h9 => absurd h9 List.not_mem_nil) d_RE_leastUnknown_31
  exact loop 256 0 rfl rfl ls hl
set_option maxHeartbeats 4000000 in
set_option maxRecDepth 100000 in
theorem r_overlap (l : Launch) (D : va_G) (cI cZ : ClassId) (re : Nat) (sr : Nat) (rc : Nat) (pe : Nat) (fs : Nat → Int32) (fr : Nat → Int32) (fp : Nat → Int32) (fd : Nat) : MetR l y_RE_leastOverlap w_RE_leastOverlap { frames := 2, cells := 0, slots := 0, locals := 41 } D cI cZ [.ref re] [(re, .inr (1, [.ref sr, .ref rc, .ref pe, .int (nI fd)])), (sr, .inl (cI, 256, .inl fs)), (rc, .inl (cZ, 256, .inl fr)), (pe, .inl (cI, 256, .inl fp))] (fun r => r = least (ovlP fr fs) 256 0) := by
  refine ofR (cc := c_RE_leastOverlap) (maxL := 3) (ret := (some .int)) (by decide) rfl (Nat.le_of_ble_eq_true rfl) ?_
  intro p e s m args below meth c H hH0 hx hb hr hlocks hts hown hml ls hl hP hK hN
  have hown : s.vm.findClass R_RE = some m.cls := hown
  have hl : lv_has ls 3 [(0, .ref re)] := hl
  refine lv_iconst (v := 0) hx hb d_RE_leastOverlap_0 (by decide) ?_
  refine lv_istore_n hx hb d_RE_leastOverlap_1 rfl hl (by decide) rfl (fun ls hl => ?_)
  have hl : lv_has ls 3 [(1, .int 0), (0, .ref re)] := hl
  have loop : ∀ (k : Nat) (i : Nat), (i + k = 256) → (least (ovlP fr fs) 256 0 = least (ovlP fr fs) k i) → ∀ (ls : Array Slot), lv_has ls 3 [(1, .int (nI i)), (0, .ref re)] → W p l e { frames := 2, cells := 0, slots := 0, locals := 41 } s m args below meth c H [] 0 0 (MQ below (vp_Si (fun r => r = least (ovlP fr fs) 256 0)) args s 0 0 (fun _ => False)) (F0 m 2 ls []) := by
    intro k
    induction k with
    | zero =>
      intro i hk hI ls hl
      refine lv_iload_n hx hb d_RE_leastOverlap_2 rfl (lv_at hl 0 rfl) ?_
      refine lv_sipush (v := 256) hx hb d_RE_leastOverlap_3 (by decide) ?_
      refine lv_icmp_ge (tgt := 56) hx hb d_RE_leastOverlap_6 rfl (fun _ => ?_) (fun h9 => absurd (by rw [show i = 256 from hk]; decide) h9)
      refine lv_iconst (v := (-1)) hx hb d_RE_leastOverlap_56 (by decide) ?_
      exact W.iret (v := (-1)) hx hb hr (fun t ht hW => ⟨(-1), rfl, by rw [hI, least], ht.trans hH0.symm⟩) (fun _ h9 => absurd h9 List.not_mem_nil) d_RE_leastOverlap_57
    | succ k ih =>
      intro i hk hI ls hl
      refine lv_iload_n hx hb d_RE_leastOverlap_2 rfl (lv_at hl 0 rfl) ?_
      refine lv_sipush (v := 256) hx hb d_RE_leastOverlap_3 (by decide) ?_
      refine lv_icmp_ge (tgt := 56) hx hb d_RE_leastOverlap_6 rfl (fun h9 => absurd h9 (nI_ge (b := 256) (by omega) (by decide))) (fun _ => ?_)
      refine lv_iload_n hx hb d_RE_leastOverlap_9 rfl (lv_at hl 0 rfl) ?_
      refine lv_iconst (v := 1) hx hb d_RE_leastOverlap_10 (by decide) ?_
      refine lv_isub hx hb d_RE_leastOverlap_11 ?_
      refine lv_sipush (v := 255) hx hb d_RE_leastOverlap_12 (by decide) ?_
      refine lv_iand hx hb d_RE_leastOverlap_15 ?_
      refine lv_istore_n hx hb d_RE_leastOverlap_16 rfl hl (by decide) rfl (fun ls hl => ?_)
      have hl : lv_has ls 3 [(2, .int (((nI i) - 1) &&& 255)), (1, .int (nI i)), (0, .ref re)] := hl
      refine lv_aload_n hx hb d_RE_leastOverlap_17 rfl (lv_at hl 2 rfl) ?_
      refine va_get (D := D) (ci := 1) (v := .ref rc) (C := R_RE) (T := T_RE) (N := 4) hx hb hts iw_RE hown hK hP 0 rfl rfl 1 (by decide) (hts _ k_86) (fun _ h9 => h9) rfl d_RE_leastOverlap_18 ?_
      refine lv_iload_n hx hb d_RE_leastOverlap_21 rfl (lv_at hl 1 rfl) ?_
      refine va_zald hx hb hK hP 2 1 rfl rfl (vp_in_nI (by omega) (by decide)) d_RE_leastOverlap_22 ?_
      refine lv_topi (fun y9 e9 => ?_)
      have e9 : y9 = fr i := e9.trans (by rw [nI_clamp (by omega)])
      subst e9
      refine lv_if_eq (tgt := 50) hx hb d_RE_leastOverlap_23 rfl (fun h23 => ?_) (fun h23 => ?_)
      · refine lv_iinc (k := 1) (v := nI (i + 1)) hx hb d_RE_leastOverlap_50 hl rfl (nI_inc _) (by decide) rfl (fun ls hl => ?_)
        have hl : lv_has ls 3 [(1, .int (nI (i + 1))), (2, .int (((nI i) - 1) &&& 255)), (0, .ref re)] := hl
        refine lv_goto (tgt := 2) hx hb d_RE_leastOverlap_53 rfl ?_
        exact ih (i + 1) (by omega) (by rw [hI, least, if_neg (by rw [ovlP, if_pos h23]; decide)]) ls (lv_sub hl [0, 2] rfl)
      · refine lv_aload_n hx hb d_RE_leastOverlap_26 rfl (lv_at hl 2 rfl) ?_
        refine va_get (D := D) (ci := 1) (v := .ref rc) (C := R_RE) (T := T_RE) (N := 4) hx hb hts iw_RE hown hK hP 0 rfl rfl 1 (by decide) (hts _ k_86) (fun _ h9 => h9) rfl d_RE_leastOverlap_27 ?_
        refine lv_iload_n hx hb d_RE_leastOverlap_30 rfl (lv_at hl 0 rfl) ?_
        refine va_zald hx hb hK hP 2 1 rfl rfl (in255 _) d_RE_leastOverlap_31 ?_
        refine lv_topi (fun y9 e9 => ?_)
        have e9 : y9 = rd fr (nI i - 1) := e9.trans rfl
        subst e9
        refine lv_if_eq (tgt := 50) hx hb d_RE_leastOverlap_32 rfl (fun h32 => ?_) (fun h32 => ?_)
        · refine lv_iinc (k := 1) (v := nI (i + 1)) hx hb d_RE_leastOverlap_50 hl rfl (nI_inc _) (by decide) rfl (fun ls hl => ?_)
          have hl : lv_has ls 3 [(1, .int (nI (i + 1))), (2, .int (((nI i) - 1) &&& 255)), (0, .ref re)] := hl
          refine lv_goto (tgt := 2) hx hb d_RE_leastOverlap_53 rfl ?_
          exact ih (i + 1) (by omega) (by rw [hI, least, if_neg (by rw [ovlP, if_neg h23, if_pos h32]; decide)]) ls (lv_sub hl [0, 2] rfl)
        · refine lv_aload_n hx hb d_RE_leastOverlap_35 rfl (lv_at hl 2 rfl) ?_
          refine va_get (D := D) (ci := 1) (v := .ref sr) (C := R_RE) (T := T_RE) (N := 4) hx hb hts iw_RE hown hK hP 0 rfl rfl 0 (by decide) (hts _ k_84) (fun _ h9 => h9) rfl d_RE_leastOverlap_36 ?_
          refine lv_iload_n hx hb d_RE_leastOverlap_39 rfl (lv_at hl 0 rfl) ?_
          refine va_iald hx hb hK hP 1 0 rfl rfl (in255 _) d_RE_leastOverlap_40 ?_
          refine lv_topi (fun y9 e9 => ?_)
          have e9 : y9 = rd fs (nI i - 1) := e9.trans rfl
          subst e9
          have hPc := hP.sub (ws' := []) [] rfl
          refine vp_callSi (va_runS (As := [.int (rd fs (nI i - 1))]) (rest := []) ⟨hx, hb, hml, hown, hts⟩ (m_len l D cI cZ (rd fs (nI i - 1))) ⟨cB 1 hts k_401 k_67 k_399 hd_FO_length ⟨Nat.le_of_ble_eq_true rfl, Nat.le_of_ble_eq_true rfl⟩ rfl rfl, hts _ k_400⟩ (PcR.preS hPc hK hN) rfl rfl hl.1 rfl (lv_room (Nat.le_of_ble_eq_true rfl)) d_RE_leastOverlap_41 ⟨Nat.le_of_ble_eq_true rfl, Nat.le_of_ble_eq_true rfl⟩).run (fun r41 e41 => ?_)
          replace e41 := e41.symm
          subst e41
          refine lv_iconst (v := 2) hx hb d_RE_leastOverlap_44 (by decide) ?_
          refine lv_icmp_ne (tgt := 50) hx hb d_RE_leastOverlap_45 rfl (fun h45 => ?_) (fun h45 => ?_)
          · refine lv_iinc (k := 1) (v := nI (i + 1)) hx hb d_RE_leastOverlap_50 hl rfl (nI_inc _) (by decide) rfl (fun ls hl => ?_)
            have hl : lv_has ls 3 [(1, .int (nI (i + 1))), (2, .int (((nI i) - 1) &&& 255)), (0, .ref re)] := hl
            refine lv_goto (tgt := 2) hx hb d_RE_leastOverlap_53 rfl ?_
            exact ih (i + 1) (by omega) (by rw [hI, least, if_neg (by rw [ovlP, if_neg h23, if_neg h32, if_neg h45]; decide)]) ls (lv_sub hl [0, 2] rfl)
          · refine lv_iload_n hx hb d_RE_leastOverlap_48 rfl (lv_at hl 1 rfl) ?_
            exact W.iret (v := (nI i)) hx hb hr (fun t ht hW => ⟨(nI i), rfl, by rw [hI, least, if_pos (by rw [ovlP, if_neg h23, if_neg h32, if_pos h45])], ht.trans hH0.symm⟩) (fun _ h9 => absurd h9 List.not_mem_nil) d_RE_leastOverlap_49
  exact loop 256 0 rfl rfl ls hl
set_option maxHeartbeats 4000000 in
set_option maxRecDepth 100000 in
theorem r_runoff (l : Launch) (D : va_G) (cI cZ : ClassId) (re : Nat) (sr : Nat) (rc : Nat) (pe : Nat) (fs : Nat → Int32) (fr : Nat → Int32) (fp : Nat → Int32) (fd : Nat) : MetR l y_RE_leastRunOff w_RE_leastRunOff { frames := 2, cells := 0, slots := 0, locals := 41 } D cI cZ [.ref re] [(re, .inr (1, [.ref sr, .ref rc, .ref pe, .int (nI fd)])), (sr, .inl (cI, 256, .inl fs)), (rc, .inl (cZ, 256, .inl fr)), (pe, .inl (cI, 256, .inl fp))] (fun r => r = rofI fr fs) := by
  refine ofR (cc := c_RE_leastRunOff) (maxL := 4) (ret := (some .int)) (by decide) rfl (Nat.le_of_ble_eq_true rfl) ?_
  intro p e s m args below meth c H hH0 hx hb hr hlocks hts hown hml ls hl hP hK hN
  have hown : s.vm.findClass R_RE = some m.cls := hown
  have hl : lv_has ls 4 [(0, .ref re)] := hl
  refine lv_aload_n hx hb d_RE_leastRunOff_0 rfl (lv_at hl 0 rfl) ?_
  refine va_get (D := D) (ci := 1) (v := .ref sr) (C := R_RE) (T := T_RE) (N := 4) hx hb hts iw_RE hown hK hP 0 rfl rfl 0 (by decide) (hts _ k_84) (fun _ h9 => h9) rfl d_RE_leastRunOff_1 ?_
  refine lv_sipush (v := 254) hx hb d_RE_leastRunOff_4 (by decide) ?_
  refine va_iald hx hb hK hP 1 0 rfl rfl (vp_in_nI (n := 254) (by decide) (by decide)) d_RE_leastRunOff_7 ?_
  refine lv_topi (fun y9 e9 => ?_)
  have e9 : y9 = fs 254 := e9.trans rfl
  subst e9
  refine lv_istore_n hx hb d_RE_leastRunOff_8 rfl hl (by decide) rfl (fun ls hl => ?_)
  have hl : lv_has ls 4 [(1, .int (fs 254)), (0, .ref re)] := hl
  refine lv_iload_n hx hb d_RE_leastRunOff_9 rfl (lv_at hl 0 rfl) ?_
  refine lv_bipush (v := 22) hx hb d_RE_leastRunOff_10 (by decide) ?_
  refine lv_icmp_eq (tgt := 21) hx hb d_RE_leastRunOff_12 rfl (fun h12 => ?_) (fun h12 => ?_)
  · refine lv_iconst (v := 1) hx hb d_RE_leastRunOff_21 (by decide) ?_
    refine lv_goto (tgt := 26) hx hb d_RE_leastRunOff_22 rfl ?_
    refine lv_istore_n hx hb d_RE_leastRunOff_26 rfl hl (by decide) rfl (fun ls hl => ?_)
    have hl : lv_has ls 4 [(2, .int 1), (1, .int (fs 254)), (0, .ref re)] := hl
    refine lv_aload_n hx hb d_RE_leastRunOff_27 rfl (lv_at hl 2 rfl) ?_
    refine va_get (D := D) (ci := 1) (v := .ref rc) (C := R_RE) (T := T_RE) (N := 4) hx hb hts iw_RE hown hK hP 0 rfl rfl 1 (by decide) (hts _ k_86) (fun _ h9 => h9) rfl d_RE_leastRunOff_28 ?_
    refine lv_sipush (v := 254) hx hb d_RE_leastRunOff_31 (by decide) ?_
    refine va_zald hx hb hK hP 2 1 rfl rfl (vp_in_nI (n := 254) (by decide) (by decide)) d_RE_leastRunOff_34 ?_
    refine lv_topi (fun y9 e9 => ?_)
    have e9 : y9 = fr 254 := e9.trans rfl
    subst e9
    refine lv_if_eq (tgt := 54) hx hb d_RE_leastRunOff_35 rfl (fun h35 => ?_) (fun h35 => ?_)
    · refine lv_aload_n hx hb d_RE_leastRunOff_54 rfl (lv_at hl 2 rfl) ?_
      refine va_get (D := D) (ci := 1) (v := .ref sr) (C := R_RE) (T := T_RE) (N := 4) hx hb hts iw_RE hown hK hP 0 rfl rfl 0 (by decide) (hts _ k_84) (fun _ h9 => h9) rfl d_RE_leastRunOff_55 ?_
      refine lv_sipush (v := 255) hx hb d_RE_leastRunOff_58 (by decide) ?_
      refine va_iald hx hb hK hP 1 0 rfl rfl (vp_in_nI (n := 255) (by decide) (by decide)) d_RE_leastRunOff_61 ?_
      refine lv_topi (fun y9 e9 => ?_)
      have e9 : y9 = fs 255 := e9.trans rfl
      subst e9
      refine lv_istore_n hx hb d_RE_leastRunOff_62 rfl hl (by decide) rfl (fun ls hl => ?_)
      have hl : lv_has ls 4 [(1, .int (fs 255)), (2, .int 1), (0, .ref re)] := hl
      refine lv_iload_n hx hb d_RE_leastRunOff_63 rfl (lv_at hl 0 rfl) ?_
      refine lv_iconst (v := 1) hx hb d_RE_leastRunOff_64 (by decide) ?_
      refine lv_icmp_eq (tgt := 80) hx hb d_RE_leastRunOff_65 rfl (fun h65 => ?_) (fun h65 => ?_)
      · refine lv_iconst (v := 1) hx hb d_RE_leastRunOff_80 (by decide) ?_
        refine lv_goto (tgt := 85) hx hb d_RE_leastRunOff_81 rfl ?_
        refine lv_istore_n hx hb d_RE_leastRunOff_85 rfl hl (by decide) rfl (fun ls hl => ?_)
        have hl : lv_has ls 4 [(3, .int 1), (1, .int (fs 255)), (2, .int 1), (0, .ref re)] := hl
        refine lv_aload_n hx hb d_RE_leastRunOff_86 rfl (lv_at hl 3 rfl) ?_
        refine va_get (D := D) (ci := 1) (v := .ref rc) (C := R_RE) (T := T_RE) (N := 4) hx hb hts iw_RE hown hK hP 0 rfl rfl 1 (by decide) (hts _ k_86) (fun _ h9 => h9) rfl d_RE_leastRunOff_87 ?_
        refine lv_sipush (v := 255) hx hb d_RE_leastRunOff_90 (by decide) ?_
        refine va_zald hx hb hK hP 2 1 rfl rfl (vp_in_nI (n := 255) (by decide) (by decide)) d_RE_leastRunOff_93 ?_
        refine lv_topi (fun y9 e9 => ?_)
        have e9 : y9 = fr 255 := e9.trans rfl
        subst e9
        refine lv_if_eq (tgt := 107) hx hb d_RE_leastRunOff_94 rfl (fun h94 => ?_) (fun h94 => ?_)
        · refine lv_iconst (v := (-1)) hx hb d_RE_leastRunOff_107 (by decide) ?_
          exact W.iret (v := (-1)) hx hb hr (fun t ht hW => ⟨(-1), rfl, by rw [rofI, if_pos h35, rof2, if_pos h94], ht.trans hH0.symm⟩) (fun _ h9 => absurd h9 List.not_mem_nil) d_RE_leastRunOff_108
        · refine lv_iload_n hx hb d_RE_leastRunOff_97 rfl (lv_at hl 0 rfl) ?_
          refine lv_if_ne (tgt := 107) hx hb d_RE_leastRunOff_98 rfl (fun _ => ?_) (fun h9 => absurd h9 (by decide))
          refine lv_iconst (v := (-1)) hx hb d_RE_leastRunOff_107 (by decide) ?_
          exact W.iret (v := (-1)) hx hb hr (fun t ht hW => ⟨(-1), rfl, by rw [rofI, if_pos h35, rof2, if_neg h94, if_pos h65], ht.trans hH0.symm⟩) (fun _ h9 => absurd h9 List.not_mem_nil) d_RE_leastRunOff_108
      · refine lv_iload_n hx hb d_RE_leastRunOff_68 rfl (lv_at hl 0 rfl) ?_
        refine lv_bipush (v := 28) hx hb d_RE_leastRunOff_69 (by decide) ?_
        refine lv_icmp_eq (tgt := 80) hx hb d_RE_leastRunOff_71 rfl (fun h71 => ?_) (fun h71 => ?_)
        · refine lv_iconst (v := 1) hx hb d_RE_leastRunOff_80 (by decide) ?_
          refine lv_goto (tgt := 85) hx hb d_RE_leastRunOff_81 rfl ?_
          refine lv_istore_n hx hb d_RE_leastRunOff_85 rfl hl (by decide) rfl (fun ls hl => ?_)
          have hl : lv_has ls 4 [(3, .int 1), (1, .int (fs 255)), (2, .int 1), (0, .ref re)] := hl
          refine lv_aload_n hx hb d_RE_leastRunOff_86 rfl (lv_at hl 3 rfl) ?_
          refine va_get (D := D) (ci := 1) (v := .ref rc) (C := R_RE) (T := T_RE) (N := 4) hx hb hts iw_RE hown hK hP 0 rfl rfl 1 (by decide) (hts _ k_86) (fun _ h9 => h9) rfl d_RE_leastRunOff_87 ?_
          refine lv_sipush (v := 255) hx hb d_RE_leastRunOff_90 (by decide) ?_
          refine va_zald hx hb hK hP 2 1 rfl rfl (vp_in_nI (n := 255) (by decide) (by decide)) d_RE_leastRunOff_93 ?_
          refine lv_topi (fun y9 e9 => ?_)
          have e9 : y9 = fr 255 := e9.trans rfl
          subst e9
          refine lv_if_eq (tgt := 107) hx hb d_RE_leastRunOff_94 rfl (fun h94 => ?_) (fun h94 => ?_)
          · refine lv_iconst (v := (-1)) hx hb d_RE_leastRunOff_107 (by decide) ?_
            exact W.iret (v := (-1)) hx hb hr (fun t ht hW => ⟨(-1), rfl, by rw [rofI, if_pos h35, rof2, if_pos h94], ht.trans hH0.symm⟩) (fun _ h9 => absurd h9 List.not_mem_nil) d_RE_leastRunOff_108
          · refine lv_iload_n hx hb d_RE_leastRunOff_97 rfl (lv_at hl 0 rfl) ?_
            refine lv_if_ne (tgt := 107) hx hb d_RE_leastRunOff_98 rfl (fun _ => ?_) (fun h9 => absurd h9 (by decide))
            refine lv_iconst (v := (-1)) hx hb d_RE_leastRunOff_107 (by decide) ?_
            exact W.iret (v := (-1)) hx hb hr (fun t ht hW => ⟨(-1), rfl, by rw [rofI, if_pos h35, rof2, if_neg h94, if_neg h65, if_pos h71], ht.trans hH0.symm⟩) (fun _ h9 => absurd h9 List.not_mem_nil) d_RE_leastRunOff_108
        · refine lv_iload_n hx hb d_RE_leastRunOff_74 rfl (lv_at hl 0 rfl) ?_
          refine lv_bipush (v := 31) hx hb d_RE_leastRunOff_75 (by decide) ?_
          refine lv_icmp_ne (tgt := 84) hx hb d_RE_leastRunOff_77 rfl (fun h77 => ?_) (fun h77 => ?_)
          · refine lv_iconst (v := 0) hx hb d_RE_leastRunOff_84 (by decide) ?_
            refine lv_istore_n hx hb d_RE_leastRunOff_85 rfl hl (by decide) rfl (fun ls hl => ?_)
            have hl : lv_has ls 4 [(3, .int 0), (1, .int (fs 255)), (2, .int 1), (0, .ref re)] := hl
            refine lv_aload_n hx hb d_RE_leastRunOff_86 rfl (lv_at hl 3 rfl) ?_
            refine va_get (D := D) (ci := 1) (v := .ref rc) (C := R_RE) (T := T_RE) (N := 4) hx hb hts iw_RE hown hK hP 0 rfl rfl 1 (by decide) (hts _ k_86) (fun _ h9 => h9) rfl d_RE_leastRunOff_87 ?_
            refine lv_sipush (v := 255) hx hb d_RE_leastRunOff_90 (by decide) ?_
            refine va_zald hx hb hK hP 2 1 rfl rfl (vp_in_nI (n := 255) (by decide) (by decide)) d_RE_leastRunOff_93 ?_
            refine lv_topi (fun y9 e9 => ?_)
            have e9 : y9 = fr 255 := e9.trans rfl
            subst e9
            refine lv_if_eq (tgt := 107) hx hb d_RE_leastRunOff_94 rfl (fun h94 => ?_) (fun h94 => ?_)
            · refine lv_iconst (v := (-1)) hx hb d_RE_leastRunOff_107 (by decide) ?_
              exact W.iret (v := (-1)) hx hb hr (fun t ht hW => ⟨(-1), rfl, by rw [rofI, if_pos h35, rof2, if_pos h94], ht.trans hH0.symm⟩) (fun _ h9 => absurd h9 List.not_mem_nil) d_RE_leastRunOff_108
            · refine lv_iload_n hx hb d_RE_leastRunOff_97 rfl (lv_at hl 0 rfl) ?_
              refine lv_if_ne (tgt := 107) hx hb d_RE_leastRunOff_98 rfl (fun h9 => absurd (by decide) h9) (fun _ => ?_)
              refine lv_sipush (v := 255) hx hb d_RE_leastRunOff_101 (by decide) ?_
              refine lv_goto (tgt := 108) hx hb d_RE_leastRunOff_104 rfl ?_
              exact W.iret (v := 255) hx hb hr (fun t ht hW => ⟨255, rfl, by rw [rofI, if_pos h35, rof2, if_neg h94, if_neg h65, if_neg h71, if_neg h77], ht.trans hH0.symm⟩) (fun _ h9 => absurd h9 List.not_mem_nil) d_RE_leastRunOff_108
          · refine lv_iconst (v := 1) hx hb d_RE_leastRunOff_80 (by decide) ?_
            refine lv_goto (tgt := 85) hx hb d_RE_leastRunOff_81 rfl ?_
            refine lv_istore_n hx hb d_RE_leastRunOff_85 rfl hl (by decide) rfl (fun ls hl => ?_)
            have hl : lv_has ls 4 [(3, .int 1), (1, .int (fs 255)), (2, .int 1), (0, .ref re)] := hl
            refine lv_aload_n hx hb d_RE_leastRunOff_86 rfl (lv_at hl 3 rfl) ?_
            refine va_get (D := D) (ci := 1) (v := .ref rc) (C := R_RE) (T := T_RE) (N := 4) hx hb hts iw_RE hown hK hP 0 rfl rfl 1 (by decide) (hts _ k_86) (fun _ h9 => h9) rfl d_RE_leastRunOff_87 ?_
            refine lv_sipush (v := 255) hx hb d_RE_leastRunOff_90 (by decide) ?_
            refine va_zald hx hb hK hP 2 1 rfl rfl (vp_in_nI (n := 255) (by decide) (by decide)) d_RE_leastRunOff_93 ?_
            refine lv_topi (fun y9 e9 => ?_)
            have e9 : y9 = fr 255 := e9.trans rfl
            subst e9
            refine lv_if_eq (tgt := 107) hx hb d_RE_leastRunOff_94 rfl (fun h94 => ?_) (fun h94 => ?_)
            · refine lv_iconst (v := (-1)) hx hb d_RE_leastRunOff_107 (by decide) ?_
              exact W.iret (v := (-1)) hx hb hr (fun t ht hW => ⟨(-1), rfl, by rw [rofI, if_pos h35, rof2, if_pos h94], ht.trans hH0.symm⟩) (fun _ h9 => absurd h9 List.not_mem_nil) d_RE_leastRunOff_108
            · refine lv_iload_n hx hb d_RE_leastRunOff_97 rfl (lv_at hl 0 rfl) ?_
              refine lv_if_ne (tgt := 107) hx hb d_RE_leastRunOff_98 rfl (fun _ => ?_) (fun h9 => absurd h9 (by decide))
              refine lv_iconst (v := (-1)) hx hb d_RE_leastRunOff_107 (by decide) ?_
              exact W.iret (v := (-1)) hx hb hr (fun t ht hW => ⟨(-1), rfl, by rw [rofI, if_pos h35, rof2, if_neg h94, if_neg h65, if_neg h71, if_pos h77], ht.trans hH0.symm⟩) (fun _ h9 => absurd h9 List.not_mem_nil) d_RE_leastRunOff_108
    · refine lv_iload_n hx hb d_RE_leastRunOff_38 rfl (lv_at hl 1 rfl) ?_
      have hPc := hP.sub (ws' := []) [] rfl
      refine vp_callSi (va_runS (As := [.int (fs 254)]) (rest := []) ⟨hx, hb, hml, hown, hts⟩ (m_len l D cI cZ (fs 254)) ⟨cB 1 hts k_401 k_67 k_399 hd_FO_length ⟨Nat.le_of_ble_eq_true rfl, Nat.le_of_ble_eq_true rfl⟩ rfl rfl, hts _ k_400⟩ (PcR.preS hPc hK hN) rfl rfl hl.1 rfl (lv_room (Nat.le_of_ble_eq_true rfl)) d_RE_leastRunOff_39 ⟨Nat.le_of_ble_eq_true rfl, Nat.le_of_ble_eq_true rfl⟩).run (fun r39 e39 => ?_)
      replace e39 := e39.symm
      subst e39
      refine lv_iconst (v := 2) hx hb d_RE_leastRunOff_42 (by decide) ?_
      refine lv_icmp_ne (tgt := 54) hx hb d_RE_leastRunOff_43 rfl (fun h43 => ?_) (fun h43 => ?_)
      · refine lv_aload_n hx hb d_RE_leastRunOff_54 rfl (lv_at hl 2 rfl) ?_
        refine va_get (D := D) (ci := 1) (v := .ref sr) (C := R_RE) (T := T_RE) (N := 4) hx hb hts iw_RE hown hK hP 0 rfl rfl 0 (by decide) (hts _ k_84) (fun _ h9 => h9) rfl d_RE_leastRunOff_55 ?_
        refine lv_sipush (v := 255) hx hb d_RE_leastRunOff_58 (by decide) ?_
        refine va_iald hx hb hK hP 1 0 rfl rfl (vp_in_nI (n := 255) (by decide) (by decide)) d_RE_leastRunOff_61 ?_
        refine lv_topi (fun y9 e9 => ?_)
        have e9 : y9 = fs 255 := e9.trans rfl
        subst e9
        refine lv_istore_n hx hb d_RE_leastRunOff_62 rfl hl (by decide) rfl (fun ls hl => ?_)
        have hl : lv_has ls 4 [(1, .int (fs 255)), (2, .int 1), (0, .ref re)] := hl
        refine lv_iload_n hx hb d_RE_leastRunOff_63 rfl (lv_at hl 0 rfl) ?_
        refine lv_iconst (v := 1) hx hb d_RE_leastRunOff_64 (by decide) ?_
        refine lv_icmp_eq (tgt := 80) hx hb d_RE_leastRunOff_65 rfl (fun h65 => ?_) (fun h65 => ?_)
        · refine lv_iconst (v := 1) hx hb d_RE_leastRunOff_80 (by decide) ?_
          refine lv_goto (tgt := 85) hx hb d_RE_leastRunOff_81 rfl ?_
          refine lv_istore_n hx hb d_RE_leastRunOff_85 rfl hl (by decide) rfl (fun ls hl => ?_)
          have hl : lv_has ls 4 [(3, .int 1), (1, .int (fs 255)), (2, .int 1), (0, .ref re)] := hl
          refine lv_aload_n hx hb d_RE_leastRunOff_86 rfl (lv_at hl 3 rfl) ?_
          refine va_get (D := D) (ci := 1) (v := .ref rc) (C := R_RE) (T := T_RE) (N := 4) hx hb hts iw_RE hown hK hP 0 rfl rfl 1 (by decide) (hts _ k_86) (fun _ h9 => h9) rfl d_RE_leastRunOff_87 ?_
          refine lv_sipush (v := 255) hx hb d_RE_leastRunOff_90 (by decide) ?_
          refine va_zald hx hb hK hP 2 1 rfl rfl (vp_in_nI (n := 255) (by decide) (by decide)) d_RE_leastRunOff_93 ?_
          refine lv_topi (fun y9 e9 => ?_)
          have e9 : y9 = fr 255 := e9.trans rfl
          subst e9
          refine lv_if_eq (tgt := 107) hx hb d_RE_leastRunOff_94 rfl (fun h94 => ?_) (fun h94 => ?_)
          · refine lv_iconst (v := (-1)) hx hb d_RE_leastRunOff_107 (by decide) ?_
            exact W.iret (v := (-1)) hx hb hr (fun t ht hW => ⟨(-1), rfl, by rw [rofI, if_neg h35, if_neg h43, rof2, if_pos h94], ht.trans hH0.symm⟩) (fun _ h9 => absurd h9 List.not_mem_nil) d_RE_leastRunOff_108
          · refine lv_iload_n hx hb d_RE_leastRunOff_97 rfl (lv_at hl 0 rfl) ?_
            refine lv_if_ne (tgt := 107) hx hb d_RE_leastRunOff_98 rfl (fun _ => ?_) (fun h9 => absurd h9 (by decide))
            refine lv_iconst (v := (-1)) hx hb d_RE_leastRunOff_107 (by decide) ?_
            exact W.iret (v := (-1)) hx hb hr (fun t ht hW => ⟨(-1), rfl, by rw [rofI, if_neg h35, if_neg h43, rof2, if_neg h94, if_pos h65], ht.trans hH0.symm⟩) (fun _ h9 => absurd h9 List.not_mem_nil) d_RE_leastRunOff_108
        · refine lv_iload_n hx hb d_RE_leastRunOff_68 rfl (lv_at hl 0 rfl) ?_
          refine lv_bipush (v := 28) hx hb d_RE_leastRunOff_69 (by decide) ?_
          refine lv_icmp_eq (tgt := 80) hx hb d_RE_leastRunOff_71 rfl (fun h71 => ?_) (fun h71 => ?_)
          · refine lv_iconst (v := 1) hx hb d_RE_leastRunOff_80 (by decide) ?_
            refine lv_goto (tgt := 85) hx hb d_RE_leastRunOff_81 rfl ?_
            refine lv_istore_n hx hb d_RE_leastRunOff_85 rfl hl (by decide) rfl (fun ls hl => ?_)
            have hl : lv_has ls 4 [(3, .int 1), (1, .int (fs 255)), (2, .int 1), (0, .ref re)] := hl
            refine lv_aload_n hx hb d_RE_leastRunOff_86 rfl (lv_at hl 3 rfl) ?_
            refine va_get (D := D) (ci := 1) (v := .ref rc) (C := R_RE) (T := T_RE) (N := 4) hx hb hts iw_RE hown hK hP 0 rfl rfl 1 (by decide) (hts _ k_86) (fun _ h9 => h9) rfl d_RE_leastRunOff_87 ?_
            refine lv_sipush (v := 255) hx hb d_RE_leastRunOff_90 (by decide) ?_
            refine va_zald hx hb hK hP 2 1 rfl rfl (vp_in_nI (n := 255) (by decide) (by decide)) d_RE_leastRunOff_93 ?_
            refine lv_topi (fun y9 e9 => ?_)
            have e9 : y9 = fr 255 := e9.trans rfl
            subst e9
            refine lv_if_eq (tgt := 107) hx hb d_RE_leastRunOff_94 rfl (fun h94 => ?_) (fun h94 => ?_)
            · refine lv_iconst (v := (-1)) hx hb d_RE_leastRunOff_107 (by decide) ?_
              exact W.iret (v := (-1)) hx hb hr (fun t ht hW => ⟨(-1), rfl, by rw [rofI, if_neg h35, if_neg h43, rof2, if_pos h94], ht.trans hH0.symm⟩) (fun _ h9 => absurd h9 List.not_mem_nil) d_RE_leastRunOff_108
            · refine lv_iload_n hx hb d_RE_leastRunOff_97 rfl (lv_at hl 0 rfl) ?_
              refine lv_if_ne (tgt := 107) hx hb d_RE_leastRunOff_98 rfl (fun _ => ?_) (fun h9 => absurd h9 (by decide))
              refine lv_iconst (v := (-1)) hx hb d_RE_leastRunOff_107 (by decide) ?_
              exact W.iret (v := (-1)) hx hb hr (fun t ht hW => ⟨(-1), rfl, by rw [rofI, if_neg h35, if_neg h43, rof2, if_neg h94, if_neg h65, if_pos h71], ht.trans hH0.symm⟩) (fun _ h9 => absurd h9 List.not_mem_nil) d_RE_leastRunOff_108
          · refine lv_iload_n hx hb d_RE_leastRunOff_74 rfl (lv_at hl 0 rfl) ?_
            refine lv_bipush (v := 31) hx hb d_RE_leastRunOff_75 (by decide) ?_
            refine lv_icmp_ne (tgt := 84) hx hb d_RE_leastRunOff_77 rfl (fun h77 => ?_) (fun h77 => ?_)
            · refine lv_iconst (v := 0) hx hb d_RE_leastRunOff_84 (by decide) ?_
              refine lv_istore_n hx hb d_RE_leastRunOff_85 rfl hl (by decide) rfl (fun ls hl => ?_)
              have hl : lv_has ls 4 [(3, .int 0), (1, .int (fs 255)), (2, .int 1), (0, .ref re)] := hl
              refine lv_aload_n hx hb d_RE_leastRunOff_86 rfl (lv_at hl 3 rfl) ?_
              refine va_get (D := D) (ci := 1) (v := .ref rc) (C := R_RE) (T := T_RE) (N := 4) hx hb hts iw_RE hown hK hP 0 rfl rfl 1 (by decide) (hts _ k_86) (fun _ h9 => h9) rfl d_RE_leastRunOff_87 ?_
              refine lv_sipush (v := 255) hx hb d_RE_leastRunOff_90 (by decide) ?_
              refine va_zald hx hb hK hP 2 1 rfl rfl (vp_in_nI (n := 255) (by decide) (by decide)) d_RE_leastRunOff_93 ?_
              refine lv_topi (fun y9 e9 => ?_)
              have e9 : y9 = fr 255 := e9.trans rfl
              subst e9
              refine lv_if_eq (tgt := 107) hx hb d_RE_leastRunOff_94 rfl (fun h94 => ?_) (fun h94 => ?_)
              · refine lv_iconst (v := (-1)) hx hb d_RE_leastRunOff_107 (by decide) ?_
                exact W.iret (v := (-1)) hx hb hr (fun t ht hW => ⟨(-1), rfl, by rw [rofI, if_neg h35, if_neg h43, rof2, if_pos h94], ht.trans hH0.symm⟩) (fun _ h9 => absurd h9 List.not_mem_nil) d_RE_leastRunOff_108
              · refine lv_iload_n hx hb d_RE_leastRunOff_97 rfl (lv_at hl 0 rfl) ?_
                refine lv_if_ne (tgt := 107) hx hb d_RE_leastRunOff_98 rfl (fun h9 => absurd (by decide) h9) (fun _ => ?_)
                refine lv_sipush (v := 255) hx hb d_RE_leastRunOff_101 (by decide) ?_
                refine lv_goto (tgt := 108) hx hb d_RE_leastRunOff_104 rfl ?_
                exact W.iret (v := 255) hx hb hr (fun t ht hW => ⟨255, rfl, by rw [rofI, if_neg h35, if_neg h43, rof2, if_neg h94, if_neg h65, if_neg h71, if_neg h77], ht.trans hH0.symm⟩) (fun _ h9 => absurd h9 List.not_mem_nil) d_RE_leastRunOff_108
            · refine lv_iconst (v := 1) hx hb d_RE_leastRunOff_80 (by decide) ?_
              refine lv_goto (tgt := 85) hx hb d_RE_leastRunOff_81 rfl ?_
              refine lv_istore_n hx hb d_RE_leastRunOff_85 rfl hl (by decide) rfl (fun ls hl => ?_)
              have hl : lv_has ls 4 [(3, .int 1), (1, .int (fs 255)), (2, .int 1), (0, .ref re)] := hl
              refine lv_aload_n hx hb d_RE_leastRunOff_86 rfl (lv_at hl 3 rfl) ?_
              refine va_get (D := D) (ci := 1) (v := .ref rc) (C := R_RE) (T := T_RE) (N := 4) hx hb hts iw_RE hown hK hP 0 rfl rfl 1 (by decide) (hts _ k_86) (fun _ h9 => h9) rfl d_RE_leastRunOff_87 ?_
              refine lv_sipush (v := 255) hx hb d_RE_leastRunOff_90 (by decide) ?_
              refine va_zald hx hb hK hP 2 1 rfl rfl (vp_in_nI (n := 255) (by decide) (by decide)) d_RE_leastRunOff_93 ?_
              refine lv_topi (fun y9 e9 => ?_)
              have e9 : y9 = fr 255 := e9.trans rfl
              subst e9
              refine lv_if_eq (tgt := 107) hx hb d_RE_leastRunOff_94 rfl (fun h94 => ?_) (fun h94 => ?_)
              · refine lv_iconst (v := (-1)) hx hb d_RE_leastRunOff_107 (by decide) ?_
                exact W.iret (v := (-1)) hx hb hr (fun t ht hW => ⟨(-1), rfl, by rw [rofI, if_neg h35, if_neg h43, rof2, if_pos h94], ht.trans hH0.symm⟩) (fun _ h9 => absurd h9 List.not_mem_nil) d_RE_leastRunOff_108
              · refine lv_iload_n hx hb d_RE_leastRunOff_97 rfl (lv_at hl 0 rfl) ?_
                refine lv_if_ne (tgt := 107) hx hb d_RE_leastRunOff_98 rfl (fun _ => ?_) (fun h9 => absurd h9 (by decide))
                refine lv_iconst (v := (-1)) hx hb d_RE_leastRunOff_107 (by decide) ?_
                exact W.iret (v := (-1)) hx hb hr (fun t ht hW => ⟨(-1), rfl, by rw [rofI, if_neg h35, if_neg h43, rof2, if_neg h94, if_neg h65, if_neg h71, if_pos h77], ht.trans hH0.symm⟩) (fun _ h9 => absurd h9 List.not_mem_nil) d_RE_leastRunOff_108
      · refine lv_iload_n hx hb d_RE_leastRunOff_46 rfl (lv_at hl 0 rfl) ?_
        refine lv_if_ne (tgt := 54) hx hb d_RE_leastRunOff_47 rfl (fun _ => ?_) (fun h9 => absurd h9 (by decide))
        refine lv_aload_n hx hb d_RE_leastRunOff_54 rfl (lv_at hl 2 rfl) ?_
        refine va_get (D := D) (ci := 1) (v := .ref sr) (C := R_RE) (T := T_RE) (N := 4) hx hb hts iw_RE hown hK hP 0 rfl rfl 0 (by decide) (hts _ k_84) (fun _ h9 => h9) rfl d_RE_leastRunOff_55 ?_
        refine lv_sipush (v := 255) hx hb d_RE_leastRunOff_58 (by decide) ?_
        refine va_iald hx hb hK hP 1 0 rfl rfl (vp_in_nI (n := 255) (by decide) (by decide)) d_RE_leastRunOff_61 ?_
        refine lv_topi (fun y9 e9 => ?_)
        have e9 : y9 = fs 255 := e9.trans rfl
        subst e9
        refine lv_istore_n hx hb d_RE_leastRunOff_62 rfl hl (by decide) rfl (fun ls hl => ?_)
        have hl : lv_has ls 4 [(1, .int (fs 255)), (2, .int 1), (0, .ref re)] := hl
        refine lv_iload_n hx hb d_RE_leastRunOff_63 rfl (lv_at hl 0 rfl) ?_
        refine lv_iconst (v := 1) hx hb d_RE_leastRunOff_64 (by decide) ?_
        refine lv_icmp_eq (tgt := 80) hx hb d_RE_leastRunOff_65 rfl (fun h65 => ?_) (fun h65 => ?_)
        · refine lv_iconst (v := 1) hx hb d_RE_leastRunOff_80 (by decide) ?_
          refine lv_goto (tgt := 85) hx hb d_RE_leastRunOff_81 rfl ?_
          refine lv_istore_n hx hb d_RE_leastRunOff_85 rfl hl (by decide) rfl (fun ls hl => ?_)
          have hl : lv_has ls 4 [(3, .int 1), (1, .int (fs 255)), (2, .int 1), (0, .ref re)] := hl
          refine lv_aload_n hx hb d_RE_leastRunOff_86 rfl (lv_at hl 3 rfl) ?_
          refine va_get (D := D) (ci := 1) (v := .ref rc) (C := R_RE) (T := T_RE) (N := 4) hx hb hts iw_RE hown hK hP 0 rfl rfl 1 (by decide) (hts _ k_86) (fun _ h9 => h9) rfl d_RE_leastRunOff_87 ?_
          refine lv_sipush (v := 255) hx hb d_RE_leastRunOff_90 (by decide) ?_
          refine va_zald hx hb hK hP 2 1 rfl rfl (vp_in_nI (n := 255) (by decide) (by decide)) d_RE_leastRunOff_93 ?_
          refine lv_topi (fun y9 e9 => ?_)
          have e9 : y9 = fr 255 := e9.trans rfl
          subst e9
          refine lv_if_eq (tgt := 107) hx hb d_RE_leastRunOff_94 rfl (fun h94 => ?_) (fun h94 => ?_)
          · refine lv_iconst (v := (-1)) hx hb d_RE_leastRunOff_107 (by decide) ?_
            exact W.iret (v := (-1)) hx hb hr (fun t ht hW => ⟨(-1), rfl, by rw [rofI, if_neg h35, if_pos h43, if_pos h12, rof2, if_pos h94], ht.trans hH0.symm⟩) (fun _ h9 => absurd h9 List.not_mem_nil) d_RE_leastRunOff_108
          · refine lv_iload_n hx hb d_RE_leastRunOff_97 rfl (lv_at hl 0 rfl) ?_
            refine lv_if_ne (tgt := 107) hx hb d_RE_leastRunOff_98 rfl (fun _ => ?_) (fun h9 => absurd h9 (by decide))
            refine lv_iconst (v := (-1)) hx hb d_RE_leastRunOff_107 (by decide) ?_
            exact W.iret (v := (-1)) hx hb hr (fun t ht hW => ⟨(-1), rfl, by rw [rofI, if_neg h35, if_pos h43, if_pos h12, rof2, if_neg h94, if_pos h65], ht.trans hH0.symm⟩) (fun _ h9 => absurd h9 List.not_mem_nil) d_RE_leastRunOff_108
        · refine lv_iload_n hx hb d_RE_leastRunOff_68 rfl (lv_at hl 0 rfl) ?_
          refine lv_bipush (v := 28) hx hb d_RE_leastRunOff_69 (by decide) ?_
          refine lv_icmp_eq (tgt := 80) hx hb d_RE_leastRunOff_71 rfl (fun h71 => ?_) (fun h71 => ?_)
          · refine lv_iconst (v := 1) hx hb d_RE_leastRunOff_80 (by decide) ?_
            refine lv_goto (tgt := 85) hx hb d_RE_leastRunOff_81 rfl ?_
            refine lv_istore_n hx hb d_RE_leastRunOff_85 rfl hl (by decide) rfl (fun ls hl => ?_)
            have hl : lv_has ls 4 [(3, .int 1), (1, .int (fs 255)), (2, .int 1), (0, .ref re)] := hl
            refine lv_aload_n hx hb d_RE_leastRunOff_86 rfl (lv_at hl 3 rfl) ?_
            refine va_get (D := D) (ci := 1) (v := .ref rc) (C := R_RE) (T := T_RE) (N := 4) hx hb hts iw_RE hown hK hP 0 rfl rfl 1 (by decide) (hts _ k_86) (fun _ h9 => h9) rfl d_RE_leastRunOff_87 ?_
            refine lv_sipush (v := 255) hx hb d_RE_leastRunOff_90 (by decide) ?_
            refine va_zald hx hb hK hP 2 1 rfl rfl (vp_in_nI (n := 255) (by decide) (by decide)) d_RE_leastRunOff_93 ?_
            refine lv_topi (fun y9 e9 => ?_)
            have e9 : y9 = fr 255 := e9.trans rfl
            subst e9
            refine lv_if_eq (tgt := 107) hx hb d_RE_leastRunOff_94 rfl (fun h94 => ?_) (fun h94 => ?_)
            · refine lv_iconst (v := (-1)) hx hb d_RE_leastRunOff_107 (by decide) ?_
              exact W.iret (v := (-1)) hx hb hr (fun t ht hW => ⟨(-1), rfl, by rw [rofI, if_neg h35, if_pos h43, if_pos h12, rof2, if_pos h94], ht.trans hH0.symm⟩) (fun _ h9 => absurd h9 List.not_mem_nil) d_RE_leastRunOff_108
            · refine lv_iload_n hx hb d_RE_leastRunOff_97 rfl (lv_at hl 0 rfl) ?_
              refine lv_if_ne (tgt := 107) hx hb d_RE_leastRunOff_98 rfl (fun _ => ?_) (fun h9 => absurd h9 (by decide))
              refine lv_iconst (v := (-1)) hx hb d_RE_leastRunOff_107 (by decide) ?_
              exact W.iret (v := (-1)) hx hb hr (fun t ht hW => ⟨(-1), rfl, by rw [rofI, if_neg h35, if_pos h43, if_pos h12, rof2, if_neg h94, if_neg h65, if_pos h71], ht.trans hH0.symm⟩) (fun _ h9 => absurd h9 List.not_mem_nil) d_RE_leastRunOff_108
          · refine lv_iload_n hx hb d_RE_leastRunOff_74 rfl (lv_at hl 0 rfl) ?_
            refine lv_bipush (v := 31) hx hb d_RE_leastRunOff_75 (by decide) ?_
            refine lv_icmp_ne (tgt := 84) hx hb d_RE_leastRunOff_77 rfl (fun h77 => ?_) (fun h77 => ?_)
            · refine lv_iconst (v := 0) hx hb d_RE_leastRunOff_84 (by decide) ?_
              refine lv_istore_n hx hb d_RE_leastRunOff_85 rfl hl (by decide) rfl (fun ls hl => ?_)
              have hl : lv_has ls 4 [(3, .int 0), (1, .int (fs 255)), (2, .int 1), (0, .ref re)] := hl
              refine lv_aload_n hx hb d_RE_leastRunOff_86 rfl (lv_at hl 3 rfl) ?_
              refine va_get (D := D) (ci := 1) (v := .ref rc) (C := R_RE) (T := T_RE) (N := 4) hx hb hts iw_RE hown hK hP 0 rfl rfl 1 (by decide) (hts _ k_86) (fun _ h9 => h9) rfl d_RE_leastRunOff_87 ?_
              refine lv_sipush (v := 255) hx hb d_RE_leastRunOff_90 (by decide) ?_
              refine va_zald hx hb hK hP 2 1 rfl rfl (vp_in_nI (n := 255) (by decide) (by decide)) d_RE_leastRunOff_93 ?_
              refine lv_topi (fun y9 e9 => ?_)
              have e9 : y9 = fr 255 := e9.trans rfl
              subst e9
              refine lv_if_eq (tgt := 107) hx hb d_RE_leastRunOff_94 rfl (fun h94 => ?_) (fun h94 => ?_)
              · refine lv_iconst (v := (-1)) hx hb d_RE_leastRunOff_107 (by decide) ?_
                exact W.iret (v := (-1)) hx hb hr (fun t ht hW => ⟨(-1), rfl, by rw [rofI, if_neg h35, if_pos h43, if_pos h12, rof2, if_pos h94], ht.trans hH0.symm⟩) (fun _ h9 => absurd h9 List.not_mem_nil) d_RE_leastRunOff_108
              · refine lv_iload_n hx hb d_RE_leastRunOff_97 rfl (lv_at hl 0 rfl) ?_
                refine lv_if_ne (tgt := 107) hx hb d_RE_leastRunOff_98 rfl (fun h9 => absurd (by decide) h9) (fun _ => ?_)
                refine lv_sipush (v := 255) hx hb d_RE_leastRunOff_101 (by decide) ?_
                refine lv_goto (tgt := 108) hx hb d_RE_leastRunOff_104 rfl ?_
                exact W.iret (v := 255) hx hb hr (fun t ht hW => ⟨255, rfl, by rw [rofI, if_neg h35, if_pos h43, if_pos h12, rof2, if_neg h94, if_neg h65, if_neg h71, if_neg h77], ht.trans hH0.symm⟩) (fun _ h9 => absurd h9 List.not_mem_nil) d_RE_leastRunOff_108
            · refine lv_iconst (v := 1) hx hb d_RE_leastRunOff_80 (by decide) ?_
              refine lv_goto (tgt := 85) hx hb d_RE_leastRunOff_81 rfl ?_
              refine lv_istore_n hx hb d_RE_leastRunOff_85 rfl hl (by decide) rfl (fun ls hl => ?_)
              have hl : lv_has ls 4 [(3, .int 1), (1, .int (fs 255)), (2, .int 1), (0, .ref re)] := hl
              refine lv_aload_n hx hb d_RE_leastRunOff_86 rfl (lv_at hl 3 rfl) ?_
              refine va_get (D := D) (ci := 1) (v := .ref rc) (C := R_RE) (T := T_RE) (N := 4) hx hb hts iw_RE hown hK hP 0 rfl rfl 1 (by decide) (hts _ k_86) (fun _ h9 => h9) rfl d_RE_leastRunOff_87 ?_
              refine lv_sipush (v := 255) hx hb d_RE_leastRunOff_90 (by decide) ?_
              refine va_zald hx hb hK hP 2 1 rfl rfl (vp_in_nI (n := 255) (by decide) (by decide)) d_RE_leastRunOff_93 ?_
              refine lv_topi (fun y9 e9 => ?_)
              have e9 : y9 = fr 255 := e9.trans rfl
              subst e9
              refine lv_if_eq (tgt := 107) hx hb d_RE_leastRunOff_94 rfl (fun h94 => ?_) (fun h94 => ?_)
              · refine lv_iconst (v := (-1)) hx hb d_RE_leastRunOff_107 (by decide) ?_
                exact W.iret (v := (-1)) hx hb hr (fun t ht hW => ⟨(-1), rfl, by rw [rofI, if_neg h35, if_pos h43, if_pos h12, rof2, if_pos h94], ht.trans hH0.symm⟩) (fun _ h9 => absurd h9 List.not_mem_nil) d_RE_leastRunOff_108
              · refine lv_iload_n hx hb d_RE_leastRunOff_97 rfl (lv_at hl 0 rfl) ?_
                refine lv_if_ne (tgt := 107) hx hb d_RE_leastRunOff_98 rfl (fun _ => ?_) (fun h9 => absurd h9 (by decide))
                refine lv_iconst (v := (-1)) hx hb d_RE_leastRunOff_107 (by decide) ?_
                exact W.iret (v := (-1)) hx hb hr (fun t ht hW => ⟨(-1), rfl, by rw [rofI, if_neg h35, if_pos h43, if_pos h12, rof2, if_neg h94, if_neg h65, if_neg h71, if_pos h77], ht.trans hH0.symm⟩) (fun _ h9 => absurd h9 List.not_mem_nil) d_RE_leastRunOff_108
  · refine lv_iload_n hx hb d_RE_leastRunOff_15 rfl (lv_at hl 0 rfl) ?_
    refine lv_bipush (v := 27) hx hb d_RE_leastRunOff_16 (by decide) ?_
    refine lv_icmp_ne (tgt := 25) hx hb d_RE_leastRunOff_18 rfl (fun h18 => ?_) (fun h18 => ?_)
    · refine lv_iconst (v := 0) hx hb d_RE_leastRunOff_25 (by decide) ?_
      refine lv_istore_n hx hb d_RE_leastRunOff_26 rfl hl (by decide) rfl (fun ls hl => ?_)
      have hl : lv_has ls 4 [(2, .int 0), (1, .int (fs 254)), (0, .ref re)] := hl
      refine lv_aload_n hx hb d_RE_leastRunOff_27 rfl (lv_at hl 2 rfl) ?_
      refine va_get (D := D) (ci := 1) (v := .ref rc) (C := R_RE) (T := T_RE) (N := 4) hx hb hts iw_RE hown hK hP 0 rfl rfl 1 (by decide) (hts _ k_86) (fun _ h9 => h9) rfl d_RE_leastRunOff_28 ?_
      refine lv_sipush (v := 254) hx hb d_RE_leastRunOff_31 (by decide) ?_
      refine va_zald hx hb hK hP 2 1 rfl rfl (vp_in_nI (n := 254) (by decide) (by decide)) d_RE_leastRunOff_34 ?_
      refine lv_topi (fun y9 e9 => ?_)
      have e9 : y9 = fr 254 := e9.trans rfl
      subst e9
      refine lv_if_eq (tgt := 54) hx hb d_RE_leastRunOff_35 rfl (fun h35 => ?_) (fun h35 => ?_)
      · refine lv_aload_n hx hb d_RE_leastRunOff_54 rfl (lv_at hl 2 rfl) ?_
        refine va_get (D := D) (ci := 1) (v := .ref sr) (C := R_RE) (T := T_RE) (N := 4) hx hb hts iw_RE hown hK hP 0 rfl rfl 0 (by decide) (hts _ k_84) (fun _ h9 => h9) rfl d_RE_leastRunOff_55 ?_
        refine lv_sipush (v := 255) hx hb d_RE_leastRunOff_58 (by decide) ?_
        refine va_iald hx hb hK hP 1 0 rfl rfl (vp_in_nI (n := 255) (by decide) (by decide)) d_RE_leastRunOff_61 ?_
        refine lv_topi (fun y9 e9 => ?_)
        have e9 : y9 = fs 255 := e9.trans rfl
        subst e9
        refine lv_istore_n hx hb d_RE_leastRunOff_62 rfl hl (by decide) rfl (fun ls hl => ?_)
        have hl : lv_has ls 4 [(1, .int (fs 255)), (2, .int 0), (0, .ref re)] := hl
        refine lv_iload_n hx hb d_RE_leastRunOff_63 rfl (lv_at hl 0 rfl) ?_
        refine lv_iconst (v := 1) hx hb d_RE_leastRunOff_64 (by decide) ?_
        refine lv_icmp_eq (tgt := 80) hx hb d_RE_leastRunOff_65 rfl (fun h65 => ?_) (fun h65 => ?_)
        · refine lv_iconst (v := 1) hx hb d_RE_leastRunOff_80 (by decide) ?_
          refine lv_goto (tgt := 85) hx hb d_RE_leastRunOff_81 rfl ?_
          refine lv_istore_n hx hb d_RE_leastRunOff_85 rfl hl (by decide) rfl (fun ls hl => ?_)
          have hl : lv_has ls 4 [(3, .int 1), (1, .int (fs 255)), (2, .int 0), (0, .ref re)] := hl
          refine lv_aload_n hx hb d_RE_leastRunOff_86 rfl (lv_at hl 3 rfl) ?_
          refine va_get (D := D) (ci := 1) (v := .ref rc) (C := R_RE) (T := T_RE) (N := 4) hx hb hts iw_RE hown hK hP 0 rfl rfl 1 (by decide) (hts _ k_86) (fun _ h9 => h9) rfl d_RE_leastRunOff_87 ?_
          refine lv_sipush (v := 255) hx hb d_RE_leastRunOff_90 (by decide) ?_
          refine va_zald hx hb hK hP 2 1 rfl rfl (vp_in_nI (n := 255) (by decide) (by decide)) d_RE_leastRunOff_93 ?_
          refine lv_topi (fun y9 e9 => ?_)
          have e9 : y9 = fr 255 := e9.trans rfl
          subst e9
          refine lv_if_eq (tgt := 107) hx hb d_RE_leastRunOff_94 rfl (fun h94 => ?_) (fun h94 => ?_)
          · refine lv_iconst (v := (-1)) hx hb d_RE_leastRunOff_107 (by decide) ?_
            exact W.iret (v := (-1)) hx hb hr (fun t ht hW => ⟨(-1), rfl, by rw [rofI, if_pos h35, rof2, if_pos h94], ht.trans hH0.symm⟩) (fun _ h9 => absurd h9 List.not_mem_nil) d_RE_leastRunOff_108
          · refine lv_iload_n hx hb d_RE_leastRunOff_97 rfl (lv_at hl 0 rfl) ?_
            refine lv_if_ne (tgt := 107) hx hb d_RE_leastRunOff_98 rfl (fun _ => ?_) (fun h9 => absurd h9 (by decide))
            refine lv_iconst (v := (-1)) hx hb d_RE_leastRunOff_107 (by decide) ?_
            exact W.iret (v := (-1)) hx hb hr (fun t ht hW => ⟨(-1), rfl, by rw [rofI, if_pos h35, rof2, if_neg h94, if_pos h65], ht.trans hH0.symm⟩) (fun _ h9 => absurd h9 List.not_mem_nil) d_RE_leastRunOff_108
        · refine lv_iload_n hx hb d_RE_leastRunOff_68 rfl (lv_at hl 0 rfl) ?_
          refine lv_bipush (v := 28) hx hb d_RE_leastRunOff_69 (by decide) ?_
          refine lv_icmp_eq (tgt := 80) hx hb d_RE_leastRunOff_71 rfl (fun h71 => ?_) (fun h71 => ?_)
          · refine lv_iconst (v := 1) hx hb d_RE_leastRunOff_80 (by decide) ?_
            refine lv_goto (tgt := 85) hx hb d_RE_leastRunOff_81 rfl ?_
            refine lv_istore_n hx hb d_RE_leastRunOff_85 rfl hl (by decide) rfl (fun ls hl => ?_)
            have hl : lv_has ls 4 [(3, .int 1), (1, .int (fs 255)), (2, .int 0), (0, .ref re)] := hl
            refine lv_aload_n hx hb d_RE_leastRunOff_86 rfl (lv_at hl 3 rfl) ?_
            refine va_get (D := D) (ci := 1) (v := .ref rc) (C := R_RE) (T := T_RE) (N := 4) hx hb hts iw_RE hown hK hP 0 rfl rfl 1 (by decide) (hts _ k_86) (fun _ h9 => h9) rfl d_RE_leastRunOff_87 ?_
            refine lv_sipush (v := 255) hx hb d_RE_leastRunOff_90 (by decide) ?_
            refine va_zald hx hb hK hP 2 1 rfl rfl (vp_in_nI (n := 255) (by decide) (by decide)) d_RE_leastRunOff_93 ?_
            refine lv_topi (fun y9 e9 => ?_)
            have e9 : y9 = fr 255 := e9.trans rfl
            subst e9
            refine lv_if_eq (tgt := 107) hx hb d_RE_leastRunOff_94 rfl (fun h94 => ?_) (fun h94 => ?_)
            · refine lv_iconst (v := (-1)) hx hb d_RE_leastRunOff_107 (by decide) ?_
              exact W.iret (v := (-1)) hx hb hr (fun t ht hW => ⟨(-1), rfl, by rw [rofI, if_pos h35, rof2, if_pos h94], ht.trans hH0.symm⟩) (fun _ h9 => absurd h9 List.not_mem_nil) d_RE_leastRunOff_108
            · refine lv_iload_n hx hb d_RE_leastRunOff_97 rfl (lv_at hl 0 rfl) ?_
              refine lv_if_ne (tgt := 107) hx hb d_RE_leastRunOff_98 rfl (fun _ => ?_) (fun h9 => absurd h9 (by decide))
              refine lv_iconst (v := (-1)) hx hb d_RE_leastRunOff_107 (by decide) ?_
              exact W.iret (v := (-1)) hx hb hr (fun t ht hW => ⟨(-1), rfl, by rw [rofI, if_pos h35, rof2, if_neg h94, if_neg h65, if_pos h71], ht.trans hH0.symm⟩) (fun _ h9 => absurd h9 List.not_mem_nil) d_RE_leastRunOff_108
          · refine lv_iload_n hx hb d_RE_leastRunOff_74 rfl (lv_at hl 0 rfl) ?_
            refine lv_bipush (v := 31) hx hb d_RE_leastRunOff_75 (by decide) ?_
            refine lv_icmp_ne (tgt := 84) hx hb d_RE_leastRunOff_77 rfl (fun h77 => ?_) (fun h77 => ?_)
            · refine lv_iconst (v := 0) hx hb d_RE_leastRunOff_84 (by decide) ?_
              refine lv_istore_n hx hb d_RE_leastRunOff_85 rfl hl (by decide) rfl (fun ls hl => ?_)
              have hl : lv_has ls 4 [(3, .int 0), (1, .int (fs 255)), (2, .int 0), (0, .ref re)] := hl
              refine lv_aload_n hx hb d_RE_leastRunOff_86 rfl (lv_at hl 3 rfl) ?_
              refine va_get (D := D) (ci := 1) (v := .ref rc) (C := R_RE) (T := T_RE) (N := 4) hx hb hts iw_RE hown hK hP 0 rfl rfl 1 (by decide) (hts _ k_86) (fun _ h9 => h9) rfl d_RE_leastRunOff_87 ?_
              refine lv_sipush (v := 255) hx hb d_RE_leastRunOff_90 (by decide) ?_
              refine va_zald hx hb hK hP 2 1 rfl rfl (vp_in_nI (n := 255) (by decide) (by decide)) d_RE_leastRunOff_93 ?_
              refine lv_topi (fun y9 e9 => ?_)
              have e9 : y9 = fr 255 := e9.trans rfl
              subst e9
              refine lv_if_eq (tgt := 107) hx hb d_RE_leastRunOff_94 rfl (fun h94 => ?_) (fun h94 => ?_)
              · refine lv_iconst (v := (-1)) hx hb d_RE_leastRunOff_107 (by decide) ?_
                exact W.iret (v := (-1)) hx hb hr (fun t ht hW => ⟨(-1), rfl, by rw [rofI, if_pos h35, rof2, if_pos h94], ht.trans hH0.symm⟩) (fun _ h9 => absurd h9 List.not_mem_nil) d_RE_leastRunOff_108
              · refine lv_iload_n hx hb d_RE_leastRunOff_97 rfl (lv_at hl 0 rfl) ?_
                refine lv_if_ne (tgt := 107) hx hb d_RE_leastRunOff_98 rfl (fun h9 => absurd (by decide) h9) (fun _ => ?_)
                refine lv_sipush (v := 255) hx hb d_RE_leastRunOff_101 (by decide) ?_
                refine lv_goto (tgt := 108) hx hb d_RE_leastRunOff_104 rfl ?_
                exact W.iret (v := 255) hx hb hr (fun t ht hW => ⟨255, rfl, by rw [rofI, if_pos h35, rof2, if_neg h94, if_neg h65, if_neg h71, if_neg h77], ht.trans hH0.symm⟩) (fun _ h9 => absurd h9 List.not_mem_nil) d_RE_leastRunOff_108
            · refine lv_iconst (v := 1) hx hb d_RE_leastRunOff_80 (by decide) ?_
              refine lv_goto (tgt := 85) hx hb d_RE_leastRunOff_81 rfl ?_
              refine lv_istore_n hx hb d_RE_leastRunOff_85 rfl hl (by decide) rfl (fun ls hl => ?_)
              have hl : lv_has ls 4 [(3, .int 1), (1, .int (fs 255)), (2, .int 0), (0, .ref re)] := hl
              refine lv_aload_n hx hb d_RE_leastRunOff_86 rfl (lv_at hl 3 rfl) ?_
              refine va_get (D := D) (ci := 1) (v := .ref rc) (C := R_RE) (T := T_RE) (N := 4) hx hb hts iw_RE hown hK hP 0 rfl rfl 1 (by decide) (hts _ k_86) (fun _ h9 => h9) rfl d_RE_leastRunOff_87 ?_
              refine lv_sipush (v := 255) hx hb d_RE_leastRunOff_90 (by decide) ?_
              refine va_zald hx hb hK hP 2 1 rfl rfl (vp_in_nI (n := 255) (by decide) (by decide)) d_RE_leastRunOff_93 ?_
              refine lv_topi (fun y9 e9 => ?_)
              have e9 : y9 = fr 255 := e9.trans rfl
              subst e9
              refine lv_if_eq (tgt := 107) hx hb d_RE_leastRunOff_94 rfl (fun h94 => ?_) (fun h94 => ?_)
              · refine lv_iconst (v := (-1)) hx hb d_RE_leastRunOff_107 (by decide) ?_
                exact W.iret (v := (-1)) hx hb hr (fun t ht hW => ⟨(-1), rfl, by rw [rofI, if_pos h35, rof2, if_pos h94], ht.trans hH0.symm⟩) (fun _ h9 => absurd h9 List.not_mem_nil) d_RE_leastRunOff_108
              · refine lv_iload_n hx hb d_RE_leastRunOff_97 rfl (lv_at hl 0 rfl) ?_
                refine lv_if_ne (tgt := 107) hx hb d_RE_leastRunOff_98 rfl (fun _ => ?_) (fun h9 => absurd h9 (by decide))
                refine lv_iconst (v := (-1)) hx hb d_RE_leastRunOff_107 (by decide) ?_
                exact W.iret (v := (-1)) hx hb hr (fun t ht hW => ⟨(-1), rfl, by rw [rofI, if_pos h35, rof2, if_neg h94, if_neg h65, if_neg h71, if_pos h77], ht.trans hH0.symm⟩) (fun _ h9 => absurd h9 List.not_mem_nil) d_RE_leastRunOff_108
      · refine lv_iload_n hx hb d_RE_leastRunOff_38 rfl (lv_at hl 1 rfl) ?_
        have hPc := hP.sub (ws' := []) [] rfl
        refine vp_callSi (va_runS (As := [.int (fs 254)]) (rest := []) ⟨hx, hb, hml, hown, hts⟩ (m_len l D cI cZ (fs 254)) ⟨cB 1 hts k_401 k_67 k_399 hd_FO_length ⟨Nat.le_of_ble_eq_true rfl, Nat.le_of_ble_eq_true rfl⟩ rfl rfl, hts _ k_400⟩ (PcR.preS hPc hK hN) rfl rfl hl.1 rfl (lv_room (Nat.le_of_ble_eq_true rfl)) d_RE_leastRunOff_39 ⟨Nat.le_of_ble_eq_true rfl, Nat.le_of_ble_eq_true rfl⟩).run (fun r39 e39 => ?_)
        replace e39 := e39.symm
        subst e39
        refine lv_iconst (v := 2) hx hb d_RE_leastRunOff_42 (by decide) ?_
        refine lv_icmp_ne (tgt := 54) hx hb d_RE_leastRunOff_43 rfl (fun h43 => ?_) (fun h43 => ?_)
        · refine lv_aload_n hx hb d_RE_leastRunOff_54 rfl (lv_at hl 2 rfl) ?_
          refine va_get (D := D) (ci := 1) (v := .ref sr) (C := R_RE) (T := T_RE) (N := 4) hx hb hts iw_RE hown hK hP 0 rfl rfl 0 (by decide) (hts _ k_84) (fun _ h9 => h9) rfl d_RE_leastRunOff_55 ?_
          refine lv_sipush (v := 255) hx hb d_RE_leastRunOff_58 (by decide) ?_
          refine va_iald hx hb hK hP 1 0 rfl rfl (vp_in_nI (n := 255) (by decide) (by decide)) d_RE_leastRunOff_61 ?_
          refine lv_topi (fun y9 e9 => ?_)
          have e9 : y9 = fs 255 := e9.trans rfl
          subst e9
          refine lv_istore_n hx hb d_RE_leastRunOff_62 rfl hl (by decide) rfl (fun ls hl => ?_)
          have hl : lv_has ls 4 [(1, .int (fs 255)), (2, .int 0), (0, .ref re)] := hl
          refine lv_iload_n hx hb d_RE_leastRunOff_63 rfl (lv_at hl 0 rfl) ?_
          refine lv_iconst (v := 1) hx hb d_RE_leastRunOff_64 (by decide) ?_
          refine lv_icmp_eq (tgt := 80) hx hb d_RE_leastRunOff_65 rfl (fun h65 => ?_) (fun h65 => ?_)
          · refine lv_iconst (v := 1) hx hb d_RE_leastRunOff_80 (by decide) ?_
            refine lv_goto (tgt := 85) hx hb d_RE_leastRunOff_81 rfl ?_
            refine lv_istore_n hx hb d_RE_leastRunOff_85 rfl hl (by decide) rfl (fun ls hl => ?_)
            have hl : lv_has ls 4 [(3, .int 1), (1, .int (fs 255)), (2, .int 0), (0, .ref re)] := hl
            refine lv_aload_n hx hb d_RE_leastRunOff_86 rfl (lv_at hl 3 rfl) ?_
            refine va_get (D := D) (ci := 1) (v := .ref rc) (C := R_RE) (T := T_RE) (N := 4) hx hb hts iw_RE hown hK hP 0 rfl rfl 1 (by decide) (hts _ k_86) (fun _ h9 => h9) rfl d_RE_leastRunOff_87 ?_
            refine lv_sipush (v := 255) hx hb d_RE_leastRunOff_90 (by decide) ?_
            refine va_zald hx hb hK hP 2 1 rfl rfl (vp_in_nI (n := 255) (by decide) (by decide)) d_RE_leastRunOff_93 ?_
            refine lv_topi (fun y9 e9 => ?_)
            have e9 : y9 = fr 255 := e9.trans rfl
            subst e9
            refine lv_if_eq (tgt := 107) hx hb d_RE_leastRunOff_94 rfl (fun h94 => ?_) (fun h94 => ?_)
            · refine lv_iconst (v := (-1)) hx hb d_RE_leastRunOff_107 (by decide) ?_
              exact W.iret (v := (-1)) hx hb hr (fun t ht hW => ⟨(-1), rfl, by rw [rofI, if_neg h35, if_neg h43, rof2, if_pos h94], ht.trans hH0.symm⟩) (fun _ h9 => absurd h9 List.not_mem_nil) d_RE_leastRunOff_108
            · refine lv_iload_n hx hb d_RE_leastRunOff_97 rfl (lv_at hl 0 rfl) ?_
              refine lv_if_ne (tgt := 107) hx hb d_RE_leastRunOff_98 rfl (fun _ => ?_) (fun h9 => absurd h9 (by decide))
              refine lv_iconst (v := (-1)) hx hb d_RE_leastRunOff_107 (by decide) ?_
              exact W.iret (v := (-1)) hx hb hr (fun t ht hW => ⟨(-1), rfl, by rw [rofI, if_neg h35, if_neg h43, rof2, if_neg h94, if_pos h65], ht.trans hH0.symm⟩) (fun _ h9 => absurd h9 List.not_mem_nil) d_RE_leastRunOff_108
          · refine lv_iload_n hx hb d_RE_leastRunOff_68 rfl (lv_at hl 0 rfl) ?_
            refine lv_bipush (v := 28) hx hb d_RE_leastRunOff_69 (by decide) ?_
            refine lv_icmp_eq (tgt := 80) hx hb d_RE_leastRunOff_71 rfl (fun h71 => ?_) (fun h71 => ?_)
            · refine lv_iconst (v := 1) hx hb d_RE_leastRunOff_80 (by decide) ?_
              refine lv_goto (tgt := 85) hx hb d_RE_leastRunOff_81 rfl ?_
              refine lv_istore_n hx hb d_RE_leastRunOff_85 rfl hl (by decide) rfl (fun ls hl => ?_)
              have hl : lv_has ls 4 [(3, .int 1), (1, .int (fs 255)), (2, .int 0), (0, .ref re)] := hl
              refine lv_aload_n hx hb d_RE_leastRunOff_86 rfl (lv_at hl 3 rfl) ?_
              refine va_get (D := D) (ci := 1) (v := .ref rc) (C := R_RE) (T := T_RE) (N := 4) hx hb hts iw_RE hown hK hP 0 rfl rfl 1 (by decide) (hts _ k_86) (fun _ h9 => h9) rfl d_RE_leastRunOff_87 ?_
              refine lv_sipush (v := 255) hx hb d_RE_leastRunOff_90 (by decide) ?_
              refine va_zald hx hb hK hP 2 1 rfl rfl (vp_in_nI (n := 255) (by decide) (by decide)) d_RE_leastRunOff_93 ?_
              refine lv_topi (fun y9 e9 => ?_)
              have e9 : y9 = fr 255 := e9.trans rfl
              subst e9
              refine lv_if_eq (tgt := 107) hx hb d_RE_leastRunOff_94 rfl (fun h94 => ?_) (fun h94 => ?_)
              · refine lv_iconst (v := (-1)) hx hb d_RE_leastRunOff_107 (by decide) ?_
                exact W.iret (v := (-1)) hx hb hr (fun t ht hW => ⟨(-1), rfl, by rw [rofI, if_neg h35, if_neg h43, rof2, if_pos h94], ht.trans hH0.symm⟩) (fun _ h9 => absurd h9 List.not_mem_nil) d_RE_leastRunOff_108
              · refine lv_iload_n hx hb d_RE_leastRunOff_97 rfl (lv_at hl 0 rfl) ?_
                refine lv_if_ne (tgt := 107) hx hb d_RE_leastRunOff_98 rfl (fun _ => ?_) (fun h9 => absurd h9 (by decide))
                refine lv_iconst (v := (-1)) hx hb d_RE_leastRunOff_107 (by decide) ?_
                exact W.iret (v := (-1)) hx hb hr (fun t ht hW => ⟨(-1), rfl, by rw [rofI, if_neg h35, if_neg h43, rof2, if_neg h94, if_neg h65, if_pos h71], ht.trans hH0.symm⟩) (fun _ h9 => absurd h9 List.not_mem_nil) d_RE_leastRunOff_108
            · refine lv_iload_n hx hb d_RE_leastRunOff_74 rfl (lv_at hl 0 rfl) ?_
              refine lv_bipush (v := 31) hx hb d_RE_leastRunOff_75 (by decide) ?_
              refine lv_icmp_ne (tgt := 84) hx hb d_RE_leastRunOff_77 rfl (fun h77 => ?_) (fun h77 => ?_)
              · refine lv_iconst (v := 0) hx hb d_RE_leastRunOff_84 (by decide) ?_
                refine lv_istore_n hx hb d_RE_leastRunOff_85 rfl hl (by decide) rfl (fun ls hl => ?_)
                have hl : lv_has ls 4 [(3, .int 0), (1, .int (fs 255)), (2, .int 0), (0, .ref re)] := hl
                refine lv_aload_n hx hb d_RE_leastRunOff_86 rfl (lv_at hl 3 rfl) ?_
                refine va_get (D := D) (ci := 1) (v := .ref rc) (C := R_RE) (T := T_RE) (N := 4) hx hb hts iw_RE hown hK hP 0 rfl rfl 1 (by decide) (hts _ k_86) (fun _ h9 => h9) rfl d_RE_leastRunOff_87 ?_
                refine lv_sipush (v := 255) hx hb d_RE_leastRunOff_90 (by decide) ?_
                refine va_zald hx hb hK hP 2 1 rfl rfl (vp_in_nI (n := 255) (by decide) (by decide)) d_RE_leastRunOff_93 ?_
                refine lv_topi (fun y9 e9 => ?_)
                have e9 : y9 = fr 255 := e9.trans rfl
                subst e9
                refine lv_if_eq (tgt := 107) hx hb d_RE_leastRunOff_94 rfl (fun h94 => ?_) (fun h94 => ?_)
                · refine lv_iconst (v := (-1)) hx hb d_RE_leastRunOff_107 (by decide) ?_
                  exact W.iret (v := (-1)) hx hb hr (fun t ht hW => ⟨(-1), rfl, by rw [rofI, if_neg h35, if_neg h43, rof2, if_pos h94], ht.trans hH0.symm⟩) (fun _ h9 => absurd h9 List.not_mem_nil) d_RE_leastRunOff_108
                · refine lv_iload_n hx hb d_RE_leastRunOff_97 rfl (lv_at hl 0 rfl) ?_
                  refine lv_if_ne (tgt := 107) hx hb d_RE_leastRunOff_98 rfl (fun h9 => absurd (by decide) h9) (fun _ => ?_)
                  refine lv_sipush (v := 255) hx hb d_RE_leastRunOff_101 (by decide) ?_
                  refine lv_goto (tgt := 108) hx hb d_RE_leastRunOff_104 rfl ?_
                  exact W.iret (v := 255) hx hb hr (fun t ht hW => ⟨255, rfl, by rw [rofI, if_neg h35, if_neg h43, rof2, if_neg h94, if_neg h65, if_neg h71, if_neg h77], ht.trans hH0.symm⟩) (fun _ h9 => absurd h9 List.not_mem_nil) d_RE_leastRunOff_108
              · refine lv_iconst (v := 1) hx hb d_RE_leastRunOff_80 (by decide) ?_
                refine lv_goto (tgt := 85) hx hb d_RE_leastRunOff_81 rfl ?_
                refine lv_istore_n hx hb d_RE_leastRunOff_85 rfl hl (by decide) rfl (fun ls hl => ?_)
                have hl : lv_has ls 4 [(3, .int 1), (1, .int (fs 255)), (2, .int 0), (0, .ref re)] := hl
                refine lv_aload_n hx hb d_RE_leastRunOff_86 rfl (lv_at hl 3 rfl) ?_
                refine va_get (D := D) (ci := 1) (v := .ref rc) (C := R_RE) (T := T_RE) (N := 4) hx hb hts iw_RE hown hK hP 0 rfl rfl 1 (by decide) (hts _ k_86) (fun _ h9 => h9) rfl d_RE_leastRunOff_87 ?_
                refine lv_sipush (v := 255) hx hb d_RE_leastRunOff_90 (by decide) ?_
                refine va_zald hx hb hK hP 2 1 rfl rfl (vp_in_nI (n := 255) (by decide) (by decide)) d_RE_leastRunOff_93 ?_
                refine lv_topi (fun y9 e9 => ?_)
                have e9 : y9 = fr 255 := e9.trans rfl
                subst e9
                refine lv_if_eq (tgt := 107) hx hb d_RE_leastRunOff_94 rfl (fun h94 => ?_) (fun h94 => ?_)
                · refine lv_iconst (v := (-1)) hx hb d_RE_leastRunOff_107 (by decide) ?_
                  exact W.iret (v := (-1)) hx hb hr (fun t ht hW => ⟨(-1), rfl, by rw [rofI, if_neg h35, if_neg h43, rof2, if_pos h94], ht.trans hH0.symm⟩) (fun _ h9 => absurd h9 List.not_mem_nil) d_RE_leastRunOff_108
                · refine lv_iload_n hx hb d_RE_leastRunOff_97 rfl (lv_at hl 0 rfl) ?_
                  refine lv_if_ne (tgt := 107) hx hb d_RE_leastRunOff_98 rfl (fun _ => ?_) (fun h9 => absurd h9 (by decide))
                  refine lv_iconst (v := (-1)) hx hb d_RE_leastRunOff_107 (by decide) ?_
                  exact W.iret (v := (-1)) hx hb hr (fun t ht hW => ⟨(-1), rfl, by rw [rofI, if_neg h35, if_neg h43, rof2, if_neg h94, if_neg h65, if_neg h71, if_pos h77], ht.trans hH0.symm⟩) (fun _ h9 => absurd h9 List.not_mem_nil) d_RE_leastRunOff_108
        · refine lv_iload_n hx hb d_RE_leastRunOff_46 rfl (lv_at hl 0 rfl) ?_
          refine lv_if_ne (tgt := 54) hx hb d_RE_leastRunOff_47 rfl (fun h9 => absurd (by decide) h9) (fun _ => ?_)
          refine lv_sipush (v := 254) hx hb d_RE_leastRunOff_50 (by decide) ?_
          exact W.iret (v := 254) hx hb hr (fun t ht hW => ⟨254, rfl, by rw [rofI, if_neg h35, if_pos h43, if_neg h12, if_neg h18], ht.trans hH0.symm⟩) (fun _ h9 => absurd h9 List.not_mem_nil) d_RE_leastRunOff_53
    · refine lv_iconst (v := 1) hx hb d_RE_leastRunOff_21 (by decide) ?_
      refine lv_goto (tgt := 26) hx hb d_RE_leastRunOff_22 rfl ?_
      refine lv_istore_n hx hb d_RE_leastRunOff_26 rfl hl (by decide) rfl (fun ls hl => ?_)
      have hl : lv_has ls 4 [(2, .int 1), (1, .int (fs 254)), (0, .ref re)] := hl
      refine lv_aload_n hx hb d_RE_leastRunOff_27 rfl (lv_at hl 2 rfl) ?_
      refine va_get (D := D) (ci := 1) (v := .ref rc) (C := R_RE) (T := T_RE) (N := 4) hx hb hts iw_RE hown hK hP 0 rfl rfl 1 (by decide) (hts _ k_86) (fun _ h9 => h9) rfl d_RE_leastRunOff_28 ?_
      refine lv_sipush (v := 254) hx hb d_RE_leastRunOff_31 (by decide) ?_
      refine va_zald hx hb hK hP 2 1 rfl rfl (vp_in_nI (n := 254) (by decide) (by decide)) d_RE_leastRunOff_34 ?_
      refine lv_topi (fun y9 e9 => ?_)
      have e9 : y9 = fr 254 := e9.trans rfl
      subst e9
      refine lv_if_eq (tgt := 54) hx hb d_RE_leastRunOff_35 rfl (fun h35 => ?_) (fun h35 => ?_)
      · refine lv_aload_n hx hb d_RE_leastRunOff_54 rfl (lv_at hl 2 rfl) ?_
        refine va_get (D := D) (ci := 1) (v := .ref sr) (C := R_RE) (T := T_RE) (N := 4) hx hb hts iw_RE hown hK hP 0 rfl rfl 0 (by decide) (hts _ k_84) (fun _ h9 => h9) rfl d_RE_leastRunOff_55 ?_
        refine lv_sipush (v := 255) hx hb d_RE_leastRunOff_58 (by decide) ?_
        refine va_iald hx hb hK hP 1 0 rfl rfl (vp_in_nI (n := 255) (by decide) (by decide)) d_RE_leastRunOff_61 ?_
        refine lv_topi (fun y9 e9 => ?_)
        have e9 : y9 = fs 255 := e9.trans rfl
        subst e9
        refine lv_istore_n hx hb d_RE_leastRunOff_62 rfl hl (by decide) rfl (fun ls hl => ?_)
        have hl : lv_has ls 4 [(1, .int (fs 255)), (2, .int 1), (0, .ref re)] := hl
        refine lv_iload_n hx hb d_RE_leastRunOff_63 rfl (lv_at hl 0 rfl) ?_
        refine lv_iconst (v := 1) hx hb d_RE_leastRunOff_64 (by decide) ?_
        refine lv_icmp_eq (tgt := 80) hx hb d_RE_leastRunOff_65 rfl (fun h65 => ?_) (fun h65 => ?_)
        · refine lv_iconst (v := 1) hx hb d_RE_leastRunOff_80 (by decide) ?_
          refine lv_goto (tgt := 85) hx hb d_RE_leastRunOff_81 rfl ?_
          refine lv_istore_n hx hb d_RE_leastRunOff_85 rfl hl (by decide) rfl (fun ls hl => ?_)
          have hl : lv_has ls 4 [(3, .int 1), (1, .int (fs 255)), (2, .int 1), (0, .ref re)] := hl
          refine lv_aload_n hx hb d_RE_leastRunOff_86 rfl (lv_at hl 3 rfl) ?_
          refine va_get (D := D) (ci := 1) (v := .ref rc) (C := R_RE) (T := T_RE) (N := 4) hx hb hts iw_RE hown hK hP 0 rfl rfl 1 (by decide) (hts _ k_86) (fun _ h9 => h9) rfl d_RE_leastRunOff_87 ?_
          refine lv_sipush (v := 255) hx hb d_RE_leastRunOff_90 (by decide) ?_
          refine va_zald hx hb hK hP 2 1 rfl rfl (vp_in_nI (n := 255) (by decide) (by decide)) d_RE_leastRunOff_93 ?_
          refine lv_topi (fun y9 e9 => ?_)
          have e9 : y9 = fr 255 := e9.trans rfl
          subst e9
          refine lv_if_eq (tgt := 107) hx hb d_RE_leastRunOff_94 rfl (fun h94 => ?_) (fun h94 => ?_)
          · refine lv_iconst (v := (-1)) hx hb d_RE_leastRunOff_107 (by decide) ?_
            exact W.iret (v := (-1)) hx hb hr (fun t ht hW => ⟨(-1), rfl, by rw [rofI, if_pos h35, rof2, if_pos h94], ht.trans hH0.symm⟩) (fun _ h9 => absurd h9 List.not_mem_nil) d_RE_leastRunOff_108
          · refine lv_iload_n hx hb d_RE_leastRunOff_97 rfl (lv_at hl 0 rfl) ?_
            refine lv_if_ne (tgt := 107) hx hb d_RE_leastRunOff_98 rfl (fun _ => ?_) (fun h9 => absurd h9 (by decide))
            refine lv_iconst (v := (-1)) hx hb d_RE_leastRunOff_107 (by decide) ?_
            exact W.iret (v := (-1)) hx hb hr (fun t ht hW => ⟨(-1), rfl, by rw [rofI, if_pos h35, rof2, if_neg h94, if_pos h65], ht.trans hH0.symm⟩) (fun _ h9 => absurd h9 List.not_mem_nil) d_RE_leastRunOff_108
        · refine lv_iload_n hx hb d_RE_leastRunOff_68 rfl (lv_at hl 0 rfl) ?_
          refine lv_bipush (v := 28) hx hb d_RE_leastRunOff_69 (by decide) ?_
          refine lv_icmp_eq (tgt := 80) hx hb d_RE_leastRunOff_71 rfl (fun h71 => ?_) (fun h71 => ?_)
          · refine lv_iconst (v := 1) hx hb d_RE_leastRunOff_80 (by decide) ?_
            refine lv_goto (tgt := 85) hx hb d_RE_leastRunOff_81 rfl ?_
            refine lv_istore_n hx hb d_RE_leastRunOff_85 rfl hl (by decide) rfl (fun ls hl => ?_)
            have hl : lv_has ls 4 [(3, .int 1), (1, .int (fs 255)), (2, .int 1), (0, .ref re)] := hl
            refine lv_aload_n hx hb d_RE_leastRunOff_86 rfl (lv_at hl 3 rfl) ?_
            refine va_get (D := D) (ci := 1) (v := .ref rc) (C := R_RE) (T := T_RE) (N := 4) hx hb hts iw_RE hown hK hP 0 rfl rfl 1 (by decide) (hts _ k_86) (fun _ h9 => h9) rfl d_RE_leastRunOff_87 ?_
            refine lv_sipush (v := 255) hx hb d_RE_leastRunOff_90 (by decide) ?_
            refine va_zald hx hb hK hP 2 1 rfl rfl (vp_in_nI (n := 255) (by decide) (by decide)) d_RE_leastRunOff_93 ?_
            refine lv_topi (fun y9 e9 => ?_)
            have e9 : y9 = fr 255 := e9.trans rfl
            subst e9
            refine lv_if_eq (tgt := 107) hx hb d_RE_leastRunOff_94 rfl (fun h94 => ?_) (fun h94 => ?_)
            · refine lv_iconst (v := (-1)) hx hb d_RE_leastRunOff_107 (by decide) ?_
              exact W.iret (v := (-1)) hx hb hr (fun t ht hW => ⟨(-1), rfl, by rw [rofI, if_pos h35, rof2, if_pos h94], ht.trans hH0.symm⟩) (fun _ h9 => absurd h9 List.not_mem_nil) d_RE_leastRunOff_108
            · refine lv_iload_n hx hb d_RE_leastRunOff_97 rfl (lv_at hl 0 rfl) ?_
              refine lv_if_ne (tgt := 107) hx hb d_RE_leastRunOff_98 rfl (fun _ => ?_) (fun h9 => absurd h9 (by decide))
              refine lv_iconst (v := (-1)) hx hb d_RE_leastRunOff_107 (by decide) ?_
              exact W.iret (v := (-1)) hx hb hr (fun t ht hW => ⟨(-1), rfl, by rw [rofI, if_pos h35, rof2, if_neg h94, if_neg h65, if_pos h71], ht.trans hH0.symm⟩) (fun _ h9 => absurd h9 List.not_mem_nil) d_RE_leastRunOff_108
          · refine lv_iload_n hx hb d_RE_leastRunOff_74 rfl (lv_at hl 0 rfl) ?_
            refine lv_bipush (v := 31) hx hb d_RE_leastRunOff_75 (by decide) ?_
            refine lv_icmp_ne (tgt := 84) hx hb d_RE_leastRunOff_77 rfl (fun h77 => ?_) (fun h77 => ?_)
            · refine lv_iconst (v := 0) hx hb d_RE_leastRunOff_84 (by decide) ?_
              refine lv_istore_n hx hb d_RE_leastRunOff_85 rfl hl (by decide) rfl (fun ls hl => ?_)
              have hl : lv_has ls 4 [(3, .int 0), (1, .int (fs 255)), (2, .int 1), (0, .ref re)] := hl
              refine lv_aload_n hx hb d_RE_leastRunOff_86 rfl (lv_at hl 3 rfl) ?_
              refine va_get (D := D) (ci := 1) (v := .ref rc) (C := R_RE) (T := T_RE) (N := 4) hx hb hts iw_RE hown hK hP 0 rfl rfl 1 (by decide) (hts _ k_86) (fun _ h9 => h9) rfl d_RE_leastRunOff_87 ?_
              refine lv_sipush (v := 255) hx hb d_RE_leastRunOff_90 (by decide) ?_
              refine va_zald hx hb hK hP 2 1 rfl rfl (vp_in_nI (n := 255) (by decide) (by decide)) d_RE_leastRunOff_93 ?_
              refine lv_topi (fun y9 e9 => ?_)
              have e9 : y9 = fr 255 := e9.trans rfl
              subst e9
              refine lv_if_eq (tgt := 107) hx hb d_RE_leastRunOff_94 rfl (fun h94 => ?_) (fun h94 => ?_)
              · refine lv_iconst (v := (-1)) hx hb d_RE_leastRunOff_107 (by decide) ?_
                exact W.iret (v := (-1)) hx hb hr (fun t ht hW => ⟨(-1), rfl, by rw [rofI, if_pos h35, rof2, if_pos h94], ht.trans hH0.symm⟩) (fun _ h9 => absurd h9 List.not_mem_nil) d_RE_leastRunOff_108
              · refine lv_iload_n hx hb d_RE_leastRunOff_97 rfl (lv_at hl 0 rfl) ?_
                refine lv_if_ne (tgt := 107) hx hb d_RE_leastRunOff_98 rfl (fun h9 => absurd (by decide) h9) (fun _ => ?_)
                refine lv_sipush (v := 255) hx hb d_RE_leastRunOff_101 (by decide) ?_
                refine lv_goto (tgt := 108) hx hb d_RE_leastRunOff_104 rfl ?_
                exact W.iret (v := 255) hx hb hr (fun t ht hW => ⟨255, rfl, by rw [rofI, if_pos h35, rof2, if_neg h94, if_neg h65, if_neg h71, if_neg h77], ht.trans hH0.symm⟩) (fun _ h9 => absurd h9 List.not_mem_nil) d_RE_leastRunOff_108
            · refine lv_iconst (v := 1) hx hb d_RE_leastRunOff_80 (by decide) ?_
              refine lv_goto (tgt := 85) hx hb d_RE_leastRunOff_81 rfl ?_
              refine lv_istore_n hx hb d_RE_leastRunOff_85 rfl hl (by decide) rfl (fun ls hl => ?_)
              have hl : lv_has ls 4 [(3, .int 1), (1, .int (fs 255)), (2, .int 1), (0, .ref re)] := hl
              refine lv_aload_n hx hb d_RE_leastRunOff_86 rfl (lv_at hl 3 rfl) ?_
              refine va_get (D := D) (ci := 1) (v := .ref rc) (C := R_RE) (T := T_RE) (N := 4) hx hb hts iw_RE hown hK hP 0 rfl rfl 1 (by decide) (hts _ k_86) (fun _ h9 => h9) rfl d_RE_leastRunOff_87 ?_
              refine lv_sipush (v := 255) hx hb d_RE_leastRunOff_90 (by decide) ?_
              refine va_zald hx hb hK hP 2 1 rfl rfl (vp_in_nI (n := 255) (by decide) (by decide)) d_RE_leastRunOff_93 ?_
              refine lv_topi (fun y9 e9 => ?_)
              have e9 : y9 = fr 255 := e9.trans rfl
              subst e9
              refine lv_if_eq (tgt := 107) hx hb d_RE_leastRunOff_94 rfl (fun h94 => ?_) (fun h94 => ?_)
              · refine lv_iconst (v := (-1)) hx hb d_RE_leastRunOff_107 (by decide) ?_
                exact W.iret (v := (-1)) hx hb hr (fun t ht hW => ⟨(-1), rfl, by rw [rofI, if_pos h35, rof2, if_pos h94], ht.trans hH0.symm⟩) (fun _ h9 => absurd h9 List.not_mem_nil) d_RE_leastRunOff_108
              · refine lv_iload_n hx hb d_RE_leastRunOff_97 rfl (lv_at hl 0 rfl) ?_
                refine lv_if_ne (tgt := 107) hx hb d_RE_leastRunOff_98 rfl (fun _ => ?_) (fun h9 => absurd h9 (by decide))
                refine lv_iconst (v := (-1)) hx hb d_RE_leastRunOff_107 (by decide) ?_
                exact W.iret (v := (-1)) hx hb hr (fun t ht hW => ⟨(-1), rfl, by rw [rofI, if_pos h35, rof2, if_neg h94, if_neg h65, if_neg h71, if_pos h77], ht.trans hH0.symm⟩) (fun _ h9 => absurd h9 List.not_mem_nil) d_RE_leastRunOff_108
      · refine lv_iload_n hx hb d_RE_leastRunOff_38 rfl (lv_at hl 1 rfl) ?_
        have hPc := hP.sub (ws' := []) [] rfl
        refine vp_callSi (va_runS (As := [.int (fs 254)]) (rest := []) ⟨hx, hb, hml, hown, hts⟩ (m_len l D cI cZ (fs 254)) ⟨cB 1 hts k_401 k_67 k_399 hd_FO_length ⟨Nat.le_of_ble_eq_true rfl, Nat.le_of_ble_eq_true rfl⟩ rfl rfl, hts _ k_400⟩ (PcR.preS hPc hK hN) rfl rfl hl.1 rfl (lv_room (Nat.le_of_ble_eq_true rfl)) d_RE_leastRunOff_39 ⟨Nat.le_of_ble_eq_true rfl, Nat.le_of_ble_eq_true rfl⟩).run (fun r39 e39 => ?_)
        replace e39 := e39.symm
        subst e39
        refine lv_iconst (v := 2) hx hb d_RE_leastRunOff_42 (by decide) ?_
        refine lv_icmp_ne (tgt := 54) hx hb d_RE_leastRunOff_43 rfl (fun h43 => ?_) (fun h43 => ?_)
        · refine lv_aload_n hx hb d_RE_leastRunOff_54 rfl (lv_at hl 2 rfl) ?_
          refine va_get (D := D) (ci := 1) (v := .ref sr) (C := R_RE) (T := T_RE) (N := 4) hx hb hts iw_RE hown hK hP 0 rfl rfl 0 (by decide) (hts _ k_84) (fun _ h9 => h9) rfl d_RE_leastRunOff_55 ?_
          refine lv_sipush (v := 255) hx hb d_RE_leastRunOff_58 (by decide) ?_
          refine va_iald hx hb hK hP 1 0 rfl rfl (vp_in_nI (n := 255) (by decide) (by decide)) d_RE_leastRunOff_61 ?_
          refine lv_topi (fun y9 e9 => ?_)
          have e9 : y9 = fs 255 := e9.trans rfl
          subst e9
          refine lv_istore_n hx hb d_RE_leastRunOff_62 rfl hl (by decide) rfl (fun ls hl => ?_)
          have hl : lv_has ls 4 [(1, .int (fs 255)), (2, .int 1), (0, .ref re)] := hl
          refine lv_iload_n hx hb d_RE_leastRunOff_63 rfl (lv_at hl 0 rfl) ?_
          refine lv_iconst (v := 1) hx hb d_RE_leastRunOff_64 (by decide) ?_
          refine lv_icmp_eq (tgt := 80) hx hb d_RE_leastRunOff_65 rfl (fun h65 => ?_) (fun h65 => ?_)
          · refine lv_iconst (v := 1) hx hb d_RE_leastRunOff_80 (by decide) ?_
            refine lv_goto (tgt := 85) hx hb d_RE_leastRunOff_81 rfl ?_
            refine lv_istore_n hx hb d_RE_leastRunOff_85 rfl hl (by decide) rfl (fun ls hl => ?_)
            have hl : lv_has ls 4 [(3, .int 1), (1, .int (fs 255)), (2, .int 1), (0, .ref re)] := hl
            refine lv_aload_n hx hb d_RE_leastRunOff_86 rfl (lv_at hl 3 rfl) ?_
            refine va_get (D := D) (ci := 1) (v := .ref rc) (C := R_RE) (T := T_RE) (N := 4) hx hb hts iw_RE hown hK hP 0 rfl rfl 1 (by decide) (hts _ k_86) (fun _ h9 => h9) rfl d_RE_leastRunOff_87 ?_
            refine lv_sipush (v := 255) hx hb d_RE_leastRunOff_90 (by decide) ?_
            refine va_zald hx hb hK hP 2 1 rfl rfl (vp_in_nI (n := 255) (by decide) (by decide)) d_RE_leastRunOff_93 ?_
            refine lv_topi (fun y9 e9 => ?_)
            have e9 : y9 = fr 255 := e9.trans rfl
            subst e9
            refine lv_if_eq (tgt := 107) hx hb d_RE_leastRunOff_94 rfl (fun h94 => ?_) (fun h94 => ?_)
            · refine lv_iconst (v := (-1)) hx hb d_RE_leastRunOff_107 (by decide) ?_
              exact W.iret (v := (-1)) hx hb hr (fun t ht hW => ⟨(-1), rfl, by rw [rofI, if_neg h35, if_neg h43, rof2, if_pos h94], ht.trans hH0.symm⟩) (fun _ h9 => absurd h9 List.not_mem_nil) d_RE_leastRunOff_108
            · refine lv_iload_n hx hb d_RE_leastRunOff_97 rfl (lv_at hl 0 rfl) ?_
              refine lv_if_ne (tgt := 107) hx hb d_RE_leastRunOff_98 rfl (fun _ => ?_) (fun h9 => absurd h9 (by decide))
              refine lv_iconst (v := (-1)) hx hb d_RE_leastRunOff_107 (by decide) ?_
              exact W.iret (v := (-1)) hx hb hr (fun t ht hW => ⟨(-1), rfl, by rw [rofI, if_neg h35, if_neg h43, rof2, if_neg h94, if_pos h65], ht.trans hH0.symm⟩) (fun _ h9 => absurd h9 List.not_mem_nil) d_RE_leastRunOff_108
          · refine lv_iload_n hx hb d_RE_leastRunOff_68 rfl (lv_at hl 0 rfl) ?_
            refine lv_bipush (v := 28) hx hb d_RE_leastRunOff_69 (by decide) ?_
            refine lv_icmp_eq (tgt := 80) hx hb d_RE_leastRunOff_71 rfl (fun h71 => ?_) (fun h71 => ?_)
            · refine lv_iconst (v := 1) hx hb d_RE_leastRunOff_80 (by decide) ?_
              refine lv_goto (tgt := 85) hx hb d_RE_leastRunOff_81 rfl ?_
              refine lv_istore_n hx hb d_RE_leastRunOff_85 rfl hl (by decide) rfl (fun ls hl => ?_)
              have hl : lv_has ls 4 [(3, .int 1), (1, .int (fs 255)), (2, .int 1), (0, .ref re)] := hl
              refine lv_aload_n hx hb d_RE_leastRunOff_86 rfl (lv_at hl 3 rfl) ?_
              refine va_get (D := D) (ci := 1) (v := .ref rc) (C := R_RE) (T := T_RE) (N := 4) hx hb hts iw_RE hown hK hP 0 rfl rfl 1 (by decide) (hts _ k_86) (fun _ h9 => h9) rfl d_RE_leastRunOff_87 ?_
              refine lv_sipush (v := 255) hx hb d_RE_leastRunOff_90 (by decide) ?_
              refine va_zald hx hb hK hP 2 1 rfl rfl (vp_in_nI (n := 255) (by decide) (by decide)) d_RE_leastRunOff_93 ?_
              refine lv_topi (fun y9 e9 => ?_)
              have e9 : y9 = fr 255 := e9.trans rfl
              subst e9
              refine lv_if_eq (tgt := 107) hx hb d_RE_leastRunOff_94 rfl (fun h94 => ?_) (fun h94 => ?_)
              · refine lv_iconst (v := (-1)) hx hb d_RE_leastRunOff_107 (by decide) ?_
                exact W.iret (v := (-1)) hx hb hr (fun t ht hW => ⟨(-1), rfl, by rw [rofI, if_neg h35, if_neg h43, rof2, if_pos h94], ht.trans hH0.symm⟩) (fun _ h9 => absurd h9 List.not_mem_nil) d_RE_leastRunOff_108
              · refine lv_iload_n hx hb d_RE_leastRunOff_97 rfl (lv_at hl 0 rfl) ?_
                refine lv_if_ne (tgt := 107) hx hb d_RE_leastRunOff_98 rfl (fun _ => ?_) (fun h9 => absurd h9 (by decide))
                refine lv_iconst (v := (-1)) hx hb d_RE_leastRunOff_107 (by decide) ?_
                exact W.iret (v := (-1)) hx hb hr (fun t ht hW => ⟨(-1), rfl, by rw [rofI, if_neg h35, if_neg h43, rof2, if_neg h94, if_neg h65, if_pos h71], ht.trans hH0.symm⟩) (fun _ h9 => absurd h9 List.not_mem_nil) d_RE_leastRunOff_108
            · refine lv_iload_n hx hb d_RE_leastRunOff_74 rfl (lv_at hl 0 rfl) ?_
              refine lv_bipush (v := 31) hx hb d_RE_leastRunOff_75 (by decide) ?_
              refine lv_icmp_ne (tgt := 84) hx hb d_RE_leastRunOff_77 rfl (fun h77 => ?_) (fun h77 => ?_)
              · refine lv_iconst (v := 0) hx hb d_RE_leastRunOff_84 (by decide) ?_
                refine lv_istore_n hx hb d_RE_leastRunOff_85 rfl hl (by decide) rfl (fun ls hl => ?_)
                have hl : lv_has ls 4 [(3, .int 0), (1, .int (fs 255)), (2, .int 1), (0, .ref re)] := hl
                refine lv_aload_n hx hb d_RE_leastRunOff_86 rfl (lv_at hl 3 rfl) ?_
                refine va_get (D := D) (ci := 1) (v := .ref rc) (C := R_RE) (T := T_RE) (N := 4) hx hb hts iw_RE hown hK hP 0 rfl rfl 1 (by decide) (hts _ k_86) (fun _ h9 => h9) rfl d_RE_leastRunOff_87 ?_
                refine lv_sipush (v := 255) hx hb d_RE_leastRunOff_90 (by decide) ?_
                refine va_zald hx hb hK hP 2 1 rfl rfl (vp_in_nI (n := 255) (by decide) (by decide)) d_RE_leastRunOff_93 ?_
                refine lv_topi (fun y9 e9 => ?_)
                have e9 : y9 = fr 255 := e9.trans rfl
                subst e9
                refine lv_if_eq (tgt := 107) hx hb d_RE_leastRunOff_94 rfl (fun h94 => ?_) (fun h94 => ?_)
                · refine lv_iconst (v := (-1)) hx hb d_RE_leastRunOff_107 (by decide) ?_
                  exact W.iret (v := (-1)) hx hb hr (fun t ht hW => ⟨(-1), rfl, by rw [rofI, if_neg h35, if_neg h43, rof2, if_pos h94], ht.trans hH0.symm⟩) (fun _ h9 => absurd h9 List.not_mem_nil) d_RE_leastRunOff_108
                · refine lv_iload_n hx hb d_RE_leastRunOff_97 rfl (lv_at hl 0 rfl) ?_
                  refine lv_if_ne (tgt := 107) hx hb d_RE_leastRunOff_98 rfl (fun h9 => absurd (by decide) h9) (fun _ => ?_)
                  refine lv_sipush (v := 255) hx hb d_RE_leastRunOff_101 (by decide) ?_
                  refine lv_goto (tgt := 108) hx hb d_RE_leastRunOff_104 rfl ?_
                  exact W.iret (v := 255) hx hb hr (fun t ht hW => ⟨255, rfl, by rw [rofI, if_neg h35, if_neg h43, rof2, if_neg h94, if_neg h65, if_neg h71, if_neg h77], ht.trans hH0.symm⟩) (fun _ h9 => absurd h9 List.not_mem_nil) d_RE_leastRunOff_108
              · refine lv_iconst (v := 1) hx hb d_RE_leastRunOff_80 (by decide) ?_
                refine lv_goto (tgt := 85) hx hb d_RE_leastRunOff_81 rfl ?_
                refine lv_istore_n hx hb d_RE_leastRunOff_85 rfl hl (by decide) rfl (fun ls hl => ?_)
                have hl : lv_has ls 4 [(3, .int 1), (1, .int (fs 255)), (2, .int 1), (0, .ref re)] := hl
                refine lv_aload_n hx hb d_RE_leastRunOff_86 rfl (lv_at hl 3 rfl) ?_
                refine va_get (D := D) (ci := 1) (v := .ref rc) (C := R_RE) (T := T_RE) (N := 4) hx hb hts iw_RE hown hK hP 0 rfl rfl 1 (by decide) (hts _ k_86) (fun _ h9 => h9) rfl d_RE_leastRunOff_87 ?_
                refine lv_sipush (v := 255) hx hb d_RE_leastRunOff_90 (by decide) ?_
                refine va_zald hx hb hK hP 2 1 rfl rfl (vp_in_nI (n := 255) (by decide) (by decide)) d_RE_leastRunOff_93 ?_
                refine lv_topi (fun y9 e9 => ?_)
                have e9 : y9 = fr 255 := e9.trans rfl
                subst e9
                refine lv_if_eq (tgt := 107) hx hb d_RE_leastRunOff_94 rfl (fun h94 => ?_) (fun h94 => ?_)
                · refine lv_iconst (v := (-1)) hx hb d_RE_leastRunOff_107 (by decide) ?_
                  exact W.iret (v := (-1)) hx hb hr (fun t ht hW => ⟨(-1), rfl, by rw [rofI, if_neg h35, if_neg h43, rof2, if_pos h94], ht.trans hH0.symm⟩) (fun _ h9 => absurd h9 List.not_mem_nil) d_RE_leastRunOff_108
                · refine lv_iload_n hx hb d_RE_leastRunOff_97 rfl (lv_at hl 0 rfl) ?_
                  refine lv_if_ne (tgt := 107) hx hb d_RE_leastRunOff_98 rfl (fun _ => ?_) (fun h9 => absurd h9 (by decide))
                  refine lv_iconst (v := (-1)) hx hb d_RE_leastRunOff_107 (by decide) ?_
                  exact W.iret (v := (-1)) hx hb hr (fun t ht hW => ⟨(-1), rfl, by rw [rofI, if_neg h35, if_neg h43, rof2, if_neg h94, if_neg h65, if_neg h71, if_pos h77], ht.trans hH0.symm⟩) (fun _ h9 => absurd h9 List.not_mem_nil) d_RE_leastRunOff_108
        · refine lv_iload_n hx hb d_RE_leastRunOff_46 rfl (lv_at hl 0 rfl) ?_
          refine lv_if_ne (tgt := 54) hx hb d_RE_leastRunOff_47 rfl (fun _ => ?_) (fun h9 => absurd h9 (by decide))
          refine lv_aload_n hx hb d_RE_leastRunOff_54 rfl (lv_at hl 2 rfl) ?_
          refine va_get (D := D) (ci := 1) (v := .ref sr) (C := R_RE) (T := T_RE) (N := 4) hx hb hts iw_RE hown hK hP 0 rfl rfl 0 (by decide) (hts _ k_84) (fun _ h9 => h9) rfl d_RE_leastRunOff_55 ?_
          refine lv_sipush (v := 255) hx hb d_RE_leastRunOff_58 (by decide) ?_
          refine va_iald hx hb hK hP 1 0 rfl rfl (vp_in_nI (n := 255) (by decide) (by decide)) d_RE_leastRunOff_61 ?_
          refine lv_topi (fun y9 e9 => ?_)
          have e9 : y9 = fs 255 := e9.trans rfl
          subst e9
          refine lv_istore_n hx hb d_RE_leastRunOff_62 rfl hl (by decide) rfl (fun ls hl => ?_)
          have hl : lv_has ls 4 [(1, .int (fs 255)), (2, .int 1), (0, .ref re)] := hl
          refine lv_iload_n hx hb d_RE_leastRunOff_63 rfl (lv_at hl 0 rfl) ?_
          refine lv_iconst (v := 1) hx hb d_RE_leastRunOff_64 (by decide) ?_
          refine lv_icmp_eq (tgt := 80) hx hb d_RE_leastRunOff_65 rfl (fun h65 => ?_) (fun h65 => ?_)
          · refine lv_iconst (v := 1) hx hb d_RE_leastRunOff_80 (by decide) ?_
            refine lv_goto (tgt := 85) hx hb d_RE_leastRunOff_81 rfl ?_
            refine lv_istore_n hx hb d_RE_leastRunOff_85 rfl hl (by decide) rfl (fun ls hl => ?_)
            have hl : lv_has ls 4 [(3, .int 1), (1, .int (fs 255)), (2, .int 1), (0, .ref re)] := hl
            refine lv_aload_n hx hb d_RE_leastRunOff_86 rfl (lv_at hl 3 rfl) ?_
            refine va_get (D := D) (ci := 1) (v := .ref rc) (C := R_RE) (T := T_RE) (N := 4) hx hb hts iw_RE hown hK hP 0 rfl rfl 1 (by decide) (hts _ k_86) (fun _ h9 => h9) rfl d_RE_leastRunOff_87 ?_
            refine lv_sipush (v := 255) hx hb d_RE_leastRunOff_90 (by decide) ?_
            refine va_zald hx hb hK hP 2 1 rfl rfl (vp_in_nI (n := 255) (by decide) (by decide)) d_RE_leastRunOff_93 ?_
            refine lv_topi (fun y9 e9 => ?_)
            have e9 : y9 = fr 255 := e9.trans rfl
            subst e9
            refine lv_if_eq (tgt := 107) hx hb d_RE_leastRunOff_94 rfl (fun h94 => ?_) (fun h94 => ?_)
            · refine lv_iconst (v := (-1)) hx hb d_RE_leastRunOff_107 (by decide) ?_
              exact W.iret (v := (-1)) hx hb hr (fun t ht hW => ⟨(-1), rfl, by rw [rofI, if_neg h35, if_pos h43, if_neg h12, if_pos h18, rof2, if_pos h94], ht.trans hH0.symm⟩) (fun _ h9 => absurd h9 List.not_mem_nil) d_RE_leastRunOff_108
            · refine lv_iload_n hx hb d_RE_leastRunOff_97 rfl (lv_at hl 0 rfl) ?_
              refine lv_if_ne (tgt := 107) hx hb d_RE_leastRunOff_98 rfl (fun _ => ?_) (fun h9 => absurd h9 (by decide))
              refine lv_iconst (v := (-1)) hx hb d_RE_leastRunOff_107 (by decide) ?_
              exact W.iret (v := (-1)) hx hb hr (fun t ht hW => ⟨(-1), rfl, by rw [rofI, if_neg h35, if_pos h43, if_neg h12, if_pos h18, rof2, if_neg h94, if_pos h65], ht.trans hH0.symm⟩) (fun _ h9 => absurd h9 List.not_mem_nil) d_RE_leastRunOff_108
          · refine lv_iload_n hx hb d_RE_leastRunOff_68 rfl (lv_at hl 0 rfl) ?_
            refine lv_bipush (v := 28) hx hb d_RE_leastRunOff_69 (by decide) ?_
            refine lv_icmp_eq (tgt := 80) hx hb d_RE_leastRunOff_71 rfl (fun h71 => ?_) (fun h71 => ?_)
            · refine lv_iconst (v := 1) hx hb d_RE_leastRunOff_80 (by decide) ?_
              refine lv_goto (tgt := 85) hx hb d_RE_leastRunOff_81 rfl ?_
              refine lv_istore_n hx hb d_RE_leastRunOff_85 rfl hl (by decide) rfl (fun ls hl => ?_)
              have hl : lv_has ls 4 [(3, .int 1), (1, .int (fs 255)), (2, .int 1), (0, .ref re)] := hl
              refine lv_aload_n hx hb d_RE_leastRunOff_86 rfl (lv_at hl 3 rfl) ?_
              refine va_get (D := D) (ci := 1) (v := .ref rc) (C := R_RE) (T := T_RE) (N := 4) hx hb hts iw_RE hown hK hP 0 rfl rfl 1 (by decide) (hts _ k_86) (fun _ h9 => h9) rfl d_RE_leastRunOff_87 ?_
              refine lv_sipush (v := 255) hx hb d_RE_leastRunOff_90 (by decide) ?_
              refine va_zald hx hb hK hP 2 1 rfl rfl (vp_in_nI (n := 255) (by decide) (by decide)) d_RE_leastRunOff_93 ?_
              refine lv_topi (fun y9 e9 => ?_)
              have e9 : y9 = fr 255 := e9.trans rfl
              subst e9
              refine lv_if_eq (tgt := 107) hx hb d_RE_leastRunOff_94 rfl (fun h94 => ?_) (fun h94 => ?_)
              · refine lv_iconst (v := (-1)) hx hb d_RE_leastRunOff_107 (by decide) ?_
                exact W.iret (v := (-1)) hx hb hr (fun t ht hW => ⟨(-1), rfl, by rw [rofI, if_neg h35, if_pos h43, if_neg h12, if_pos h18, rof2, if_pos h94], ht.trans hH0.symm⟩) (fun _ h9 => absurd h9 List.not_mem_nil) d_RE_leastRunOff_108
              · refine lv_iload_n hx hb d_RE_leastRunOff_97 rfl (lv_at hl 0 rfl) ?_
                refine lv_if_ne (tgt := 107) hx hb d_RE_leastRunOff_98 rfl (fun _ => ?_) (fun h9 => absurd h9 (by decide))
                refine lv_iconst (v := (-1)) hx hb d_RE_leastRunOff_107 (by decide) ?_
                exact W.iret (v := (-1)) hx hb hr (fun t ht hW => ⟨(-1), rfl, by rw [rofI, if_neg h35, if_pos h43, if_neg h12, if_pos h18, rof2, if_neg h94, if_neg h65, if_pos h71], ht.trans hH0.symm⟩) (fun _ h9 => absurd h9 List.not_mem_nil) d_RE_leastRunOff_108
            · refine lv_iload_n hx hb d_RE_leastRunOff_74 rfl (lv_at hl 0 rfl) ?_
              refine lv_bipush (v := 31) hx hb d_RE_leastRunOff_75 (by decide) ?_
              refine lv_icmp_ne (tgt := 84) hx hb d_RE_leastRunOff_77 rfl (fun h77 => ?_) (fun h77 => ?_)
              · refine lv_iconst (v := 0) hx hb d_RE_leastRunOff_84 (by decide) ?_
                refine lv_istore_n hx hb d_RE_leastRunOff_85 rfl hl (by decide) rfl (fun ls hl => ?_)
                have hl : lv_has ls 4 [(3, .int 0), (1, .int (fs 255)), (2, .int 1), (0, .ref re)] := hl
                refine lv_aload_n hx hb d_RE_leastRunOff_86 rfl (lv_at hl 3 rfl) ?_
                refine va_get (D := D) (ci := 1) (v := .ref rc) (C := R_RE) (T := T_RE) (N := 4) hx hb hts iw_RE hown hK hP 0 rfl rfl 1 (by decide) (hts _ k_86) (fun _ h9 => h9) rfl d_RE_leastRunOff_87 ?_
                refine lv_sipush (v := 255) hx hb d_RE_leastRunOff_90 (by decide) ?_
                refine va_zald hx hb hK hP 2 1 rfl rfl (vp_in_nI (n := 255) (by decide) (by decide)) d_RE_leastRunOff_93 ?_
                refine lv_topi (fun y9 e9 => ?_)
                have e9 : y9 = fr 255 := e9.trans rfl
                subst e9
                refine lv_if_eq (tgt := 107) hx hb d_RE_leastRunOff_94 rfl (fun h94 => ?_) (fun h94 => ?_)
                · refine lv_iconst (v := (-1)) hx hb d_RE_leastRunOff_107 (by decide) ?_
                  exact W.iret (v := (-1)) hx hb hr (fun t ht hW => ⟨(-1), rfl, by rw [rofI, if_neg h35, if_pos h43, if_neg h12, if_pos h18, rof2, if_pos h94], ht.trans hH0.symm⟩) (fun _ h9 => absurd h9 List.not_mem_nil) d_RE_leastRunOff_108
                · refine lv_iload_n hx hb d_RE_leastRunOff_97 rfl (lv_at hl 0 rfl) ?_
                  refine lv_if_ne (tgt := 107) hx hb d_RE_leastRunOff_98 rfl (fun h9 => absurd (by decide) h9) (fun _ => ?_)
                  refine lv_sipush (v := 255) hx hb d_RE_leastRunOff_101 (by decide) ?_
                  refine lv_goto (tgt := 108) hx hb d_RE_leastRunOff_104 rfl ?_
                  exact W.iret (v := 255) hx hb hr (fun t ht hW => ⟨255, rfl, by rw [rofI, if_neg h35, if_pos h43, if_neg h12, if_pos h18, rof2, if_neg h94, if_neg h65, if_neg h71, if_neg h77], ht.trans hH0.symm⟩) (fun _ h9 => absurd h9 List.not_mem_nil) d_RE_leastRunOff_108
              · refine lv_iconst (v := 1) hx hb d_RE_leastRunOff_80 (by decide) ?_
                refine lv_goto (tgt := 85) hx hb d_RE_leastRunOff_81 rfl ?_
                refine lv_istore_n hx hb d_RE_leastRunOff_85 rfl hl (by decide) rfl (fun ls hl => ?_)
                have hl : lv_has ls 4 [(3, .int 1), (1, .int (fs 255)), (2, .int 1), (0, .ref re)] := hl
                refine lv_aload_n hx hb d_RE_leastRunOff_86 rfl (lv_at hl 3 rfl) ?_
                refine va_get (D := D) (ci := 1) (v := .ref rc) (C := R_RE) (T := T_RE) (N := 4) hx hb hts iw_RE hown hK hP 0 rfl rfl 1 (by decide) (hts _ k_86) (fun _ h9 => h9) rfl d_RE_leastRunOff_87 ?_
                refine lv_sipush (v := 255) hx hb d_RE_leastRunOff_90 (by decide) ?_
                refine va_zald hx hb hK hP 2 1 rfl rfl (vp_in_nI (n := 255) (by decide) (by decide)) d_RE_leastRunOff_93 ?_
                refine lv_topi (fun y9 e9 => ?_)
                have e9 : y9 = fr 255 := e9.trans rfl
                subst e9
                refine lv_if_eq (tgt := 107) hx hb d_RE_leastRunOff_94 rfl (fun h94 => ?_) (fun h94 => ?_)
                · refine lv_iconst (v := (-1)) hx hb d_RE_leastRunOff_107 (by decide) ?_
                  exact W.iret (v := (-1)) hx hb hr (fun t ht hW => ⟨(-1), rfl, by rw [rofI, if_neg h35, if_pos h43, if_neg h12, if_pos h18, rof2, if_pos h94], ht.trans hH0.symm⟩) (fun _ h9 => absurd h9 List.not_mem_nil) d_RE_leastRunOff_108
                · refine lv_iload_n hx hb d_RE_leastRunOff_97 rfl (lv_at hl 0 rfl) ?_
                  refine lv_if_ne (tgt := 107) hx hb d_RE_leastRunOff_98 rfl (fun _ => ?_) (fun h9 => absurd h9 (by decide))
                  refine lv_iconst (v := (-1)) hx hb d_RE_leastRunOff_107 (by decide) ?_
                  exact W.iret (v := (-1)) hx hb hr (fun t ht hW => ⟨(-1), rfl, by rw [rofI, if_neg h35, if_pos h43, if_neg h12, if_pos h18, rof2, if_neg h94, if_neg h65, if_neg h71, if_pos h77], ht.trans hH0.symm⟩) (fun _ h9 => absurd h9 List.not_mem_nil) d_RE_leastRunOff_108
set_option maxHeartbeats 4000000 in
set_option maxRecDepth 100000 in
theorem r_refusal (l : Launch) (D : va_G) (cI cZ : ClassId) (re : Nat) (sr : Nat) (rc : Nat) (pe : Nat) (fs : Nat → Int32) (fr : Nat → Int32) (fp : Nat → Int32) (fd : Nat) : MetR l y_RE_refusal w_RE_refusal { frames := 3, cells := 0, slots := 0, locals := 64 } D cI cZ [.ref re] [(re, .inr (1, [.ref sr, .ref rc, .ref pe, .int (nI fd)])), (sr, .inl (cI, 256, .inl fs)), (rc, .inl (cZ, 256, .inl fr)), (pe, .inl (cI, 256, .inl fp))] (fun r => r = refI fr fs) := by
  refine ofR (cc := c_RE_refusal) (maxL := 2) (ret := (some .int)) (by decide) rfl (Nat.le_of_ble_eq_true rfl) ?_
  intro p e s m args below meth c H hH0 hx hb hr hlocks hts hown hml ls hl hP hK hN
  have hown : s.vm.findClass R_RE = some m.cls := hown
  have hl : lv_has ls 2 [(0, .ref re)] := hl
  refine lv_aload_n hx hb d_RE_refusal_0 rfl (lv_at hl 0 rfl) ?_
  have hPc := hP.sub (ws' := [(re, .inr (1, [.ref sr, .ref rc, .ref pe, .int (nI fd)])), (sr, .inl (cI, 256, .inl fs)), (rc, .inl (cZ, 256, .inl fr)), (pe, .inl (cI, 256, .inl fp))]) [0, 1, 2, 3] rfl
  refine vp_callSi (va_runV (As := []) (rest := []) ⟨hx, hb, hml, hown, hts⟩ (r_unknown l D cI cZ re sr rc pe fs fr fp fd) ⟨cB 0 hts k_413 k_57 k_410 hd_RE_leastUnknown ⟨Nat.le_of_ble_eq_true rfl, Nat.le_of_ble_eq_true rfl⟩ rfl rfl, hts _ k_412, hts _ k_4⟩ (PcR.preV (va_recv hK hP (q0 := 0) (ci := 1) rfl rfl) hPc hK hN) rfl rfl hl.1 rfl (lv_room (Nat.le_of_ble_eq_true rfl)) d_RE_refusal_1 ⟨Nat.le_of_ble_eq_true rfl, Nat.le_of_ble_eq_true rfl⟩).run (fun r1 e1 => ?_)
  replace e1 := e1.symm
  subst e1
  refine lv_istore_n hx hb d_RE_refusal_4 rfl hl (by decide) rfl (fun ls hl => ?_)
  have hl : lv_has ls 2 [(1, .int (least (unkP fr fs) 256 0)), (0, .ref re)] := hl
  refine lv_iload_n hx hb d_RE_refusal_5 rfl (lv_at hl 0 rfl) ?_
  refine lv_iconst (v := (-1)) hx hb d_RE_refusal_6 (by decide) ?_
  refine lv_icmp_eq (tgt := 16) hx hb d_RE_refusal_7 rfl (fun h7 => ?_) (fun h7 => ?_)
  · refine lv_aload_n hx hb d_RE_refusal_16 rfl (lv_at hl 1 rfl) ?_
    have hPc := hP.sub (ws' := [(re, .inr (1, [.ref sr, .ref rc, .ref pe, .int (nI fd)])), (sr, .inl (cI, 256, .inl fs)), (rc, .inl (cZ, 256, .inl fr)), (pe, .inl (cI, 256, .inl fp))]) [0, 1, 2, 3] rfl
    refine vp_callSi (va_runV (As := []) (rest := []) ⟨hx, hb, hml, hown, hts⟩ (r_overlap l D cI cZ re sr rc pe fs fr fp fd) ⟨cB 0 hts k_417 k_57 k_414 hd_RE_leastOverlap ⟨Nat.le_of_ble_eq_true rfl, Nat.le_of_ble_eq_true rfl⟩ rfl rfl, hts _ k_416, hts _ k_5⟩ (PcR.preV (va_recv hK hP (q0 := 0) (ci := 1) rfl rfl) hPc hK hN) rfl rfl hl.1 rfl (lv_room (Nat.le_of_ble_eq_true rfl)) d_RE_refusal_17 ⟨Nat.le_of_ble_eq_true rfl, Nat.le_of_ble_eq_true rfl⟩).run (fun r17 e17 => ?_)
    replace e17 := e17.symm
    subst e17
    refine lv_istore_n hx hb d_RE_refusal_20 rfl hl (by decide) rfl (fun ls hl => ?_)
    have hl : lv_has ls 2 [(1, .int (least (ovlP fr fs) 256 0)), (0, .ref re)] := hl
    refine lv_iload_n hx hb d_RE_refusal_21 rfl (lv_at hl 0 rfl) ?_
    refine lv_iconst (v := (-1)) hx hb d_RE_refusal_22 (by decide) ?_
    refine lv_icmp_eq (tgt := 32) hx hb d_RE_refusal_23 rfl (fun h23 => ?_) (fun h23 => ?_)
    · refine lv_aload_n hx hb d_RE_refusal_32 rfl (lv_at hl 1 rfl) ?_
      have hPc := hP.sub (ws' := [(re, .inr (1, [.ref sr, .ref rc, .ref pe, .int (nI fd)])), (sr, .inl (cI, 256, .inl fs)), (rc, .inl (cZ, 256, .inl fr)), (pe, .inl (cI, 256, .inl fp))]) [0, 1, 2, 3] rfl
      refine vp_callSi (va_runV (As := []) (rest := []) ⟨hx, hb, hml, hown, hts⟩ (r_runoff l D cI cZ re sr rc pe fs fr fp fd) ⟨cB 0 hts k_421 k_57 k_418 hd_RE_leastRunOff ⟨Nat.le_of_ble_eq_true rfl, Nat.le_of_ble_eq_true rfl⟩ rfl rfl, hts _ k_420, hts _ k_6⟩ (PcR.preV (va_recv hK hP (q0 := 0) (ci := 1) rfl rfl) hPc hK hN) rfl rfl hl.1 rfl (lv_room (Nat.le_of_ble_eq_true rfl)) d_RE_refusal_33 ⟨Nat.le_of_ble_eq_true rfl, Nat.le_of_ble_eq_true rfl⟩).run (fun r33 e33 => ?_)
      replace e33 := e33.symm
      subst e33
      refine lv_istore_n hx hb d_RE_refusal_36 rfl hl (by decide) rfl (fun ls hl => ?_)
      have hl : lv_has ls 2 [(1, .int (rofI fr fs)), (0, .ref re)] := hl
      refine lv_iload_n hx hb d_RE_refusal_37 rfl (lv_at hl 0 rfl) ?_
      refine lv_iconst (v := (-1)) hx hb d_RE_refusal_38 (by decide) ?_
      refine lv_icmp_ne (tgt := 46) hx hb d_RE_refusal_39 rfl (fun h39 => ?_) (fun h39 => ?_)
      · refine lv_sipush (v := (-3000)) hx hb d_RE_refusal_46 (by decide) ?_
        refine lv_iload_n hx hb d_RE_refusal_49 rfl (lv_at hl 0 rfl) ?_
        refine lv_isub hx hb d_RE_refusal_50 ?_
        exact W.iret (v := ((-3000) - (rofI fr fs))) hx hb hr (fun t ht hW => ⟨((-3000) - (rofI fr fs)), rfl, by rw [refI, if_pos h7, if_pos h23, if_neg h39], ht.trans hH0.symm⟩) (fun _ h9 => absurd h9 List.not_mem_nil) d_RE_refusal_51
      · refine lv_iconst (v := 0) hx hb d_RE_refusal_42 (by decide) ?_
        refine lv_goto (tgt := 51) hx hb d_RE_refusal_43 rfl ?_
        exact W.iret (v := 0) hx hb hr (fun t ht hW => ⟨0, rfl, by rw [refI, if_pos h7, if_pos h23, if_pos h39], ht.trans hH0.symm⟩) (fun _ h9 => absurd h9 List.not_mem_nil) d_RE_refusal_51
    · refine lv_sipush (v := (-2000)) hx hb d_RE_refusal_26 (by decide) ?_
      refine lv_iload_n hx hb d_RE_refusal_29 rfl (lv_at hl 0 rfl) ?_
      refine lv_isub hx hb d_RE_refusal_30 ?_
      exact W.iret (v := ((-2000) - (least (ovlP fr fs) 256 0))) hx hb hr (fun t ht hW => ⟨((-2000) - (least (ovlP fr fs) 256 0)), rfl, by rw [refI, if_pos h7, if_neg h23], ht.trans hH0.symm⟩) (fun _ h9 => absurd h9 List.not_mem_nil) d_RE_refusal_31
  · refine lv_sipush (v := (-1000)) hx hb d_RE_refusal_10 (by decide) ?_
    refine lv_iload_n hx hb d_RE_refusal_13 rfl (lv_at hl 0 rfl) ?_
    refine lv_isub hx hb d_RE_refusal_14 ?_
    exact W.iret (v := ((-1000) - (least (unkP fr fs) 256 0))) hx hb hr (fun t ht hW => ⟨((-1000) - (least (unkP fr fs) 256 0)), rfl, by rw [refI, if_neg h7], ht.trans hH0.symm⟩) (fun _ h9 => absurd h9 List.not_mem_nil) d_RE_refusal_15
