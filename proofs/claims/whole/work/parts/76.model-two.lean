set_option maxHeartbeats 4000000 in
set_option maxRecDepth 100000 in
theorem q_isSecond (l : Launch) (D : va_G) (cI cZ : ClassId) (o : Nat) (th : Int32) (im : Nat) (tr : Bool) (rc : Nat) (bg : Nat) (ro : Int32) (oa : Nat) (xa : Nat) (ya : Nat) (rg : Nat) (me : Nat) (sa : Nat) (pa : Nat) (za : Nat) (ca : Nat) (kp : Bool) (ta : Nat) (na : Nat) (fi : Nat → Int32) (fr : Nat → Int32) (i : Nat) (hi : i < 256) : MetR l y_MO_isSecond w_MO_isSecond { frames := 1, cells := 0, slots := 0, locals := 20 } D cI cZ [.ref o, .int (nI i)] [(o, .inr (5, [.int th, .ref im, .int (bI tr), .ref rc, .ref bg, .int ro, .ref oa, .ref xa, .ref ya, .ref rg, .ref me, .ref sa, .ref pa, .ref za, .ref ca, .int (bI kp), .ref ta, .ref na])), (im, .inl (cI, 256, .inl fi)), (rc, .inl (cZ, 256, .inl fr))] (fun r => r = bI (secB fr fi i)) := by
  refine ofR (cc := c_MO_isSecond) (maxL := 3) (ret := (some .boolean)) (by decide) rfl (Nat.le_of_ble_eq_true rfl) ?_
  intro p e s m args below meth c H hH0 hx hb hr hlocks hts hown hml ls hl hP hK hN
  have hown : s.vm.findClass R_MO = some m.cls := hown
  have hl : lv_has ls 3 [(0, .ref o), (1, .int (nI i))] := hl
  refine lv_iload_n hx hb d_MO_isSecond_0 rfl (lv_at hl 1 rfl) ?_
  refine lv_sipush (v := 255) hx hb d_MO_isSecond_1 (by decide) ?_
  refine lv_iadd hx hb d_MO_isSecond_4 ?_
  refine lv_sipush (v := 255) hx hb d_MO_isSecond_5 (by decide) ?_
  refine lv_iand hx hb d_MO_isSecond_8 ?_
  refine lv_istore_n hx hb d_MO_isSecond_9 rfl hl (by decide) rfl (fun ls hl => ?_)
  have hl : lv_has ls 3 [(2, .int (((nI i) + 255) &&& 255)), (0, .ref o), (1, .int (nI i))] := hl
  refine lv_aload_n hx hb d_MO_isSecond_10 rfl (lv_at hl 1 rfl) ?_
  refine va_get (D := D) (ci := 5) (v := .ref rc) (C := R_MO) (T := T_MO) (N := 18) hx hb hts iw_MO hown hK hP 0 rfl rfl 3 (by decide) (hts _ k_698) (fun _ h9 => h9) rfl d_MO_isSecond_11 ?_
  refine lv_iload_n hx hb d_MO_isSecond_14 rfl (lv_at hl 2 rfl) ?_
  refine va_zald hx hb hK hP 2 1 rfl rfl (vp_in_nI (by omega) (by decide)) d_MO_isSecond_15 ?_
  refine lv_topi (fun y9 e9 => ?_)
  have e9 : y9 = fr i := e9.trans (by rw [nI_clamp (by omega)])
  subst e9
  refine lv_if_eq (tgt := 56) hx hb d_MO_isSecond_16 rfl (fun h16 => ?_) (fun h16 => ?_)
  · have h16 : fr i = 0 := h16
    refine lv_iconst (v := 0) hx hb d_MO_isSecond_56 (by decide) ?_
    exact W.zret (v := (bI false)) hx hb hr (nb_n _) (fun t ht hW => ⟨(bI false), rfl, by rw [secB, if_pos h16], ht.trans hH0.symm⟩) (fun _ h9 => absurd h9 List.not_mem_nil) d_MO_isSecond_57
  · have h16 : ¬ fr i = 0 := h16
    refine lv_aload_n hx hb d_MO_isSecond_19 rfl (lv_at hl 1 rfl) ?_
    refine va_get (D := D) (ci := 5) (v := .ref rc) (C := R_MO) (T := T_MO) (N := 18) hx hb hts iw_MO hown hK hP 0 rfl rfl 3 (by decide) (hts _ k_698) (fun _ h9 => h9) rfl d_MO_isSecond_20 ?_
    refine lv_iload_n hx hb d_MO_isSecond_23 rfl (lv_at hl 0 rfl) ?_
    refine va_zald hx hb hK hP 2 1 rfl rfl (in255 _) d_MO_isSecond_24 ?_
    refine lv_topi (fun y9 e9 => ?_)
    have e9 : y9 = rd fr (nI i + 255) := e9.trans rfl
    subst e9
    refine lv_if_eq (tgt := 56) hx hb d_MO_isSecond_25 rfl (fun h25 => ?_) (fun h25 => ?_)
    · have h25 : rd fr (nI i + 255) = 0 := h25
      refine lv_iconst (v := 0) hx hb d_MO_isSecond_56 (by decide) ?_
      exact W.zret (v := (bI false)) hx hb hr (nb_n _) (fun t ht hW => ⟨(bI false), rfl, by rw [secB, if_neg h16, if_pos h25], ht.trans hH0.symm⟩) (fun _ h9 => absurd h9 List.not_mem_nil) d_MO_isSecond_57
    · have h25 : ¬ rd fr (nI i + 255) = 0 := h25
      refine lv_aload_n hx hb d_MO_isSecond_28 rfl (lv_at hl 1 rfl) ?_
      refine va_get (D := D) (ci := 5) (v := .ref im) (C := R_MO) (T := T_MO) (N := 18) hx hb hts iw_MO hown hK hP 0 rfl rfl 1 (by decide) (hts _ k_696) (fun _ h9 => h9) rfl d_MO_isSecond_29 ?_
      refine lv_iload_n hx hb d_MO_isSecond_32 rfl (lv_at hl 0 rfl) ?_
      refine va_iald hx hb hK hP 1 0 rfl rfl (in255 _) d_MO_isSecond_33 ?_
      refine lv_topi (fun y9 e9 => ?_)
      have e9 : y9 = rd fi (nI i + 255) := e9.trans rfl
      subst e9
      refine lv_bipush (v := 32) hx hb d_MO_isSecond_34 (by decide) ?_
      refine lv_icmp_ge (tgt := 56) hx hb d_MO_isSecond_36 rfl (fun h36 => ?_) (fun h36 => ?_)
      · refine lv_iconst (v := 0) hx hb d_MO_isSecond_56 (by decide) ?_
        exact W.zret (v := (bI false)) hx hb hr (nb_n _) (fun t ht hW => ⟨(bI false), rfl, by rw [secB, if_neg h16, if_neg h25, if_pos h36], ht.trans hH0.symm⟩) (fun _ h9 => absurd h9 List.not_mem_nil) d_MO_isSecond_57
      · refine lv_aload_n hx hb d_MO_isSecond_39 rfl (lv_at hl 1 rfl) ?_
        refine va_get (D := D) (ci := 5) (v := .ref im) (C := R_MO) (T := T_MO) (N := 18) hx hb hts iw_MO hown hK hP 0 rfl rfl 1 (by decide) (hts _ k_696) (fun _ h9 => h9) rfl d_MO_isSecond_40 ?_
        refine lv_iload_n hx hb d_MO_isSecond_43 rfl (lv_at hl 0 rfl) ?_
        refine va_iald hx hb hK hP 1 0 rfl rfl (in255 _) d_MO_isSecond_44 ?_
        refine lv_topi (fun y9 e9 => ?_)
        have e9 : y9 = rd fi (nI i + 255) := e9.trans rfl
        subst e9
        have hPc := hP.sub (ws' := []) [] rfl
        refine vp_callSi (va_runS (As := [.int (rd fi (nI i + 255))]) (rest := []) ⟨hx, hb, hml, hown, hts⟩ (q_len l D cI cZ (rd fi (nI i + 255))) ⟨cB 1 hts k_771 k_62 k_769 hd_MO_length ⟨Nat.le_of_ble_eq_true rfl, Nat.le_of_ble_eq_true rfl⟩ rfl rfl, hts _ k_770⟩ (PcR.preS hPc hK hN) rfl rfl hl.1 rfl (lv_room (Nat.le_of_ble_eq_true rfl)) d_MO_isSecond_45 ⟨Nat.le_of_ble_eq_true rfl, Nat.le_of_ble_eq_true rfl⟩).run (fun r45 e45 => ?_)
        replace e45 := e45.symm
        subst e45
        refine lv_iconst (v := 2) hx hb d_MO_isSecond_48 (by decide) ?_
        refine lv_icmp_ne (tgt := 56) hx hb d_MO_isSecond_49 rfl (fun h49 => ?_) (fun h49 => ?_)
        · have h49 : ¬ lenI (rd fi (nI i + 255)) = 2 := h49
          refine lv_iconst (v := 0) hx hb d_MO_isSecond_56 (by decide) ?_
          exact W.zret (v := (bI false)) hx hb hr (nb_n _) (fun t ht hW => ⟨(bI false), rfl, by rw [secB, if_neg h16, if_neg h25, if_neg h36, if_neg h49], ht.trans hH0.symm⟩) (fun _ h9 => absurd h9 List.not_mem_nil) d_MO_isSecond_57
        · have h49 : lenI (rd fi (nI i + 255)) = 2 := h49
          refine lv_iconst (v := 1) hx hb d_MO_isSecond_52 (by decide) ?_
          refine lv_goto (tgt := 57) hx hb d_MO_isSecond_53 rfl ?_
          exact W.zret (v := (bI true)) hx hb hr (nb_n _) (fun t ht hW => ⟨(bI true), rfl, by rw [secB, if_neg h16, if_neg h25, if_neg h36, if_pos h49], ht.trans hH0.symm⟩) (fun _ h9 => absurd h9 List.not_mem_nil) d_MO_isSecond_57
set_option maxHeartbeats 4000000 in
set_option maxRecDepth 100000 in
theorem q_isLast (l : Launch) (D : va_G) (cI cZ : ClassId) (o : Nat) (th : Int32) (im : Nat) (tr : Bool) (rc : Nat) (bg : Nat) (ro : Int32) (oa : Nat) (xa : Nat) (ya : Nat) (rg : Nat) (me : Nat) (sa : Nat) (pa : Nat) (za : Nat) (ca : Nat) (kp : Bool) (ta : Nat) (na : Nat) (fi : Nat → Int32) (fr : Nat → Int32) (i : Nat) (hi : i < 256) : MetR l y_MO_isLast w_MO_isLast { frames := 1, cells := 0, slots := 0, locals := 20 } D cI cZ [.ref o, .int (nI i)] [(o, .inr (5, [.int th, .ref im, .int (bI tr), .ref rc, .ref bg, .int ro, .ref oa, .ref xa, .ref ya, .ref rg, .ref me, .ref sa, .ref pa, .ref za, .ref ca, .int (bI kp), .ref ta, .ref na])), (im, .inl (cI, 256, .inl fi)), (rc, .inl (cZ, 256, .inl fr))] (fun r => r = bI (lasB fr fi i)) := by
  refine ofR (cc := c_MO_isLast) (maxL := 4) (ret := (some .boolean)) (by decide) rfl (Nat.le_of_ble_eq_true rfl) ?_
  intro p e s m args below meth c H hH0 hx hb hr hlocks hts hown hml ls hl hP hK hN
  have hown : s.vm.findClass R_MO = some m.cls := hown
  have hl : lv_has ls 4 [(0, .ref o), (1, .int (nI i))] := hl
  refine lv_aload_n hx hb d_MO_isLast_0 rfl (lv_at hl 0 rfl) ?_
  refine va_get (D := D) (ci := 5) (v := .ref im) (C := R_MO) (T := T_MO) (N := 18) hx hb hts iw_MO hown hK hP 0 rfl rfl 1 (by decide) (hts _ k_696) (fun _ h9 => h9) rfl d_MO_isLast_1 ?_
  refine lv_iload_n hx hb d_MO_isLast_4 rfl (lv_at hl 1 rfl) ?_
  refine va_iald hx hb hK hP 1 0 rfl rfl (vp_in_nI (by omega) (by decide)) d_MO_isLast_5 ?_
  refine lv_topi (fun y9 e9 => ?_)
  have e9 : y9 = fi i := e9.trans (by rw [nI_clamp (by omega)])
  subst e9
  refine lv_istore_n hx hb d_MO_isLast_6 rfl hl (by decide) rfl (fun ls hl => ?_)
  have hl : lv_has ls 4 [(2, .int (fi i)), (0, .ref o), (1, .int (nI i))] := hl
  refine lv_iload_n hx hb d_MO_isLast_7 rfl (lv_at hl 2 rfl) ?_
  refine lv_sipush (v := 254) hx hb d_MO_isLast_8 (by decide) ?_
  refine lv_icmp_ne (tgt := 42) hx hb d_MO_isLast_11 rfl (fun h11 => ?_) (fun h11 => ?_)
  · have h11 : ¬ nI i = 254 := h11
    refine lv_iload_n hx hb d_MO_isLast_42 rfl (lv_at hl 2 rfl) ?_
    refine lv_sipush (v := 255) hx hb d_MO_isLast_43 (by decide) ?_
    refine lv_icmp_ne (tgt := 70) hx hb d_MO_isLast_46 rfl (fun h46 => ?_) (fun h46 => ?_)
    · have h46 : ¬ nI i = 255 := h46
      refine lv_iconst (v := 0) hx hb d_MO_isLast_70 (by decide) ?_
      refine lv_istore_n hx hb d_MO_isLast_71 rfl hl (by decide) rfl (fun ls hl => ?_)
      have hl : lv_has ls 4 [(3, .int 0), (2, .int (fi i)), (0, .ref o), (1, .int (nI i))] := hl
      refine lv_aload_n hx hb d_MO_isLast_72 rfl (lv_at hl 2 rfl) ?_
      refine va_get (D := D) (ci := 5) (v := .ref rc) (C := R_MO) (T := T_MO) (N := 18) hx hb hts iw_MO hown hK hP 0 rfl rfl 3 (by decide) (hts _ k_698) (fun _ h9 => h9) rfl d_MO_isLast_73 ?_
      refine lv_iload_n hx hb d_MO_isLast_76 rfl (lv_at hl 3 rfl) ?_
      refine va_zald hx hb hK hP 2 1 rfl rfl (vp_in_nI (by omega) (by decide)) d_MO_isLast_77 ?_
      refine lv_topi (fun y9 e9 => ?_)
      have e9 : y9 = fr i := e9.trans (by rw [nI_clamp (by omega)])
      subst e9
      refine lv_if_eq (tgt := 89) hx hb d_MO_isLast_78 rfl (fun h78 => ?_) (fun h78 => ?_)
      · have h78 : fr i = 0 := h78
        refine lv_iconst (v := 0) hx hb d_MO_isLast_89 (by decide) ?_
        exact W.zret (v := (bI false)) hx hb hr (nb_n _) (fun t ht hW => ⟨(bI false), rfl, by rw [lasB, if_pos h78], ht.trans hH0.symm⟩) (fun _ h9 => absurd h9 List.not_mem_nil) d_MO_isLast_90
      · have h78 : ¬ fr i = 0 := h78
        refine lv_iload_n hx hb d_MO_isLast_81 rfl (lv_at hl 0 rfl) ?_
        refine lv_if_eq (tgt := 89) hx hb d_MO_isLast_82 rfl (fun _ => ?_) (fun hq9 => absurd (by decide) hq9)
        refine lv_iconst (v := 0) hx hb d_MO_isLast_89 (by decide) ?_
        exact W.zret (v := (bI false)) hx hb hr (nb_n _) (fun t ht hW => ⟨(bI false), rfl, by rw [lasB, if_neg h78, lasW, if_neg h11, if_neg h46], ht.trans hH0.symm⟩) (fun _ h9 => absurd h9 List.not_mem_nil) d_MO_isLast_90
    · have h46 : nI i = 255 := h46
      refine lv_iload_n hx hb d_MO_isLast_49 rfl (lv_at hl 0 rfl) ?_
      refine lv_iconst (v := 1) hx hb d_MO_isLast_50 (by decide) ?_
      refine lv_icmp_eq (tgt := 70) hx hb d_MO_isLast_51 rfl (fun h51 => ?_) (fun h51 => ?_)
      · have h51 : fi i = 1 := h51
        refine lv_iconst (v := 0) hx hb d_MO_isLast_70 (by decide) ?_
        refine lv_istore_n hx hb d_MO_isLast_71 rfl hl (by decide) rfl (fun ls hl => ?_)
        have hl : lv_has ls 4 [(3, .int 0), (2, .int (fi i)), (0, .ref o), (1, .int (nI i))] := hl
        refine lv_aload_n hx hb d_MO_isLast_72 rfl (lv_at hl 2 rfl) ?_
        refine va_get (D := D) (ci := 5) (v := .ref rc) (C := R_MO) (T := T_MO) (N := 18) hx hb hts iw_MO hown hK hP 0 rfl rfl 3 (by decide) (hts _ k_698) (fun _ h9 => h9) rfl d_MO_isLast_73 ?_
        refine lv_iload_n hx hb d_MO_isLast_76 rfl (lv_at hl 3 rfl) ?_
        refine va_zald hx hb hK hP 2 1 rfl rfl (vp_in_nI (by omega) (by decide)) d_MO_isLast_77 ?_
        refine lv_topi (fun y9 e9 => ?_)
        have e9 : y9 = fr i := e9.trans (by rw [nI_clamp (by omega)])
        subst e9
        refine lv_if_eq (tgt := 89) hx hb d_MO_isLast_78 rfl (fun h78 => ?_) (fun h78 => ?_)
        · have h78 : fr i = 0 := h78
          refine lv_iconst (v := 0) hx hb d_MO_isLast_89 (by decide) ?_
          exact W.zret (v := (bI false)) hx hb hr (nb_n _) (fun t ht hW => ⟨(bI false), rfl, by rw [lasB, if_pos h78], ht.trans hH0.symm⟩) (fun _ h9 => absurd h9 List.not_mem_nil) d_MO_isLast_90
        · have h78 : ¬ fr i = 0 := h78
          refine lv_iload_n hx hb d_MO_isLast_81 rfl (lv_at hl 0 rfl) ?_
          refine lv_if_eq (tgt := 89) hx hb d_MO_isLast_82 rfl (fun _ => ?_) (fun hq9 => absurd (by decide) hq9)
          refine lv_iconst (v := 0) hx hb d_MO_isLast_89 (by decide) ?_
          exact W.zret (v := (bI false)) hx hb hr (nb_n _) (fun t ht hW => ⟨(bI false), rfl, by rw [lasB, if_neg h78, lasW, if_neg h11, if_pos h46, if_pos h51], ht.trans hH0.symm⟩) (fun _ h9 => absurd h9 List.not_mem_nil) d_MO_isLast_90
      · have h51 : ¬ fi i = 1 := h51
        refine lv_iload_n hx hb d_MO_isLast_54 rfl (lv_at hl 0 rfl) ?_
        refine lv_bipush (v := 28) hx hb d_MO_isLast_55 (by decide) ?_
        refine lv_icmp_eq (tgt := 70) hx hb d_MO_isLast_57 rfl (fun h57 => ?_) (fun h57 => ?_)
        · have h57 : fi i = 28 := h57
          refine lv_iconst (v := 0) hx hb d_MO_isLast_70 (by decide) ?_
          refine lv_istore_n hx hb d_MO_isLast_71 rfl hl (by decide) rfl (fun ls hl => ?_)
          have hl : lv_has ls 4 [(3, .int 0), (2, .int (fi i)), (0, .ref o), (1, .int (nI i))] := hl
          refine lv_aload_n hx hb d_MO_isLast_72 rfl (lv_at hl 2 rfl) ?_
          refine va_get (D := D) (ci := 5) (v := .ref rc) (C := R_MO) (T := T_MO) (N := 18) hx hb hts iw_MO hown hK hP 0 rfl rfl 3 (by decide) (hts _ k_698) (fun _ h9 => h9) rfl d_MO_isLast_73 ?_
          refine lv_iload_n hx hb d_MO_isLast_76 rfl (lv_at hl 3 rfl) ?_
          refine va_zald hx hb hK hP 2 1 rfl rfl (vp_in_nI (by omega) (by decide)) d_MO_isLast_77 ?_
          refine lv_topi (fun y9 e9 => ?_)
          have e9 : y9 = fr i := e9.trans (by rw [nI_clamp (by omega)])
          subst e9
          refine lv_if_eq (tgt := 89) hx hb d_MO_isLast_78 rfl (fun h78 => ?_) (fun h78 => ?_)
          · have h78 : fr i = 0 := h78
            refine lv_iconst (v := 0) hx hb d_MO_isLast_89 (by decide) ?_
            exact W.zret (v := (bI false)) hx hb hr (nb_n _) (fun t ht hW => ⟨(bI false), rfl, by rw [lasB, if_pos h78], ht.trans hH0.symm⟩) (fun _ h9 => absurd h9 List.not_mem_nil) d_MO_isLast_90
          · have h78 : ¬ fr i = 0 := h78
            refine lv_iload_n hx hb d_MO_isLast_81 rfl (lv_at hl 0 rfl) ?_
            refine lv_if_eq (tgt := 89) hx hb d_MO_isLast_82 rfl (fun _ => ?_) (fun hq9 => absurd (by decide) hq9)
            refine lv_iconst (v := 0) hx hb d_MO_isLast_89 (by decide) ?_
            exact W.zret (v := (bI false)) hx hb hr (nb_n _) (fun t ht hW => ⟨(bI false), rfl, by rw [lasB, if_neg h78, lasW, if_neg h11, if_pos h46, if_neg h51, if_pos h57], ht.trans hH0.symm⟩) (fun _ h9 => absurd h9 List.not_mem_nil) d_MO_isLast_90
        · have h57 : ¬ fi i = 28 := h57
          refine lv_iload_n hx hb d_MO_isLast_60 rfl (lv_at hl 0 rfl) ?_
          refine lv_bipush (v := 31) hx hb d_MO_isLast_61 (by decide) ?_
          refine lv_icmp_eq (tgt := 70) hx hb d_MO_isLast_63 rfl (fun h63 => ?_) (fun h63 => ?_)
          · have h63 : fi i = 31 := h63
            refine lv_iconst (v := 0) hx hb d_MO_isLast_70 (by decide) ?_
            refine lv_istore_n hx hb d_MO_isLast_71 rfl hl (by decide) rfl (fun ls hl => ?_)
            have hl : lv_has ls 4 [(3, .int 0), (2, .int (fi i)), (0, .ref o), (1, .int (nI i))] := hl
            refine lv_aload_n hx hb d_MO_isLast_72 rfl (lv_at hl 2 rfl) ?_
            refine va_get (D := D) (ci := 5) (v := .ref rc) (C := R_MO) (T := T_MO) (N := 18) hx hb hts iw_MO hown hK hP 0 rfl rfl 3 (by decide) (hts _ k_698) (fun _ h9 => h9) rfl d_MO_isLast_73 ?_
            refine lv_iload_n hx hb d_MO_isLast_76 rfl (lv_at hl 3 rfl) ?_
            refine va_zald hx hb hK hP 2 1 rfl rfl (vp_in_nI (by omega) (by decide)) d_MO_isLast_77 ?_
            refine lv_topi (fun y9 e9 => ?_)
            have e9 : y9 = fr i := e9.trans (by rw [nI_clamp (by omega)])
            subst e9
            refine lv_if_eq (tgt := 89) hx hb d_MO_isLast_78 rfl (fun h78 => ?_) (fun h78 => ?_)
            · have h78 : fr i = 0 := h78
              refine lv_iconst (v := 0) hx hb d_MO_isLast_89 (by decide) ?_
              exact W.zret (v := (bI false)) hx hb hr (nb_n _) (fun t ht hW => ⟨(bI false), rfl, by rw [lasB, if_pos h78], ht.trans hH0.symm⟩) (fun _ h9 => absurd h9 List.not_mem_nil) d_MO_isLast_90
            · have h78 : ¬ fr i = 0 := h78
              refine lv_iload_n hx hb d_MO_isLast_81 rfl (lv_at hl 0 rfl) ?_
              refine lv_if_eq (tgt := 89) hx hb d_MO_isLast_82 rfl (fun _ => ?_) (fun hq9 => absurd (by decide) hq9)
              refine lv_iconst (v := 0) hx hb d_MO_isLast_89 (by decide) ?_
              exact W.zret (v := (bI false)) hx hb hr (nb_n _) (fun t ht hW => ⟨(bI false), rfl, by rw [lasB, if_neg h78, lasW, if_neg h11, if_pos h46, if_neg h51, if_neg h57, if_pos h63], ht.trans hH0.symm⟩) (fun _ h9 => absurd h9 List.not_mem_nil) d_MO_isLast_90
          · have h63 : ¬ fi i = 31 := h63
            refine lv_iconst (v := 1) hx hb d_MO_isLast_66 (by decide) ?_
            refine lv_goto (tgt := 71) hx hb d_MO_isLast_67 rfl ?_
            refine lv_istore_n hx hb d_MO_isLast_71 rfl hl (by decide) rfl (fun ls hl => ?_)
            have hl : lv_has ls 4 [(3, .int 1), (2, .int (fi i)), (0, .ref o), (1, .int (nI i))] := hl
            refine lv_aload_n hx hb d_MO_isLast_72 rfl (lv_at hl 2 rfl) ?_
            refine va_get (D := D) (ci := 5) (v := .ref rc) (C := R_MO) (T := T_MO) (N := 18) hx hb hts iw_MO hown hK hP 0 rfl rfl 3 (by decide) (hts _ k_698) (fun _ h9 => h9) rfl d_MO_isLast_73 ?_
            refine lv_iload_n hx hb d_MO_isLast_76 rfl (lv_at hl 3 rfl) ?_
            refine va_zald hx hb hK hP 2 1 rfl rfl (vp_in_nI (by omega) (by decide)) d_MO_isLast_77 ?_
            refine lv_topi (fun y9 e9 => ?_)
            have e9 : y9 = fr i := e9.trans (by rw [nI_clamp (by omega)])
            subst e9
            refine lv_if_eq (tgt := 89) hx hb d_MO_isLast_78 rfl (fun h78 => ?_) (fun h78 => ?_)
            · have h78 : fr i = 0 := h78
              refine lv_iconst (v := 0) hx hb d_MO_isLast_89 (by decide) ?_
              exact W.zret (v := (bI false)) hx hb hr (nb_n _) (fun t ht hW => ⟨(bI false), rfl, by rw [lasB, if_pos h78], ht.trans hH0.symm⟩) (fun _ h9 => absurd h9 List.not_mem_nil) d_MO_isLast_90
            · have h78 : ¬ fr i = 0 := h78
              refine lv_iload_n hx hb d_MO_isLast_81 rfl (lv_at hl 0 rfl) ?_
              refine lv_if_eq (tgt := 89) hx hb d_MO_isLast_82 rfl (fun hq9 => absurd hq9 (by decide)) (fun _ => ?_)
              refine lv_iconst (v := 1) hx hb d_MO_isLast_85 (by decide) ?_
              refine lv_goto (tgt := 90) hx hb d_MO_isLast_86 rfl ?_
              exact W.zret (v := (bI true)) hx hb hr (nb_n _) (fun t ht hW => ⟨(bI true), rfl, by rw [lasB, if_neg h78, lasW, if_neg h11, if_pos h46, if_neg h51, if_neg h57, if_neg h63], ht.trans hH0.symm⟩) (fun _ h9 => absurd h9 List.not_mem_nil) d_MO_isLast_90
  · have h11 : nI i = 254 := h11
    refine lv_iload_n hx hb d_MO_isLast_14 rfl (lv_at hl 0 rfl) ?_
    have hPc := hP.sub (ws' := []) [] rfl
    refine vp_callSi (va_runS (As := [.int (fi i)]) (rest := []) ⟨hx, hb, hml, hown, hts⟩ (q_len l D cI cZ (fi i)) ⟨cB 1 hts k_771 k_62 k_769 hd_MO_length ⟨Nat.le_of_ble_eq_true rfl, Nat.le_of_ble_eq_true rfl⟩ rfl rfl, hts _ k_770⟩ (PcR.preS hPc hK hN) rfl rfl hl.1 rfl (lv_room (Nat.le_of_ble_eq_true rfl)) d_MO_isLast_15 ⟨Nat.le_of_ble_eq_true rfl, Nat.le_of_ble_eq_true rfl⟩).run (fun r15 e15 => ?_)
    replace e15 := e15.symm
    subst e15
    refine lv_iconst (v := 2) hx hb d_MO_isLast_18 (by decide) ?_
    refine lv_icmp_ne (tgt := 38) hx hb d_MO_isLast_19 rfl (fun h19 => ?_) (fun h19 => ?_)
    · have h19 : ¬ lenI (fi i) = 2 := h19
      refine lv_iconst (v := 0) hx hb d_MO_isLast_38 (by decide) ?_
      refine lv_goto (tgt := 71) hx hb d_MO_isLast_39 rfl ?_
      refine lv_istore_n hx hb d_MO_isLast_71 rfl hl (by decide) rfl (fun ls hl => ?_)
      have hl : lv_has ls 4 [(3, .int 0), (2, .int (fi i)), (0, .ref o), (1, .int (nI i))] := hl
      refine lv_aload_n hx hb d_MO_isLast_72 rfl (lv_at hl 2 rfl) ?_
      refine va_get (D := D) (ci := 5) (v := .ref rc) (C := R_MO) (T := T_MO) (N := 18) hx hb hts iw_MO hown hK hP 0 rfl rfl 3 (by decide) (hts _ k_698) (fun _ h9 => h9) rfl d_MO_isLast_73 ?_
      refine lv_iload_n hx hb d_MO_isLast_76 rfl (lv_at hl 3 rfl) ?_
      refine va_zald hx hb hK hP 2 1 rfl rfl (vp_in_nI (by omega) (by decide)) d_MO_isLast_77 ?_
      refine lv_topi (fun y9 e9 => ?_)
      have e9 : y9 = fr i := e9.trans (by rw [nI_clamp (by omega)])
      subst e9
      refine lv_if_eq (tgt := 89) hx hb d_MO_isLast_78 rfl (fun h78 => ?_) (fun h78 => ?_)
      · have h78 : fr i = 0 := h78
        refine lv_iconst (v := 0) hx hb d_MO_isLast_89 (by decide) ?_
        exact W.zret (v := (bI false)) hx hb hr (nb_n _) (fun t ht hW => ⟨(bI false), rfl, by rw [lasB, if_pos h78], ht.trans hH0.symm⟩) (fun _ h9 => absurd h9 List.not_mem_nil) d_MO_isLast_90
      · have h78 : ¬ fr i = 0 := h78
        refine lv_iload_n hx hb d_MO_isLast_81 rfl (lv_at hl 0 rfl) ?_
        refine lv_if_eq (tgt := 89) hx hb d_MO_isLast_82 rfl (fun _ => ?_) (fun hq9 => absurd (by decide) hq9)
        refine lv_iconst (v := 0) hx hb d_MO_isLast_89 (by decide) ?_
        exact W.zret (v := (bI false)) hx hb hr (nb_n _) (fun t ht hW => ⟨(bI false), rfl, by rw [lasB, if_neg h78, lasW, if_pos h11, if_neg h19], ht.trans hH0.symm⟩) (fun _ h9 => absurd h9 List.not_mem_nil) d_MO_isLast_90
    · have h19 : lenI (fi i) = 2 := h19
      refine lv_iload_n hx hb d_MO_isLast_22 rfl (lv_at hl 0 rfl) ?_
      refine lv_bipush (v := 22) hx hb d_MO_isLast_23 (by decide) ?_
      refine lv_icmp_eq (tgt := 38) hx hb d_MO_isLast_25 rfl (fun h25 => ?_) (fun h25 => ?_)
      · have h25 : fi i = 22 := h25
        refine lv_iconst (v := 0) hx hb d_MO_isLast_38 (by decide) ?_
        refine lv_goto (tgt := 71) hx hb d_MO_isLast_39 rfl ?_
        refine lv_istore_n hx hb d_MO_isLast_71 rfl hl (by decide) rfl (fun ls hl => ?_)
        have hl : lv_has ls 4 [(3, .int 0), (2, .int (fi i)), (0, .ref o), (1, .int (nI i))] := hl
        refine lv_aload_n hx hb d_MO_isLast_72 rfl (lv_at hl 2 rfl) ?_
        refine va_get (D := D) (ci := 5) (v := .ref rc) (C := R_MO) (T := T_MO) (N := 18) hx hb hts iw_MO hown hK hP 0 rfl rfl 3 (by decide) (hts _ k_698) (fun _ h9 => h9) rfl d_MO_isLast_73 ?_
        refine lv_iload_n hx hb d_MO_isLast_76 rfl (lv_at hl 3 rfl) ?_
        refine va_zald hx hb hK hP 2 1 rfl rfl (vp_in_nI (by omega) (by decide)) d_MO_isLast_77 ?_
        refine lv_topi (fun y9 e9 => ?_)
        have e9 : y9 = fr i := e9.trans (by rw [nI_clamp (by omega)])
        subst e9
        refine lv_if_eq (tgt := 89) hx hb d_MO_isLast_78 rfl (fun h78 => ?_) (fun h78 => ?_)
        · have h78 : fr i = 0 := h78
          refine lv_iconst (v := 0) hx hb d_MO_isLast_89 (by decide) ?_
          exact W.zret (v := (bI false)) hx hb hr (nb_n _) (fun t ht hW => ⟨(bI false), rfl, by rw [lasB, if_pos h78], ht.trans hH0.symm⟩) (fun _ h9 => absurd h9 List.not_mem_nil) d_MO_isLast_90
        · have h78 : ¬ fr i = 0 := h78
          refine lv_iload_n hx hb d_MO_isLast_81 rfl (lv_at hl 0 rfl) ?_
          refine lv_if_eq (tgt := 89) hx hb d_MO_isLast_82 rfl (fun _ => ?_) (fun hq9 => absurd (by decide) hq9)
          refine lv_iconst (v := 0) hx hb d_MO_isLast_89 (by decide) ?_
          exact W.zret (v := (bI false)) hx hb hr (nb_n _) (fun t ht hW => ⟨(bI false), rfl, by rw [lasB, if_neg h78, lasW, if_pos h11, if_pos h19, if_pos h25], ht.trans hH0.symm⟩) (fun _ h9 => absurd h9 List.not_mem_nil) d_MO_isLast_90
      · have h25 : ¬ fi i = 22 := h25
        refine lv_iload_n hx hb d_MO_isLast_28 rfl (lv_at hl 0 rfl) ?_
        refine lv_bipush (v := 27) hx hb d_MO_isLast_29 (by decide) ?_
        refine lv_icmp_eq (tgt := 38) hx hb d_MO_isLast_31 rfl (fun h31 => ?_) (fun h31 => ?_)
        · have h31 : fi i = 27 := h31
          refine lv_iconst (v := 0) hx hb d_MO_isLast_38 (by decide) ?_
          refine lv_goto (tgt := 71) hx hb d_MO_isLast_39 rfl ?_
          refine lv_istore_n hx hb d_MO_isLast_71 rfl hl (by decide) rfl (fun ls hl => ?_)
          have hl : lv_has ls 4 [(3, .int 0), (2, .int (fi i)), (0, .ref o), (1, .int (nI i))] := hl
          refine lv_aload_n hx hb d_MO_isLast_72 rfl (lv_at hl 2 rfl) ?_
          refine va_get (D := D) (ci := 5) (v := .ref rc) (C := R_MO) (T := T_MO) (N := 18) hx hb hts iw_MO hown hK hP 0 rfl rfl 3 (by decide) (hts _ k_698) (fun _ h9 => h9) rfl d_MO_isLast_73 ?_
          refine lv_iload_n hx hb d_MO_isLast_76 rfl (lv_at hl 3 rfl) ?_
          refine va_zald hx hb hK hP 2 1 rfl rfl (vp_in_nI (by omega) (by decide)) d_MO_isLast_77 ?_
          refine lv_topi (fun y9 e9 => ?_)
          have e9 : y9 = fr i := e9.trans (by rw [nI_clamp (by omega)])
          subst e9
          refine lv_if_eq (tgt := 89) hx hb d_MO_isLast_78 rfl (fun h78 => ?_) (fun h78 => ?_)
          · have h78 : fr i = 0 := h78
            refine lv_iconst (v := 0) hx hb d_MO_isLast_89 (by decide) ?_
            exact W.zret (v := (bI false)) hx hb hr (nb_n _) (fun t ht hW => ⟨(bI false), rfl, by rw [lasB, if_pos h78], ht.trans hH0.symm⟩) (fun _ h9 => absurd h9 List.not_mem_nil) d_MO_isLast_90
          · have h78 : ¬ fr i = 0 := h78
            refine lv_iload_n hx hb d_MO_isLast_81 rfl (lv_at hl 0 rfl) ?_
            refine lv_if_eq (tgt := 89) hx hb d_MO_isLast_82 rfl (fun _ => ?_) (fun hq9 => absurd (by decide) hq9)
            refine lv_iconst (v := 0) hx hb d_MO_isLast_89 (by decide) ?_
            exact W.zret (v := (bI false)) hx hb hr (nb_n _) (fun t ht hW => ⟨(bI false), rfl, by rw [lasB, if_neg h78, lasW, if_pos h11, if_pos h19, if_neg h25, if_pos h31], ht.trans hH0.symm⟩) (fun _ h9 => absurd h9 List.not_mem_nil) d_MO_isLast_90
        · have h31 : ¬ fi i = 27 := h31
          refine lv_iconst (v := 1) hx hb d_MO_isLast_34 (by decide) ?_
          refine lv_goto (tgt := 71) hx hb d_MO_isLast_35 rfl ?_
          refine lv_istore_n hx hb d_MO_isLast_71 rfl hl (by decide) rfl (fun ls hl => ?_)
          have hl : lv_has ls 4 [(3, .int 1), (2, .int (fi i)), (0, .ref o), (1, .int (nI i))] := hl
          refine lv_aload_n hx hb d_MO_isLast_72 rfl (lv_at hl 2 rfl) ?_
          refine va_get (D := D) (ci := 5) (v := .ref rc) (C := R_MO) (T := T_MO) (N := 18) hx hb hts iw_MO hown hK hP 0 rfl rfl 3 (by decide) (hts _ k_698) (fun _ h9 => h9) rfl d_MO_isLast_73 ?_
          refine lv_iload_n hx hb d_MO_isLast_76 rfl (lv_at hl 3 rfl) ?_
          refine va_zald hx hb hK hP 2 1 rfl rfl (vp_in_nI (by omega) (by decide)) d_MO_isLast_77 ?_
          refine lv_topi (fun y9 e9 => ?_)
          have e9 : y9 = fr i := e9.trans (by rw [nI_clamp (by omega)])
          subst e9
          refine lv_if_eq (tgt := 89) hx hb d_MO_isLast_78 rfl (fun h78 => ?_) (fun h78 => ?_)
          · have h78 : fr i = 0 := h78
            refine lv_iconst (v := 0) hx hb d_MO_isLast_89 (by decide) ?_
            exact W.zret (v := (bI false)) hx hb hr (nb_n _) (fun t ht hW => ⟨(bI false), rfl, by rw [lasB, if_pos h78], ht.trans hH0.symm⟩) (fun _ h9 => absurd h9 List.not_mem_nil) d_MO_isLast_90
          · have h78 : ¬ fr i = 0 := h78
            refine lv_iload_n hx hb d_MO_isLast_81 rfl (lv_at hl 0 rfl) ?_
            refine lv_if_eq (tgt := 89) hx hb d_MO_isLast_82 rfl (fun hq9 => absurd hq9 (by decide)) (fun _ => ?_)
            refine lv_iconst (v := 1) hx hb d_MO_isLast_85 (by decide) ?_
            refine lv_goto (tgt := 90) hx hb d_MO_isLast_86 rfl ?_
            exact W.zret (v := (bI true)) hx hb hr (nb_n _) (fun t ht hW => ⟨(bI true), rfl, by rw [lasB, if_neg h78, lasW, if_pos h11, if_pos h19, if_neg h25, if_neg h31], ht.trans hH0.symm⟩) (fun _ h9 => absurd h9 List.not_mem_nil) d_MO_isLast_90
