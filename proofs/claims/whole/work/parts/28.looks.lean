set_option maxHeartbeats 4000000 in
set_option maxRecDepth 100000 in
theorem m_looks (l : Launch) (D : va_G) (cI cZ : ClassId) (o : Nat) (mm : Nat) (a : Int32) (x : Int32) (sp : Int32) (pc : Int32) (zf : Bool) (cf : Bool) (st : Int32) (dn : Int32) (o2 : Nat) (mm2 : Nat) (a2 : Int32) (x2 : Int32) (sp2 : Int32) (pc2 : Int32) (z2 : Bool) (c2 : Bool) (st2 : Int32) (dn2 : Int32) (pr : Nat) (r2 : Int32) (kp : Bool) (g : Nat → Int32) (g2 : Nat → Int32) : MetR l y_MA_looksLike w_MA_looksLike { frames := 0, cells := 0, slots := 0, locals := 0 } D cI cZ [.ref o, .ref o2] [(o, .inr (3, [.ref mm, .int a, .int x, .int sp, .int pc, .int (bI zf), .int (bI cf), .int st, .int dn])), (mm, .inl (cI, 256, .inl g)), (o2, .inr (4, [.ref mm2, .int a2, .int x2, .int sp2, .int pc2, .int (bI z2), .int (bI c2), .int st2, .int dn2, .ref pr, .int r2, .int (bI kp)])), (mm2, .inl (cI, 256, .inl g2))] (fun r => r = bI (decide (a = a2 ∧ x = x2 ∧ sp = sp2 ∧ zf = z2 ∧ cf = c2 ∧ ∀ j : Nat, j < 256 → g j = g2 j))) := by
  refine ofR (cc := c_MA_looksLike) (maxL := 3) (ret := (some .boolean)) (by decide) rfl (Nat.le_of_ble_eq_true rfl) ?_
  intro p e s m args below meth c H hH0 hx hb hr hlocks hts hown hml ls hl hP hK hN
  have hown : s.vm.findClass R_MA = some m.cls := hown
  have hl : lv_has ls 3 [(0, .ref o), (1, .ref o2)] := hl
  refine lv_aload_n hx hb d_MA_looksLike_0 rfl (lv_at hl 0 rfl) ?_
  refine va_get (D := D) (ci := 3) (v := .int a) (C := R_FM) (T := T_FM) (N := 9) hx hb hts iw_FM hown hK hP 0 rfl rfl 1 (by decide) (hts _ k_110) (fun _ h9 => h9) rfl d_MA_looksLike_1 ?_
  refine lv_aload_n hx hb d_MA_looksLike_4 rfl (lv_at hl 1 rfl) ?_
  refine va_get (D := D) (ci := 4) (v := .int a2) (C := R_SM) (T := T_SM) (N := 12) hx hb hts iw_SM hown hK hP 2 rfl rfl 1 (by decide) (hts _ k_110) (fun _ h9 => h9) rfl d_MA_looksLike_5 ?_
  refine lv_icmp_ne (tgt := 33) hx hb d_MA_looksLike_8 rfl (fun h8 => ?_) (fun h8 => ?_)
  · refine lv_iconst (v := 0) hx hb d_MA_looksLike_33 (by decide) ?_
    exact W.zret (v := (bI false)) hx hb hr (nb_n _) (fun t ht hW => ⟨(bI false), rfl, (congrArg bI (decide_eq_false (fun q => h8 q.1))).symm, ht.trans hH0.symm⟩) (fun _ h9 => absurd h9 List.not_mem_nil) d_MA_looksLike_34
  · refine lv_aload_n hx hb d_MA_looksLike_11 rfl (lv_at hl 0 rfl) ?_
    refine va_get (D := D) (ci := 3) (v := .int x) (C := R_FM) (T := T_FM) (N := 9) hx hb hts iw_FM hown hK hP 0 rfl rfl 2 (by decide) (hts _ k_115) (fun _ h9 => h9) rfl d_MA_looksLike_12 ?_
    refine lv_aload_n hx hb d_MA_looksLike_15 rfl (lv_at hl 1 rfl) ?_
    refine va_get (D := D) (ci := 4) (v := .int x2) (C := R_SM) (T := T_SM) (N := 12) hx hb hts iw_SM hown hK hP 2 rfl rfl 2 (by decide) (hts _ k_115) (fun _ h9 => h9) rfl d_MA_looksLike_16 ?_
    refine lv_icmp_ne (tgt := 33) hx hb d_MA_looksLike_19 rfl (fun h19 => ?_) (fun h19 => ?_)
    · refine lv_iconst (v := 0) hx hb d_MA_looksLike_33 (by decide) ?_
      exact W.zret (v := (bI false)) hx hb hr (nb_n _) (fun t ht hW => ⟨(bI false), rfl, (congrArg bI (decide_eq_false (fun q => h19 q.2.1))).symm, ht.trans hH0.symm⟩) (fun _ h9 => absurd h9 List.not_mem_nil) d_MA_looksLike_34
    · refine lv_aload_n hx hb d_MA_looksLike_22 rfl (lv_at hl 0 rfl) ?_
      refine va_get (D := D) (ci := 3) (v := .int sp) (C := R_FM) (T := T_FM) (N := 9) hx hb hts iw_FM hown hK hP 0 rfl rfl 3 (by decide) (hts _ k_120) (fun _ h9 => h9) rfl d_MA_looksLike_23 ?_
      refine lv_aload_n hx hb d_MA_looksLike_26 rfl (lv_at hl 1 rfl) ?_
      refine va_get (D := D) (ci := 4) (v := .int sp2) (C := R_SM) (T := T_SM) (N := 12) hx hb hts iw_SM hown hK hP 2 rfl rfl 3 (by decide) (hts _ k_120) (fun _ h9 => h9) rfl d_MA_looksLike_27 ?_
      refine lv_icmp_eq (tgt := 35) hx hb d_MA_looksLike_30 rfl (fun h30 => ?_) (fun h30 => ?_)
      · refine lv_aload_n hx hb d_MA_looksLike_35 rfl (lv_at hl 0 rfl) ?_
        refine va_get (D := D) (ci := 3) (v := .int (bI zf)) (C := R_FM) (T := T_FM) (N := 9) hx hb hts iw_FM hown hK hP 0 rfl rfl 5 (by decide) (hts _ k_128) (fun _ h9 => h9) rfl d_MA_looksLike_36 ?_
        refine lv_aload_n hx hb d_MA_looksLike_39 rfl (lv_at hl 1 rfl) ?_
        refine va_get (D := D) (ci := 4) (v := .int (bI z2)) (C := R_SM) (T := T_SM) (N := 12) hx hb hts iw_SM hown hK hP 2 rfl rfl 5 (by decide) (hts _ k_128) (fun _ h9 => h9) rfl d_MA_looksLike_40 ?_
        refine lv_icmp_ne (tgt := 57) hx hb d_MA_looksLike_43 rfl (fun h43 => ?_) (fun h43 => ?_)
        · refine lv_iconst (v := 0) hx hb d_MA_looksLike_57 (by decide) ?_
          exact W.zret (v := (bI false)) hx hb hr (nb_n _) (fun t ht hW => ⟨(bI false), rfl, (congrArg bI (decide_eq_false (fun q => h43 (by rw [q.2.2.2.1])))).symm, ht.trans hH0.symm⟩) (fun _ h9 => absurd h9 List.not_mem_nil) d_MA_looksLike_58
        · refine lv_aload_n hx hb d_MA_looksLike_46 rfl (lv_at hl 0 rfl) ?_
          refine va_get (D := D) (ci := 3) (v := .int (bI cf)) (C := R_FM) (T := T_FM) (N := 9) hx hb hts iw_FM hown hK hP 0 rfl rfl 6 (by decide) (hts _ k_133) (fun _ h9 => h9) rfl d_MA_looksLike_47 ?_
          refine lv_aload_n hx hb d_MA_looksLike_50 rfl (lv_at hl 1 rfl) ?_
          refine va_get (D := D) (ci := 4) (v := .int (bI c2)) (C := R_SM) (T := T_SM) (N := 12) hx hb hts iw_SM hown hK hP 2 rfl rfl 6 (by decide) (hts _ k_133) (fun _ h9 => h9) rfl d_MA_looksLike_51 ?_
          refine lv_icmp_eq (tgt := 59) hx hb d_MA_looksLike_54 rfl (fun h54 => ?_) (fun h54 => ?_)
          · refine lv_iconst (v := 0) hx hb d_MA_looksLike_59 (by decide) ?_
            refine lv_istore_n hx hb d_MA_looksLike_60 rfl hl (by decide) rfl (fun ls hl => ?_)
            have hl : lv_has ls 3 [(2, .int 0), (0, .ref o), (1, .ref o2)] := hl
            have loop : ∀ (k : Nat) (i : Nat), (i + k = 256) → (∀ j : Nat, j < i → g j = g2 j) → ∀ (ls : Array Slot), lv_has ls 3 [(2, .int (nI i)), (0, .ref o), (1, .ref o2)] → W p l e { frames := 0, cells := 0, slots := 0, locals := 0 } s m args below meth c H [] 0 0 (MQ below (vp_Si (fun r => r = bI (decide (a = a2 ∧ x = x2 ∧ sp = sp2 ∧ zf = z2 ∧ cf = c2 ∧ ∀ j : Nat, j < 256 → g j = g2 j)))) args s 0 0 (fun _ => False)) (F0 m 61 ls []) := by
              intro k
              induction k with
              | zero =>
                intro i hk hJ ls hl
                refine lv_iload_n hx hb d_MA_looksLike_61 rfl (lv_at hl 0 rfl) ?_
                refine lv_sipush (v := 256) hx hb d_MA_looksLike_62 (by decide) ?_
                refine lv_icmp_ge (tgt := 91) hx hb d_MA_looksLike_65 rfl (fun _ => ?_) (fun h9 => absurd (by rw [show i = 256 from hk]; decide) h9)
                refine lv_iconst (v := 1) hx hb d_MA_looksLike_91 (by decide) ?_
                exact W.zret (v := (bI true)) hx hb hr (nb_n _) (fun t ht hW => ⟨(bI true), rfl, (congrArg bI (decide_eq_true ⟨h8, h19, h30, bI_inj h43, bI_inj h54, fun j hj => hJ j (by omega)⟩)).symm, ht.trans hH0.symm⟩) (fun _ h9 => absurd h9 List.not_mem_nil) d_MA_looksLike_92
              | succ k ih =>
                intro i hk hJ ls hl
                refine lv_iload_n hx hb d_MA_looksLike_61 rfl (lv_at hl 0 rfl) ?_
                refine lv_sipush (v := 256) hx hb d_MA_looksLike_62 (by decide) ?_
                refine lv_icmp_ge (tgt := 91) hx hb d_MA_looksLike_65 rfl (fun h9 => absurd h9 (nI_ge (b := 256) (by omega) (by decide))) (fun _ => ?_)
                refine lv_aload_n hx hb d_MA_looksLike_68 rfl (lv_at hl 1 rfl) ?_
                refine va_get (D := D) (ci := 3) (v := .ref mm) (C := R_FM) (T := T_FM) (N := 9) hx hb hts iw_FM hown hK hP 0 rfl rfl 0 (by decide) (hts _ k_109) (fun _ h9 => h9) rfl d_MA_looksLike_69 ?_
                refine lv_iload_n hx hb d_MA_looksLike_72 rfl (lv_at hl 0 rfl) ?_
                refine va_iald hx hb hK hP 1 0 rfl rfl (vp_in_nI (by omega) (by decide)) d_MA_looksLike_73 ?_
                refine lv_aload_n hx hb d_MA_looksLike_74 rfl (lv_at hl 2 rfl) ?_
                refine va_get (D := D) (ci := 4) (v := .ref mm2) (C := R_SM) (T := T_SM) (N := 12) hx hb hts iw_SM hown hK hP 2 rfl rfl 0 (by decide) (hts _ k_109) (fun _ h9 => h9) rfl d_MA_looksLike_75 ?_
                refine lv_iload_n hx hb d_MA_looksLike_78 rfl (lv_at hl 0 rfl) ?_
                refine va_iald hx hb hK hP 3 0 rfl rfl (vp_in_nI (by omega) (by decide)) d_MA_looksLike_79 ?_
                refine lv_icmp_eq (tgt := 85) hx hb d_MA_looksLike_80 rfl (fun h80 => ?_) (fun h80 => ?_)
                · refine lv_iinc (k := 0) (v := nI (i + 1)) hx hb d_MA_looksLike_85 hl rfl (nI_inc _) (by decide) rfl (fun ls hl => ?_)
                  have hl : lv_has ls 3 [(2, .int (nI (i + 1))), (0, .ref o), (1, .ref o2)] := hl
                  refine lv_goto (tgt := 61) hx hb d_MA_looksLike_88 rfl ?_
                  exact ih (i + 1) (by omega) (lt_s hJ (by rw [nI_clamp (by omega)] at h80; exact h80)) ls hl
                · refine lv_iconst (v := 0) hx hb d_MA_looksLike_83 (by decide) ?_
                  exact W.zret (v := (bI false)) hx hb hr (nb_n _) (fun t ht hW => ⟨(bI false), rfl, (congrArg bI (decide_eq_false (fun q => h80 (by rw [nI_clamp (by omega)]; exact q.2.2.2.2.2 i (by omega))))).symm, ht.trans hH0.symm⟩) (fun _ h9 => absurd h9 List.not_mem_nil) d_MA_looksLike_84
            exact loop 256 0 rfl lt_0 ls hl
          · refine lv_iconst (v := 0) hx hb d_MA_looksLike_57 (by decide) ?_
            exact W.zret (v := (bI false)) hx hb hr (nb_n _) (fun t ht hW => ⟨(bI false), rfl, (congrArg bI (decide_eq_false (fun q => h54 (by rw [q.2.2.2.2.1])))).symm, ht.trans hH0.symm⟩) (fun _ h9 => absurd h9 List.not_mem_nil) d_MA_looksLike_58
      · refine lv_iconst (v := 0) hx hb d_MA_looksLike_33 (by decide) ?_
        exact W.zret (v := (bI false)) hx hb hr (nb_n _) (fun t ht hW => ⟨(bI false), rfl, (congrArg bI (decide_eq_false (fun q => h30 q.2.2.1))).symm, ht.trans hH0.symm⟩) (fun _ h9 => absurd h9 List.not_mem_nil) d_MA_looksLike_34
