set_option maxHeartbeats 4000000 in
set_option maxRecDepth 100000 in
theorem r_walk (l : Launch) (D : va_G) (cI cZ : ClassId) (re : Nat) (sr : Nat) (rc : Nat) (pe : Nat) (fs : Nat → Int32) (fr : Nat → Int32) (fp : Nat → Int32) (en : Int32) (f0 : Int32) (sz : Nat) : MetV l y_RE_walk w_RE_walk { frames := 3, cells := 0, slots := 0, locals := 63 } D cI cZ [.ref re, .int en] [(re, .inr (1, [.ref sr, .ref rc, .ref pe, .int f0])), (sr, .inl (cI, 256, .inl fs)), (rc, .inl (cZ, 256, .inl fr)), (pe, .inl (cI, 256, .inl fp))] sz (fun (u : (Nat → Int32) × (Nat → Int32) × Nat) => match u with | (fr1, fp1, fd1) => (fr1, fp1, fd1) = wlk fs 256 0 (mrk (filI 0 fr 256, fp, 0) en) ∧ fd1 ≤ 256) (fun (u : (Nat → Int32) × (Nat → Int32) × Nat) => match u with | (fr1, fp1, fd1) => [(re, .inr (1, [.ref sr, .ref rc, .ref pe, .int (nI fd1)])), (sr, .inl (cI, 256, .inl fs)), (rc, .inl (cZ, 256, .inl fr1)), (pe, .inl (cI, 256, .inl fp1))]) 0 0 := by
  refine ofV (cc := c_RE_walk) (maxL := 3) (ret := none) (by decide) rfl (Nat.le_of_ble_eq_true rfl) ?_
  intro p e s m args below meth c A H hH0 hx hb hr hlocks hts hown hnm hml ls hl hP hK hD hA hS hN
  have hown : s.vm.findClass R_RE = some m.cls := hown
  have hl : lv_has ls 3 [(0, .ref re), (1, .int en)] := hl
  refine lv_iconst (v := 0) hx hb d_RE_walk_0 (by decide) ?_
  refine lv_istore_n hx hb d_RE_walk_1 rfl hl (by decide) rfl (fun ls hl => ?_)
  have hl : lv_has ls 3 [(2, .int 0), (0, .ref re), (1, .int en)] := hl
  rw [← filI_0 0 fr] at hP hD
  have loop1 : ∀ (k : Nat) (i : Nat), (i + k = 256) → ∀ (H : Heap) (locs : List Loc) (ls : Array Slot), lv_has ls 3 [(2, .int (nI i)), (0, .ref re), (1, .int en)] → va_P D vwCl [(re, .inr (1, [.ref sr, .ref rc, .ref pe, .int f0])), (sr, .inl (cI, 256, .inl fs)), (rc, .inl (cZ, 256, .inl (filI 0 fr i))), (pe, .inl (cI, 256, .inl fp))] H → va_D A [(re, .inr (1, [.ref sr, .ref rc, .ref pe, .int f0])), (sr, .inl (cI, 256, .inl fs)), (rc, .inl (cZ, 256, .inl (filI 0 fr i))), (pe, .inl (cI, 256, .inl fp))] → va_S A s.heap H locs → W p l e { frames := 3, cells := 0, slots := 0, locals := 63 } s m args below meth c H locs 0 0 (MQ below (QV D cI cZ (fun (u : (Nat → Int32) × (Nat → Int32) × Nat) => match u with | (fr1, fp1, fd1) => (fr1, fp1, fd1) = wlk fs 256 0 (mrk (filI 0 fr 256, fp, 0) en) ∧ fd1 ≤ 256) (fun (u : (Nat → Int32) × (Nat → Int32) × Nat) => match u with | (fr1, fp1, fd1) => [(re, .inr (1, [.ref sr, .ref rc, .ref pe, .int (nI fd1)])), (sr, .inl (cI, 256, .inl fs)), (rc, .inl (cZ, 256, .inl fr1)), (pe, .inl (cI, 256, .inl fp1))]) A) args s 0 0 A) (F0 m 2 ls []) := by
    intro k
    induction k with
    | zero =>
      intro i hk H locs ls hl hP hD hS
      refine lv_iload_n hx hb d_RE_walk_2 rfl (lv_at hl 0 rfl) ?_
      refine lv_sipush (v := 256) hx hb d_RE_walk_3 (by decide) ?_
      refine lv_icmp_ge (tgt := 22) hx hb d_RE_walk_6 rfl (fun _ => ?_) (fun h9 => absurd (by rw [show i = 256 from hk]; decide) h9)
      refine lv_aload_n hx hb d_RE_walk_22 rfl (lv_at hl 1 rfl) ?_
      refine lv_iconst (v := 0) hx hb d_RE_walk_23 (by decide) ?_
      refine va_put (D := D) (ci := 1) (v := .int 0) (ty := .int) (C := R_RE) (T := T_RE) (N := 4) hx hb hts iw_RE ty_RE ty_RE_ok nm_RE hown hK hP hD hS 0 rfl rfl 3 (by decide) (hts _ k_88) (fun _ h9 => h9) rfl (by decide +kernel) rfl rfl (Nat.le_of_ble_eq_true rfl) d_RE_walk_24 (fun H locs hP hD hS => ?_)
      have hP : va_P D vwCl [(re, .inr (1, [.ref sr, .ref rc, .ref pe, .int 0])), (sr, .inl (cI, 256, .inl fs)), (rc, .inl (cZ, 256, .inl (filI 0 fr i))), (pe, .inl (cI, 256, .inl fp))] H := hP
      have hD : va_D A [(re, .inr (1, [.ref sr, .ref rc, .ref pe, .int 0])), (sr, .inl (cI, 256, .inl fs)), (rc, .inl (cZ, 256, .inl (filI 0 fr i))), (pe, .inl (cI, 256, .inl fp))] := hD
      refine lv_aload_n hx hb d_RE_walk_27 rfl (lv_at hl 1 rfl) ?_
      refine lv_iload_n hx hb d_RE_walk_28 rfl (lv_at hl 2 rfl) ?_
      have hPc := hP.sub (ws' := [(re, .inr (1, [.ref sr, .ref rc, .ref pe, .int 0])), (sr, .inl (cI, 256, .inl fs)), (rc, .inl (cZ, 256, .inl (filI 0 fr i))), (pe, .inl (cI, 256, .inl fp))]) [0, 1, 2, 3] rfl
      have hDc := hD.sub (ws' := [(re, .inr (1, [.ref sr, .ref rc, .ref pe, .int 0])), (sr, .inl (cI, 256, .inl fs)), (rc, .inl (cZ, 256, .inl (filI 0 fr i))), (pe, .inl (cI, 256, .inl fp))]) [0, 1, 2, 3] (by decide) rfl
      have hFc := va_free (wc := [(re, .inr (1, [.ref sr, .ref rc, .ref pe, .int 0])), (sr, .inl (cI, 256, .inl fs)), (rc, .inl (cZ, 256, .inl (filI 0 fr i))), (pe, .inl (cI, 256, .inl fp))]) hD hS hA [0, 1, 2, 3] rfl
      refine va_callv (va_runV (As := [.int en]) (rest := []) ⟨hx, hb, hml, hown, hts⟩ (r_mark l D cI cZ re sr rc pe fs (filI 0 fr i) fp 0 en H.size (Nat.zero_le _)) ⟨cB 1 hts k_388 k_57 k_385 hd_RE_mark ⟨Nat.le_of_ble_eq_true rfl, Nat.le_of_ble_eq_true rfl⟩ rfl rfl, hts _ k_387, hts _ k_2⟩ (PcW.preV (va_recv hK hP (q0 := 0) (ci := 1) rfl rfl) hPc hK hDc hN) rfl rfl hl.1 rfl (lv_room (Nat.le_of_ble_eq_true rfl)) d_RE_walk_29 ⟨Nat.le_of_ble_eq_true rfl, Nat.le_of_ble_eq_true rfl⟩) hS (fun q _ h => hFc q h) hFc (fun u t H1 locs ht hvm e29 hB hz1 hk1 hS => ?_)
      obtain ⟨fr129, fp129, fd129⟩ := u
      obtain ⟨hP1, hK1, hD1⟩ := hB
      rw [ht] at hP1
      obtain ⟨hP, hD⟩ := va_join (wr := []) (w1 := [(re, .inr (1, [.ref sr, .ref rc, .ref pe, .int (nI fd129)])), (sr, .inl (cI, 256, .inl fs)), (rc, .inl (cZ, 256, .inl fr129)), (pe, .inl (cI, 256, .inl fp129))]) hP hD [0, 1, 2, 3] [] rfl rfl (by decide) (by decide) hk1 hFc hP1 hD1
      generalize H1 = H at hP hS ⊢
      try dsimp only at e29
      have hP : va_P D vwCl [(re, .inr (1, [.ref sr, .ref rc, .ref pe, .int (nI fd129)])), (sr, .inl (cI, 256, .inl fs)), (rc, .inl (cZ, 256, .inl fr129)), (pe, .inl (cI, 256, .inl fp129))] H := hP
      have hD : va_D A [(re, .inr (1, [.ref sr, .ref rc, .ref pe, .int (nI fd129)])), (sr, .inl (cI, 256, .inl fs)), (rc, .inl (cZ, 256, .inl fr129)), (pe, .inl (cI, 256, .inl fp129))] := hD
      refine lv_iconst (v := 0) hx hb d_RE_walk_32 (by decide) ?_
      refine lv_istore_n hx hb d_RE_walk_33 rfl hl (by decide) rfl (fun ls hl => ?_)
      have hl : lv_has ls 3 [(2, .int 0), (0, .ref re), (1, .int en)] := hl
      rw [show i = 256 from hk] at e29
      have loop2 : ∀ (k : Nat) (d : Nat) (frL : Nat → Int32) (fpL : Nat → Int32) (fdL : Nat), (d + k = 256) → (fdL ≤ 256) → (wlk fs 256 0 (mrk (filI 0 fr 256, fp, 0) en) = wlk fs k d (frL, fpL, fdL)) → ∀ (H : Heap) (locs : List Loc) (ls : Array Slot), lv_has ls 3 [(2, .int (nI d)), (0, .ref re), (1, .int en)] → va_P D vwCl [(re, .inr (1, [.ref sr, .ref rc, .ref pe, .int (nI fdL)])), (sr, .inl (cI, 256, .inl fs)), (rc, .inl (cZ, 256, .inl frL)), (pe, .inl (cI, 256, .inl fpL))] H → va_D A [(re, .inr (1, [.ref sr, .ref rc, .ref pe, .int (nI fdL)])), (sr, .inl (cI, 256, .inl fs)), (rc, .inl (cZ, 256, .inl frL)), (pe, .inl (cI, 256, .inl fpL))] → va_S A s.heap H locs → W p l e { frames := 3, cells := 0, slots := 0, locals := 63 } s m args below meth c H locs 0 0 (MQ below (QV D cI cZ (fun (u : (Nat → Int32) × (Nat → Int32) × Nat) => match u with | (fr1, fp1, fd1) => (fr1, fp1, fd1) = wlk fs 256 0 (mrk (filI 0 fr 256, fp, 0) en) ∧ fd1 ≤ 256) (fun (u : (Nat → Int32) × (Nat → Int32) × Nat) => match u with | (fr1, fp1, fd1) => [(re, .inr (1, [.ref sr, .ref rc, .ref pe, .int (nI fd1)])), (sr, .inl (cI, 256, .inl fs)), (rc, .inl (cZ, 256, .inl fr1)), (pe, .inl (cI, 256, .inl fp1))]) A) args s 0 0 A) (F0 m 34 ls []) := by
        intro k
        induction k with
        | zero =>
          intro d frL fpL fdL hk2 hfd hI H locs ls hl hP hD hS
          refine lv_iload_n hx hb d_RE_walk_34 rfl (lv_at hl 0 rfl) ?_
          refine lv_aload_n hx hb d_RE_walk_35 rfl (lv_at hl 1 rfl) ?_
          refine va_get (D := D) (ci := 1) (v := .int (nI fdL)) (C := R_RE) (T := T_RE) (N := 4) hx hb hts iw_RE hown hK hP 0 rfl rfl 3 (by decide) (hts _ k_88) (fun _ h9 => h9) rfl d_RE_walk_36 ?_
          refine lv_icmp_ge (tgt := 65) hx hb d_RE_walk_39 rfl (fun h39 => ?_) (fun h39 => ?_)
          · have hfin : (frL, fpL, fdL) = wlk fs 256 0 (mrk (filI 0 fr 256, fp, 0) en) := by rw [hI, wlk]
            have hP9 : va_P D vwCl [(re, .inr (1, [.ref sr, .ref rc, .ref pe, .int (nI fdL)])), (sr, .inl (cI, 256, .inl fs)), (rc, .inl (cZ, 256, .inl frL)), (pe, .inl (cI, 256, .inl fpL))] H := hP.sub [0, 1, 2, 3] rfl
            have hD9 : va_D A [(re, .inr (1, [.ref sr, .ref rc, .ref pe, .int (nI fdL)])), (sr, .inl (cI, 256, .inl fs)), (rc, .inl (cZ, 256, .inl frL)), (pe, .inl (cI, 256, .inl fpL))] := hD.sub [0, 1, 2, 3] (by decide) rfl
            exact W.vret hx hb hr (fun t ht hW => ⟨⟨(frL, fpL, fdL), rfl, ⟨hfin, hfd⟩, by rw [ht]; exact hP9, va_K.moved hW.alike hK, hD9⟩, hS.F ht⟩) hS.2.2 d_RE_walk_65
          · refine lv_iload_n hx hb d_RE_walk_42 rfl (lv_at hl 0 rfl) ?_
            refine lv_sipush (v := 256) hx hb d_RE_walk_43 (by decide) ?_
            refine lv_icmp_ge (tgt := 65) hx hb d_RE_walk_46 rfl (fun _ => ?_) (fun h9 => absurd (by rw [show d = 256 from hk2]; decide) h9)
            have hfin : (frL, fpL, fdL) = wlk fs 256 0 (mrk (filI 0 fr 256, fp, 0) en) := by rw [hI, wlk]
            have hP9 : va_P D vwCl [(re, .inr (1, [.ref sr, .ref rc, .ref pe, .int (nI fdL)])), (sr, .inl (cI, 256, .inl fs)), (rc, .inl (cZ, 256, .inl frL)), (pe, .inl (cI, 256, .inl fpL))] H := hP.sub [0, 1, 2, 3] rfl
            have hD9 : va_D A [(re, .inr (1, [.ref sr, .ref rc, .ref pe, .int (nI fdL)])), (sr, .inl (cI, 256, .inl fs)), (rc, .inl (cZ, 256, .inl frL)), (pe, .inl (cI, 256, .inl fpL))] := hD.sub [0, 1, 2, 3] (by decide) rfl
            exact W.vret hx hb hr (fun t ht hW => ⟨⟨(frL, fpL, fdL), rfl, ⟨hfin, hfd⟩, by rw [ht]; exact hP9, va_K.moved hW.alike hK, hD9⟩, hS.F ht⟩) hS.2.2 d_RE_walk_65
        | succ k ih =>
          intro d frL fpL fdL hk2 hfd hI H locs ls hl hP hD hS
          refine lv_iload_n hx hb d_RE_walk_34 rfl (lv_at hl 0 rfl) ?_
          refine lv_aload_n hx hb d_RE_walk_35 rfl (lv_at hl 1 rfl) ?_
          refine va_get (D := D) (ci := 1) (v := .int (nI fdL)) (C := R_RE) (T := T_RE) (N := 4) hx hb hts iw_RE hown hK hP 0 rfl rfl 3 (by decide) (hts _ k_88) (fun _ h9 => h9) rfl d_RE_walk_36 ?_
          refine lv_icmp_ge (tgt := 65) hx hb d_RE_walk_39 rfl (fun h39 => ?_) (fun h39 => ?_)
          · have hfin : (frL, fpL, fdL) = wlk fs 256 0 (mrk (filI 0 fr 256, fp, 0) en) := by rw [hI, wlk, if_neg (show ¬ d < fdL from Nat.not_lt.mpr ((nI_leI (by omega) (by omega)).mp h39))]
            have hP9 : va_P D vwCl [(re, .inr (1, [.ref sr, .ref rc, .ref pe, .int (nI fdL)])), (sr, .inl (cI, 256, .inl fs)), (rc, .inl (cZ, 256, .inl frL)), (pe, .inl (cI, 256, .inl fpL))] H := hP.sub [0, 1, 2, 3] rfl
            have hD9 : va_D A [(re, .inr (1, [.ref sr, .ref rc, .ref pe, .int (nI fdL)])), (sr, .inl (cI, 256, .inl fs)), (rc, .inl (cZ, 256, .inl frL)), (pe, .inl (cI, 256, .inl fpL))] := hD.sub [0, 1, 2, 3] (by decide) rfl
            exact W.vret hx hb hr (fun t ht hW => ⟨⟨(frL, fpL, fdL), rfl, ⟨hfin, hfd⟩, by rw [ht]; exact hP9, va_K.moved hW.alike hK, hD9⟩, hS.F ht⟩) hS.2.2 d_RE_walk_65
          · refine lv_iload_n hx hb d_RE_walk_42 rfl (lv_at hl 0 rfl) ?_
            refine lv_sipush (v := 256) hx hb d_RE_walk_43 (by decide) ?_
            refine lv_icmp_ge (tgt := 65) hx hb d_RE_walk_46 rfl (fun h9 => absurd h9 (nI_ge (b := 256) (by omega) (by decide))) (fun _ => ?_)
            refine lv_aload_n hx hb d_RE_walk_49 rfl (lv_at hl 1 rfl) ?_
            refine lv_aload_n hx hb d_RE_walk_50 rfl (lv_at hl 1 rfl) ?_
            refine va_get (D := D) (ci := 1) (v := .ref pe) (C := R_RE) (T := T_RE) (N := 4) hx hb hts iw_RE hown hK hP 0 rfl rfl 2 (by decide) (hts _ k_87) (fun _ h9 => h9) rfl d_RE_walk_51 ?_
            refine lv_iload_n hx hb d_RE_walk_54 rfl (lv_at hl 0 rfl) ?_
            refine va_iald hx hb hK hP 3 0 rfl rfl (vp_in_nI (by omega) (by decide)) d_RE_walk_55 ?_
            refine lv_topi (fun y9 e9 => ?_)
            have e9 : y9 = fpL d := e9.trans (by rw [nI_clamp (by omega)])
            subst e9
            have hPc := hP.sub (ws' := [(re, .inr (1, [.ref sr, .ref rc, .ref pe, .int (nI fdL)])), (sr, .inl (cI, 256, .inl fs)), (rc, .inl (cZ, 256, .inl frL)), (pe, .inl (cI, 256, .inl fpL))]) [0, 1, 2, 3] rfl
            have hDc := hD.sub (ws' := [(re, .inr (1, [.ref sr, .ref rc, .ref pe, .int (nI fdL)])), (sr, .inl (cI, 256, .inl fs)), (rc, .inl (cZ, 256, .inl frL)), (pe, .inl (cI, 256, .inl fpL))]) [0, 1, 2, 3] (by decide) rfl
            have hFc := va_free (wc := [(re, .inr (1, [.ref sr, .ref rc, .ref pe, .int (nI fdL)])), (sr, .inl (cI, 256, .inl fs)), (rc, .inl (cZ, 256, .inl frL)), (pe, .inl (cI, 256, .inl fpL))]) hD hS hA [0, 1, 2, 3] rfl
            refine va_callv (va_runV (As := [.int (fpL d)]) (rest := []) ⟨hx, hb, hml, hown, hts⟩ (r_follow l D cI cZ re sr rc pe fs frL fpL fdL (fpL d) H.size hfd) ⟨cB 1 hts k_392 k_57 k_389 hd_RE_follow ⟨Nat.le_of_ble_eq_true rfl, Nat.le_of_ble_eq_true rfl⟩ rfl rfl, hts _ k_391, hts _ k_3⟩ (PcW.preV (va_recv hK hP (q0 := 0) (ci := 1) rfl rfl) hPc hK hDc hN) rfl rfl hl.1 rfl (lv_room (Nat.le_of_ble_eq_true rfl)) d_RE_walk_56 ⟨Nat.le_of_ble_eq_true rfl, Nat.le_of_ble_eq_true rfl⟩) hS (fun q _ h => hFc q h) hFc (fun u t H1 locs ht hvm e56 hB hz1 hk1 hS => ?_)
            obtain ⟨fr156, fp156, fd156⟩ := u
            obtain ⟨hP1, hK1, hD1⟩ := hB
            rw [ht] at hP1
            obtain ⟨hP, hD⟩ := va_join (wr := []) (w1 := [(re, .inr (1, [.ref sr, .ref rc, .ref pe, .int (nI fd156)])), (sr, .inl (cI, 256, .inl fs)), (rc, .inl (cZ, 256, .inl fr156)), (pe, .inl (cI, 256, .inl fp156))]) hP hD [0, 1, 2, 3] [] rfl rfl (by decide) (by decide) hk1 hFc hP1 hD1
            generalize H1 = H at hP hS ⊢
            try dsimp only at e56
            have hP : va_P D vwCl [(re, .inr (1, [.ref sr, .ref rc, .ref pe, .int (nI fd156)])), (sr, .inl (cI, 256, .inl fs)), (rc, .inl (cZ, 256, .inl fr156)), (pe, .inl (cI, 256, .inl fp156))] H := hP
            have hD : va_D A [(re, .inr (1, [.ref sr, .ref rc, .ref pe, .int (nI fd156)])), (sr, .inl (cI, 256, .inl fs)), (rc, .inl (cZ, 256, .inl fr156)), (pe, .inl (cI, 256, .inl fp156))] := hD
            refine lv_iinc (k := 0) (v := nI (d + 1)) hx hb d_RE_walk_59 hl rfl (nI_inc _) (by decide) rfl (fun ls hl => ?_)
            have hl : lv_has ls 3 [(2, .int (nI (d + 1))), (0, .ref re), (1, .int en)] := hl
            refine lv_goto (tgt := 34) hx hb d_RE_walk_62 rfl ?_
            exact ih (d + 1) fr156 fp156 fd156 (by omega) e56.2 (by rw [hI, e56.1, wlk, if_pos (show d < fdL from Nat.lt_of_not_le (fun q => h39 (nI_le q (by omega))))]) H locs ls hl hP hD hS
      exact loop2 256 0 fr129 fp129 fd129 rfl e29.2 (by rw [e29.1]) H locs ls hl hP hD hS
    | succ k ih =>
      intro i hk H locs ls hl hP hD hS
      refine lv_iload_n hx hb d_RE_walk_2 rfl (lv_at hl 0 rfl) ?_
      refine lv_sipush (v := 256) hx hb d_RE_walk_3 (by decide) ?_
      refine lv_icmp_ge (tgt := 22) hx hb d_RE_walk_6 rfl (fun h9 => absurd h9 (nI_ge (b := 256) (by omega) (by decide))) (fun _ => ?_)
      refine lv_aload_n hx hb d_RE_walk_9 rfl (lv_at hl 1 rfl) ?_
      refine va_get (D := D) (ci := 1) (v := .ref rc) (C := R_RE) (T := T_RE) (N := 4) hx hb hts iw_RE hown hK hP 0 rfl rfl 1 (by decide) (hts _ k_86) (fun _ h9 => h9) rfl d_RE_walk_10 ?_
      refine lv_iload_n hx hb d_RE_walk_13 rfl (lv_at hl 0 rfl) ?_
      refine lv_iconst (v := 0) hx hb d_RE_walk_14 (by decide) ?_
      refine va_zast hx hb hK hP hD hS 2 1 rfl rfl (vp_in_nI (by omega) (by decide)) d_RE_walk_15 (fun H locs hP hD hS => ?_)
      have hP : va_P D vwCl [(re, .inr (1, [.ref sr, .ref rc, .ref pe, .int f0])), (sr, .inl (cI, 256, .inl fs)), (rc, .inl (cZ, 256, .inl (upd (filI 0 fr i) (nI i).toNatClampNeg 0))), (pe, .inl (cI, 256, .inl fp))] H := hP
      have hD : va_D A [(re, .inr (1, [.ref sr, .ref rc, .ref pe, .int f0])), (sr, .inl (cI, 256, .inl fs)), (rc, .inl (cZ, 256, .inl (upd (filI 0 fr i) (nI i).toNatClampNeg 0))), (pe, .inl (cI, 256, .inl fp))] := hD
      refine lv_iinc (k := 0) (v := nI (i + 1)) hx hb d_RE_walk_16 hl rfl (nI_inc _) (by decide) rfl (fun ls hl => ?_)
      have hl : lv_has ls 3 [(2, .int (nI (i + 1))), (0, .ref re), (1, .int en)] := hl
      refine lv_goto (tgt := 2) hx hb d_RE_walk_19 rfl ?_
      rw [show upd (filI 0 fr i) (nI i).toNatClampNeg 0 = filI 0 fr (i + 1) from filI_step (by omega)] at hP hD
      exact ih (i + 1) (by omega) H locs ls hl hP hD hS
  exact loop1 256 0 rfl H [] ls hl hP hD hS
