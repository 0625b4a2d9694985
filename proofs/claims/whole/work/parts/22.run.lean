set_option maxHeartbeats 4000000 in
set_option maxRecDepth 100000 in
theorem m_FM_run (l : Launch) (D : va_G) (cI cZ : ClassId) (o : Nat) (mm : Nat) (a : Int32) (x : Int32) (sp : Int32) (pc : Int32) (zf : Bool) (cf : Bool) (st : Int32) (dn : Int32) (g : Nat → Int32) (M : Nat) (sz : Nat) (hM : M < 2 ^ 31) : MetI l y_MA_run w_MA_run { frames := 4, cells := 0, slots := 0, locals := 89 } D cI cZ [.ref o, .int (nI M)] [(o, .inr (3, [.ref mm, .int a, .int x, .int sp, .int pc, .int (bI zf), .int (bI cf), .int st, .int dn])), (mm, .inl (cI, 256, .inl g))] sz (fun r (u : (Nat → Int32) × Int32 × Int32 × Int32 × Int32 × Bool × Bool × Int32 × Int32) => match u with | (g1, a1, x1, sp1, pc1, z1, c1, st1, dn1) => r = nI (fIter M (g, a, x, sp, pc, zf, cf, st)).1 ∧ (g1, a1, x1, sp1, pc1, z1, c1, st1) = (fIter M (g, a, x, sp, pc, zf, cf, st)).2 ∧ dn1 = dn + nI (fIter M (g, a, x, sp, pc, zf, cf, st)).1) (fun (u : (Nat → Int32) × Int32 × Int32 × Int32 × Int32 × Bool × Bool × Int32 × Int32) => match u with | (g1, a1, x1, sp1, pc1, z1, c1, st1, dn1) => [(o, .inr (3, [.ref mm, .int a1, .int x1, .int sp1, .int pc1, .int (bI z1), .int (bI c1), .int st1, .int dn1])), (mm, .inl (cI, 256, .inl g1))]) 0 0 := by
  refine ofI (cc := c_MA_run) (maxL := 3) (ret := (some .int)) (by decide) rfl (Nat.le_of_ble_eq_true rfl) ?_
  intro p e s m args below meth c A H hH0 hx hb hr hlocks hts hown hnm hml ls hl hP hK hD hA hS hN
  have hown : s.vm.findClass R_MA = some m.cls := hown
  have hl : lv_has ls 3 [(0, .ref o), (1, .int (nI M))] := hl
  refine lv_iconst (v := 0) hx hb d_MA_run_0 (by decide) ?_
  refine lv_istore_n hx hb d_MA_run_1 rfl hl (by decide) rfl (fun ls hl => ?_)
  have hl : lv_has ls 3 [(2, .int 0), (0, .ref o), (1, .int (nI M))] := hl
  have loop : ∀ (k : Nat) (d : Nat) (gL : Nat → Int32) (aL : Int32) (xL : Int32) (spL : Int32) (pcL : Int32) (zfL : Bool) (cfL : Bool) (stL : Int32), (d + k = M) → (fIter M (g, a, x, sp, pc, zf, cf, st) = ((fIter k (gL, aL, xL, spL, pcL, zfL, cfL, stL)).1 + d, (fIter k (gL, aL, xL, spL, pcL, zfL, cfL, stL)).2)) → ∀ (H : Heap) (locs : List Loc) (ls : Array Slot), lv_has ls 3 [(2, .int (nI d)), (0, .ref o), (1, .int (nI M))] → va_P D vwCl [(o, .inr (3, [.ref mm, .int aL, .int xL, .int spL, .int pcL, .int (bI zfL), .int (bI cfL), .int stL, .int dn])), (mm, .inl (cI, 256, .inl gL))] H → va_D A [(o, .inr (3, [.ref mm, .int aL, .int xL, .int spL, .int pcL, .int (bI zfL), .int (bI cfL), .int stL, .int dn])), (mm, .inl (cI, 256, .inl gL))] → va_S A s.heap H locs → W p l e { frames := 4, cells := 0, slots := 0, locals := 89 } s m args below meth c H locs 0 0 (MQ below (QI D cI cZ (fun r (u : (Nat → Int32) × Int32 × Int32 × Int32 × Int32 × Bool × Bool × Int32 × Int32) => match u with | (g1, a1, x1, sp1, pc1, z1, c1, st1, dn1) => r = nI (fIter M (g, a, x, sp, pc, zf, cf, st)).1 ∧ (g1, a1, x1, sp1, pc1, z1, c1, st1) = (fIter M (g, a, x, sp, pc, zf, cf, st)).2 ∧ dn1 = dn + nI (fIter M (g, a, x, sp, pc, zf, cf, st)).1) (fun (u : (Nat → Int32) × Int32 × Int32 × Int32 × Int32 × Bool × Bool × Int32 × Int32) => match u with | (g1, a1, x1, sp1, pc1, z1, c1, st1, dn1) => [(o, .inr (3, [.ref mm, .int a1, .int x1, .int sp1, .int pc1, .int (bI z1), .int (bI c1), .int st1, .int dn1])), (mm, .inl (cI, 256, .inl g1))]) A) args s 0 0 A) (F0 m 2 ls []) := by
    intro k
    induction k with
    | zero =>
      intro d gL aL xL spL pcL zfL cfL stL hk hI H locs ls hl hP hD hS
      refine lv_iload_n hx hb d_MA_run_2 rfl (lv_at hl 0 rfl) ?_
      refine lv_iload_n hx hb d_MA_run_3 rfl (lv_at hl 2 rfl) ?_
      refine lv_icmp_ge (tgt := 24) hx hb d_MA_run_4 rfl (fun _ => ?_) (fun h9 => absurd (nI_le (by omega) (by omega)) h9)
      have hfin : fIter M (g, a, x, sp, pc, zf, cf, st) = (d, (gL, aL, xL, spL, pcL, zfL, cfL, stL)) := fIter_0 hI
      refine lv_aload_n hx hb d_MA_run_24 rfl (lv_at hl 1 rfl) ?_
      refine lv_dup hx hb d_MA_run_25 rfl ?_
      refine va_get (D := D) (ci := 3) (v := .int dn) (C := R_FM) (T := T_FM) (N := 9) hx hb hts iw_FM hown hK hP 0 rfl rfl 8 (by decide) (hts _ k_143) (fun _ h9 => h9) rfl d_MA_run_26 ?_
      refine lv_iload_n hx hb d_MA_run_29 rfl (lv_at hl 0 rfl) ?_
      refine lv_iadd hx hb d_MA_run_30 ?_
      refine va_put (D := D) (ci := 3) (v := .int (dn + (nI d))) (ty := .int) (C := R_FM) (T := T_FM) (N := 9) hx hb hts iw_FM ty_FM ty_FM_ok nm_FM hown hK hP hD hS 0 rfl rfl 8 (by decide) (hts _ k_143) (fun _ h9 => h9) rfl (by decide +kernel) rfl rfl (Nat.le_of_ble_eq_true rfl) d_MA_run_31 (fun H locs hP hD hS => ?_)
      have hP : va_P D vwCl [(o, .inr (3, [.ref mm, .int aL, .int xL, .int spL, .int pcL, .int (bI zfL), .int (bI cfL), .int stL, .int (dn + (nI d))])), (mm, .inl (cI, 256, .inl gL))] H := hP
      have hD : va_D A [(o, .inr (3, [.ref mm, .int aL, .int xL, .int spL, .int pcL, .int (bI zfL), .int (bI cfL), .int stL, .int (dn + (nI d))])), (mm, .inl (cI, 256, .inl gL))] := hD
      refine lv_iload_n hx hb d_MA_run_34 rfl (lv_at hl 0 rfl) ?_
      have hP9 : va_P D vwCl [(o, .inr (3, [.ref mm, .int aL, .int xL, .int spL, .int pcL, .int (bI zfL), .int (bI cfL), .int stL, .int (dn + (nI d))])), (mm, .inl (cI, 256, .inl gL))] H := hP.sub [0, 1] rfl
      have hD9 : va_D A [(o, .inr (3, [.ref mm, .int aL, .int xL, .int spL, .int pcL, .int (bI zfL), .int (bI cfL), .int stL, .int (dn + (nI d))])), (mm, .inl (cI, 256, .inl gL))] := hD.sub [0, 1] (by decide) rfl
      exact W.iret (v := (nI d)) hx hb hr (fun t ht hW => ⟨⟨(nI d), (gL, aL, xL, spL, pcL, zfL, cfL, stL, dn + (nI d)), rfl, by rw [hfin]; exact ⟨rfl, rfl, rfl⟩, by rw [ht]; exact hP9, va_K.moved hW.alike hK, hD9⟩, hS.F ht⟩) hS.2.2 d_MA_run_35
    | succ k ih =>
      intro d gL aL xL spL pcL zfL cfL stL hk hI H locs ls hl hP hD hS
      refine lv_iload_n hx hb d_MA_run_2 rfl (lv_at hl 0 rfl) ?_
      refine lv_iload_n hx hb d_MA_run_3 rfl (lv_at hl 2 rfl) ?_
      refine lv_icmp_ge (tgt := 24) hx hb d_MA_run_4 rfl (fun h9 => absurd h9 (nI_ge (by omega) hM)) (fun _ => ?_)
      refine lv_aload_n hx hb d_MA_run_7 rfl (lv_at hl 1 rfl) ?_
      refine va_get (D := D) (ci := 3) (v := .int stL) (C := R_FM) (T := T_FM) (N := 9) hx hb hts iw_FM hown hK hP 0 rfl rfl 7 (by decide) (hts _ k_142) (fun _ h9 => h9) rfl d_MA_run_8 ?_
      refine lv_if_ne (tgt := 24) hx hb d_MA_run_11 rfl (fun h11 => ?_) (fun h11 => ?_)
      · have hfin : fIter M (g, a, x, sp, pc, zf, cf, st) = (d, (gL, aL, xL, spL, pcL, zfL, cfL, stL)) := fIter_end hI h11
        refine lv_aload_n hx hb d_MA_run_24 rfl (lv_at hl 1 rfl) ?_
        refine lv_dup hx hb d_MA_run_25 rfl ?_
        refine va_get (D := D) (ci := 3) (v := .int dn) (C := R_FM) (T := T_FM) (N := 9) hx hb hts iw_FM hown hK hP 0 rfl rfl 8 (by decide) (hts _ k_143) (fun _ h9 => h9) rfl d_MA_run_26 ?_
        refine lv_iload_n hx hb d_MA_run_29 rfl (lv_at hl 0 rfl) ?_
        refine lv_iadd hx hb d_MA_run_30 ?_
        refine va_put (D := D) (ci := 3) (v := .int (dn + (nI d))) (ty := .int) (C := R_FM) (T := T_FM) (N := 9) hx hb hts iw_FM ty_FM ty_FM_ok nm_FM hown hK hP hD hS 0 rfl rfl 8 (by decide) (hts _ k_143) (fun _ h9 => h9) rfl (by decide +kernel) rfl rfl (Nat.le_of_ble_eq_true rfl) d_MA_run_31 (fun H locs hP hD hS => ?_)
        have hP : va_P D vwCl [(o, .inr (3, [.ref mm, .int aL, .int xL, .int spL, .int pcL, .int (bI zfL), .int (bI cfL), .int stL, .int (dn + (nI d))])), (mm, .inl (cI, 256, .inl gL))] H := hP
        have hD : va_D A [(o, .inr (3, [.ref mm, .int aL, .int xL, .int spL, .int pcL, .int (bI zfL), .int (bI cfL), .int stL, .int (dn + (nI d))])), (mm, .inl (cI, 256, .inl gL))] := hD
        refine lv_iload_n hx hb d_MA_run_34 rfl (lv_at hl 0 rfl) ?_
        have hP9 : va_P D vwCl [(o, .inr (3, [.ref mm, .int aL, .int xL, .int spL, .int pcL, .int (bI zfL), .int (bI cfL), .int stL, .int (dn + (nI d))])), (mm, .inl (cI, 256, .inl gL))] H := hP.sub [0, 1] rfl
        have hD9 : va_D A [(o, .inr (3, [.ref mm, .int aL, .int xL, .int spL, .int pcL, .int (bI zfL), .int (bI cfL), .int stL, .int (dn + (nI d))])), (mm, .inl (cI, 256, .inl gL))] := hD.sub [0, 1] (by decide) rfl
        exact W.iret (v := (nI d)) hx hb hr (fun t ht hW => ⟨⟨(nI d), (gL, aL, xL, spL, pcL, zfL, cfL, stL, dn + (nI d)), rfl, by rw [hfin]; exact ⟨rfl, rfl, rfl⟩, by rw [ht]; exact hP9, va_K.moved hW.alike hK, hD9⟩, hS.F ht⟩) hS.2.2 d_MA_run_35
      · refine lv_aload_n hx hb d_MA_run_14 rfl (lv_at hl 1 rfl) ?_
        have hPc := hP.sub (ws' := [(o, .inr (3, [.ref mm, .int aL, .int xL, .int spL, .int pcL, .int (bI zfL), .int (bI cfL), .int stL, .int dn])), (mm, .inl (cI, 256, .inl gL))]) [0, 1] rfl
        have hDc := hD.sub (ws' := [(o, .inr (3, [.ref mm, .int aL, .int xL, .int spL, .int pcL, .int (bI zfL), .int (bI cfL), .int stL, .int dn])), (mm, .inl (cI, 256, .inl gL))]) [0, 1] (by decide) rfl
        have hFc := va_free (wc := [(o, .inr (3, [.ref mm, .int aL, .int xL, .int spL, .int pcL, .int (bI zfL), .int (bI cfL), .int stL, .int dn])), (mm, .inl (cI, 256, .inl gL))]) hD hS hA [0, 1] rfl
        refine va_callv (va_runU (As := []) (rest := []) ⟨hx, hb, hml, hown, hts⟩ (m_FM_step l D cI cZ o mm aL xL spL pcL zfL cfL stL dn gL H.size) (va_cwA 0 hts (gU k_517 k_519 k_520 k_521 k_59 k_522) rfl rfl rfl (nw_12 hN) (by decide +kernel) ⟨Nat.le_of_ble_eq_true rfl, Nat.le_of_ble_eq_true rfl⟩) (PcW.preV (va_recv hK hP (q0 := 0) (ci := 3) rfl rfl) hPc hK hDc hN) rfl rfl hl.1 rfl (lv_room (Nat.le_of_ble_eq_true rfl)) d_MA_run_15 ⟨Nat.le_of_ble_eq_true rfl, Nat.le_of_ble_eq_true rfl⟩) hS (fun q _ h => hFc q h) hFc (fun u t H1 locs ht hvm e15 hB hz1 hk1 hS => ?_)
        obtain ⟨g115, a115, x115, sp115, pc115, z115, c115, st115⟩ := u
        obtain ⟨hP1, hK1, hD1⟩ := hB
        rw [ht] at hP1
        obtain ⟨hP, hD⟩ := va_join (wr := []) (w1 := [(o, .inr (3, [.ref mm, .int a115, .int x115, .int sp115, .int pc115, .int (bI z115), .int (bI c115), .int st115, .int dn])), (mm, .inl (cI, 256, .inl g115))]) hP hD [0, 1] [] rfl rfl (by decide) (by decide) hk1 hFc hP1 hD1
        generalize H1 = H at hP hS ⊢
        try dsimp only at e15
        have hP : va_P D vwCl [(o, .inr (3, [.ref mm, .int a115, .int x115, .int sp115, .int pc115, .int (bI z115), .int (bI c115), .int st115, .int dn])), (mm, .inl (cI, 256, .inl g115))] H := hP
        have hD : va_D A [(o, .inr (3, [.ref mm, .int a115, .int x115, .int sp115, .int pc115, .int (bI z115), .int (bI c115), .int st115, .int dn])), (mm, .inl (cI, 256, .inl g115))] := hD
        refine lv_iinc (k := 0) (v := nI (d + 1)) hx hb d_MA_run_18 hl rfl (nI_inc _) (by decide) rfl (fun ls hl => ?_)
        have hl : lv_has ls 3 [(2, .int (nI (d + 1))), (0, .ref o), (1, .int (nI M))] := hl
        refine lv_goto (tgt := 2) hx hb d_MA_run_21 rfl ?_
        have e15 : (g115, a115, x115, sp115, pc115, z115, c115, st115) = fStepU (gL, aL, xL, spL, pcL, zfL, cfL, stL) := e15
        exact ih (d + 1) g115 a115 x115 sp115 pc115 z115 c115 st115 (by omega) (by rw [e15]; exact fIter_step hI h11) H locs ls hl hP hD hS
  exact loop M 0 g a x sp pc zf cf st (Nat.zero_add M) rfl H [] ls hl hP hD hS
set_option maxHeartbeats 4000000 in
set_option maxRecDepth 100000 in
theorem m_SM_run (l : Launch) (D : va_G) (cI cZ : ClassId) (o : Nat) (mm : Nat) (a : Int32) (x : Int32) (sp : Int32) (pc : Int32) (zf : Bool) (cf : Bool) (st : Int32) (dn : Int32) (r2 : Int32) (kp : Bool) (pr : Nat) (nu : Nat) (xs : Nat) (ys : Nat) (be : Nat) (wh : Nat) (n : Int32) (g : Nat → Int32) (fn : Nat → Int32) (fx : Nat → Int32) (fy : Nat → Int32) (fw : Nat → Int32) (M : Nat) (sz : Nat) (hM : M < 2 ^ 31) (hn : n ≤ 1024) : MetI l y_MA_run w_MA_run { frames := 4, cells := 0, slots := 0, locals := 93 } D cI cZ [.ref o, .int (nI M)] [(o, .inr (4, [.ref mm, .int a, .int x, .int sp, .int pc, .int (bI zf), .int (bI cf), .int st, .int dn, .ref pr, .int r2, .int (bI kp)])), (mm, .inl (cI, 256, .inl g)), (pr, .inr (2, [.ref nu, .ref xs, .ref ys, .ref be, .ref wh, .int n])), (nu, .inl (cI, 1024, .inl fn)), (xs, .inl (cI, 1024, .inl fx)), (ys, .inl (cI, 1024, .inl fy)), (wh, .inl (cI, 256, .inl fw))] sz (fun r (u : (Nat → Int32) × Int32 × Int32 × Int32 × Int32 × Bool × Bool × Int32 × Int32 × Bool × Int32) => match u with | (g1, a1, x1, sp1, pc1, z1, c1, st1, r21, kp1, dn1) => r = nI (sIter (sStepU n fn fx fy fw) M (g, a, x, sp, pc, zf, cf, st, r2, kp)).1 ∧ (g1, a1, x1, sp1, pc1, z1, c1, st1, r21, kp1) = (sIter (sStepU n fn fx fy fw) M (g, a, x, sp, pc, zf, cf, st, r2, kp)).2 ∧ dn1 = dn + nI (sIter (sStepU n fn fx fy fw) M (g, a, x, sp, pc, zf, cf, st, r2, kp)).1) (fun (u : (Nat → Int32) × Int32 × Int32 × Int32 × Int32 × Bool × Bool × Int32 × Int32 × Bool × Int32) => match u with | (g1, a1, x1, sp1, pc1, z1, c1, st1, r21, kp1, dn1) => [(o, .inr (4, [.ref mm, .int a1, .int x1, .int sp1, .int pc1, .int (bI z1), .int (bI c1), .int st1, .int dn1, .ref pr, .int r21, .int (bI kp1)])), (mm, .inl (cI, 256, .inl g1)), (pr, .inr (2, [.ref nu, .ref xs, .ref ys, .ref be, .ref wh, .int n])), (nu, .inl (cI, 1024, .inl fn)), (xs, .inl (cI, 1024, .inl fx)), (ys, .inl (cI, 1024, .inl fy)), (wh, .inl (cI, 256, .inl fw))]) 0 0 := by
  refine ofI (cc := c_MA_run) (maxL := 3) (ret := (some .int)) (by decide) rfl (Nat.le_of_ble_eq_true rfl) ?_
  intro p e s m args below meth c A H hH0 hx hb hr hlocks hts hown hnm hml ls hl hP hK hD hA hS hN
  have hown : s.vm.findClass R_MA = some m.cls := hown
  have hl : lv_has ls 3 [(0, .ref o), (1, .int (nI M))] := hl
  refine lv_iconst (v := 0) hx hb d_MA_run_0 (by decide) ?_
  refine lv_istore_n hx hb d_MA_run_1 rfl hl (by decide) rfl (fun ls hl => ?_)
  have hl : lv_has ls 3 [(2, .int 0), (0, .ref o), (1, .int (nI M))] := hl
  have loop : ∀ (k : Nat) (d : Nat) (gL : Nat → Int32) (aL : Int32) (xL : Int32) (spL : Int32) (pcL : Int32) (zfL : Bool) (cfL : Bool) (stL : Int32) (r2L : Int32) (kpL : Bool), (d + k = M) → (sIter (sStepU n fn fx fy fw) M (g, a, x, sp, pc, zf, cf, st, r2, kp) = ((sIter (sStepU n fn fx fy fw) k (gL, aL, xL, spL, pcL, zfL, cfL, stL, r2L, kpL)).1 + d, (sIter (sStepU n fn fx fy fw) k (gL, aL, xL, spL, pcL, zfL, cfL, stL, r2L, kpL)).2)) → ∀ (H : Heap) (locs : List Loc) (ls : Array Slot), lv_has ls 3 [(2, .int (nI d)), (0, .ref o), (1, .int (nI M))] → va_P D vwCl [(o, .inr (4, [.ref mm, .int aL, .int xL, .int spL, .int pcL, .int (bI zfL), .int (bI cfL), .int stL, .int dn, .ref pr, .int r2L, .int (bI kpL)])), (mm, .inl (cI, 256, .inl gL)), (pr, .inr (2, [.ref nu, .ref xs, .ref ys, .ref be, .ref wh, .int n])), (nu, .inl (cI, 1024, .inl fn)), (xs, .inl (cI, 1024, .inl fx)), (ys, .inl (cI, 1024, .inl fy)), (wh, .inl (cI, 256, .inl fw))] H → va_D A [(o, .inr (4, [.ref mm, .int aL, .int xL, .int spL, .int pcL, .int (bI zfL), .int (bI cfL), .int stL, .int dn, .ref pr, .int r2L, .int (bI kpL)])), (mm, .inl (cI, 256, .inl gL)), (pr, .inr (2, [.ref nu, .ref xs, .ref ys, .ref be, .ref wh, .int n])), (nu, .inl (cI, 1024, .inl fn)), (xs, .inl (cI, 1024, .inl fx)), (ys, .inl (cI, 1024, .inl fy)), (wh, .inl (cI, 256, .inl fw))] → va_S A s.heap H locs → W p l e { frames := 4, cells := 0, slots := 0, locals := 93 } s m args below meth c H locs 0 0 (MQ below (QI D cI cZ (fun r (u : (Nat → Int32) × Int32 × Int32 × Int32 × Int32 × Bool × Bool × Int32 × Int32 × Bool × Int32) => match u with | (g1, a1, x1, sp1, pc1, z1, c1, st1, r21, kp1, dn1) => r = nI (sIter (sStepU n fn fx fy fw) M (g, a, x, sp, pc, zf, cf, st, r2, kp)).1 ∧ (g1, a1, x1, sp1, pc1, z1, c1, st1, r21, kp1) = (sIter (sStepU n fn fx fy fw) M (g, a, x, sp, pc, zf, cf, st, r2, kp)).2 ∧ dn1 = dn + nI (sIter (sStepU n fn fx fy fw) M (g, a, x, sp, pc, zf, cf, st, r2, kp)).1) (fun (u : (Nat → Int32) × Int32 × Int32 × Int32 × Int32 × Bool × Bool × Int32 × Int32 × Bool × Int32) => match u with | (g1, a1, x1, sp1, pc1, z1, c1, st1, r21, kp1, dn1) => [(o, .inr (4, [.ref mm, .int a1, .int x1, .int sp1, .int pc1, .int (bI z1), .int (bI c1), .int st1, .int dn1, .ref pr, .int r21, .int (bI kp1)])), (mm, .inl (cI, 256, .inl g1)), (pr, .inr (2, [.ref nu, .ref xs, .ref ys, .ref be, .ref wh, .int n])), (nu, .inl (cI, 1024, .inl fn)), (xs, .inl (cI, 1024, .inl fx)), (ys, .inl (cI, 1024, .inl fy)), (wh, .inl (cI, 256, .inl fw))]) A) args s 0 0 A) (F0 m 2 ls []) := by
    intro k
    induction k with
    | zero =>
      intro d gL aL xL spL pcL zfL cfL stL r2L kpL hk hI H locs ls hl hP hD hS
      refine lv_iload_n hx hb d_MA_run_2 rfl (lv_at hl 0 rfl) ?_
      refine lv_iload_n hx hb d_MA_run_3 rfl (lv_at hl 2 rfl) ?_
      refine lv_icmp_ge (tgt := 24) hx hb d_MA_run_4 rfl (fun _ => ?_) (fun h9 => absurd (nI_le (by omega) (by omega)) h9)
      have hfin : sIter (sStepU n fn fx fy fw) M (g, a, x, sp, pc, zf, cf, st, r2, kp) = (d, (gL, aL, xL, spL, pcL, zfL, cfL, stL, r2L, kpL)) := sIter_0 hI
      refine lv_aload_n hx hb d_MA_run_24 rfl (lv_at hl 1 rfl) ?_
      refine lv_dup hx hb d_MA_run_25 rfl ?_
      refine va_get (D := D) (ci := 4) (v := .int dn) (C := R_SM) (T := T_SM) (N := 12) hx hb hts iw_SM hown hK hP 0 rfl rfl 8 (by decide) (hts _ k_143) (fun _ h9 => h9) rfl d_MA_run_26 ?_
      refine lv_iload_n hx hb d_MA_run_29 rfl (lv_at hl 0 rfl) ?_
      refine lv_iadd hx hb d_MA_run_30 ?_
      refine va_put (D := D) (ci := 4) (v := .int (dn + (nI d))) (ty := .int) (C := R_SM) (T := T_SM) (N := 12) hx hb hts iw_SM ty_SM ty_SM_ok nm_SM hown hK hP hD hS 0 rfl rfl 8 (by decide) (hts _ k_143) (fun _ h9 => h9) rfl (by decide +kernel) rfl rfl (Nat.le_of_ble_eq_true rfl) d_MA_run_31 (fun H locs hP hD hS => ?_)
      have hP : va_P D vwCl [(o, .inr (4, [.ref mm, .int aL, .int xL, .int spL, .int pcL, .int (bI zfL), .int (bI cfL), .int stL, .int (dn + (nI d)), .ref pr, .int r2L, .int (bI kpL)])), (mm, .inl (cI, 256, .inl gL)), (pr, .inr (2, [.ref nu, .ref xs, .ref ys, .ref be, .ref wh, .int n])), (nu, .inl (cI, 1024, .inl fn)), (xs, .inl (cI, 1024, .inl fx)), (ys, .inl (cI, 1024, .inl fy)), (wh, .inl (cI, 256, .inl fw))] H := hP
      have hD : va_D A [(o, .inr (4, [.ref mm, .int aL, .int xL, .int spL, .int pcL, .int (bI zfL), .int (bI cfL), .int stL, .int (dn + (nI d)), .ref pr, .int r2L, .int (bI kpL)])), (mm, .inl (cI, 256, .inl gL)), (pr, .inr (2, [.ref nu, .ref xs, .ref ys, .ref be, .ref wh, .int n])), (nu, .inl (cI, 1024, .inl fn)), (xs, .inl (cI, 1024, .inl fx)), (ys, .inl (cI, 1024, .inl fy)), (wh, .inl (cI, 256, .inl fw))] := hD
      refine lv_iload_n hx hb d_MA_run_34 rfl (lv_at hl 0 rfl) ?_
      have hP9 : va_P D vwCl [(o, .inr (4, [.ref mm, .int aL, .int xL, .int spL, .int pcL, .int (bI zfL), .int (bI cfL), .int stL, .int (dn + (nI d)), .ref pr, .int r2L, .int (bI kpL)])), (mm, .inl (cI, 256, .inl gL)), (pr, .inr (2, [.ref nu, .ref xs, .ref ys, .ref be, .ref wh, .int n])), (nu, .inl (cI, 1024, .inl fn)), (xs, .inl (cI, 1024, .inl fx)), (ys, .inl (cI, 1024, .inl fy)), (wh, .inl (cI, 256, .inl fw))] H := hP.sub [0, 1, 2, 3, 4, 5, 6] rfl
      have hD9 : va_D A [(o, .inr (4, [.ref mm, .int aL, .int xL, .int spL, .int pcL, .int (bI zfL), .int (bI cfL), .int stL, .int (dn + (nI d)), .ref pr, .int r2L, .int (bI kpL)])), (mm, .inl (cI, 256, .inl gL)), (pr, .inr (2, [.ref nu, .ref xs, .ref ys, .ref be, .ref wh, .int n])), (nu, .inl (cI, 1024, .inl fn)), (xs, .inl (cI, 1024, .inl fx)), (ys, .inl (cI, 1024, .inl fy)), (wh, .inl (cI, 256, .inl fw))] := hD.sub [0, 1, 2, 3, 4, 5, 6] (by decide) rfl
      exact W.iret (v := (nI d)) hx hb hr (fun t ht hW => ⟨⟨(nI d), (gL, aL, xL, spL, pcL, zfL, cfL, stL, r2L, kpL, dn + (nI d)), rfl, by rw [hfin]; exact ⟨rfl, rfl, rfl⟩, by rw [ht]; exact hP9, va_K.moved hW.alike hK, hD9⟩, hS.F ht⟩) hS.2.2 d_MA_run_35
    | succ k ih =>
      intro d gL aL xL spL pcL zfL cfL stL r2L kpL hk hI H locs ls hl hP hD hS
      refine lv_iload_n hx hb d_MA_run_2 rfl (lv_at hl 0 rfl) ?_
      refine lv_iload_n hx hb d_MA_run_3 rfl (lv_at hl 2 rfl) ?_
      refine lv_icmp_ge (tgt := 24) hx hb d_MA_run_4 rfl (fun h9 => absurd h9 (nI_ge (by omega) hM)) (fun _ => ?_)
      refine lv_aload_n hx hb d_MA_run_7 rfl (lv_at hl 1 rfl) ?_
      refine va_get (D := D) (ci := 4) (v := .int stL) (C := R_SM) (T := T_SM) (N := 12) hx hb hts iw_SM hown hK hP 0 rfl rfl 7 (by decide) (hts _ k_142) (fun _ h9 => h9) rfl d_MA_run_8 ?_
      refine lv_if_ne (tgt := 24) hx hb d_MA_run_11 rfl (fun h11 => ?_) (fun h11 => ?_)
      · have hfin : sIter (sStepU n fn fx fy fw) M (g, a, x, sp, pc, zf, cf, st, r2, kp) = (d, (gL, aL, xL, spL, pcL, zfL, cfL, stL, r2L, kpL)) := sIter_end hI h11
        refine lv_aload_n hx hb d_MA_run_24 rfl (lv_at hl 1 rfl) ?_
        refine lv_dup hx hb d_MA_run_25 rfl ?_
        refine va_get (D := D) (ci := 4) (v := .int dn) (C := R_SM) (T := T_SM) (N := 12) hx hb hts iw_SM hown hK hP 0 rfl rfl 8 (by decide) (hts _ k_143) (fun _ h9 => h9) rfl d_MA_run_26 ?_
        refine lv_iload_n hx hb d_MA_run_29 rfl (lv_at hl 0 rfl) ?_
        refine lv_iadd hx hb d_MA_run_30 ?_
        refine va_put (D := D) (ci := 4) (v := .int (dn + (nI d))) (ty := .int) (C := R_SM) (T := T_SM) (N := 12) hx hb hts iw_SM ty_SM ty_SM_ok nm_SM hown hK hP hD hS 0 rfl rfl 8 (by decide) (hts _ k_143) (fun _ h9 => h9) rfl (by decide +kernel) rfl rfl (Nat.le_of_ble_eq_true rfl) d_MA_run_31 (fun H locs hP hD hS => ?_)
        have hP : va_P D vwCl [(o, .inr (4, [.ref mm, .int aL, .int xL, .int spL, .int pcL, .int (bI zfL), .int (bI cfL), .int stL, .int (dn + (nI d)), .ref pr, .int r2L, .int (bI kpL)])), (mm, .inl (cI, 256, .inl gL)), (pr, .inr (2, [.ref nu, .ref xs, .ref ys, .ref be, .ref wh, .int n])), (nu, .inl (cI, 1024, .inl fn)), (xs, .inl (cI, 1024, .inl fx)), (ys, .inl (cI, 1024, .inl fy)), (wh, .inl (cI, 256, .inl fw))] H := hP
        have hD : va_D A [(o, .inr (4, [.ref mm, .int aL, .int xL, .int spL, .int pcL, .int (bI zfL), .int (bI cfL), .int stL, .int (dn + (nI d)), .ref pr, .int r2L, .int (bI kpL)])), (mm, .inl (cI, 256, .inl gL)), (pr, .inr (2, [.ref nu, .ref xs, .ref ys, .ref be, .ref wh, .int n])), (nu, .inl (cI, 1024, .inl fn)), (xs, .inl (cI, 1024, .inl fx)), (ys, .inl (cI, 1024, .inl fy)), (wh, .inl (cI, 256, .inl fw))] := hD
        refine lv_iload_n hx hb d_MA_run_34 rfl (lv_at hl 0 rfl) ?_
        have hP9 : va_P D vwCl [(o, .inr (4, [.ref mm, .int aL, .int xL, .int spL, .int pcL, .int (bI zfL), .int (bI cfL), .int stL, .int (dn + (nI d)), .ref pr, .int r2L, .int (bI kpL)])), (mm, .inl (cI, 256, .inl gL)), (pr, .inr (2, [.ref nu, .ref xs, .ref ys, .ref be, .ref wh, .int n])), (nu, .inl (cI, 1024, .inl fn)), (xs, .inl (cI, 1024, .inl fx)), (ys, .inl (cI, 1024, .inl fy)), (wh, .inl (cI, 256, .inl fw))] H := hP.sub [0, 1, 2, 3, 4, 5, 6] rfl
        have hD9 : va_D A [(o, .inr (4, [.ref mm, .int aL, .int xL, .int spL, .int pcL, .int (bI zfL), .int (bI cfL), .int stL, .int (dn + (nI d)), .ref pr, .int r2L, .int (bI kpL)])), (mm, .inl (cI, 256, .inl gL)), (pr, .inr (2, [.ref nu, .ref xs, .ref ys, .ref be, .ref wh, .int n])), (nu, .inl (cI, 1024, .inl fn)), (xs, .inl (cI, 1024, .inl fx)), (ys, .inl (cI, 1024, .inl fy)), (wh, .inl (cI, 256, .inl fw))] := hD.sub [0, 1, 2, 3, 4, 5, 6] (by decide) rfl
        exact W.iret (v := (nI d)) hx hb hr (fun t ht hW => ⟨⟨(nI d), (gL, aL, xL, spL, pcL, zfL, cfL, stL, r2L, kpL, dn + (nI d)), rfl, by rw [hfin]; exact ⟨rfl, rfl, rfl⟩, by rw [ht]; exact hP9, va_K.moved hW.alike hK, hD9⟩, hS.F ht⟩) hS.2.2 d_MA_run_35
      · refine lv_aload_n hx hb d_MA_run_14 rfl (lv_at hl 1 rfl) ?_
        have hPc := hP.sub (ws' := [(o, .inr (4, [.ref mm, .int aL, .int xL, .int spL, .int pcL, .int (bI zfL), .int (bI cfL), .int stL, .int dn, .ref pr, .int r2L, .int (bI kpL)])), (mm, .inl (cI, 256, .inl gL)), (pr, .inr (2, [.ref nu, .ref xs, .ref ys, .ref be, .ref wh, .int n])), (nu, .inl (cI, 1024, .inl fn)), (xs, .inl (cI, 1024, .inl fx)), (ys, .inl (cI, 1024, .inl fy)), (wh, .inl (cI, 256, .inl fw))]) [0, 1, 2, 3, 4, 5, 6] rfl
        have hDc := hD.sub (ws' := [(o, .inr (4, [.ref mm, .int aL, .int xL, .int spL, .int pcL, .int (bI zfL), .int (bI cfL), .int stL, .int dn, .ref pr, .int r2L, .int (bI kpL)])), (mm, .inl (cI, 256, .inl gL)), (pr, .inr (2, [.ref nu, .ref xs, .ref ys, .ref be, .ref wh, .int n])), (nu, .inl (cI, 1024, .inl fn)), (xs, .inl (cI, 1024, .inl fx)), (ys, .inl (cI, 1024, .inl fy)), (wh, .inl (cI, 256, .inl fw))]) [0, 1, 2, 3, 4, 5, 6] (by decide) rfl
        have hFc := va_free (wc := [(o, .inr (4, [.ref mm, .int aL, .int xL, .int spL, .int pcL, .int (bI zfL), .int (bI cfL), .int stL, .int dn, .ref pr, .int r2L, .int (bI kpL)])), (mm, .inl (cI, 256, .inl gL)), (pr, .inr (2, [.ref nu, .ref xs, .ref ys, .ref be, .ref wh, .int n])), (nu, .inl (cI, 1024, .inl fn)), (xs, .inl (cI, 1024, .inl fx)), (ys, .inl (cI, 1024, .inl fy)), (wh, .inl (cI, 256, .inl fw))]) hD hS hA [0, 1, 2, 3, 4, 5, 6] rfl
        refine va_callv (va_runU (As := []) (rest := []) ⟨hx, hb, hml, hown, hts⟩ (m_SM_step l D cI cZ o mm aL xL spL pcL zfL cfL stL dn r2L kpL pr nu xs ys be wh n gL fn fx fy fw H.size hn) (va_cwA 0 hts (gU k_517 k_519 k_604 k_605 k_60 k_606) rfl rfl rfl (nw_12 hN) (by decide +kernel) ⟨Nat.le_of_ble_eq_true rfl, Nat.le_of_ble_eq_true rfl⟩) (PcW.preV (va_recv hK hP (q0 := 0) (ci := 4) rfl rfl) hPc hK hDc hN) rfl rfl hl.1 rfl (lv_room (Nat.le_of_ble_eq_true rfl)) d_MA_run_15 ⟨Nat.le_of_ble_eq_true rfl, Nat.le_of_ble_eq_true rfl⟩) hS (fun q _ h => hFc q h) hFc (fun u t H1 locs ht hvm e15 hB hz1 hk1 hS => ?_)
        obtain ⟨g115, a115, x115, sp115, pc115, z115, c115, st115, r2115, kp115⟩ := u
        obtain ⟨hP1, hK1, hD1⟩ := hB
        rw [ht] at hP1
        obtain ⟨hP, hD⟩ := va_join (wr := []) (w1 := [(o, .inr (4, [.ref mm, .int a115, .int x115, .int sp115, .int pc115, .int (bI z115), .int (bI c115), .int st115, .int dn, .ref pr, .int r2115, .int (bI kp115)])), (mm, .inl (cI, 256, .inl g115)), (pr, .inr (2, [.ref nu, .ref xs, .ref ys, .ref be, .ref wh, .int n])), (nu, .inl (cI, 1024, .inl fn)), (xs, .inl (cI, 1024, .inl fx)), (ys, .inl (cI, 1024, .inl fy)), (wh, .inl (cI, 256, .inl fw))]) hP hD [0, 1, 2, 3, 4, 5, 6] [] rfl rfl (by decide) (by decide) hk1 hFc hP1 hD1
        generalize H1 = H at hP hS ⊢
        try dsimp only at e15
        have hP : va_P D vwCl [(o, .inr (4, [.ref mm, .int a115, .int x115, .int sp115, .int pc115, .int (bI z115), .int (bI c115), .int st115, .int dn, .ref pr, .int r2115, .int (bI kp115)])), (mm, .inl (cI, 256, .inl g115)), (pr, .inr (2, [.ref nu, .ref xs, .ref ys, .ref be, .ref wh, .int n])), (nu, .inl (cI, 1024, .inl fn)), (xs, .inl (cI, 1024, .inl fx)), (ys, .inl (cI, 1024, .inl fy)), (wh, .inl (cI, 256, .inl fw))] H := hP
        have hD : va_D A [(o, .inr (4, [.ref mm, .int a115, .int x115, .int sp115, .int pc115, .int (bI z115), .int (bI c115), .int st115, .int dn, .ref pr, .int r2115, .int (bI kp115)])), (mm, .inl (cI, 256, .inl g115)), (pr, .inr (2, [.ref nu, .ref xs, .ref ys, .ref be, .ref wh, .int n])), (nu, .inl (cI, 1024, .inl fn)), (xs, .inl (cI, 1024, .inl fx)), (ys, .inl (cI, 1024, .inl fy)), (wh, .inl (cI, 256, .inl fw))] := hD
        refine lv_iinc (k := 0) (v := nI (d + 1)) hx hb d_MA_run_18 hl rfl (nI_inc _) (by decide) rfl (fun ls hl => ?_)
        have hl : lv_has ls 3 [(2, .int (nI (d + 1))), (0, .ref o), (1, .int (nI M))] := hl
        refine lv_goto (tgt := 2) hx hb d_MA_run_21 rfl ?_
        have e15 : (g115, a115, x115, sp115, pc115, z115, c115, st115, r2115, kp115) = sStepU n fn fx fy fw (gL, aL, xL, spL, pcL, zfL, cfL, stL, r2L, kpL) := e15
        exact ih (d + 1) g115 a115 x115 sp115 pc115 z115 c115 st115 r2115 kp115 (by omega) (by rw [e15]; exact sIter_step hI h11) H locs ls hl hP hD hS
  exact loop M 0 g a x sp pc zf cf st r2 kp (Nat.zero_add M) rfl H [] ls hl hP hD hS
