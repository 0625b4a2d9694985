set_option maxHeartbeats 4000000 in
set_option maxRecDepth 100000 in
theorem p_build (l : Launch) (D : va_G) (cI cZ : ClassId) (pr : Nat) (nu : Nat) (xs : Nat) (ys : Nat) (be : Nat) (wh : Nat) (fn : Nat → Int32) (fx : Nat → Int32) (fy : Nat → Int32) (re : Nat) (sr : Nat) (rc : Nat) (pe : Nat) (fs : Nat → Int32) (fr : Nat → Int32) (fp : Nat → Int32) (fd : Nat) (fw : Nat → Int32) (fb : Nat → Int32) (n0 : Int32) (sz : Nat) : MetV l y_PR_build w_PR_build { frames := 4, cells := 0, slots := 0, locals := 91 } D cI cZ [.ref pr, .ref re, .ref sr] [(pr, .inr (2, [.ref nu, .ref xs, .ref ys, .ref be, .ref wh, .int n0])), (nu, .inl (cI, 1024, .inl fn)), (xs, .inl (cI, 1024, .inl fx)), (ys, .inl (cI, 1024, .inl fy)), (wh, .inl (cI, 256, .inl fw)), (be, .inl (cZ, 1024, .inl fb)), (re, .inr (1, [.ref sr, .ref rc, .ref pe, .int (nI fd)])), (sr, .inl (cI, 256, .inl fs)), (rc, .inl (cZ, 256, .inl fr)), (pe, .inl (cI, 256, .inl fp))] sz (fun (u : Nat × (Nat → Int32) × (Nat → Int32) × (Nat → Int32) × (Nat → Int32) × (Nat → Int32)) => match u with | (n1, fn1, fx1, fy1, fw1, fb1) => ∃ fy0, (fw1, fb1, (n1, fn1, fx1, fy0)) = bldN fr fs 256 (fw, filI 0 fb 1024, (0, fn, fx, fy)) ∧ fy1 = tgtN fn1 fw1 n1 fy0 ∧ n1 ≤ 1024) (fun (u : Nat × (Nat → Int32) × (Nat → Int32) × (Nat → Int32) × (Nat → Int32) × (Nat → Int32)) => match u with | (n1, fn1, fx1, fy1, fw1, fb1) => [(pr, .inr (2, [.ref nu, .ref xs, .ref ys, .ref be, .ref wh, .int (nI n1)])), (nu, .inl (cI, 1024, .inl fn1)), (xs, .inl (cI, 1024, .inl fx1)), (ys, .inl (cI, 1024, .inl fy1)), (wh, .inl (cI, 256, .inl fw1)), (be, .inl (cZ, 1024, .inl fb1)), (re, .inr (1, [.ref sr, .ref rc, .ref pe, .int (nI fd)])), (sr, .inl (cI, 256, .inl fs)), (rc, .inl (cZ, 256, .inl fr)), (pe, .inl (cI, 256, .inl fp))]) 0 0 := by
  refine ofV (cc := c_PR_build) (maxL := 4) (ret := none) (by decide) rfl (Nat.le_of_ble_eq_true rfl) ?_
  intro p e s m args below meth c A H hH0 hx hb hr hlocks hts hown hnm hml ls hl hP hK hD hA hS hN
  have hown : s.vm.findClass R_PR = some m.cls := hown
  have hl : lv_has ls 4 [(0, .ref pr), (1, .ref re), (2, .ref sr)] := hl
  refine lv_aload_n hx hb d_PR_build_0 rfl (lv_at hl 0 rfl) ?_
  refine lv_iconst (v := 0) hx hb d_PR_build_1 (by decide) ?_
  refine va_put (D := D) (ci := 2) (v := .int 0) (ty := .int) (C := R_PR) (T := T_PR) (N := 6) hx hb hts iw_PR ty_PR ty_PR_ok nm_PR hown hK hP hD hS 0 rfl rfl 5 (by decide) (hts _ k_180) (fun _ h9 => h9) rfl (by decide +kernel) rfl rfl (Nat.le_of_ble_eq_true rfl) d_PR_build_2 (fun H locs hP hD hS => ?_)
  have hP : va_P D vwCl [(pr, .inr (2, [.ref nu, .ref xs, .ref ys, .ref be, .ref wh, .int 0])), (nu, .inl (cI, 1024, .inl fn)), (xs, .inl (cI, 1024, .inl fx)), (ys, .inl (cI, 1024, .inl fy)), (wh, .inl (cI, 256, .inl fw)), (be, .inl (cZ, 1024, .inl fb)), (re, .inr (1, [.ref sr, .ref rc, .ref pe, .int (nI fd)])), (sr, .inl (cI, 256, .inl fs)), (rc, .inl (cZ, 256, .inl fr)), (pe, .inl (cI, 256, .inl fp))] H := hP
  have hD : va_D A [(pr, .inr (2, [.ref nu, .ref xs, .ref ys, .ref be, .ref wh, .int 0])), (nu, .inl (cI, 1024, .inl fn)), (xs, .inl (cI, 1024, .inl fx)), (ys, .inl (cI, 1024, .inl fy)), (wh, .inl (cI, 256, .inl fw)), (be, .inl (cZ, 1024, .inl fb)), (re, .inr (1, [.ref sr, .ref rc, .ref pe, .int (nI fd)])), (sr, .inl (cI, 256, .inl fs)), (rc, .inl (cZ, 256, .inl fr)), (pe, .inl (cI, 256, .inl fp))] := hD
  refine lv_iconst (v := 0) hx hb d_PR_build_5 (by decide) ?_
  refine lv_istore_n hx hb d_PR_build_6 rfl hl (by decide) rfl (fun ls hl => ?_)
  have hl : lv_has ls 4 [(3, .int 0), (0, .ref pr), (1, .ref re), (2, .ref sr)] := hl
  rw [← filI_0 0 fb] at hP hD
  have loop1 : ∀ (k : Nat) (i : Nat), (i + k = 1024) → ∀ (H : Heap) (locs : List Loc) (ls : Array Slot), lv_has ls 4 [(3, .int (nI i)), (0, .ref pr), (1, .ref re), (2, .ref sr)] → va_P D vwCl [(pr, .inr (2, [.ref nu, .ref xs, .ref ys, .ref be, .ref wh, .int 0])), (nu, .inl (cI, 1024, .inl fn)), (xs, .inl (cI, 1024, .inl fx)), (ys, .inl (cI, 1024, .inl fy)), (wh, .inl (cI, 256, .inl fw)), (be, .inl (cZ, 1024, .inl (filI 0 fb i))), (re, .inr (1, [.ref sr, .ref rc, .ref pe, .int (nI fd)])), (sr, .inl (cI, 256, .inl fs)), (rc, .inl (cZ, 256, .inl fr)), (pe, .inl (cI, 256, .inl fp))] H → va_D A [(pr, .inr (2, [.ref nu, .ref xs, .ref ys, .ref be, .ref wh, .int 0])), (nu, .inl (cI, 1024, .inl fn)), (xs, .inl (cI, 1024, .inl fx)), (ys, .inl (cI, 1024, .inl fy)), (wh, .inl (cI, 256, .inl fw)), (be, .inl (cZ, 1024, .inl (filI 0 fb i))), (re, .inr (1, [.ref sr, .ref rc, .ref pe, .int (nI fd)])), (sr, .inl (cI, 256, .inl fs)), (rc, .inl (cZ, 256, .inl fr)), (pe, .inl (cI, 256, .inl fp))] → va_S A s.heap H locs → W p l e { frames := 4, cells := 0, slots := 0, locals := 91 } s m args below meth c H locs 0 0 (MQ below (QV D cI cZ (fun (u : Nat × (Nat → Int32) × (Nat → Int32) × (Nat → Int32) × (Nat → Int32) × (Nat → Int32)) => match u with | (n1, fn1, fx1, fy1, fw1, fb1) => ∃ fy0, (fw1, fb1, (n1, fn1, fx1, fy0)) = bldN fr fs 256 (fw, filI 0 fb 1024, (0, fn, fx, fy)) ∧ fy1 = tgtN fn1 fw1 n1 fy0 ∧ n1 ≤ 1024) (fun (u : Nat × (Nat → Int32) × (Nat → Int32) × (Nat → Int32) × (Nat → Int32) × (Nat → Int32)) => match u with | (n1, fn1, fx1, fy1, fw1, fb1) => [(pr, .inr (2, [.ref nu, .ref xs, .ref ys, .ref be, .ref wh, .int (nI n1)])), (nu, .inl (cI, 1024, .inl fn1)), (xs, .inl (cI, 1024, .inl fx1)), (ys, .inl (cI, 1024, .inl fy1)), (wh, .inl (cI, 256, .inl fw1)), (be, .inl (cZ, 1024, .inl fb1)), (re, .inr (1, [.ref sr, .ref rc, .ref pe, .int (nI fd)])), (sr, .inl (cI, 256, .inl fs)), (rc, .inl (cZ, 256, .inl fr)), (pe, .inl (cI, 256, .inl fp))]) A) args s 0 0 A) (F0 m 7 ls []) := by
    intro k
    induction k with
    | zero =>
      intro i hk H locs ls hl hP hD hS
      refine lv_iload_n hx hb d_PR_build_7 rfl (lv_at hl 0 rfl) ?_
      refine lv_sipush (v := 1024) hx hb d_PR_build_8 (by decide) ?_
      refine lv_icmp_ge (tgt := 27) hx hb d_PR_build_11 rfl (fun _ => ?_) (fun h9 => absurd (by rw [show i = 1024 from hk]; decide) h9)
      refine lv_iconst (v := 0) hx hb d_PR_build_27 (by decide) ?_
      refine lv_istore_n hx hb d_PR_build_28 rfl hl (by decide) rfl (fun ls hl => ?_)
      have hl : lv_has ls 4 [(3, .int 0), (0, .ref pr), (1, .ref re), (2, .ref sr)] := hl
      rw [show i = 1024 from hk] at hP hD
      have loop2 : ∀ (k : Nat) (j : Nat) (nL : Nat) (fnL : Nat → Int32) (fxL : Nat → Int32) (fyL : Nat → Int32) (fwL : Nat → Int32) (fbL : Nat → Int32), (j + k = 256) → (nL ≤ 1024) → ((fwL, fbL, (nL, fnL, fxL, fyL)) = bldN fr fs j (fw, filI 0 fb 1024, (0, fn, fx, fy))) → ∀ (H : Heap) (locs : List Loc) (ls : Array Slot), lv_has ls 4 [(3, .int (nI j)), (0, .ref pr), (1, .ref re), (2, .ref sr)] → va_P D vwCl [(pr, .inr (2, [.ref nu, .ref xs, .ref ys, .ref be, .ref wh, .int (nI nL)])), (nu, .inl (cI, 1024, .inl fnL)), (xs, .inl (cI, 1024, .inl fxL)), (ys, .inl (cI, 1024, .inl fyL)), (wh, .inl (cI, 256, .inl fwL)), (be, .inl (cZ, 1024, .inl fbL)), (re, .inr (1, [.ref sr, .ref rc, .ref pe, .int (nI fd)])), (sr, .inl (cI, 256, .inl fs)), (rc, .inl (cZ, 256, .inl fr)), (pe, .inl (cI, 256, .inl fp))] H → va_D A [(pr, .inr (2, [.ref nu, .ref xs, .ref ys, .ref be, .ref wh, .int (nI nL)])), (nu, .inl (cI, 1024, .inl fnL)), (xs, .inl (cI, 1024, .inl fxL)), (ys, .inl (cI, 1024, .inl fyL)), (wh, .inl (cI, 256, .inl fwL)), (be, .inl (cZ, 1024, .inl fbL)), (re, .inr (1, [.ref sr, .ref rc, .ref pe, .int (nI fd)])), (sr, .inl (cI, 256, .inl fs)), (rc, .inl (cZ, 256, .inl fr)), (pe, .inl (cI, 256, .inl fp))] → va_S A s.heap H locs → W p l e { frames := 4, cells := 0, slots := 0, locals := 91 } s m args below meth c H locs 0 0 (MQ below (QV D cI cZ (fun (u : Nat × (Nat → Int32) × (Nat → Int32) × (Nat → Int32) × (Nat → Int32) × (Nat → Int32)) => match u with | (n1, fn1, fx1, fy1, fw1, fb1) => ∃ fy0, (fw1, fb1, (n1, fn1, fx1, fy0)) = bldN fr fs 256 (fw, filI 0 fb 1024, (0, fn, fx, fy)) ∧ fy1 = tgtN fn1 fw1 n1 fy0 ∧ n1 ≤ 1024) (fun (u : Nat × (Nat → Int32) × (Nat → Int32) × (Nat → Int32) × (Nat → Int32) × (Nat → Int32)) => match u with | (n1, fn1, fx1, fy1, fw1, fb1) => [(pr, .inr (2, [.ref nu, .ref xs, .ref ys, .ref be, .ref wh, .int (nI n1)])), (nu, .inl (cI, 1024, .inl fn1)), (xs, .inl (cI, 1024, .inl fx1)), (ys, .inl (cI, 1024, .inl fy1)), (wh, .inl (cI, 256, .inl fw1)), (be, .inl (cZ, 1024, .inl fb1)), (re, .inr (1, [.ref sr, .ref rc, .ref pe, .int (nI fd)])), (sr, .inl (cI, 256, .inl fs)), (rc, .inl (cZ, 256, .inl fr)), (pe, .inl (cI, 256, .inl fp))]) A) args s 0 0 A) (F0 m 29 ls []) := by
        intro k
        induction k with
        | zero =>
          intro j nL fnL fxL fyL fwL fbL hk2 hnL hI H locs ls hl hP hD hS
          refine lv_iload_n hx hb d_PR_build_29 rfl (lv_at hl 0 rfl) ?_
          refine lv_sipush (v := 256) hx hb d_PR_build_30 (by decide) ?_
          refine lv_icmp_ge (tgt := 110) hx hb d_PR_build_33 rfl (fun _ => ?_) (fun h9 => absurd (by rw [show j = 256 from hk2]; decide) h9)
          refine lv_aload_n hx hb d_PR_build_110 rfl (lv_at hl 1 rfl) ?_
          have hPc := hP.sub (ws' := [(pr, .inr (2, [.ref nu, .ref xs, .ref ys, .ref be, .ref wh, .int (nI nL)])), (nu, .inl (cI, 1024, .inl fnL)), (xs, .inl (cI, 1024, .inl fxL)), (ys, .inl (cI, 1024, .inl fyL)), (wh, .inl (cI, 256, .inl fwL))]) [0, 1, 2, 3, 4] rfl
          have hDc := hD.sub (ws' := [(pr, .inr (2, [.ref nu, .ref xs, .ref ys, .ref be, .ref wh, .int (nI nL)])), (nu, .inl (cI, 1024, .inl fnL)), (xs, .inl (cI, 1024, .inl fxL)), (ys, .inl (cI, 1024, .inl fyL)), (wh, .inl (cI, 256, .inl fwL))]) [0, 1, 2, 3, 4] (by decide) rfl
          have hFc := va_free (wc := [(pr, .inr (2, [.ref nu, .ref xs, .ref ys, .ref be, .ref wh, .int (nI nL)])), (nu, .inl (cI, 1024, .inl fnL)), (xs, .inl (cI, 1024, .inl fxL)), (ys, .inl (cI, 1024, .inl fyL)), (wh, .inl (cI, 256, .inl fwL))]) hD hS hA [0, 1, 2, 3, 4] rfl
          refine va_callv (va_runV (As := []) (rest := []) ⟨hx, hb, hml, hown, hts⟩ (p_fill l D cI cZ pr nu xs ys be wh nL fnL fxL fyL fwL H.size hnL) ⟨cB 0 hts k_466 k_61 k_463 hd_PR_fillTargets ⟨Nat.le_of_ble_eq_true rfl, Nat.le_of_ble_eq_true rfl⟩ rfl rfl, hts _ k_465, hts _ k_15⟩ (PcW.preV (va_recv hK hP (q0 := 0) (ci := 2) rfl rfl) hPc hK hDc hN) rfl rfl hl.1 rfl (lv_room (Nat.le_of_ble_eq_true rfl)) d_PR_build_111 ⟨Nat.le_of_ble_eq_true rfl, Nat.le_of_ble_eq_true rfl⟩) hS (fun q _ h => hFc q h) hFc (fun u t H1 locs ht hvm e111 hB hz1 hk1 hS => ?_)
          obtain ⟨fy1111, rfl⟩ : ∃ z, z = u := ⟨_, rfl⟩
          obtain ⟨hP1, hK1, hD1⟩ := hB
          rw [ht] at hP1
          obtain ⟨hP, hD⟩ := va_join (wr := [(be, .inl (cZ, 1024, .inl fbL)), (re, .inr (1, [.ref sr, .ref rc, .ref pe, .int (nI fd)])), (sr, .inl (cI, 256, .inl fs)), (rc, .inl (cZ, 256, .inl fr)), (pe, .inl (cI, 256, .inl fp))]) (w1 := [(pr, .inr (2, [.ref nu, .ref xs, .ref ys, .ref be, .ref wh, .int (nI nL)])), (nu, .inl (cI, 1024, .inl fnL)), (xs, .inl (cI, 1024, .inl fxL)), (ys, .inl (cI, 1024, .inl fy1111)), (wh, .inl (cI, 256, .inl fwL))]) hP hD [0, 1, 2, 3, 4] [5, 6, 7, 8, 9] rfl rfl (by decide) (by decide) hk1 hFc hP1 hD1
          generalize H1 = H at hP hS ⊢
          try dsimp only at e111
          have e111_0 := e111
          replace e111_0 := e111_0.symm
          subst e111_0
          have hP : va_P D vwCl [(be, .inl (cZ, 1024, .inl fbL)), (re, .inr (1, [.ref sr, .ref rc, .ref pe, .int (nI fd)])), (sr, .inl (cI, 256, .inl fs)), (rc, .inl (cZ, 256, .inl fr)), (pe, .inl (cI, 256, .inl fp)), (pr, .inr (2, [.ref nu, .ref xs, .ref ys, .ref be, .ref wh, .int (nI nL)])), (nu, .inl (cI, 1024, .inl fnL)), (xs, .inl (cI, 1024, .inl fxL)), (ys, .inl (cI, 1024, .inl (tgtN fnL fwL nL fyL))), (wh, .inl (cI, 256, .inl fwL))] H := hP
          have hD : va_D A [(be, .inl (cZ, 1024, .inl fbL)), (re, .inr (1, [.ref sr, .ref rc, .ref pe, .int (nI fd)])), (sr, .inl (cI, 256, .inl fs)), (rc, .inl (cZ, 256, .inl fr)), (pe, .inl (cI, 256, .inl fp)), (pr, .inr (2, [.ref nu, .ref xs, .ref ys, .ref be, .ref wh, .int (nI nL)])), (nu, .inl (cI, 1024, .inl fnL)), (xs, .inl (cI, 1024, .inl fxL)), (ys, .inl (cI, 1024, .inl (tgtN fnL fwL nL fyL))), (wh, .inl (cI, 256, .inl fwL))] := hD
          have hP9 : va_P D vwCl [(pr, .inr (2, [.ref nu, .ref xs, .ref ys, .ref be, .ref wh, .int (nI nL)])), (nu, .inl (cI, 1024, .inl fnL)), (xs, .inl (cI, 1024, .inl fxL)), (ys, .inl (cI, 1024, .inl (tgtN fnL fwL nL fyL))), (wh, .inl (cI, 256, .inl fwL)), (be, .inl (cZ, 1024, .inl fbL)), (re, .inr (1, [.ref sr, .ref rc, .ref pe, .int (nI fd)])), (sr, .inl (cI, 256, .inl fs)), (rc, .inl (cZ, 256, .inl fr)), (pe, .inl (cI, 256, .inl fp))] H := hP.sub [5, 6, 7, 8, 9, 0, 1, 2, 3, 4] rfl
          have hD9 : va_D A [(pr, .inr (2, [.ref nu, .ref xs, .ref ys, .ref be, .ref wh, .int (nI nL)])), (nu, .inl (cI, 1024, .inl fnL)), (xs, .inl (cI, 1024, .inl fxL)), (ys, .inl (cI, 1024, .inl (tgtN fnL fwL nL fyL))), (wh, .inl (cI, 256, .inl fwL)), (be, .inl (cZ, 1024, .inl fbL)), (re, .inr (1, [.ref sr, .ref rc, .ref pe, .int (nI fd)])), (sr, .inl (cI, 256, .inl fs)), (rc, .inl (cZ, 256, .inl fr)), (pe, .inl (cI, 256, .inl fp))] := hD.sub [5, 6, 7, 8, 9, 0, 1, 2, 3, 4] (by decide) rfl
          exact W.vret hx hb hr (fun t ht hW => ⟨⟨(nL, fnL, fxL, tgtN fnL fwL nL fyL, fwL, fbL), rfl, ⟨fyL, by rw [hI, show j = 256 from hk2], rfl, hnL⟩, by rw [ht]; exact hP9, va_K.moved hW.alike hK, hD9⟩, hS.F ht⟩) hS.2.2 d_PR_build_114
        | succ k ih =>
          intro j nL fnL fxL fyL fwL fbL hk2 hnL hI H locs ls hl hP hD hS
          refine lv_iload_n hx hb d_PR_build_29 rfl (lv_at hl 0 rfl) ?_
          refine lv_sipush (v := 256) hx hb d_PR_build_30 (by decide) ?_
          refine lv_icmp_ge (tgt := 110) hx hb d_PR_build_33 rfl (fun h9 => absurd h9 (nI_ge (b := 256) (by omega) (by decide))) (fun _ => ?_)
          refine lv_aload_n hx hb d_PR_build_36 rfl (lv_at hl 1 rfl) ?_
          refine va_get (D := D) (ci := 2) (v := .ref wh) (C := R_PR) (T := T_PR) (N := 6) hx hb hts iw_PR hown hK hP 0 rfl rfl 4 (by decide) (hts _ k_179) (fun _ h9 => h9) rfl d_PR_build_37 ?_
          refine lv_iload_n hx hb d_PR_build_40 rfl (lv_at hl 0 rfl) ?_
          refine lv_iconst (v := (-1)) hx hb d_PR_build_41 (by decide) ?_
          refine va_iast hx hb hK hP hD hS 4 0 rfl rfl (vp_in_nI (by omega) (by decide)) d_PR_build_42 (fun H locs hP hD hS => ?_)
          have hP : va_P D vwCl [(pr, .inr (2, [.ref nu, .ref xs, .ref ys, .ref be, .ref wh, .int (nI nL)])), (nu, .inl (cI, 1024, .inl fnL)), (xs, .inl (cI, 1024, .inl fxL)), (ys, .inl (cI, 1024, .inl fyL)), (wh, .inl (cI, 256, .inl (upd fwL (nI j).toNatClampNeg (-1)))), (be, .inl (cZ, 1024, .inl fbL)), (re, .inr (1, [.ref sr, .ref rc, .ref pe, .int (nI fd)])), (sr, .inl (cI, 256, .inl fs)), (rc, .inl (cZ, 256, .inl fr)), (pe, .inl (cI, 256, .inl fp))] H := hP
          have hD : va_D A [(pr, .inr (2, [.ref nu, .ref xs, .ref ys, .ref be, .ref wh, .int (nI nL)])), (nu, .inl (cI, 1024, .inl fnL)), (xs, .inl (cI, 1024, .inl fxL)), (ys, .inl (cI, 1024, .inl fyL)), (wh, .inl (cI, 256, .inl (upd fwL (nI j).toNatClampNeg (-1)))), (be, .inl (cZ, 1024, .inl fbL)), (re, .inr (1, [.ref sr, .ref rc, .ref pe, .int (nI fd)])), (sr, .inl (cI, 256, .inl fs)), (rc, .inl (cZ, 256, .inl fr)), (pe, .inl (cI, 256, .inl fp))] := hD
          refine lv_aload_n hx hb d_PR_build_43 rfl (lv_at hl 2 rfl) ?_
          refine lv_iload_n hx hb d_PR_build_44 rfl (lv_at hl 0 rfl) ?_
          have hPc := hP.sub (ws' := [(re, .inr (1, [.ref sr, .ref rc, .ref pe, .int (nI fd)])), (sr, .inl (cI, 256, .inl fs)), (rc, .inl (cZ, 256, .inl fr)), (pe, .inl (cI, 256, .inl fp))]) [6, 7, 8, 9] rfl
          refine vp_callSi (va_runV (As := [.int (nI j)]) (rest := []) ⟨hx, hb, hml, hown, hts⟩ (r_has l D cI cZ re sr rc pe fs fr fp fd (nI j)) ⟨cB 1 hts k_429 k_57 k_426 hd_RE_has ⟨Nat.le_of_ble_eq_true rfl, Nat.le_of_ble_eq_true rfl⟩ rfl rfl, hts _ k_427, hts _ k_428⟩ (PcR.preV (va_recv hK hP (q0 := 6) (ci := 1) rfl rfl) hPc hK hN) rfl rfl hl.1 rfl (lv_room (Nat.le_of_ble_eq_true rfl)) d_PR_build_45 ⟨Nat.le_of_ble_eq_true rfl, Nat.le_of_ble_eq_true rfl⟩).run (fun r45 e45 => ?_)
          replace e45 := e45.symm
          subst e45
          refine lv_if_eq (tgt := 104) hx hb d_PR_build_48 rfl (fun h48 => ?_) (fun h48 => ?_)
          · have h48 : hasB fr (nI j) = false := bI_f h48
            refine lv_iinc (k := 0) (v := nI (j + 1)) hx hb d_PR_build_104 hl rfl (nI_inc _) (by decide) rfl (fun ls hl => ?_)
            have hl : lv_has ls 4 [(3, .int (nI (j + 1))), (0, .ref pr), (1, .ref re), (2, .ref sr)] := hl
            refine lv_goto (tgt := 29) hx hb d_PR_build_107 rfl ?_
            rw [nI_clamp (show j < 2 ^ 31 by omega)] at hP hD
            exact ih (j + 1) nL fnL fxL fyL (upd fwL j (-1)) fbL (by omega) hnL (by rw [bldN, ← hI, bldS, if_pos (hasB_f (show j < 256 by omega) h48)]) H locs ls hl hP hD hS
          · have h48 : hasB fr (nI j) = true := bI_t h48
            refine lv_aload_n hx hb d_PR_build_51 rfl (lv_at hl 1 rfl) ?_
            refine va_get (D := D) (ci := 2) (v := .int (nI nL)) (C := R_PR) (T := T_PR) (N := 6) hx hb hts iw_PR hown hK hP 0 rfl rfl 5 (by decide) (hts _ k_180) (fun _ h9 => h9) rfl d_PR_build_52 ?_
            refine lv_sipush (v := 1024) hx hb d_PR_build_55 (by decide) ?_
            refine lv_icmp_ge (tgt := 104) hx hb d_PR_build_58 rfl (fun h58 => ?_) (fun h58 => ?_)
            · refine lv_iinc (k := 0) (v := nI (j + 1)) hx hb d_PR_build_104 hl rfl (nI_inc _) (by decide) rfl (fun ls hl => ?_)
              have hl : lv_has ls 4 [(3, .int (nI (j + 1))), (0, .ref pr), (1, .ref re), (2, .ref sr)] := hl
              refine lv_goto (tgt := 29) hx hb d_PR_build_107 rfl ?_
              rw [nI_clamp (show j < 2 ^ 31 by omega)] at hP hD
              exact ih (j + 1) nL fnL fxL fyL (upd fwL j (-1)) fbL (by omega) hnL (by rw [bldN, ← hI, bldS, if_neg (hasB_t (show j < 256 by omega) h48), if_neg (nlt1024 h58)]) H locs ls hl hP hD hS
            · refine lv_aload_n hx hb d_PR_build_61 rfl (lv_at hl 1 rfl) ?_
              refine va_get (D := D) (ci := 2) (v := .ref wh) (C := R_PR) (T := T_PR) (N := 6) hx hb hts iw_PR hown hK hP 0 rfl rfl 4 (by decide) (hts _ k_179) (fun _ h9 => h9) rfl d_PR_build_62 ?_
              refine lv_iload_n hx hb d_PR_build_65 rfl (lv_at hl 0 rfl) ?_
              refine lv_aload_n hx hb d_PR_build_66 rfl (lv_at hl 1 rfl) ?_
              refine va_get (D := D) (ci := 2) (v := .int (nI nL)) (C := R_PR) (T := T_PR) (N := 6) hx hb hts iw_PR hown hK hP 0 rfl rfl 5 (by decide) (hts _ k_180) (fun _ h9 => h9) rfl d_PR_build_67 ?_
              refine va_iast hx hb hK hP hD hS 4 0 rfl rfl (vp_in_nI (by omega) (by decide)) d_PR_build_70 (fun H locs hP hD hS => ?_)
              have hP : va_P D vwCl [(pr, .inr (2, [.ref nu, .ref xs, .ref ys, .ref be, .ref wh, .int (nI nL)])), (nu, .inl (cI, 1024, .inl fnL)), (xs, .inl (cI, 1024, .inl fxL)), (ys, .inl (cI, 1024, .inl fyL)), (wh, .inl (cI, 256, .inl (upd (upd fwL (nI j).toNatClampNeg (-1)) (nI j).toNatClampNeg (nI nL)))), (be, .inl (cZ, 1024, .inl fbL)), (re, .inr (1, [.ref sr, .ref rc, .ref pe, .int (nI fd)])), (sr, .inl (cI, 256, .inl fs)), (rc, .inl (cZ, 256, .inl fr)), (pe, .inl (cI, 256, .inl fp))] H := hP
              have hD : va_D A [(pr, .inr (2, [.ref nu, .ref xs, .ref ys, .ref be, .ref wh, .int (nI nL)])), (nu, .inl (cI, 1024, .inl fnL)), (xs, .inl (cI, 1024, .inl fxL)), (ys, .inl (cI, 1024, .inl fyL)), (wh, .inl (cI, 256, .inl (upd (upd fwL (nI j).toNatClampNeg (-1)) (nI j).toNatClampNeg (nI nL)))), (be, .inl (cZ, 1024, .inl fbL)), (re, .inr (1, [.ref sr, .ref rc, .ref pe, .int (nI fd)])), (sr, .inl (cI, 256, .inl fs)), (rc, .inl (cZ, 256, .inl fr)), (pe, .inl (cI, 256, .inl fp))] := hD
              refine lv_aload_n hx hb d_PR_build_71 rfl (lv_at hl 1 rfl) ?_
              refine va_get (D := D) (ci := 2) (v := .ref be) (C := R_PR) (T := T_PR) (N := 6) hx hb hts iw_PR hown hK hP 0 rfl rfl 3 (by decide) (hts _ k_178) (fun _ h9 => h9) rfl d_PR_build_72 ?_
              refine lv_aload_n hx hb d_PR_build_75 rfl (lv_at hl 1 rfl) ?_
              refine va_get (D := D) (ci := 2) (v := .int (nI nL)) (C := R_PR) (T := T_PR) (N := 6) hx hb hts iw_PR hown hK hP 0 rfl rfl 5 (by decide) (hts _ k_180) (fun _ h9 => h9) rfl d_PR_build_76 ?_
              refine lv_iconst (v := 1) hx hb d_PR_build_79 (by decide) ?_
              refine va_zast hx hb hK hP hD hS 5 1 rfl rfl (vp_in_nI (lt1024 hnL h58) (by decide)) d_PR_build_80 (fun H locs hP hD hS => ?_)
              have hP : va_P D vwCl [(pr, .inr (2, [.ref nu, .ref xs, .ref ys, .ref be, .ref wh, .int (nI nL)])), (nu, .inl (cI, 1024, .inl fnL)), (xs, .inl (cI, 1024, .inl fxL)), (ys, .inl (cI, 1024, .inl fyL)), (wh, .inl (cI, 256, .inl (upd (upd fwL (nI j).toNatClampNeg (-1)) (nI j).toNatClampNeg (nI nL)))), (be, .inl (cZ, 1024, .inl (upd fbL (nI nL).toNatClampNeg 1))), (re, .inr (1, [.ref sr, .ref rc, .ref pe, .int (nI fd)])), (sr, .inl (cI, 256, .inl fs)), (rc, .inl (cZ, 256, .inl fr)), (pe, .inl (cI, 256, .inl fp))] H := hP
              have hD : va_D A [(pr, .inr (2, [.ref nu, .ref xs, .ref ys, .ref be, .ref wh, .int (nI nL)])), (nu, .inl (cI, 1024, .inl fnL)), (xs, .inl (cI, 1024, .inl fxL)), (ys, .inl (cI, 1024, .inl fyL)), (wh, .inl (cI, 256, .inl (upd (upd fwL (nI j).toNatClampNeg (-1)) (nI j).toNatClampNeg (nI nL)))), (be, .inl (cZ, 1024, .inl (upd fbL (nI nL).toNatClampNeg 1))), (re, .inr (1, [.ref sr, .ref rc, .ref pe, .int (nI fd)])), (sr, .inl (cI, 256, .inl fs)), (rc, .inl (cZ, 256, .inl fr)), (pe, .inl (cI, 256, .inl fp))] := hD
              refine lv_aload_n hx hb d_PR_build_81 rfl (lv_at hl 1 rfl) ?_
              refine lv_aload_n hx hb d_PR_build_82 rfl (lv_at hl 3 rfl) ?_
              refine lv_iload_n hx hb d_PR_build_83 rfl (lv_at hl 0 rfl) ?_
              refine va_iald hx hb hK hP 7 0 rfl rfl (vp_in_nI (by omega) (by decide)) d_PR_build_84 ?_
              refine lv_topi (fun y9 e9 => ?_)
              have e9 : y9 = fs j := e9.trans (by rw [nI_clamp (by omega)])
              subst e9
              refine lv_aload_n hx hb d_PR_build_85 rfl (lv_at hl 3 rfl) ?_
              refine lv_iload_n hx hb d_PR_build_86 rfl (lv_at hl 0 rfl) ?_
              refine lv_iconst (v := 1) hx hb d_PR_build_87 (by decide) ?_
              refine lv_iadd hx hb d_PR_build_88 ?_
              refine lv_sipush (v := 255) hx hb d_PR_build_89 (by decide) ?_
              refine lv_iand hx hb d_PR_build_92 ?_
              refine va_iald hx hb hK hP 7 0 rfl rfl (in255 _) d_PR_build_93 ?_
              refine lv_topi (fun y9 e9 => ?_)
              have e9 : y9 = rd fs (nI j + 1) := e9.trans rfl
              subst e9
              refine lv_iload_n hx hb d_PR_build_94 rfl (lv_at hl 0 rfl) ?_
              refine lv_iconst (v := 2) hx hb d_PR_build_95 (by decide) ?_
              refine lv_iadd hx hb d_PR_build_96 ?_
              refine lv_sipush (v := 255) hx hb d_PR_build_97 (by decide) ?_
              refine lv_iand hx hb d_PR_build_100 ?_
              have hPc := hP.sub (ws' := [(pr, .inr (2, [.ref nu, .ref xs, .ref ys, .ref be, .ref wh, .int (nI nL)])), (nu, .inl (cI, 1024, .inl fnL)), (xs, .inl (cI, 1024, .inl fxL)), (ys, .inl (cI, 1024, .inl fyL))]) [0, 1, 2, 3] rfl
              have hDc := hD.sub (ws' := [(pr, .inr (2, [.ref nu, .ref xs, .ref ys, .ref be, .ref wh, .int (nI nL)])), (nu, .inl (cI, 1024, .inl fnL)), (xs, .inl (cI, 1024, .inl fxL)), (ys, .inl (cI, 1024, .inl fyL))]) [0, 1, 2, 3] (by decide) rfl
              have hFc := va_free (wc := [(pr, .inr (2, [.ref nu, .ref xs, .ref ys, .ref be, .ref wh, .int (nI nL)])), (nu, .inl (cI, 1024, .inl fnL)), (xs, .inl (cI, 1024, .inl fxL)), (ys, .inl (cI, 1024, .inl fyL))]) hD hS hA [0, 1, 2, 3] rfl
              refine va_callv (va_runV (As := [.int (fs j), .int (rd fs (nI j + 1)), .int (((nI j) + 2) &&& 255)]) (rest := []) ⟨hx, hb, hml, hown, hts⟩ (p_row l D cI cZ pr nu xs ys be wh nL fnL fxL fyL (fs j) (rd fs (nI j + 1)) (((nI j) + 2) &&& 255) H.size hnL) ⟨cB 3 hts k_434 k_61 k_431 hd_PR_addRow ⟨Nat.le_of_ble_eq_true rfl, Nat.le_of_ble_eq_true rfl⟩ rfl rfl, hts _ k_433, hts _ k_7⟩ (PcW.preV (va_recv hK hP (q0 := 0) (ci := 2) rfl rfl) hPc hK hDc hN) rfl rfl hl.1 rfl (lv_room (Nat.le_of_ble_eq_true rfl)) d_PR_build_101 ⟨Nat.le_of_ble_eq_true rfl, Nat.le_of_ble_eq_true rfl⟩) hS (fun q _ h => hFc q h) hFc (fun u t H1 locs ht hvm e101 hB hz1 hk1 hS => ?_)
              obtain ⟨n1101, fn1101, fx1101, fy1101⟩ := u
              obtain ⟨hP1, hK1, hD1⟩ := hB
              rw [ht] at hP1
              obtain ⟨hP, hD⟩ := va_join (wr := [(wh, .inl (cI, 256, .inl (upd (upd fwL (nI j).toNatClampNeg (-1)) (nI j).toNatClampNeg (nI nL)))), (be, .inl (cZ, 1024, .inl (upd fbL (nI nL).toNatClampNeg 1))), (re, .inr (1, [.ref sr, .ref rc, .ref pe, .int (nI fd)])), (sr, .inl (cI, 256, .inl fs)), (rc, .inl (cZ, 256, .inl fr)), (pe, .inl (cI, 256, .inl fp))]) (w1 := [(pr, .inr (2, [.ref nu, .ref xs, .ref ys, .ref be, .ref wh, .int (nI n1101)])), (nu, .inl (cI, 1024, .inl fn1101)), (xs, .inl (cI, 1024, .inl fx1101)), (ys, .inl (cI, 1024, .inl fy1101))]) hP hD [0, 1, 2, 3] [4, 5, 6, 7, 8, 9] rfl rfl (by decide) (by decide) hk1 hFc hP1 hD1
              generalize H1 = H at hP hS ⊢
              try dsimp only at e101
              have hP : va_P D vwCl [(wh, .inl (cI, 256, .inl (upd (upd fwL (nI j).toNatClampNeg (-1)) (nI j).toNatClampNeg (nI nL)))), (be, .inl (cZ, 1024, .inl (upd fbL (nI nL).toNatClampNeg 1))), (re, .inr (1, [.ref sr, .ref rc, .ref pe, .int (nI fd)])), (sr, .inl (cI, 256, .inl fs)), (rc, .inl (cZ, 256, .inl fr)), (pe, .inl (cI, 256, .inl fp)), (pr, .inr (2, [.ref nu, .ref xs, .ref ys, .ref be, .ref wh, .int (nI n1101)])), (nu, .inl (cI, 1024, .inl fn1101)), (xs, .inl (cI, 1024, .inl fx1101)), (ys, .inl (cI, 1024, .inl fy1101))] H := hP
              have hD : va_D A [(wh, .inl (cI, 256, .inl (upd (upd fwL (nI j).toNatClampNeg (-1)) (nI j).toNatClampNeg (nI nL)))), (be, .inl (cZ, 1024, .inl (upd fbL (nI nL).toNatClampNeg 1))), (re, .inr (1, [.ref sr, .ref rc, .ref pe, .int (nI fd)])), (sr, .inl (cI, 256, .inl fs)), (rc, .inl (cZ, 256, .inl fr)), (pe, .inl (cI, 256, .inl fp)), (pr, .inr (2, [.ref nu, .ref xs, .ref ys, .ref be, .ref wh, .int (nI n1101)])), (nu, .inl (cI, 1024, .inl fn1101)), (xs, .inl (cI, 1024, .inl fx1101)), (ys, .inl (cI, 1024, .inl fy1101))] := hD
              refine lv_iinc (k := 0) (v := nI (j + 1)) hx hb d_PR_build_104 hl rfl (nI_inc _) (by decide) rfl (fun ls hl => ?_)
              have hl : lv_has ls 4 [(3, .int (nI (j + 1))), (0, .ref pr), (1, .ref re), (2, .ref sr)] := hl
              refine lv_goto (tgt := 29) hx hb d_PR_build_107 rfl ?_
              rw [nI_clamp (show j < 2 ^ 31 by omega)] at hP hD
              rw [nI_clamp (show nL < 2 ^ 31 by omega)] at hP hD
              exact ih (j + 1) n1101 fn1101 fx1101 fy1101 (upd (upd fwL j (-1)) j (nI nL)) (upd fbL nL 1) (by omega) e101.2 (by rw [e101.1, bldN, ← hI, bldS, if_neg (hasB_t (show j < 256 by omega) h48), if_pos (lt1024 hnL h58)]) H locs ls hl (hP.sub [6, 7, 8, 9, 0, 1, 2, 3, 4, 5] rfl) (hD.sub [6, 7, 8, 9, 0, 1, 2, 3, 4, 5] (by decide) rfl) hS
      exact loop2 256 0 0 fn fx fy fw (filI 0 fb 1024) rfl (Nat.zero_le _) rfl H locs ls hl hP hD hS
    | succ k ih =>
      intro i hk H locs ls hl hP hD hS
      refine lv_iload_n hx hb d_PR_build_7 rfl (lv_at hl 0 rfl) ?_
      refine lv_sipush (v := 1024) hx hb d_PR_build_8 (by decide) ?_
      refine lv_icmp_ge (tgt := 27) hx hb d_PR_build_11 rfl (fun h9 => absurd h9 (nI_ge (b := 1024) (by omega) (by decide))) (fun _ => ?_)
      refine lv_aload_n hx hb d_PR_build_14 rfl (lv_at hl 1 rfl) ?_
      refine va_get (D := D) (ci := 2) (v := .ref be) (C := R_PR) (T := T_PR) (N := 6) hx hb hts iw_PR hown hK hP 0 rfl rfl 3 (by decide) (hts _ k_178) (fun _ h9 => h9) rfl d_PR_build_15 ?_
      refine lv_iload_n hx hb d_PR_build_18 rfl (lv_at hl 0 rfl) ?_
      refine lv_iconst (v := 0) hx hb d_PR_build_19 (by decide) ?_
      refine va_zast hx hb hK hP hD hS 5 1 rfl rfl (vp_in_nI (by omega) (by decide)) d_PR_build_20 (fun H locs hP hD hS => ?_)
      have hP : va_P D vwCl [(pr, .inr (2, [.ref nu, .ref xs, .ref ys, .ref be, .ref wh, .int 0])), (nu, .inl (cI, 1024, .inl fn)), (xs, .inl (cI, 1024, .inl fx)), (ys, .inl (cI, 1024, .inl fy)), (wh, .inl (cI, 256, .inl fw)), (be, .inl (cZ, 1024, .inl (upd (filI 0 fb i) (nI i).toNatClampNeg 0))), (re, .inr (1, [.ref sr, .ref rc, .ref pe, .int (nI fd)])), (sr, .inl (cI, 256, .inl fs)), (rc, .inl (cZ, 256, .inl fr)), (pe, .inl (cI, 256, .inl fp))] H := hP
      have hD : va_D A [(pr, .inr (2, [.ref nu, .ref xs, .ref ys, .ref be, .ref wh, .int 0])), (nu, .inl (cI, 1024, .inl fn)), (xs, .inl (cI, 1024, .inl fx)), (ys, .inl (cI, 1024, .inl fy)), (wh, .inl (cI, 256, .inl fw)), (be, .inl (cZ, 1024, .inl (upd (filI 0 fb i) (nI i).toNatClampNeg 0))), (re, .inr (1, [.ref sr, .ref rc, .ref pe, .int (nI fd)])), (sr, .inl (cI, 256, .inl fs)), (rc, .inl (cZ, 256, .inl fr)), (pe, .inl (cI, 256, .inl fp))] := hD
      refine lv_iinc (k := 0) (v := nI (i + 1)) hx hb d_PR_build_21 hl rfl (nI_inc _) (by decide) rfl (fun ls hl => ?_)
      have hl : lv_has ls 4 [(3, .int (nI (i + 1))), (0, .ref pr), (1, .ref re), (2, .ref sr)] := hl
      refine lv_goto (tgt := 7) hx hb d_PR_build_24 rfl ?_
      rw [show upd (filI 0 fb i) (nI i).toNatClampNeg 0 = filI 0 fb (i + 1) from filI_step (by omega)] at hP hD
      exact ih (i + 1) (by omega) H locs ls hl hP hD hS
  exact loop1 1024 0 rfl H locs ls hl hP hD hS
