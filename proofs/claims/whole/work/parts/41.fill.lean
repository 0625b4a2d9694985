set_option maxHeartbeats 4000000 in
set_option maxRecDepth 100000 in
theorem p_fill (l : Launch) (D : va_G) (cI cZ : ClassId) (pr : Nat) (nu : Nat) (xs : Nat) (ys : Nat) (be : Nat) (wh : Nat) (n : Nat) (fn : Nat → Int32) (fx : Nat → Int32) (fy : Nat → Int32) (fw : Nat → Int32) (sz : Nat) (hn : n ≤ 1024) : MetV l y_PR_fillTargets w_PR_fillTargets { frames := 1, cells := 0, slots := 0, locals := 20 } D cI cZ [.ref pr] [(pr, .inr (2, [.ref nu, .ref xs, .ref ys, .ref be, .ref wh, .int (nI n)])), (nu, .inl (cI, 1024, .inl fn)), (xs, .inl (cI, 1024, .inl fx)), (ys, .inl (cI, 1024, .inl fy)), (wh, .inl (cI, 256, .inl fw))] sz (fun (fy1 : (Nat → Int32)) => fy1 = tgtN fn fw n fy) (fun (fy1 : (Nat → Int32)) => [(pr, .inr (2, [.ref nu, .ref xs, .ref ys, .ref be, .ref wh, .int (nI n)])), (nu, .inl (cI, 1024, .inl fn)), (xs, .inl (cI, 1024, .inl fx)), (ys, .inl (cI, 1024, .inl fy1)), (wh, .inl (cI, 256, .inl fw))]) 0 0 := by
  refine ofV (cc := c_PR_fillTargets) (maxL := 2) (ret := none) (by decide) rfl (Nat.le_of_ble_eq_true rfl) ?_
  intro p e s m args below meth c A H hH0 hx hb hr hlocks hts hown hnm hml ls hl hP hK hD hA hS hN
  have hown : s.vm.findClass R_PR = some m.cls := hown
  have hl : lv_has ls 2 [(0, .ref pr)] := hl
  refine lv_iconst (v := 0) hx hb d_PR_fillTargets_0 (by decide) ?_
  refine lv_istore_n hx hb d_PR_fillTargets_1 rfl hl (by decide) rfl (fun ls hl => ?_)
  have hl : lv_has ls 2 [(1, .int 0), (0, .ref pr)] := hl
  have loop : ∀ (k : Nat) (i : Nat), (i + k = n) → ∀ (H : Heap) (locs : List Loc) (ls : Array Slot), lv_has ls 2 [(1, .int (nI i)), (0, .ref pr)] → va_P D vwCl [(pr, .inr (2, [.ref nu, .ref xs, .ref ys, .ref be, .ref wh, .int (nI n)])), (nu, .inl (cI, 1024, .inl fn)), (xs, .inl (cI, 1024, .inl fx)), (ys, .inl (cI, 1024, .inl (tgtN fn fw i fy))), (wh, .inl (cI, 256, .inl fw))] H → va_D A [(pr, .inr (2, [.ref nu, .ref xs, .ref ys, .ref be, .ref wh, .int (nI n)])), (nu, .inl (cI, 1024, .inl fn)), (xs, .inl (cI, 1024, .inl fx)), (ys, .inl (cI, 1024, .inl (tgtN fn fw i fy))), (wh, .inl (cI, 256, .inl fw))] → va_S A s.heap H locs → W p l e { frames := 1, cells := 0, slots := 0, locals := 20 } s m args below meth c H locs 0 0 (MQ below (QV D cI cZ (fun (fy1 : (Nat → Int32)) => fy1 = tgtN fn fw n fy) (fun (fy1 : (Nat → Int32)) => [(pr, .inr (2, [.ref nu, .ref xs, .ref ys, .ref be, .ref wh, .int (nI n)])), (nu, .inl (cI, 1024, .inl fn)), (xs, .inl (cI, 1024, .inl fx)), (ys, .inl (cI, 1024, .inl fy1)), (wh, .inl (cI, 256, .inl fw))]) A) args s 0 0 A) (F0 m 2 ls []) := by
    intro k
    induction k with
    | zero =>
      intro i hk H locs ls hl hP hD hS
      refine lv_iload_n hx hb d_PR_fillTargets_2 rfl (lv_at hl 0 rfl) ?_
      refine lv_aload_n hx hb d_PR_fillTargets_3 rfl (lv_at hl 1 rfl) ?_
      refine va_get (D := D) (ci := 2) (v := .int (nI n)) (C := R_PR) (T := T_PR) (N := 6) hx hb hts iw_PR hown hK hP 0 rfl rfl 5 (by decide) (hts _ k_180) (fun _ h9 => h9) rfl d_PR_fillTargets_4 ?_
      refine lv_icmp_ge (tgt := 49) hx hb d_PR_fillTargets_7 rfl (fun _ => ?_) (fun h9 => absurd (nI_le (by omega) (by omega)) h9)
      have hP9 : va_P D vwCl [(pr, .inr (2, [.ref nu, .ref xs, .ref ys, .ref be, .ref wh, .int (nI n)])), (nu, .inl (cI, 1024, .inl fn)), (xs, .inl (cI, 1024, .inl fx)), (ys, .inl (cI, 1024, .inl (tgtN fn fw i fy))), (wh, .inl (cI, 256, .inl fw))] H := hP.sub [0, 1, 2, 3, 4] rfl
      have hD9 : va_D A [(pr, .inr (2, [.ref nu, .ref xs, .ref ys, .ref be, .ref wh, .int (nI n)])), (nu, .inl (cI, 1024, .inl fn)), (xs, .inl (cI, 1024, .inl fx)), (ys, .inl (cI, 1024, .inl (tgtN fn fw i fy))), (wh, .inl (cI, 256, .inl fw))] := hD.sub [0, 1, 2, 3, 4] (by decide) rfl
      exact W.vret hx hb hr (fun t ht hW => ⟨⟨(tgtN fn fw i fy), rfl, by rw [show i = n from hk], by rw [ht]; exact hP9, va_K.moved hW.alike hK, hD9⟩, hS.F ht⟩) hS.2.2 d_PR_fillTargets_49
    | succ k ih =>
      intro i hk H locs ls hl hP hD hS
      refine lv_iload_n hx hb d_PR_fillTargets_2 rfl (lv_at hl 0 rfl) ?_
      refine lv_aload_n hx hb d_PR_fillTargets_3 rfl (lv_at hl 1 rfl) ?_
      refine va_get (D := D) (ci := 2) (v := .int (nI n)) (C := R_PR) (T := T_PR) (N := 6) hx hb hts iw_PR hown hK hP 0 rfl rfl 5 (by decide) (hts _ k_180) (fun _ h9 => h9) rfl d_PR_fillTargets_4 ?_
      refine lv_icmp_ge (tgt := 49) hx hb d_PR_fillTargets_7 rfl (fun h9 => absurd h9 (nI_ge (by omega) (by omega))) (fun _ => ?_)
      refine lv_aload_n hx hb d_PR_fillTargets_10 rfl (lv_at hl 1 rfl) ?_
      refine va_get (D := D) (ci := 2) (v := .ref nu) (C := R_PR) (T := T_PR) (N := 6) hx hb hts iw_PR hown hK hP 0 rfl rfl 0 (by decide) (hts _ k_175) (fun _ h9 => h9) rfl d_PR_fillTargets_11 ?_
      refine lv_iload_n hx hb d_PR_fillTargets_14 rfl (lv_at hl 0 rfl) ?_
      refine va_iald hx hb hK hP 1 0 rfl rfl (vp_in_nI (by omega) (by decide)) d_PR_fillTargets_15 ?_
      refine lv_topi (fun y9 e9 => ?_)
      have e9 : y9 = fn i := e9.trans (by rw [nI_clamp (by omega)])
      subst e9
      have hPc := hP.sub (ws' := []) [] rfl
      refine vp_callSi (va_runS (As := [.int (fn i)]) (rest := []) ⟨hx, hb, hml, hown, hts⟩ (m_hasS l D cI cZ (fn i)) ⟨cB 1 hts k_469 k_68 k_467 hd_SO_hasTarget ⟨Nat.le_of_ble_eq_true rfl, Nat.le_of_ble_eq_true rfl⟩ rfl rfl, hts _ k_468⟩ (PcR.preS hPc hK hN) rfl rfl hl.1 rfl (lv_room (Nat.le_of_ble_eq_true rfl)) d_PR_fillTargets_16 ⟨Nat.le_of_ble_eq_true rfl, Nat.le_of_ble_eq_true rfl⟩).run (fun r16 e16 => ?_)
      replace e16 := e16.symm
      subst e16
      refine lv_if_eq (tgt := 43) hx hb d_PR_fillTargets_19 rfl (fun h19 => ?_) (fun h19 => ?_)
      · have h19 : hasSB (fn i) = false := bI_f h19
        refine lv_iinc (k := 0) (v := nI (i + 1)) hx hb d_PR_fillTargets_43 hl rfl (nI_inc _) (by decide) rfl (fun ls hl => ?_)
        have hl : lv_has ls 2 [(1, .int (nI (i + 1))), (0, .ref pr)] := hl
        refine lv_goto (tgt := 2) hx hb d_PR_fillTargets_46 rfl ?_
        rw [show tgtN fn fw i fy = tgtN fn fw (i + 1) fy from by rw [tgtN, if_neg (by rw [h19]; decide)]] at hP hD
        exact ih (i + 1) (by omega) H locs ls hl hP hD hS
      · have h19 : hasSB (fn i) = true := bI_t h19
        refine lv_aload_n hx hb d_PR_fillTargets_22 rfl (lv_at hl 1 rfl) ?_
        refine va_get (D := D) (ci := 2) (v := .ref ys) (C := R_PR) (T := T_PR) (N := 6) hx hb hts iw_PR hown hK hP 0 rfl rfl 2 (by decide) (hts _ k_177) (fun _ h9 => h9) rfl d_PR_fillTargets_23 ?_
        refine lv_iload_n hx hb d_PR_fillTargets_26 rfl (lv_at hl 0 rfl) ?_
        refine lv_aload_n hx hb d_PR_fillTargets_27 rfl (lv_at hl 1 rfl) ?_
        refine va_get (D := D) (ci := 2) (v := .ref wh) (C := R_PR) (T := T_PR) (N := 6) hx hb hts iw_PR hown hK hP 0 rfl rfl 4 (by decide) (hts _ k_179) (fun _ h9 => h9) rfl d_PR_fillTargets_28 ?_
        refine lv_aload_n hx hb d_PR_fillTargets_31 rfl (lv_at hl 1 rfl) ?_
        refine va_get (D := D) (ci := 2) (v := .ref ys) (C := R_PR) (T := T_PR) (N := 6) hx hb hts iw_PR hown hK hP 0 rfl rfl 2 (by decide) (hts _ k_177) (fun _ h9 => h9) rfl d_PR_fillTargets_32 ?_
        refine lv_iload_n hx hb d_PR_fillTargets_35 rfl (lv_at hl 0 rfl) ?_
        refine va_iald hx hb hK hP 3 0 rfl rfl (vp_in_nI (by omega) (by decide)) d_PR_fillTargets_36 ?_
        refine lv_topi (fun y9 e9 => ?_)
        have e9 : y9 = tgtN fn fw i fy i := e9.trans (by rw [nI_clamp (by omega)])
        subst e9
        refine lv_sipush (v := 255) hx hb d_PR_fillTargets_37 (by decide) ?_
        refine lv_iand hx hb d_PR_fillTargets_40 ?_
        refine va_iald hx hb hK hP 4 0 rfl rfl (in255 _) d_PR_fillTargets_41 ?_
        refine lv_topi (fun y9 e9 => ?_)
        have e9 : y9 = rd fw (tgtN fn fw i fy i) := e9.trans rfl
        subst e9
        refine va_iast hx hb hK hP hD hS 3 0 rfl rfl (vp_in_nI (by omega) (by decide)) d_PR_fillTargets_42 (fun H locs hP hD hS => ?_)
        have hP : va_P D vwCl [(pr, .inr (2, [.ref nu, .ref xs, .ref ys, .ref be, .ref wh, .int (nI n)])), (nu, .inl (cI, 1024, .inl fn)), (xs, .inl (cI, 1024, .inl fx)), (ys, .inl (cI, 1024, .inl (upd (tgtN fn fw i fy) (nI i).toNatClampNeg (rd fw (tgtN fn fw i fy i))))), (wh, .inl (cI, 256, .inl fw))] H := hP
        have hD : va_D A [(pr, .inr (2, [.ref nu, .ref xs, .ref ys, .ref be, .ref wh, .int (nI n)])), (nu, .inl (cI, 1024, .inl fn)), (xs, .inl (cI, 1024, .inl fx)), (ys, .inl (cI, 1024, .inl (upd (tgtN fn fw i fy) (nI i).toNatClampNeg (rd fw (tgtN fn fw i fy i))))), (wh, .inl (cI, 256, .inl fw))] := hD
        refine lv_iinc (k := 0) (v := nI (i + 1)) hx hb d_PR_fillTargets_43 hl rfl (nI_inc _) (by decide) rfl (fun ls hl => ?_)
        have hl : lv_has ls 2 [(1, .int (nI (i + 1))), (0, .ref pr)] := hl
        refine lv_goto (tgt := 2) hx hb d_PR_fillTargets_46 rfl ?_
        rw [nI_clamp (show i < 2 ^ 31 by omega)] at hP hD
        rw [show upd (tgtN fn fw i fy) i (rd fw (tgtN fn fw i fy i)) = tgtN fn fw (i + 1) fy from by rw [tgtN, if_pos h19]] at hP hD
        exact ih (i + 1) (by omega) H locs ls hl hP hD hS
  exact loop n 0 (Nat.zero_add n) H [] ls hl hP hD hS
