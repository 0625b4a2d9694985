set_option maxHeartbeats 4000000 in
set_option maxRecDepth 100000 in
theorem q_reach (l : Launch) (D : va_G) (cI cZ : ClassId) (o : Nat) (th : Int32) (im : Nat) (tr : Bool) (rc : Nat) (bg : Nat) (ro : Int32) (oa : Nat) (xa : Nat) (ya : Nat) (rg : Nat) (me : Nat) (sa : Nat) (pa : Nat) (za : Nat) (ca : Nat) (kp : Bool) (ta : Nat) (na : Nat) (fi : Nat → Int32) (fr : Nat → Int32) (en : Int32) (sz : Nat) (hfi : ∀ j : Nat, j < 256 → vp_in (fi j) 256) : MetV l y_MO_reach w_MO_reach { frames := 1, cells := 0, slots := 0, locals := 20 } D cI cZ [.ref o, .int en] [(o, .inr (5, [.int th, .ref im, .int (bI tr), .ref rc, .ref bg, .int ro, .ref oa, .ref xa, .ref ya, .ref rg, .ref me, .ref sa, .ref pa, .ref za, .ref ca, .int (bI kp), .ref ta, .ref na])), (im, .inl (cI, 256, .inl fi)), (rc, .inl (cZ, 256, .inl fr))] sz (fun (fr1 : (Nat → Int32)) => fr1 = (rOut fi 256 (filE en fr 256, true)).1) (fun (fr1 : (Nat → Int32)) => [(o, .inr (5, [.int th, .ref im, .int (bI tr), .ref rc, .ref bg, .int ro, .ref oa, .ref xa, .ref ya, .ref rg, .ref me, .ref sa, .ref pa, .ref za, .ref ca, .int (bI kp), .ref ta, .ref na])), (im, .inl (cI, 256, .inl fi)), (rc, .inl (cZ, 256, .inl fr1))]) 0 0 := by
  refine ofV (cc := c_MO_reach) (maxL := 9) (ret := none) (by decide) rfl (Nat.le_of_ble_eq_true rfl) ?_
  intro p e s m args below meth c A H hH0 hx hb hr hlocks hts hown hnm hml ls hl hP hK hD hA hS hN
  have hown : s.vm.findClass R_MO = some m.cls := hown
  have hl : lv_has ls 9 [(0, .ref o), (1, .int en)] := hl
  refine lv_iconst (v := 0) hx hb d_MO_reach_0 (by decide) ?_
  refine lv_istore_n hx hb d_MO_reach_1 rfl hl (by decide) rfl (fun ls hl => ?_)
  have hl : lv_has ls 9 [(2, .int 0), (0, .ref o), (1, .int en)] := hl
  rw [← filE_0 en fr] at hP hD
  have loop1 : ∀ (k : Nat) (i : Nat), (i + k = 256) → ∀ (H : Heap) (locs : List Loc) (ls : Array Slot), lv_has ls 9 [(2, .int (nI i)), (0, .ref o), (1, .int en)] → va_P D vwCl [(o, .inr (5, [.int th, .ref im, .int (bI tr), .ref rc, .ref bg, .int ro, .ref oa, .ref xa, .ref ya, .ref rg, .ref me, .ref sa, .ref pa, .ref za, .ref ca, .int (bI kp), .ref ta, .ref na])), (im, .inl (cI, 256, .inl fi)), (rc, .inl (cZ, 256, .inl (filE en fr i)))] H → va_D A [(o, .inr (5, [.int th, .ref im, .int (bI tr), .ref rc, .ref bg, .int ro, .ref oa, .ref xa, .ref ya, .ref rg, .ref me, .ref sa, .ref pa, .ref za, .ref ca, .int (bI kp), .ref ta, .ref na])), (im, .inl (cI, 256, .inl fi)), (rc, .inl (cZ, 256, .inl (filE en fr i)))] → va_S A s.heap H locs → W p l e { frames := 1, cells := 0, slots := 0, locals := 20 } s m args below meth c H locs 0 0 (MQ below (QV D cI cZ (fun (fr1 : (Nat → Int32)) => fr1 = (rOut fi 256 (filE en fr 256, true)).1) (fun (fr1 : (Nat → Int32)) => [(o, .inr (5, [.int th, .ref im, .int (bI tr), .ref rc, .ref bg, .int ro, .ref oa, .ref xa, .ref ya, .ref rg, .ref me, .ref sa, .ref pa, .ref za, .ref ca, .int (bI kp), .ref ta, .ref na])), (im, .inl (cI, 256, .inl fi)), (rc, .inl (cZ, 256, .inl fr1))]) A) args s 0 0 A) (F0 m 2 ls []) := by
    intro k
    induction k with
    | zero =>
      intro i hk H locs ls hl hP hD hS
      refine lv_iload_n hx hb d_MO_reach_2 rfl (lv_at hl 0 rfl) ?_
      refine lv_sipush (v := 256) hx hb d_MO_reach_3 (by decide) ?_
      refine lv_icmp_ge (tgt := 31) hx hb d_MO_reach_6 rfl (fun _ => ?_) (fun hq9 => absurd (by rw [show i = 256 from hk]; decide) hq9)
      refine lv_iconst (v := 1) hx hb d_MO_reach_31 (by decide) ?_
      refine lv_istore_n hx hb d_MO_reach_32 rfl hl (by decide) rfl (fun ls hl => ?_)
      have hl : lv_has ls 9 [(2, .int 1), (0, .ref o), (1, .int en)] := hl
      refine lv_iconst (v := 0) hx hb d_MO_reach_33 (by decide) ?_
      refine lv_istore_n hx hb d_MO_reach_34 rfl hl (by decide) rfl (fun ls hl => ?_)
      have hl : lv_has ls 9 [(3, .int 0), (2, .int 1), (0, .ref o), (1, .int en)] := hl
      rw [show i = 256 from hk] at hP hD
      have loop2 : ∀ (k : Nat) (tn : Nat) (rL : Nat → Int32) (mr : Bool), (tn + k = 256) → (rOut fi 256 (filE en fr 256, true) = rOut fi k (rL, mr)) → ∀ (H : Heap) (locs : List Loc) (ls : Array Slot), lv_has ls 9 [(3, .int (nI tn)), (2, .int (bI mr)), (0, .ref o), (1, .int en)] → va_P D vwCl [(o, .inr (5, [.int th, .ref im, .int (bI tr), .ref rc, .ref bg, .int ro, .ref oa, .ref xa, .ref ya, .ref rg, .ref me, .ref sa, .ref pa, .ref za, .ref ca, .int (bI kp), .ref ta, .ref na])), (im, .inl (cI, 256, .inl fi)), (rc, .inl (cZ, 256, .inl rL))] H → va_D A [(o, .inr (5, [.int th, .ref im, .int (bI tr), .ref rc, .ref bg, .int ro, .ref oa, .ref xa, .ref ya, .ref rg, .ref me, .ref sa, .ref pa, .ref za, .ref ca, .int (bI kp), .ref ta, .ref na])), (im, .inl (cI, 256, .inl fi)), (rc, .inl (cZ, 256, .inl rL))] → va_S A s.heap H locs → W p l e { frames := 1, cells := 0, slots := 0, locals := 20 } s m args below meth c H locs 0 0 (MQ below (QV D cI cZ (fun (fr1 : (Nat → Int32)) => fr1 = (rOut fi 256 (filE en fr 256, true)).1) (fun (fr1 : (Nat → Int32)) => [(o, .inr (5, [.int th, .ref im, .int (bI tr), .ref rc, .ref bg, .int ro, .ref oa, .ref xa, .ref ya, .ref rg, .ref me, .ref sa, .ref pa, .ref za, .ref ca, .int (bI kp), .ref ta, .ref na])), (im, .inl (cI, 256, .inl fi)), (rc, .inl (cZ, 256, .inl fr1))]) A) args s 0 0 A) (F0 m 35 ls []) := by
        intro k
        induction k with
        | zero =>
          intro tn rL mr hk2 hI2 H locs ls hl hP hD hS
          refine lv_iload_n hx hb d_MO_reach_35 rfl (lv_at hl 0 rfl) ?_
          refine lv_sipush (v := 256) hx hb d_MO_reach_36 (by decide) ?_
          refine lv_icmp_ge (tgt := 199) hx hb d_MO_reach_39 rfl (fun _ => ?_) (fun hq9 => absurd (by rw [show tn = 256 from hk2]; decide) hq9)
          have hP9 : va_P D vwCl [(o, .inr (5, [.int th, .ref im, .int (bI tr), .ref rc, .ref bg, .int ro, .ref oa, .ref xa, .ref ya, .ref rg, .ref me, .ref sa, .ref pa, .ref za, .ref ca, .int (bI kp), .ref ta, .ref na])), (im, .inl (cI, 256, .inl fi)), (rc, .inl (cZ, 256, .inl rL))] H := hP.sub [0, 1, 2] rfl
          have hD9 : va_D A [(o, .inr (5, [.int th, .ref im, .int (bI tr), .ref rc, .ref bg, .int ro, .ref oa, .ref xa, .ref ya, .ref rg, .ref me, .ref sa, .ref pa, .ref za, .ref ca, .int (bI kp), .ref ta, .ref na])), (im, .inl (cI, 256, .inl fi)), (rc, .inl (cZ, 256, .inl rL))] := hD.sub [0, 1, 2] (by decide) rfl
          exact W.vret hx hb hr (fun t ht hW => ⟨⟨rL, rfl, by rw [hI2, rOut], by rw [ht]; exact hP9, va_K.moved hW.alike hK, hD9⟩, hS.F ht⟩) hS.2.2 d_MO_reach_199
        | succ k ih =>
          intro tn rL mr hk2 hI2 H locs ls hl hP hD hS
          refine lv_iload_n hx hb d_MO_reach_35 rfl (lv_at hl 0 rfl) ?_
          refine lv_sipush (v := 256) hx hb d_MO_reach_36 (by decide) ?_
          refine lv_icmp_ge (tgt := 199) hx hb d_MO_reach_39 rfl (fun hq9 => absurd hq9 (nI_ge (b := 256) (by omega) (by decide))) (fun _ => ?_)
          refine lv_iload_n hx hb d_MO_reach_42 rfl (lv_at hl 1 rfl) ?_
          refine lv_if_eq (tgt := 199) hx hb d_MO_reach_43 rfl (fun h43 => ?_) (fun h43 => ?_)
          · have h43 : mr = false := bI_f h43
            have hP9 : va_P D vwCl [(o, .inr (5, [.int th, .ref im, .int (bI tr), .ref rc, .ref bg, .int ro, .ref oa, .ref xa, .ref ya, .ref rg, .ref me, .ref sa, .ref pa, .ref za, .ref ca, .int (bI kp), .ref ta, .ref na])), (im, .inl (cI, 256, .inl fi)), (rc, .inl (cZ, 256, .inl rL))] H := hP.sub [0, 1, 2] rfl
            have hD9 : va_D A [(o, .inr (5, [.int th, .ref im, .int (bI tr), .ref rc, .ref bg, .int ro, .ref oa, .ref xa, .ref ya, .ref rg, .ref me, .ref sa, .ref pa, .ref za, .ref ca, .int (bI kp), .ref ta, .ref na])), (im, .inl (cI, 256, .inl fi)), (rc, .inl (cZ, 256, .inl rL))] := hD.sub [0, 1, 2] (by decide) rfl
            exact W.vret hx hb hr (fun t ht hW => ⟨⟨rL, rfl, by rw [hI2, rOut, if_neg (by rw [show (rL, mr).2 = false from h43]; decide)], by rw [ht]; exact hP9, va_K.moved hW.alike hK, hD9⟩, hS.F ht⟩) hS.2.2 d_MO_reach_199
          · have h43 : mr = true := bI_t h43
            refine lv_iconst (v := 0) hx hb d_MO_reach_46 (by decide) ?_
            refine lv_istore_n hx hb d_MO_reach_47 rfl hl (by decide) rfl (fun ls hl => ?_)
            have hl : lv_has ls 9 [(2, .int 0), (3, .int (nI tn)), (0, .ref o), (1, .int en)] := hl
            refine lv_iconst (v := 0) hx hb d_MO_reach_48 (by decide) ?_
            refine lv_istore hx hb d_MO_reach_49 hl (by decide) rfl (fun ls hl => ?_)
            have hl : lv_has ls 9 [(4, .int 0), (2, .int 0), (3, .int (nI tn)), (0, .ref o), (1, .int en)] := hl
            have loop3 : ∀ (k : Nat) (i3 : Nat) (r3 : Nat → Int32) (m3 : Bool), (i3 + k = 256) → ((r3, m3) = rInn fi i3 (rL, false)) → ∀ (H : Heap) (locs : List Loc) (ls : Array Slot), lv_has ls 9 [(4, .int (nI i3)), (2, .int (bI m3)), (3, .int (nI tn)), (0, .ref o), (1, .int en)] → va_P D vwCl [(o, .inr (5, [.int th, .ref im, .int (bI tr), .ref rc, .ref bg, .int ro, .ref oa, .ref xa, .ref ya, .ref rg, .ref me, .ref sa, .ref pa, .ref za, .ref ca, .int (bI kp), .ref ta, .ref na])), (im, .inl (cI, 256, .inl fi)), (rc, .inl (cZ, 256, .inl r3))] H → va_D A [(o, .inr (5, [.int th, .ref im, .int (bI tr), .ref rc, .ref bg, .int ro, .ref oa, .ref xa, .ref ya, .ref rg, .ref me, .ref sa, .ref pa, .ref za, .ref ca, .int (bI kp), .ref ta, .ref na])), (im, .inl (cI, 256, .inl fi)), (rc, .inl (cZ, 256, .inl r3))] → va_S A s.heap H locs → W p l e { frames := 1, cells := 0, slots := 0, locals := 20 } s m args below meth c H locs 0 0 (MQ below (QV D cI cZ (fun (fr1 : (Nat → Int32)) => fr1 = (rOut fi 256 (filE en fr 256, true)).1) (fun (fr1 : (Nat → Int32)) => [(o, .inr (5, [.int th, .ref im, .int (bI tr), .ref rc, .ref bg, .int ro, .ref oa, .ref xa, .ref ya, .ref rg, .ref me, .ref sa, .ref pa, .ref za, .ref ca, .int (bI kp), .ref ta, .ref na])), (im, .inl (cI, 256, .inl fi)), (rc, .inl (cZ, 256, .inl fr1))]) A) args s 0 0 A) (F0 m 51 ls []) := by
              intro k
              induction k with
              | zero =>
                intro i3 r3 m3 hk3 hI3 H locs ls hl hP hD hS
                refine lv_iload hx hb d_MO_reach_51 (lv_at hl 0 rfl) ?_
                refine lv_sipush (v := 256) hx hb d_MO_reach_53 (by decide) ?_
                refine lv_icmp_ge (tgt := 193) hx hb d_MO_reach_56 rfl (fun _ => ?_) (fun hq9 => absurd (by rw [show i3 = 256 from hk3]; decide) hq9)
                refine lv_iinc (k := 2) (v := nI (tn + 1)) hx hb d_MO_reach_193 hl rfl (nI_inc _) (by decide) rfl (fun ls hl => ?_)
                have hl : lv_has ls 9 [(3, .int (nI (tn + 1))), (4, .int (nI i3)), (2, .int (bI m3)), (0, .ref o), (1, .int en)] := hl
                refine lv_goto (tgt := 35) hx hb d_MO_reach_196 rfl ?_
                exact ih (tn + 1) r3 m3 (by omega) (by rw [hI2, rOut, if_pos (show (rL, mr).2 = true from h43), hI3, show i3 = 256 from hk3]) H locs ls (lv_sub hl [0, 2, 3, 4] rfl) hP hD hS
              | succ k ih =>
                intro i3 r3 m3 hk3 hI3 H locs ls hl hP hD hS
                refine lv_iload hx hb d_MO_reach_51 (lv_at hl 0 rfl) ?_
                refine lv_sipush (v := 256) hx hb d_MO_reach_53 (by decide) ?_
                refine lv_icmp_ge (tgt := 193) hx hb d_MO_reach_56 rfl (fun hq9 => absurd hq9 (nI_ge (b := 256) (by omega) (by decide))) (fun _ => ?_)
                refine lv_aload_n hx hb d_MO_reach_59 rfl (lv_at hl 3 rfl) ?_
                refine va_get (D := D) (ci := 5) (v := .ref im) (C := R_MO) (T := T_MO) (N := 18) hx hb hts iw_MO hown hK hP 0 rfl rfl 1 (by decide) (hts _ k_696) (fun _ h9 => h9) rfl d_MO_reach_60 ?_
                refine lv_iload hx hb d_MO_reach_63 (lv_at hl 0 rfl) ?_
                refine va_iald hx hb hK hP 1 0 rfl rfl (vp_in_nI (by omega) (by decide)) d_MO_reach_65 ?_
                refine lv_topi (fun y9 e9 => ?_)
                have e9 : y9 = fi i3 := e9.trans (by rw [nI_clamp (by omega)])
                subst e9
                refine lv_istore hx hb d_MO_reach_66 hl (by decide) rfl (fun ls hl => ?_)
                have hl : lv_has ls 9 [(5, .int (fi i3)), (4, .int (nI i3)), (2, .int (bI m3)), (3, .int (nI tn)), (0, .ref o), (1, .int en)] := hl
                refine lv_aload_n hx hb d_MO_reach_68 rfl (lv_at hl 4 rfl) ?_
                refine va_get (D := D) (ci := 5) (v := .ref rc) (C := R_MO) (T := T_MO) (N := 18) hx hb hts iw_MO hown hK hP 0 rfl rfl 3 (by decide) (hts _ k_698) (fun _ h9 => h9) rfl d_MO_reach_69 ?_
                refine lv_iload hx hb d_MO_reach_72 (lv_at hl 1 rfl) ?_
                refine va_zald hx hb hK hP 2 1 rfl rfl (vp_in_nI (by omega) (by decide)) d_MO_reach_74 ?_
                refine lv_topi (fun y9 e9 => ?_)
                have e9 : y9 = r3 i3 := e9.trans (by rw [nI_clamp (by omega)])
                subst e9
                refine lv_if_eq (tgt := 89) hx hb d_MO_reach_75 rfl (fun h75 => ?_) (fun h75 => ?_)
                · have h75 : r3 i3 = 0 := h75
                  refine lv_iconst (v := 0) hx hb d_MO_reach_89 (by decide) ?_
                  refine lv_istore hx hb d_MO_reach_90 hl (by decide) rfl (fun ls hl => ?_)
                  have hl : lv_has ls 9 [(6, .int 0), (5, .int (fi i3)), (4, .int (nI i3)), (2, .int (bI m3)), (3, .int (nI tn)), (0, .ref o), (1, .int en)] := hl
                  refine lv_iload hx hb d_MO_reach_92 (lv_at hl 2 rfl) ?_
                  refine lv_iload hx hb d_MO_reach_94 (lv_at hl 1 rfl) ?_
                  have hPc := hP.sub (ws' := []) [] rfl
                  refine vp_callSi (va_runS (As := [.int (fi i3)]) (rest := [.int (nI i3)]) ⟨hx, hb, hml, hown, hts⟩ (q_len l D cI cZ (fi i3)) ⟨cB 1 hts k_771 k_62 k_769 hd_MO_length ⟨Nat.le_of_ble_eq_true rfl, Nat.le_of_ble_eq_true rfl⟩ rfl rfl, hts _ k_770⟩ (PcR.preS hPc hK hN) rfl rfl hl.1 rfl (lv_room (Nat.le_of_ble_eq_true rfl)) d_MO_reach_96 ⟨Nat.le_of_ble_eq_true rfl, Nat.le_of_ble_eq_true rfl⟩).run (fun r96 e96 => ?_)
                  replace e96 := e96.symm
                  subst e96
                  refine lv_iadd hx hb d_MO_reach_99 ?_
                  refine lv_sipush (v := 255) hx hb d_MO_reach_100 (by decide) ?_
                  refine lv_iand hx hb d_MO_reach_103 ?_
                  refine lv_istore hx hb d_MO_reach_104 hl (by decide) rfl (fun ls hl => ?_)
                  have hl : lv_has ls 9 [(7, .int (((nI i3) + (lenI (fi i3))) &&& 255)), (6, .int 0), (5, .int (fi i3)), (4, .int (nI i3)), (2, .int (bI m3)), (3, .int (nI tn)), (0, .ref o), (1, .int en)] := hl
                  refine lv_aload_n hx hb d_MO_reach_106 rfl (lv_at hl 6 rfl) ?_
                  refine va_get (D := D) (ci := 5) (v := .ref im) (C := R_MO) (T := T_MO) (N := 18) hx hb hts iw_MO hown hK hP 0 rfl rfl 1 (by decide) (hts _ k_696) (fun _ h9 => h9) rfl d_MO_reach_107 ?_
                  refine lv_iload hx hb d_MO_reach_110 (lv_at hl 3 rfl) ?_
                  refine lv_iconst (v := 1) hx hb d_MO_reach_112 (by decide) ?_
                  refine lv_iadd hx hb d_MO_reach_113 ?_
                  refine lv_sipush (v := 255) hx hb d_MO_reach_114 (by decide) ?_
                  refine lv_iand hx hb d_MO_reach_117 ?_
                  refine va_iald hx hb hK hP 1 0 rfl rfl (in255 _) d_MO_reach_118 ?_
                  refine lv_topi (fun y9 e9 => ?_)
                  have e9 : y9 = rd fi (nI i3 + 1) := e9.trans rfl
                  subst e9
                  refine lv_istore hx hb d_MO_reach_119 hl (by decide) rfl (fun ls hl => ?_)
                  have hl : lv_has ls 9 [(8, .int (rd fi (nI i3 + 1))), (7, .int (((nI i3) + (lenI (fi i3))) &&& 255)), (6, .int 0), (5, .int (fi i3)), (4, .int (nI i3)), (2, .int (bI m3)), (3, .int (nI tn)), (0, .ref o), (1, .int en)] := hl
                  refine lv_iload hx hb d_MO_reach_121 (lv_at hl 2 rfl) ?_
                  refine lv_if_eq (tgt := 154) hx hb d_MO_reach_123 rfl (fun _ => ?_) (fun hq9 => absurd (by decide) hq9)
                  refine lv_iload hx hb d_MO_reach_154 (lv_at hl 2 rfl) ?_
                  refine lv_if_eq (tgt := 187) hx hb d_MO_reach_156 rfl (fun _ => ?_) (fun hq9 => absurd (by decide) hq9)
                  refine lv_iinc (k := 4) (v := nI (i3 + 1)) hx hb d_MO_reach_187 hl rfl (nI_inc _) (by decide) rfl (fun ls hl => ?_)
                  have hl : lv_has ls 9 [(4, .int (nI (i3 + 1))), (8, .int (rd fi (nI i3 + 1))), (7, .int (((nI i3) + (lenI (fi i3))) &&& 255)), (6, .int 0), (5, .int (fi i3)), (2, .int (bI m3)), (3, .int (nI tn)), (0, .ref o), (1, .int en)] := hl
                  refine lv_goto (tgt := 51) hx hb d_MO_reach_190 rfl ?_
                  have hkn : knB fi r3 i3 = false := by rw [knB, if_pos h75]
                  exact ih (i3 + 1) r3 m3 (by omega) (by rw [rInn, ← hI3, rStp, show knB fi (r3, m3).1 i3 = false from hkn, rS1, if_neg (by decide), rS2, if_neg (by decide)]) H locs ls (lv_sub hl [0, 5, 6, 7, 8] rfl) hP hD hS
                · have h75 : ¬ r3 i3 = 0 := h75
                  refine lv_iload hx hb d_MO_reach_78 (lv_at hl 0 rfl) ?_
                  refine lv_bipush (v := 32) hx hb d_MO_reach_80 (by decide) ?_
                  refine lv_icmp_ge (tgt := 89) hx hb d_MO_reach_82 rfl (fun h82 => ?_) (fun h82 => ?_)
                  · refine lv_iconst (v := 0) hx hb d_MO_reach_89 (by decide) ?_
                    refine lv_istore hx hb d_MO_reach_90 hl (by decide) rfl (fun ls hl => ?_)
                    have hl : lv_has ls 9 [(6, .int 0), (5, .int (fi i3)), (4, .int (nI i3)), (2, .int (bI m3)), (3, .int (nI tn)), (0, .ref o), (1, .int en)] := hl
                    refine lv_iload hx hb d_MO_reach_92 (lv_at hl 2 rfl) ?_
                    refine lv_iload hx hb d_MO_reach_94 (lv_at hl 1 rfl) ?_
                    have hPc := hP.sub (ws' := []) [] rfl
                    refine vp_callSi (va_runS (As := [.int (fi i3)]) (rest := [.int (nI i3)]) ⟨hx, hb, hml, hown, hts⟩ (q_len l D cI cZ (fi i3)) ⟨cB 1 hts k_771 k_62 k_769 hd_MO_length ⟨Nat.le_of_ble_eq_true rfl, Nat.le_of_ble_eq_true rfl⟩ rfl rfl, hts _ k_770⟩ (PcR.preS hPc hK hN) rfl rfl hl.1 rfl (lv_room (Nat.le_of_ble_eq_true rfl)) d_MO_reach_96 ⟨Nat.le_of_ble_eq_true rfl, Nat.le_of_ble_eq_true rfl⟩).run (fun r96 e96 => ?_)
                    replace e96 := e96.symm
                    subst e96
                    refine lv_iadd hx hb d_MO_reach_99 ?_
                    refine lv_sipush (v := 255) hx hb d_MO_reach_100 (by decide) ?_
                    refine lv_iand hx hb d_MO_reach_103 ?_
                    refine lv_istore hx hb d_MO_reach_104 hl (by decide) rfl (fun ls hl => ?_)
                    have hl : lv_has ls 9 [(7, .int (((nI i3) + (lenI (fi i3))) &&& 255)), (6, .int 0), (5, .int (fi i3)), (4, .int (nI i3)), (2, .int (bI m3)), (3, .int (nI tn)), (0, .ref o), (1, .int en)] := hl
                    refine lv_aload_n hx hb d_MO_reach_106 rfl (lv_at hl 6 rfl) ?_
                    refine va_get (D := D) (ci := 5) (v := .ref im) (C := R_MO) (T := T_MO) (N := 18) hx hb hts iw_MO hown hK hP 0 rfl rfl 1 (by decide) (hts _ k_696) (fun _ h9 => h9) rfl d_MO_reach_107 ?_
                    refine lv_iload hx hb d_MO_reach_110 (lv_at hl 3 rfl) ?_
                    refine lv_iconst (v := 1) hx hb d_MO_reach_112 (by decide) ?_
                    refine lv_iadd hx hb d_MO_reach_113 ?_
                    refine lv_sipush (v := 255) hx hb d_MO_reach_114 (by decide) ?_
                    refine lv_iand hx hb d_MO_reach_117 ?_
                    refine va_iald hx hb hK hP 1 0 rfl rfl (in255 _) d_MO_reach_118 ?_
                    refine lv_topi (fun y9 e9 => ?_)
                    have e9 : y9 = rd fi (nI i3 + 1) := e9.trans rfl
                    subst e9
                    refine lv_istore hx hb d_MO_reach_119 hl (by decide) rfl (fun ls hl => ?_)
                    have hl : lv_has ls 9 [(8, .int (rd fi (nI i3 + 1))), (7, .int (((nI i3) + (lenI (fi i3))) &&& 255)), (6, .int 0), (5, .int (fi i3)), (4, .int (nI i3)), (2, .int (bI m3)), (3, .int (nI tn)), (0, .ref o), (1, .int en)] := hl
                    refine lv_iload hx hb d_MO_reach_121 (lv_at hl 2 rfl) ?_
                    refine lv_if_eq (tgt := 154) hx hb d_MO_reach_123 rfl (fun _ => ?_) (fun hq9 => absurd (by decide) hq9)
                    refine lv_iload hx hb d_MO_reach_154 (lv_at hl 2 rfl) ?_
                    refine lv_if_eq (tgt := 187) hx hb d_MO_reach_156 rfl (fun _ => ?_) (fun hq9 => absurd (by decide) hq9)
                    refine lv_iinc (k := 4) (v := nI (i3 + 1)) hx hb d_MO_reach_187 hl rfl (nI_inc _) (by decide) rfl (fun ls hl => ?_)
                    have hl : lv_has ls 9 [(4, .int (nI (i3 + 1))), (8, .int (rd fi (nI i3 + 1))), (7, .int (((nI i3) + (lenI (fi i3))) &&& 255)), (6, .int 0), (5, .int (fi i3)), (2, .int (bI m3)), (3, .int (nI tn)), (0, .ref o), (1, .int en)] := hl
                    refine lv_goto (tgt := 51) hx hb d_MO_reach_190 rfl ?_
                    have hkn : knB fi r3 i3 = false := by rw [knB, if_neg h75, if_pos h82]
                    exact ih (i3 + 1) r3 m3 (by omega) (by rw [rInn, ← hI3, rStp, show knB fi (r3, m3).1 i3 = false from hkn, rS1, if_neg (by decide), rS2, if_neg (by decide)]) H locs ls (lv_sub hl [0, 5, 6, 7, 8] rfl) hP hD hS
                  · refine lv_iconst (v := 1) hx hb d_MO_reach_85 (by decide) ?_
                    refine lv_goto (tgt := 90) hx hb d_MO_reach_86 rfl ?_
                    refine lv_istore hx hb d_MO_reach_90 hl (by decide) rfl (fun ls hl => ?_)
                    have hl : lv_has ls 9 [(6, .int 1), (5, .int (fi i3)), (4, .int (nI i3)), (2, .int (bI m3)), (3, .int (nI tn)), (0, .ref o), (1, .int en)] := hl
                    refine lv_iload hx hb d_MO_reach_92 (lv_at hl 2 rfl) ?_
                    refine lv_iload hx hb d_MO_reach_94 (lv_at hl 1 rfl) ?_
                    have hPc := hP.sub (ws' := []) [] rfl
                    refine vp_callSi (va_runS (As := [.int (fi i3)]) (rest := [.int (nI i3)]) ⟨hx, hb, hml, hown, hts⟩ (q_len l D cI cZ (fi i3)) ⟨cB 1 hts k_771 k_62 k_769 hd_MO_length ⟨Nat.le_of_ble_eq_true rfl, Nat.le_of_ble_eq_true rfl⟩ rfl rfl, hts _ k_770⟩ (PcR.preS hPc hK hN) rfl rfl hl.1 rfl (lv_room (Nat.le_of_ble_eq_true rfl)) d_MO_reach_96 ⟨Nat.le_of_ble_eq_true rfl, Nat.le_of_ble_eq_true rfl⟩).run (fun r96 e96 => ?_)
                    replace e96 := e96.symm
                    subst e96
                    refine lv_iadd hx hb d_MO_reach_99 ?_
                    refine lv_sipush (v := 255) hx hb d_MO_reach_100 (by decide) ?_
                    refine lv_iand hx hb d_MO_reach_103 ?_
                    refine lv_istore hx hb d_MO_reach_104 hl (by decide) rfl (fun ls hl => ?_)
                    have hl : lv_has ls 9 [(7, .int (((nI i3) + (lenI (fi i3))) &&& 255)), (6, .int 1), (5, .int (fi i3)), (4, .int (nI i3)), (2, .int (bI m3)), (3, .int (nI tn)), (0, .ref o), (1, .int en)] := hl
                    refine lv_aload_n hx hb d_MO_reach_106 rfl (lv_at hl 6 rfl) ?_
                    refine va_get (D := D) (ci := 5) (v := .ref im) (C := R_MO) (T := T_MO) (N := 18) hx hb hts iw_MO hown hK hP 0 rfl rfl 1 (by decide) (hts _ k_696) (fun _ h9 => h9) rfl d_MO_reach_107 ?_
                    refine lv_iload hx hb d_MO_reach_110 (lv_at hl 3 rfl) ?_
                    refine lv_iconst (v := 1) hx hb d_MO_reach_112 (by decide) ?_
                    refine lv_iadd hx hb d_MO_reach_113 ?_
                    refine lv_sipush (v := 255) hx hb d_MO_reach_114 (by decide) ?_
                    refine lv_iand hx hb d_MO_reach_117 ?_
                    refine va_iald hx hb hK hP 1 0 rfl rfl (in255 _) d_MO_reach_118 ?_
                    refine lv_topi (fun y9 e9 => ?_)
                    have e9 : y9 = rd fi (nI i3 + 1) := e9.trans rfl
                    subst e9
                    refine lv_istore hx hb d_MO_reach_119 hl (by decide) rfl (fun ls hl => ?_)
                    have hl : lv_has ls 9 [(8, .int (rd fi (nI i3 + 1))), (7, .int (((nI i3) + (lenI (fi i3))) &&& 255)), (6, .int 1), (5, .int (fi i3)), (4, .int (nI i3)), (2, .int (bI m3)), (3, .int (nI tn)), (0, .ref o), (1, .int en)] := hl
                    refine lv_iload hx hb d_MO_reach_121 (lv_at hl 2 rfl) ?_
                    refine lv_if_eq (tgt := 154) hx hb d_MO_reach_123 rfl (fun hq9 => absurd hq9 (by decide)) (fun _ => ?_)
                    refine lv_iload hx hb d_MO_reach_126 (lv_at hl 3 rfl) ?_
                    have hPc := hP.sub (ws' := []) [] rfl
                    refine vp_callSi (va_runS (As := [.int (fi i3)]) (rest := []) ⟨hx, hb, hml, hown, hts⟩ (q_goesOn l D cI cZ (fi i3)) ⟨cB 1 hts k_774 k_62 k_772 hd_MO_goesOn ⟨Nat.le_of_ble_eq_true rfl, Nat.le_of_ble_eq_true rfl⟩ rfl rfl, hts _ k_773⟩ (PcR.preS hPc hK hN) rfl rfl hl.1 rfl (lv_room (Nat.le_of_ble_eq_true rfl)) d_MO_reach_128 ⟨Nat.le_of_ble_eq_true rfl, Nat.le_of_ble_eq_true rfl⟩).run (fun r128 e128 => ?_)
                    replace e128 := e128.symm
                    subst e128
                    refine lv_if_eq (tgt := 154) hx hb d_MO_reach_131 rfl (fun h131 => ?_) (fun h131 => ?_)
                    · have h131 : behB (fi i3) = false := bI_f h131
                      refine lv_iload hx hb d_MO_reach_154 (lv_at hl 2 rfl) ?_
                      refine lv_if_eq (tgt := 187) hx hb d_MO_reach_156 rfl (fun hq9 => absurd hq9 (by decide)) (fun _ => ?_)
                      refine lv_iload hx hb d_MO_reach_159 (lv_at hl 3 rfl) ?_
                      have hPc := hP.sub (ws' := []) [] rfl
                      refine vp_callSi (va_runS (As := [.int (fi i3)]) (rest := []) ⟨hx, hb, hml, hown, hts⟩ (q_leads l D cI cZ (fi i3)) ⟨cB 1 hts k_777 k_62 k_775 hd_MO_leads ⟨Nat.le_of_ble_eq_true rfl, Nat.le_of_ble_eq_true rfl⟩ rfl rfl, hts _ k_776⟩ (PcR.preS hPc hK hN) rfl rfl hl.1 rfl (lv_room (Nat.le_of_ble_eq_true rfl)) d_MO_reach_161 ⟨Nat.le_of_ble_eq_true rfl, Nat.le_of_ble_eq_true rfl⟩).run (fun r161 e161 => ?_)
                      replace e161 := e161.symm
                      subst e161
                      refine lv_if_eq (tgt := 187) hx hb d_MO_reach_164 rfl (fun h164 => ?_) (fun h164 => ?_)
                      · have h164 : hasTB (fi i3) = false := bI_f h164
                        refine lv_iinc (k := 4) (v := nI (i3 + 1)) hx hb d_MO_reach_187 hl rfl (nI_inc _) (by decide) rfl (fun ls hl => ?_)
                        have hl : lv_has ls 9 [(4, .int (nI (i3 + 1))), (8, .int (rd fi (nI i3 + 1))), (7, .int (((nI i3) + (lenI (fi i3))) &&& 255)), (6, .int 1), (5, .int (fi i3)), (2, .int (bI m3)), (3, .int (nI tn)), (0, .ref o), (1, .int en)] := hl
                        refine lv_goto (tgt := 51) hx hb d_MO_reach_190 rfl ?_
                        have hkn : knB fi r3 i3 = true := by rw [knB, if_neg h75, if_neg h82]
                        exact ih (i3 + 1) r3 m3 (by omega) (by rw [rInn, ← hI3, rStp, show knB fi (r3, m3).1 i3 = true from hkn, rS1, if_pos rfl, if_neg (by rw [h131]; decide), rS2, if_pos rfl, if_neg (by rw [h164]; decide)]) H locs ls (lv_sub hl [0, 5, 6, 7, 8] rfl) hP hD hS
                      · have h164 : hasTB (fi i3) = true := bI_t h164
                        refine lv_aload_n hx hb d_MO_reach_167 rfl (lv_at hl 7 rfl) ?_
                        refine va_get (D := D) (ci := 5) (v := .ref rc) (C := R_MO) (T := T_MO) (N := 18) hx hb hts iw_MO hown hK hP 0 rfl rfl 3 (by decide) (hts _ k_698) (fun _ h9 => h9) rfl d_MO_reach_168 ?_
                        refine lv_iload hx hb d_MO_reach_171 (lv_at hl 0 rfl) ?_
                        refine va_zald hx hb hK hP 2 1 rfl rfl (rd_in hfi _) d_MO_reach_173 ?_
                        refine lv_if_ne (tgt := 187) hx hb d_MO_reach_174 rfl (fun h174 => ?_) (fun h174 => ?_)
                        · have h174 : ¬ r3 (rd fi (nI i3 + 1)).toNatClampNeg = 0 := h174
                          refine lv_iinc (k := 4) (v := nI (i3 + 1)) hx hb d_MO_reach_187 hl rfl (nI_inc _) (by decide) rfl (fun ls hl => ?_)
                          have hl : lv_has ls 9 [(4, .int (nI (i3 + 1))), (8, .int (rd fi (nI i3 + 1))), (7, .int (((nI i3) + (lenI (fi i3))) &&& 255)), (6, .int 1), (5, .int (fi i3)), (2, .int (bI m3)), (3, .int (nI tn)), (0, .ref o), (1, .int en)] := hl
                          refine lv_goto (tgt := 51) hx hb d_MO_reach_190 rfl ?_
                          have hkn : knB fi r3 i3 = true := by rw [knB, if_neg h75, if_neg h82]
                          exact ih (i3 + 1) r3 m3 (by omega) (by rw [rInn, ← hI3, rStp, show knB fi (r3, m3).1 i3 = true from hkn, rS1, if_pos rfl, if_neg (by rw [h131]; decide), rS2, if_pos rfl, if_pos h164, if_neg h174]) H locs ls (lv_sub hl [0, 5, 6, 7, 8] rfl) hP hD hS
                        · have h174 : r3 (rd fi (nI i3 + 1)).toNatClampNeg = 0 := h174
                          refine lv_aload_n hx hb d_MO_reach_177 rfl (lv_at hl 7 rfl) ?_
                          refine va_get (D := D) (ci := 5) (v := .ref rc) (C := R_MO) (T := T_MO) (N := 18) hx hb hts iw_MO hown hK hP 0 rfl rfl 3 (by decide) (hts _ k_698) (fun _ h9 => h9) rfl d_MO_reach_178 ?_
                          refine lv_iload hx hb d_MO_reach_181 (lv_at hl 0 rfl) ?_
                          refine lv_iconst (v := 1) hx hb d_MO_reach_183 (by decide) ?_
                          refine va_zast hx hb hK hP hD hS 2 1 rfl rfl (rd_in hfi _) d_MO_reach_184 (fun H locs hP hD hS => ?_)
                          have hP : va_P D vwCl [(o, .inr (5, [.int th, .ref im, .int (bI tr), .ref rc, .ref bg, .int ro, .ref oa, .ref xa, .ref ya, .ref rg, .ref me, .ref sa, .ref pa, .ref za, .ref ca, .int (bI kp), .ref ta, .ref na])), (im, .inl (cI, 256, .inl fi)), (rc, .inl (cZ, 256, .inl (upd r3 (rd fi (nI i3 + 1)).toNatClampNeg 1)))] H := hP
                          have hD : va_D A [(o, .inr (5, [.int th, .ref im, .int (bI tr), .ref rc, .ref bg, .int ro, .ref oa, .ref xa, .ref ya, .ref rg, .ref me, .ref sa, .ref pa, .ref za, .ref ca, .int (bI kp), .ref ta, .ref na])), (im, .inl (cI, 256, .inl fi)), (rc, .inl (cZ, 256, .inl (upd r3 (rd fi (nI i3 + 1)).toNatClampNeg 1)))] := hD
                          refine lv_iconst (v := 1) hx hb d_MO_reach_185 (by decide) ?_
                          refine lv_istore_n hx hb d_MO_reach_186 rfl hl (by decide) rfl (fun ls hl => ?_)
                          have hl : lv_has ls 9 [(2, .int 1), (8, .int (rd fi (nI i3 + 1))), (7, .int (((nI i3) + (lenI (fi i3))) &&& 255)), (6, .int 1), (5, .int (fi i3)), (4, .int (nI i3)), (3, .int (nI tn)), (0, .ref o), (1, .int en)] := hl
                          refine lv_iinc (k := 5) (v := nI (i3 + 1)) hx hb d_MO_reach_187 hl rfl (nI_inc _) (by decide) rfl (fun ls hl => ?_)
                          have hl : lv_has ls 9 [(4, .int (nI (i3 + 1))), (2, .int 1), (8, .int (rd fi (nI i3 + 1))), (7, .int (((nI i3) + (lenI (fi i3))) &&& 255)), (6, .int 1), (5, .int (fi i3)), (3, .int (nI tn)), (0, .ref o), (1, .int en)] := hl
                          refine lv_goto (tgt := 51) hx hb d_MO_reach_190 rfl ?_
                          have hkn : knB fi r3 i3 = true := by rw [knB, if_neg h75, if_neg h82]
                          exact ih (i3 + 1) (upd r3 (rd fi (nI i3 + 1)).toNatClampNeg 1) true (by omega) (by rw [rInn, ← hI3, rStp, show knB fi (r3, m3).1 i3 = true from hkn, rS1, if_pos rfl, if_neg (by rw [h131]; decide), rS2, if_pos rfl, if_pos h164, if_pos h174]) H locs ls (lv_sub hl [0, 1, 6, 7, 8] rfl) hP hD hS
                    · have h131 : behB (fi i3) = true := bI_t h131
                      refine lv_aload_n hx hb d_MO_reach_134 rfl (lv_at hl 7 rfl) ?_
                      refine va_get (D := D) (ci := 5) (v := .ref rc) (C := R_MO) (T := T_MO) (N := 18) hx hb hts iw_MO hown hK hP 0 rfl rfl 3 (by decide) (hts _ k_698) (fun _ h9 => h9) rfl d_MO_reach_135 ?_
                      refine lv_iload hx hb d_MO_reach_138 (lv_at hl 1 rfl) ?_
                      refine va_zald hx hb hK hP 2 1 rfl rfl (in255 _) d_MO_reach_140 ?_
                      refine lv_topi (fun y9 e9 => ?_)
                      have e9 : y9 = rd r3 (nI i3 + lenI (fi i3)) := e9.trans rfl
                      subst e9
                      refine lv_if_ne (tgt := 154) hx hb d_MO_reach_141 rfl (fun h141 => ?_) (fun h141 => ?_)
                      · have h141 : ¬ rd r3 (nI i3 + lenI (fi i3)) = 0 := h141
                        refine lv_iload hx hb d_MO_reach_154 (lv_at hl 2 rfl) ?_
                        refine lv_if_eq (tgt := 187) hx hb d_MO_reach_156 rfl (fun hq9 => absurd hq9 (by decide)) (fun _ => ?_)
                        refine lv_iload hx hb d_MO_reach_159 (lv_at hl 3 rfl) ?_
                        have hPc := hP.sub (ws' := []) [] rfl
                        refine vp_callSi (va_runS (As := [.int (fi i3)]) (rest := []) ⟨hx, hb, hml, hown, hts⟩ (q_leads l D cI cZ (fi i3)) ⟨cB 1 hts k_777 k_62 k_775 hd_MO_leads ⟨Nat.le_of_ble_eq_true rfl, Nat.le_of_ble_eq_true rfl⟩ rfl rfl, hts _ k_776⟩ (PcR.preS hPc hK hN) rfl rfl hl.1 rfl (lv_room (Nat.le_of_ble_eq_true rfl)) d_MO_reach_161 ⟨Nat.le_of_ble_eq_true rfl, Nat.le_of_ble_eq_true rfl⟩).run (fun r161 e161 => ?_)
                        replace e161 := e161.symm
                        subst e161
                        refine lv_if_eq (tgt := 187) hx hb d_MO_reach_164 rfl (fun h164 => ?_) (fun h164 => ?_)
                        · have h164 : hasTB (fi i3) = false := bI_f h164
                          refine lv_iinc (k := 4) (v := nI (i3 + 1)) hx hb d_MO_reach_187 hl rfl (nI_inc _) (by decide) rfl (fun ls hl => ?_)
                          have hl : lv_has ls 9 [(4, .int (nI (i3 + 1))), (8, .int (rd fi (nI i3 + 1))), (7, .int (((nI i3) + (lenI (fi i3))) &&& 255)), (6, .int 1), (5, .int (fi i3)), (2, .int (bI m3)), (3, .int (nI tn)), (0, .ref o), (1, .int en)] := hl
                          refine lv_goto (tgt := 51) hx hb d_MO_reach_190 rfl ?_
                          have hkn : knB fi r3 i3 = true := by rw [knB, if_neg h75, if_neg h82]
                          exact ih (i3 + 1) r3 m3 (by omega) (by rw [rInn, ← hI3, rStp, show knB fi (r3, m3).1 i3 = true from hkn, rS1, if_pos rfl, if_pos h131, if_neg h141, rS2, if_pos rfl, if_neg (by rw [h164]; decide)]) H locs ls (lv_sub hl [0, 5, 6, 7, 8] rfl) hP hD hS
                        · have h164 : hasTB (fi i3) = true := bI_t h164
                          refine lv_aload_n hx hb d_MO_reach_167 rfl (lv_at hl 7 rfl) ?_
                          refine va_get (D := D) (ci := 5) (v := .ref rc) (C := R_MO) (T := T_MO) (N := 18) hx hb hts iw_MO hown hK hP 0 rfl rfl 3 (by decide) (hts _ k_698) (fun _ h9 => h9) rfl d_MO_reach_168 ?_
                          refine lv_iload hx hb d_MO_reach_171 (lv_at hl 0 rfl) ?_
                          refine va_zald hx hb hK hP 2 1 rfl rfl (rd_in hfi _) d_MO_reach_173 ?_
                          refine lv_if_ne (tgt := 187) hx hb d_MO_reach_174 rfl (fun h174 => ?_) (fun h174 => ?_)
                          · have h174 : ¬ r3 (rd fi (nI i3 + 1)).toNatClampNeg = 0 := h174
                            refine lv_iinc (k := 4) (v := nI (i3 + 1)) hx hb d_MO_reach_187 hl rfl (nI_inc _) (by decide) rfl (fun ls hl => ?_)
                            have hl : lv_has ls 9 [(4, .int (nI (i3 + 1))), (8, .int (rd fi (nI i3 + 1))), (7, .int (((nI i3) + (lenI (fi i3))) &&& 255)), (6, .int 1), (5, .int (fi i3)), (2, .int (bI m3)), (3, .int (nI tn)), (0, .ref o), (1, .int en)] := hl
                            refine lv_goto (tgt := 51) hx hb d_MO_reach_190 rfl ?_
                            have hkn : knB fi r3 i3 = true := by rw [knB, if_neg h75, if_neg h82]
                            exact ih (i3 + 1) r3 m3 (by omega) (by rw [rInn, ← hI3, rStp, show knB fi (r3, m3).1 i3 = true from hkn, rS1, if_pos rfl, if_pos h131, if_neg h141, rS2, if_pos rfl, if_pos h164, if_neg h174]) H locs ls (lv_sub hl [0, 5, 6, 7, 8] rfl) hP hD hS
                          · have h174 : r3 (rd fi (nI i3 + 1)).toNatClampNeg = 0 := h174
                            refine lv_aload_n hx hb d_MO_reach_177 rfl (lv_at hl 7 rfl) ?_
                            refine va_get (D := D) (ci := 5) (v := .ref rc) (C := R_MO) (T := T_MO) (N := 18) hx hb hts iw_MO hown hK hP 0 rfl rfl 3 (by decide) (hts _ k_698) (fun _ h9 => h9) rfl d_MO_reach_178 ?_
                            refine lv_iload hx hb d_MO_reach_181 (lv_at hl 0 rfl) ?_
                            refine lv_iconst (v := 1) hx hb d_MO_reach_183 (by decide) ?_
                            refine va_zast hx hb hK hP hD hS 2 1 rfl rfl (rd_in hfi _) d_MO_reach_184 (fun H locs hP hD hS => ?_)
                            have hP : va_P D vwCl [(o, .inr (5, [.int th, .ref im, .int (bI tr), .ref rc, .ref bg, .int ro, .ref oa, .ref xa, .ref ya, .ref rg, .ref me, .ref sa, .ref pa, .ref za, .ref ca, .int (bI kp), .ref ta, .ref na])), (im, .inl (cI, 256, .inl fi)), (rc, .inl (cZ, 256, .inl (upd r3 (rd fi (nI i3 + 1)).toNatClampNeg 1)))] H := hP
                            have hD : va_D A [(o, .inr (5, [.int th, .ref im, .int (bI tr), .ref rc, .ref bg, .int ro, .ref oa, .ref xa, .ref ya, .ref rg, .ref me, .ref sa, .ref pa, .ref za, .ref ca, .int (bI kp), .ref ta, .ref na])), (im, .inl (cI, 256, .inl fi)), (rc, .inl (cZ, 256, .inl (upd r3 (rd fi (nI i3 + 1)).toNatClampNeg 1)))] := hD
                            refine lv_iconst (v := 1) hx hb d_MO_reach_185 (by decide) ?_
                            refine lv_istore_n hx hb d_MO_reach_186 rfl hl (by decide) rfl (fun ls hl => ?_)
                            have hl : lv_has ls 9 [(2, .int 1), (8, .int (rd fi (nI i3 + 1))), (7, .int (((nI i3) + (lenI (fi i3))) &&& 255)), (6, .int 1), (5, .int (fi i3)), (4, .int (nI i3)), (3, .int (nI tn)), (0, .ref o), (1, .int en)] := hl
                            refine lv_iinc (k := 5) (v := nI (i3 + 1)) hx hb d_MO_reach_187 hl rfl (nI_inc _) (by decide) rfl (fun ls hl => ?_)
                            have hl : lv_has ls 9 [(4, .int (nI (i3 + 1))), (2, .int 1), (8, .int (rd fi (nI i3 + 1))), (7, .int (((nI i3) + (lenI (fi i3))) &&& 255)), (6, .int 1), (5, .int (fi i3)), (3, .int (nI tn)), (0, .ref o), (1, .int en)] := hl
                            refine lv_goto (tgt := 51) hx hb d_MO_reach_190 rfl ?_
                            have hkn : knB fi r3 i3 = true := by rw [knB, if_neg h75, if_neg h82]
                            exact ih (i3 + 1) (upd r3 (rd fi (nI i3 + 1)).toNatClampNeg 1) true (by omega) (by rw [rInn, ← hI3, rStp, show knB fi (r3, m3).1 i3 = true from hkn, rS1, if_pos rfl, if_pos h131, if_neg h141, rS2, if_pos rfl, if_pos h164, if_pos h174]) H locs ls (lv_sub hl [0, 1, 6, 7, 8] rfl) hP hD hS
                      · have h141 : rd r3 (nI i3 + lenI (fi i3)) = 0 := h141
                        refine lv_aload_n hx hb d_MO_reach_144 rfl (lv_at hl 7 rfl) ?_
                        refine va_get (D := D) (ci := 5) (v := .ref rc) (C := R_MO) (T := T_MO) (N := 18) hx hb hts iw_MO hown hK hP 0 rfl rfl 3 (by decide) (hts _ k_698) (fun _ h9 => h9) rfl d_MO_reach_145 ?_
                        refine lv_iload hx hb d_MO_reach_148 (lv_at hl 1 rfl) ?_
                        refine lv_iconst (v := 1) hx hb d_MO_reach_150 (by decide) ?_
                        refine va_zast hx hb hK hP hD hS 2 1 rfl rfl (in255 _) d_MO_reach_151 (fun H locs hP hD hS => ?_)
                        have hP : va_P D vwCl [(o, .inr (5, [.int th, .ref im, .int (bI tr), .ref rc, .ref bg, .int ro, .ref oa, .ref xa, .ref ya, .ref rg, .ref me, .ref sa, .ref pa, .ref za, .ref ca, .int (bI kp), .ref ta, .ref na])), (im, .inl (cI, 256, .inl fi)), (rc, .inl (cZ, 256, .inl (upd r3 (((nI i3) + (lenI (fi i3))) &&& 255).toNatClampNeg 1)))] H := hP
                        have hD : va_D A [(o, .inr (5, [.int th, .ref im, .int (bI tr), .ref rc, .ref bg, .int ro, .ref oa, .ref xa, .ref ya, .ref rg, .ref me, .ref sa, .ref pa, .ref za, .ref ca, .int (bI kp), .ref ta, .ref na])), (im, .inl (cI, 256, .inl fi)), (rc, .inl (cZ, 256, .inl (upd r3 (((nI i3) + (lenI (fi i3))) &&& 255).toNatClampNeg 1)))] := hD
                        refine lv_iconst (v := 1) hx hb d_MO_reach_152 (by decide) ?_
                        refine lv_istore_n hx hb d_MO_reach_153 rfl hl (by decide) rfl (fun ls hl => ?_)
                        have hl : lv_has ls 9 [(2, .int 1), (8, .int (rd fi (nI i3 + 1))), (7, .int (((nI i3) + (lenI (fi i3))) &&& 255)), (6, .int 1), (5, .int (fi i3)), (4, .int (nI i3)), (3, .int (nI tn)), (0, .ref o), (1, .int en)] := hl
                        refine lv_iload hx hb d_MO_reach_154 (lv_at hl 3 rfl) ?_
                        refine lv_if_eq (tgt := 187) hx hb d_MO_reach_156 rfl (fun hq9 => absurd hq9 (by decide)) (fun _ => ?_)
                        refine lv_iload hx hb d_MO_reach_159 (lv_at hl 4 rfl) ?_
                        have hPc := hP.sub (ws' := []) [] rfl
                        refine vp_callSi (va_runS (As := [.int (fi i3)]) (rest := []) ⟨hx, hb, hml, hown, hts⟩ (q_leads l D cI cZ (fi i3)) ⟨cB 1 hts k_777 k_62 k_775 hd_MO_leads ⟨Nat.le_of_ble_eq_true rfl, Nat.le_of_ble_eq_true rfl⟩ rfl rfl, hts _ k_776⟩ (PcR.preS hPc hK hN) rfl rfl hl.1 rfl (lv_room (Nat.le_of_ble_eq_true rfl)) d_MO_reach_161 ⟨Nat.le_of_ble_eq_true rfl, Nat.le_of_ble_eq_true rfl⟩).run (fun r161 e161 => ?_)
                        replace e161 := e161.symm
                        subst e161
                        refine lv_if_eq (tgt := 187) hx hb d_MO_reach_164 rfl (fun h164 => ?_) (fun h164 => ?_)
                        · have h164 : hasTB (fi i3) = false := bI_f h164
                          refine lv_iinc (k := 5) (v := nI (i3 + 1)) hx hb d_MO_reach_187 hl rfl (nI_inc _) (by decide) rfl (fun ls hl => ?_)
                          have hl : lv_has ls 9 [(4, .int (nI (i3 + 1))), (2, .int 1), (8, .int (rd fi (nI i3 + 1))), (7, .int (((nI i3) + (lenI (fi i3))) &&& 255)), (6, .int 1), (5, .int (fi i3)), (3, .int (nI tn)), (0, .ref o), (1, .int en)] := hl
                          refine lv_goto (tgt := 51) hx hb d_MO_reach_190 rfl ?_
                          have hkn : knB fi r3 i3 = true := by rw [knB, if_neg h75, if_neg h82]
                          exact ih (i3 + 1) (upd r3 (((nI i3) + (lenI (fi i3))) &&& 255).toNatClampNeg 1) true (by omega) (by rw [rInn, ← hI3, rStp, show knB fi (r3, m3).1 i3 = true from hkn, rS1, if_pos rfl, if_pos h131, if_pos h141, rS2, if_pos rfl, if_neg (by rw [h164]; decide)]) H locs ls (lv_sub hl [0, 1, 6, 7, 8] rfl) hP hD hS
                        · have h164 : hasTB (fi i3) = true := bI_t h164
                          refine lv_aload_n hx hb d_MO_reach_167 rfl (lv_at hl 7 rfl) ?_
                          refine va_get (D := D) (ci := 5) (v := .ref rc) (C := R_MO) (T := T_MO) (N := 18) hx hb hts iw_MO hown hK hP 0 rfl rfl 3 (by decide) (hts _ k_698) (fun _ h9 => h9) rfl d_MO_reach_168 ?_
                          refine lv_iload hx hb d_MO_reach_171 (lv_at hl 1 rfl) ?_
                          refine va_zald hx hb hK hP 2 1 rfl rfl (rd_in hfi _) d_MO_reach_173 ?_
                          refine lv_if_ne (tgt := 187) hx hb d_MO_reach_174 rfl (fun h174 => ?_) (fun h174 => ?_)
                          · have h174 : ¬ (upd r3 (((nI i3) + (lenI (fi i3))) &&& 255).toNatClampNeg 1) (rd fi (nI i3 + 1)).toNatClampNeg = 0 := h174
                            refine lv_iinc (k := 5) (v := nI (i3 + 1)) hx hb d_MO_reach_187 hl rfl (nI_inc _) (by decide) rfl (fun ls hl => ?_)
                            have hl : lv_has ls 9 [(4, .int (nI (i3 + 1))), (2, .int 1), (8, .int (rd fi (nI i3 + 1))), (7, .int (((nI i3) + (lenI (fi i3))) &&& 255)), (6, .int 1), (5, .int (fi i3)), (3, .int (nI tn)), (0, .ref o), (1, .int en)] := hl
                            refine lv_goto (tgt := 51) hx hb d_MO_reach_190 rfl ?_
                            have hkn : knB fi r3 i3 = true := by rw [knB, if_neg h75, if_neg h82]
                            exact ih (i3 + 1) (upd r3 (((nI i3) + (lenI (fi i3))) &&& 255).toNatClampNeg 1) true (by omega) (by rw [rInn, ← hI3, rStp, show knB fi (r3, m3).1 i3 = true from hkn, rS1, if_pos rfl, if_pos h131, if_pos h141, rS2, if_pos rfl, if_pos h164, if_neg h174]) H locs ls (lv_sub hl [0, 1, 6, 7, 8] rfl) hP hD hS
                          · have h174 : (upd r3 (((nI i3) + (lenI (fi i3))) &&& 255).toNatClampNeg 1) (rd fi (nI i3 + 1)).toNatClampNeg = 0 := h174
                            refine lv_aload_n hx hb d_MO_reach_177 rfl (lv_at hl 7 rfl) ?_
                            refine va_get (D := D) (ci := 5) (v := .ref rc) (C := R_MO) (T := T_MO) (N := 18) hx hb hts iw_MO hown hK hP 0 rfl rfl 3 (by decide) (hts _ k_698) (fun _ h9 => h9) rfl d_MO_reach_178 ?_
                            refine lv_iload hx hb d_MO_reach_181 (lv_at hl 1 rfl) ?_
                            refine lv_iconst (v := 1) hx hb d_MO_reach_183 (by decide) ?_
                            refine va_zast hx hb hK hP hD hS 2 1 rfl rfl (rd_in hfi _) d_MO_reach_184 (fun H locs hP hD hS => ?_)
                            have hP : va_P D vwCl [(o, .inr (5, [.int th, .ref im, .int (bI tr), .ref rc, .ref bg, .int ro, .ref oa, .ref xa, .ref ya, .ref rg, .ref me, .ref sa, .ref pa, .ref za, .ref ca, .int (bI kp), .ref ta, .ref na])), (im, .inl (cI, 256, .inl fi)), (rc, .inl (cZ, 256, .inl (upd (upd r3 (((nI i3) + (lenI (fi i3))) &&& 255).toNatClampNeg 1) (rd fi (nI i3 + 1)).toNatClampNeg 1)))] H := hP
                            have hD : va_D A [(o, .inr (5, [.int th, .ref im, .int (bI tr), .ref rc, .ref bg, .int ro, .ref oa, .ref xa, .ref ya, .ref rg, .ref me, .ref sa, .ref pa, .ref za, .ref ca, .int (bI kp), .ref ta, .ref na])), (im, .inl (cI, 256, .inl fi)), (rc, .inl (cZ, 256, .inl (upd (upd r3 (((nI i3) + (lenI (fi i3))) &&& 255).toNatClampNeg 1) (rd fi (nI i3 + 1)).toNatClampNeg 1)))] := hD
                            refine lv_iconst (v := 1) hx hb d_MO_reach_185 (by decide) ?_
                            refine lv_istore_n hx hb d_MO_reach_186 rfl hl (by decide) rfl (fun ls hl => ?_)
                            have hl : lv_has ls 9 [(2, .int 1), (8, .int (rd fi (nI i3 + 1))), (7, .int (((nI i3) + (lenI (fi i3))) &&& 255)), (6, .int 1), (5, .int (fi i3)), (4, .int (nI i3)), (3, .int (nI tn)), (0, .ref o), (1, .int en)] := hl
                            refine lv_iinc (k := 5) (v := nI (i3 + 1)) hx hb d_MO_reach_187 hl rfl (nI_inc _) (by decide) rfl (fun ls hl => ?_)
                            have hl : lv_has ls 9 [(4, .int (nI (i3 + 1))), (2, .int 1), (8, .int (rd fi (nI i3 + 1))), (7, .int (((nI i3) + (lenI (fi i3))) &&& 255)), (6, .int 1), (5, .int (fi i3)), (3, .int (nI tn)), (0, .ref o), (1, .int en)] := hl
                            refine lv_goto (tgt := 51) hx hb d_MO_reach_190 rfl ?_
                            have hkn : knB fi r3 i3 = true := by rw [knB, if_neg h75, if_neg h82]
                            exact ih (i3 + 1) (upd (upd r3 (((nI i3) + (lenI (fi i3))) &&& 255).toNatClampNeg 1) (rd fi (nI i3 + 1)).toNatClampNeg 1) true (by omega) (by rw [rInn, ← hI3, rStp, show knB fi (r3, m3).1 i3 = true from hkn, rS1, if_pos rfl, if_pos h131, if_pos h141, rS2, if_pos rfl, if_pos h164, if_pos h174]) H locs ls (lv_sub hl [0, 1, 6, 7, 8] rfl) hP hD hS
            exact loop3 256 0 rL false rfl rfl H locs ls (lv_sub hl [0, 1, 2, 3, 4] rfl) hP hD hS
      exact loop2 256 0 (filE en fr 256) true rfl rfl H locs ls (lv_sub hl [0, 1, 2, 3] rfl) hP hD hS
    | succ k ih =>
      intro i hk H locs ls hl hP hD hS
      refine lv_iload_n hx hb d_MO_reach_2 rfl (lv_at hl 0 rfl) ?_
      refine lv_sipush (v := 256) hx hb d_MO_reach_3 (by decide) ?_
      refine lv_icmp_ge (tgt := 31) hx hb d_MO_reach_6 rfl (fun hq9 => absurd hq9 (nI_ge (b := 256) (by omega) (by decide))) (fun _ => ?_)
      refine lv_aload_n hx hb d_MO_reach_9 rfl (lv_at hl 1 rfl) ?_
      refine va_get (D := D) (ci := 5) (v := .ref rc) (C := R_MO) (T := T_MO) (N := 18) hx hb hts iw_MO hown hK hP 0 rfl rfl 3 (by decide) (hts _ k_698) (fun _ h9 => h9) rfl d_MO_reach_10 ?_
      refine lv_iload_n hx hb d_MO_reach_13 rfl (lv_at hl 0 rfl) ?_
      refine lv_iload_n hx hb d_MO_reach_14 rfl (lv_at hl 0 rfl) ?_
      refine lv_iload_n hx hb d_MO_reach_15 rfl (lv_at hl 2 rfl) ?_
      refine lv_icmp_ne (tgt := 23) hx hb d_MO_reach_16 rfl (fun h16 => ?_) (fun h16 => ?_)
      · have h16 : ¬ nI i = en := h16
        refine lv_iconst (v := 0) hx hb d_MO_reach_23 (by decide) ?_
        refine va_zast hx hb hK hP hD hS 2 1 rfl rfl (vp_in_nI (by omega) (by decide)) d_MO_reach_24 (fun H locs hP hD hS => ?_)
        have hP : va_P D vwCl [(o, .inr (5, [.int th, .ref im, .int (bI tr), .ref rc, .ref bg, .int ro, .ref oa, .ref xa, .ref ya, .ref rg, .ref me, .ref sa, .ref pa, .ref za, .ref ca, .int (bI kp), .ref ta, .ref na])), (im, .inl (cI, 256, .inl fi)), (rc, .inl (cZ, 256, .inl (upd (filE en fr i) (nI i).toNatClampNeg 0)))] H := hP
        have hD : va_D A [(o, .inr (5, [.int th, .ref im, .int (bI tr), .ref rc, .ref bg, .int ro, .ref oa, .ref xa, .ref ya, .ref rg, .ref me, .ref sa, .ref pa, .ref za, .ref ca, .int (bI kp), .ref ta, .ref na])), (im, .inl (cI, 256, .inl fi)), (rc, .inl (cZ, 256, .inl (upd (filE en fr i) (nI i).toNatClampNeg 0)))] := hD
        refine lv_iinc (k := 0) (v := nI (i + 1)) hx hb d_MO_reach_25 hl rfl (nI_inc _) (by decide) rfl (fun ls hl => ?_)
        have hl : lv_has ls 9 [(2, .int (nI (i + 1))), (0, .ref o), (1, .int en)] := hl
        refine lv_goto (tgt := 2) hx hb d_MO_reach_28 rfl ?_
        rw [filE_step (v := 0) (show i < 2 ^ 31 by omega) (if_neg h16).symm] at hP hD
        exact ih (i + 1) (by omega) H locs ls hl hP hD hS
      · have h16 : nI i = en := h16
        refine lv_iconst (v := 1) hx hb d_MO_reach_19 (by decide) ?_
        refine lv_goto (tgt := 24) hx hb d_MO_reach_20 rfl ?_
        refine va_zast hx hb hK hP hD hS 2 1 rfl rfl (vp_in_nI (by omega) (by decide)) d_MO_reach_24 (fun H locs hP hD hS => ?_)
        have hP : va_P D vwCl [(o, .inr (5, [.int th, .ref im, .int (bI tr), .ref rc, .ref bg, .int ro, .ref oa, .ref xa, .ref ya, .ref rg, .ref me, .ref sa, .ref pa, .ref za, .ref ca, .int (bI kp), .ref ta, .ref na])), (im, .inl (cI, 256, .inl fi)), (rc, .inl (cZ, 256, .inl (upd (filE en fr i) (nI i).toNatClampNeg 1)))] H := hP
        have hD : va_D A [(o, .inr (5, [.int th, .ref im, .int (bI tr), .ref rc, .ref bg, .int ro, .ref oa, .ref xa, .ref ya, .ref rg, .ref me, .ref sa, .ref pa, .ref za, .ref ca, .int (bI kp), .ref ta, .ref na])), (im, .inl (cI, 256, .inl fi)), (rc, .inl (cZ, 256, .inl (upd (filE en fr i) (nI i).toNatClampNeg 1)))] := hD
        refine lv_iinc (k := 0) (v := nI (i + 1)) hx hb d_MO_reach_25 hl rfl (nI_inc _) (by decide) rfl (fun ls hl => ?_)
        have hl : lv_has ls 9 [(2, .int (nI (i + 1))), (0, .ref o), (1, .int en)] := hl
        refine lv_goto (tgt := 2) hx hb d_MO_reach_28 rfl ?_
        rw [filE_step (v := 1) (show i < 2 ^ 31 by omega) (if_pos h16).symm] at hP hD
        exact ih (i + 1) (by omega) H locs ls hl hP hD hS
  exact loop1 256 0 rfl H [] ls hl hP hD hS
