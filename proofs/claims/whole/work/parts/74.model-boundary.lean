set_option maxHeartbeats 4000000 in
set_option maxRecDepth 100000 in
theorem q_atBeg (l : Launch) (D : va_G) (cI cZ : ClassId) (o : Nat) (th : Int32) (im : Nat) (tr : Bool) (rc : Nat) (bg : Nat) (ro : Int32) (oa : Nat) (xa : Nat) (ya : Nat) (rg : Nat) (me : Nat) (sa : Nat) (pa : Nat) (za : Nat) (ca : Nat) (kp : Bool) (ta : Nat) (na : Nat) (p0 : Int32) (p1 : Int32) (fw : Nat → Int32) : MetR l y_MO_atBeginning w_MO_atBeginning { frames := 0, cells := 0, slots := 0, locals := 0 } D cI cZ [.ref o] [(o, .inr (5, [.int th, .ref im, .int (bI tr), .ref rc, .ref bg, .int ro, .ref oa, .ref xa, .ref ya, .ref rg, .ref me, .ref sa, .ref pa, .ref za, .ref ca, .int (bI kp), .ref ta, .ref na])), (pa, .inl (cI, 2, .inl (p2 p0 p1))), (bg, .inl (cI, 256, .inl fw))] (fun r => r = bI (bgN fw p1 256)) := by
  refine ofR (cc := c_MO_atBeginning) (maxL := 3) (ret := (some .boolean)) (by decide) rfl (Nat.le_of_ble_eq_true rfl) ?_
  intro p e s m args below meth c H hH0 hx hb hr hlocks hts hown hml ls hl hP hK hN
  have hown : s.vm.findClass R_MO = some m.cls := hown
  have hl : lv_has ls 3 [(0, .ref o)] := hl
  refine lv_iconst (v := 0) hx hb d_MO_atBeginning_0 (by decide) ?_
  refine lv_istore_n hx hb d_MO_atBeginning_1 rfl hl (by decide) rfl (fun ls hl => ?_)
  have hl : lv_has ls 3 [(1, .int 0), (0, .ref o)] := hl
  refine lv_iconst (v := 0) hx hb d_MO_atBeginning_2 (by decide) ?_
  refine lv_istore_n hx hb d_MO_atBeginning_3 rfl hl (by decide) rfl (fun ls hl => ?_)
  have hl : lv_has ls 3 [(2, .int 0), (1, .int 0), (0, .ref o)] := hl
  have loop : ∀ (k : Nat) (i : Nat), (i + k = 256) → ∀ (ls : Array Slot), lv_has ls 3 [(2, .int (nI i)), (1, .int (bI (bgN fw p1 i))), (0, .ref o)] → W p l e { frames := 0, cells := 0, slots := 0, locals := 0 } s m args below meth c H [] 0 0 (MQ below (vp_Si (fun r => r = bI (bgN fw p1 256))) args s 0 0 (fun _ => False)) (F0 m 4 ls []) := by
    intro k
    induction k with
    | zero =>
      intro i hk ls hl
      refine lv_iload_n hx hb d_MO_atBeginning_4 rfl (lv_at hl 0 rfl) ?_
      refine lv_sipush (v := 256) hx hb d_MO_atBeginning_5 (by decide) ?_
      refine lv_icmp_ge (tgt := 42) hx hb d_MO_atBeginning_8 rfl (fun _ => ?_) (fun hq9 => absurd (by rw [show i = 256 from hk]; decide) hq9)
      refine lv_iload_n hx hb d_MO_atBeginning_42 rfl (lv_at hl 1 rfl) ?_
      exact W.zret (v := (bI (bgN fw p1 i))) hx hb hr (nb_n _) (fun t ht hW => ⟨(bI (bgN fw p1 i)), rfl, by rw [show i = 256 from hk], ht.trans hH0.symm⟩) (fun _ h9 => absurd h9 List.not_mem_nil) d_MO_atBeginning_43
    | succ k ih =>
      intro i hk ls hl
      refine lv_iload_n hx hb d_MO_atBeginning_4 rfl (lv_at hl 0 rfl) ?_
      refine lv_sipush (v := 256) hx hb d_MO_atBeginning_5 (by decide) ?_
      refine lv_icmp_ge (tgt := 42) hx hb d_MO_atBeginning_8 rfl (fun hq9 => absurd hq9 (nI_ge (b := 256) (by omega) (by decide))) (fun _ => ?_)
      refine lv_iload_n hx hb d_MO_atBeginning_11 rfl (lv_at hl 1 rfl) ?_
      refine lv_if_ne (tgt := 30) hx hb d_MO_atBeginning_12 rfl (fun h12 => ?_) (fun h12 => ?_)
      · have h12 : bgN fw p1 i = true := bI_t h12
        refine lv_iconst (v := 1) hx hb d_MO_atBeginning_30 (by decide) ?_
        refine lv_goto (tgt := 35) hx hb d_MO_atBeginning_31 rfl ?_
        refine lv_istore_n hx hb d_MO_atBeginning_35 rfl hl (by decide) rfl (fun ls hl => ?_)
        have hl : lv_has ls 3 [(1, .int 1), (2, .int (nI i)), (0, .ref o)] := hl
        refine lv_iinc (k := 1) (v := nI (i + 1)) hx hb d_MO_atBeginning_36 hl rfl (nI_inc _) (by decide) rfl (fun ls hl => ?_)
        have hl : lv_has ls 3 [(2, .int (nI (i + 1))), (1, .int 1), (0, .ref o)] := hl
        refine lv_goto (tgt := 4) hx hb d_MO_atBeginning_39 rfl ?_
        exact ih (i + 1) (by omega) ls (by rw [bgN_1 h12]; exact hl)
      · have h12 : bgN fw p1 i = false := bI_f h12
        refine lv_aload_n hx hb d_MO_atBeginning_15 rfl (lv_at hl 2 rfl) ?_
        refine va_get (D := D) (ci := 5) (v := .ref bg) (C := R_MO) (T := T_MO) (N := 18) hx hb hts iw_MO hown hK hP 0 rfl rfl 4 (by decide) (hts _ k_699) (fun _ h9 => h9) rfl d_MO_atBeginning_16 ?_
        refine lv_iload_n hx hb d_MO_atBeginning_19 rfl (lv_at hl 0 rfl) ?_
        refine va_iald hx hb hK hP 2 0 rfl rfl (vp_in_nI (by omega) (by decide)) d_MO_atBeginning_20 ?_
        refine lv_topi (fun y9 e9 => ?_)
        have e9 : y9 = fw i := e9.trans (by rw [nI_clamp (by omega)])
        subst e9
        refine lv_aload_n hx hb d_MO_atBeginning_21 rfl (lv_at hl 2 rfl) ?_
        refine va_get (D := D) (ci := 5) (v := .ref pa) (C := R_MO) (T := T_MO) (N := 18) hx hb hts iw_MO hown hK hP 0 rfl rfl 12 (by decide) (hts _ k_707) (fun _ h9 => h9) rfl d_MO_atBeginning_22 ?_
        refine lv_iconst (v := 1) hx hb d_MO_atBeginning_25 (by decide) ?_
        refine va_iald hx hb hK hP 1 0 rfl rfl (vp_in_nI (n := 1) (by decide) (by decide)) d_MO_atBeginning_26 ?_
        refine lv_icmp_ne (tgt := 34) hx hb d_MO_atBeginning_27 rfl (fun h27 => ?_) (fun h27 => ?_)
        · have h27 : ¬ fw i = p1 := h27
          refine lv_iconst (v := 0) hx hb d_MO_atBeginning_34 (by decide) ?_
          refine lv_istore_n hx hb d_MO_atBeginning_35 rfl hl (by decide) rfl (fun ls hl => ?_)
          have hl : lv_has ls 3 [(1, .int 0), (2, .int (nI i)), (0, .ref o)] := hl
          refine lv_iinc (k := 1) (v := nI (i + 1)) hx hb d_MO_atBeginning_36 hl rfl (nI_inc _) (by decide) rfl (fun ls hl => ?_)
          have hl : lv_has ls 3 [(2, .int (nI (i + 1))), (1, .int 0), (0, .ref o)] := hl
          refine lv_goto (tgt := 4) hx hb d_MO_atBeginning_39 rfl ?_
          exact ih (i + 1) (by omega) ls (by rw [bgN_3 h12 h27]; exact hl)
        · have h27 : fw i = p1 := h27
          refine lv_iconst (v := 1) hx hb d_MO_atBeginning_30 (by decide) ?_
          refine lv_goto (tgt := 35) hx hb d_MO_atBeginning_31 rfl ?_
          refine lv_istore_n hx hb d_MO_atBeginning_35 rfl hl (by decide) rfl (fun ls hl => ?_)
          have hl : lv_has ls 3 [(1, .int 1), (2, .int (nI i)), (0, .ref o)] := hl
          refine lv_iinc (k := 1) (v := nI (i + 1)) hx hb d_MO_atBeginning_36 hl rfl (nI_inc _) (by decide) rfl (fun ls hl => ?_)
          have hl : lv_has ls 3 [(2, .int (nI (i + 1))), (1, .int 1), (0, .ref o)] := hl
          refine lv_goto (tgt := 4) hx hb d_MO_atBeginning_39 rfl ?_
          exact ih (i + 1) (by omega) ls (by rw [bgN_2 h27]; exact hl)
  exact loop 256 0 rfl ls hl
set_option maxHeartbeats 4000000 in
set_option maxRecDepth 100000 in
theorem q_boundT (l : Launch) (D : va_G) (cI cZ : ClassId) (o : Nat) (th : Int32) (im : Nat) (rc : Nat) (bg : Nat) (ro : Int32) (oa : Nat) (xa : Nat) (ya : Nat) (rg : Nat) (me : Nat) (sa : Nat) (pa : Nat) (za : Nat) (ca : Nat) (kp : Bool) (ta : Nat) (na : Nat) (sz : Nat) : MetI l y_MO_boundary w_MO_boundary { frames := 0, cells := 0, slots := 0, locals := 0 } D cI cZ [.ref o] [(o, .inr (5, [.int th, .ref im, .int (bI false), .ref rc, .ref bg, .int ro, .ref oa, .ref xa, .ref ya, .ref rg, .ref me, .ref sa, .ref pa, .ref za, .ref ca, .int (bI kp), .ref ta, .ref na]))] sz (fun r (_ : Unit) => r = 0) (fun (_ : Unit) => [(o, .inr (5, [.int 1, .ref im, .int (bI false), .ref rc, .ref bg, .int ro, .ref oa, .ref xa, .ref ya, .ref rg, .ref me, .ref sa, .ref pa, .ref za, .ref ca, .int (bI kp), .ref ta, .ref na]))]) 0 0 := by
  refine ofI (cc := c_MO_boundary) (maxL := 3) (ret := (some .int)) (by decide) rfl (Nat.le_of_ble_eq_true rfl) ?_
  intro p e s m args below meth c A H hH0 hx hb hr hlocks hts hown hnm hml ls hl hP hK hD hA hS hN
  have hown : s.vm.findClass R_MO = some m.cls := hown
  have hl : lv_has ls 3 [(0, .ref o)] := hl
  refine lv_aload_n hx hb d_MO_boundary_0 rfl (lv_at hl 0 rfl) ?_
  refine lv_aload_n hx hb d_MO_boundary_1 rfl (lv_at hl 0 rfl) ?_
  refine va_get (D := D) (ci := 5) (v := .int (bI false)) (C := R_MO) (T := T_MO) (N := 18) hx hb hts iw_MO hown hK hP 0 rfl rfl 2 (by decide) (hts _ k_697) (fun _ h9 => h9) rfl d_MO_boundary_2 ?_
  refine lv_if_eq (tgt := 12) hx hb d_MO_boundary_5 rfl (fun _ => ?_) (fun hq9 => absurd (by decide) hq9)
  refine lv_iconst (v := 1) hx hb d_MO_boundary_12 (by decide) ?_
  refine va_put (D := D) (ci := 5) (v := .int 1) (ty := .int) (C := R_MO) (T := T_MO) (N := 18) hx hb hts iw_MO ty_MO ty_MO_ok nm_MO hown hK hP hD hS 0 rfl rfl 0 (by decide) (hts _ k_695) (fun _ h9 => h9) rfl (by decide +kernel) rfl rfl (Nat.le_of_ble_eq_true rfl) d_MO_boundary_13 (fun H locs hP hD hS => ?_)
  have hP : va_P D vwCl [(o, .inr (5, [.int 1, .ref im, .int (bI false), .ref rc, .ref bg, .int ro, .ref oa, .ref xa, .ref ya, .ref rg, .ref me, .ref sa, .ref pa, .ref za, .ref ca, .int (bI kp), .ref ta, .ref na]))] H := hP
  have hD : va_D A [(o, .inr (5, [.int 1, .ref im, .int (bI false), .ref rc, .ref bg, .int ro, .ref oa, .ref xa, .ref ya, .ref rg, .ref me, .ref sa, .ref pa, .ref za, .ref ca, .int (bI kp), .ref ta, .ref na]))] := hD
  refine lv_iconst (v := 0) hx hb d_MO_boundary_16 (by decide) ?_
  refine lv_istore_n hx hb d_MO_boundary_17 rfl hl (by decide) rfl (fun ls hl => ?_)
  have hl : lv_has ls 3 [(1, .int 0), (0, .ref o)] := hl
  refine lv_aload_n hx hb d_MO_boundary_18 rfl (lv_at hl 1 rfl) ?_
  refine va_get (D := D) (ci := 5) (v := .int 1) (C := R_MO) (T := T_MO) (N := 18) hx hb hts iw_MO hown hK hP 0 rfl rfl 0 (by decide) (hts _ k_695) (fun _ h9 => h9) rfl d_MO_boundary_19 ?_
  refine lv_if_ne (tgt := 29) hx hb d_MO_boundary_22 rfl (fun _ => ?_) (fun hq9 => absurd hq9 (by decide))
  refine lv_iconst (v := 0) hx hb d_MO_boundary_29 (by decide) ?_
  refine lv_istore_n hx hb d_MO_boundary_30 rfl hl (by decide) rfl (fun ls hl => ?_)
  have hl : lv_has ls 3 [(2, .int 0), (1, .int 0), (0, .ref o)] := hl
  refine lv_iload_n hx hb d_MO_boundary_31 rfl (lv_at hl 0 rfl) ?_
  refine lv_if_eq (tgt := 74) hx hb d_MO_boundary_32 rfl (fun _ => ?_) (fun hq9 => absurd (by decide) hq9)
  refine lv_iload_n hx hb d_MO_boundary_74 rfl (lv_at hl 1 rfl) ?_
  have hP9 : va_P D vwCl [(o, .inr (5, [.int 1, .ref im, .int (bI false), .ref rc, .ref bg, .int ro, .ref oa, .ref xa, .ref ya, .ref rg, .ref me, .ref sa, .ref pa, .ref za, .ref ca, .int (bI kp), .ref ta, .ref na]))] H := hP.sub [0] rfl
  have hD9 : va_D A [(o, .inr (5, [.int 1, .ref im, .int (bI false), .ref rc, .ref bg, .int ro, .ref oa, .ref xa, .ref ya, .ref rg, .ref me, .ref sa, .ref pa, .ref za, .ref ca, .int (bI kp), .ref ta, .ref na]))] := hD.sub [0] (by decide) rfl
  exact W.iret (v := 0) hx hb hr (fun t ht hW => ⟨⟨0, (), rfl, rfl, by rw [ht]; exact hP9, va_K.moved hW.alike hK, hD9⟩, hS.F ht⟩) hS.2.2 d_MO_boundary_75
set_option maxHeartbeats 4000000 in
set_option maxRecDepth 100000 in
theorem q_boundR (l : Launch) (D : va_G) (cI cZ : ClassId) (o : Nat) (th : Int32) (im : Nat) (rc : Nat) (bg : Nat) (ro : Int32) (oa : Nat) (xa : Nat) (ya : Nat) (rg : Nat) (me : Nat) (sa : Nat) (pa : Nat) (za : Nat) (ca : Nat) (kp : Bool) (ta : Nat) (na : Nat) (a : Int32) (x : Int32) (d : Int32) (b0 : Int32) (b1 : Int32) (b2 : Int32) (g : Nat → Int32) (h : Nat → Int32) (s0 : Int32) (s1 : Int32) (p0 : Int32) (p1 : Int32) (z0 : Bool) (z1 : Bool) (c0 : Bool) (c1 : Bool) (t0 : Int32) (t1 : Int32) (n0 : Int32) (n1 : Int32) (fw : Nat → Int32) (fo : Nat → Int32) (fx : Nat → Int32) (fy : Nat → Int32) (G : MT → Prop) (sz : Nat) (hG : G (h, b0, b1, s1, p1, z1, c1, t1, b2, kp)) (hok : okS fw fo fx fy G) : MetI l y_MO_boundary w_MO_boundary { frames := 5, cells := 0, slots := 0, locals := 117 } D cI cZ [.ref o] [(o, .inr (5, [.int th, .ref im, .int (bI true), .ref rc, .ref bg, .int ro, .ref oa, .ref xa, .ref ya, .ref rg, .ref me, .ref sa, .ref pa, .ref za, .ref ca, .int (bI kp), .ref ta, .ref na])), (rg, .inl (cI, 6, .inl (rg6 a x d b0 b1 b2))), (me, .inl (cI, 512, .inl (mm2 g h))), (sa, .inl (cI, 2, .inl (p2 s0 s1))), (pa, .inl (cI, 2, .inl (p2 p0 p1))), (za, .inl (cZ, 2, .inl (p2 (bI z0) (bI z1)))), (ca, .inl (cZ, 2, .inl (p2 (bI c0) (bI c1)))), (ta, .inl (cI, 2, .inl (p2 t0 t1))), (na, .inl (cI, 2, .inl (p2 n0 n1))), (bg, .inl (cI, 256, .inl fw)), (oa, .inl (cI, 1024, .inl fo)), (xa, .inl (cI, 1024, .inl fx)), (ya, .inl (cI, 1024, .inl fy))] sz (fun r (u : (Nat → Int32) × Int32 × Int32 × Int32 × Int32 × Int32 × Bool × Bool × Bool × Int32 × Int32) => match u with | (h1, v0, v1, v2, s9, q1, zz, cy, kp1, t9, n9) => r = nI (sBound (mDoU fw fo fx fy) (fun p => bgN fw p 256) 1024 (h, b0, b1, s1, p1, z1, c1, t1, b2, kp)).1 ∧ (h1, v0, v1, s9, q1, zz, cy, t9, v2, kp1) = (sBound (mDoU fw fo fx fy) (fun p => bgN fw p 256) 1024 (h, b0, b1, s1, p1, z1, c1, t1, b2, kp)).2 ∧ n9 = n1 + nI (sBound (mDoU fw fo fx fy) (fun p => bgN fw p 256) 1024 (h, b0, b1, s1, p1, z1, c1, t1, b2, kp)).1 ∧ G (h1, v0, v1, s9, q1, zz, cy, t9, v2, kp1)) (fun (u : (Nat → Int32) × Int32 × Int32 × Int32 × Int32 × Int32 × Bool × Bool × Bool × Int32 × Int32) => match u with | (h1, v0, v1, v2, s9, q1, zz, cy, kp1, t9, n9) => [(o, .inr (5, [.int 0, .ref im, .int (bI true), .ref rc, .ref bg, .int ro, .ref oa, .ref xa, .ref ya, .ref rg, .ref me, .ref sa, .ref pa, .ref za, .ref ca, .int (bI kp1), .ref ta, .ref na])), (rg, .inl (cI, 6, .inl (rg6 a x d v0 v1 v2))), (me, .inl (cI, 512, .inl (mm2 g h1))), (sa, .inl (cI, 2, .inl (p2 s0 s9))), (pa, .inl (cI, 2, .inl (p2 p0 q1))), (za, .inl (cZ, 2, .inl (p2 (bI z0) (bI zz)))), (ca, .inl (cZ, 2, .inl (p2 (bI c0) (bI cy)))), (ta, .inl (cI, 2, .inl (p2 t0 t9))), (na, .inl (cI, 2, .inl (p2 n0 n9))), (bg, .inl (cI, 256, .inl fw)), (oa, .inl (cI, 1024, .inl fo)), (xa, .inl (cI, 1024, .inl fx)), (ya, .inl (cI, 1024, .inl fy))]) 0 0 := by
  refine ofI (cc := c_MO_boundary) (maxL := 3) (ret := (some .int)) (by decide) rfl (Nat.le_of_ble_eq_true rfl) ?_
  intro p e s m args below meth c A H hH0 hx hb hr hlocks hts hown hnm hml ls hl hP hK hD hA hS hN
  have hown : s.vm.findClass R_MO = some m.cls := hown
  have hl : lv_has ls 3 [(0, .ref o)] := hl
  refine lv_aload_n hx hb d_MO_boundary_0 rfl (lv_at hl 0 rfl) ?_
  refine lv_aload_n hx hb d_MO_boundary_1 rfl (lv_at hl 0 rfl) ?_
  refine va_get (D := D) (ci := 5) (v := .int (bI true)) (C := R_MO) (T := T_MO) (N := 18) hx hb hts iw_MO hown hK hP 0 rfl rfl 2 (by decide) (hts _ k_697) (fun _ h9 => h9) rfl d_MO_boundary_2 ?_
  refine lv_if_eq (tgt := 12) hx hb d_MO_boundary_5 rfl (fun hq9 => absurd hq9 (by decide)) (fun _ => ?_)
  refine lv_iconst (v := 0) hx hb d_MO_boundary_8 (by decide) ?_
  refine lv_goto (tgt := 13) hx hb d_MO_boundary_9 rfl ?_
  refine va_put (D := D) (ci := 5) (v := .int 0) (ty := .int) (C := R_MO) (T := T_MO) (N := 18) hx hb hts iw_MO ty_MO ty_MO_ok nm_MO hown hK hP hD hS 0 rfl rfl 0 (by decide) (hts _ k_695) (fun _ h9 => h9) rfl (by decide +kernel) rfl rfl (Nat.le_of_ble_eq_true rfl) d_MO_boundary_13 (fun H locs hP hD hS => ?_)
  have hP : va_P D vwCl [(o, .inr (5, [.int 0, .ref im, .int (bI true), .ref rc, .ref bg, .int ro, .ref oa, .ref xa, .ref ya, .ref rg, .ref me, .ref sa, .ref pa, .ref za, .ref ca, .int (bI kp), .ref ta, .ref na])), (rg, .inl (cI, 6, .inl (rg6 a x d b0 b1 b2))), (me, .inl (cI, 512, .inl (mm2 g h))), (sa, .inl (cI, 2, .inl (p2 s0 s1))), (pa, .inl (cI, 2, .inl (p2 p0 p1))), (za, .inl (cZ, 2, .inl (p2 (bI z0) (bI z1)))), (ca, .inl (cZ, 2, .inl (p2 (bI c0) (bI c1)))), (ta, .inl (cI, 2, .inl (p2 t0 t1))), (na, .inl (cI, 2, .inl (p2 n0 n1))), (bg, .inl (cI, 256, .inl fw)), (oa, .inl (cI, 1024, .inl fo)), (xa, .inl (cI, 1024, .inl fx)), (ya, .inl (cI, 1024, .inl fy))] H := hP
  have hD : va_D A [(o, .inr (5, [.int 0, .ref im, .int (bI true), .ref rc, .ref bg, .int ro, .ref oa, .ref xa, .ref ya, .ref rg, .ref me, .ref sa, .ref pa, .ref za, .ref ca, .int (bI kp), .ref ta, .ref na])), (rg, .inl (cI, 6, .inl (rg6 a x d b0 b1 b2))), (me, .inl (cI, 512, .inl (mm2 g h))), (sa, .inl (cI, 2, .inl (p2 s0 s1))), (pa, .inl (cI, 2, .inl (p2 p0 p1))), (za, .inl (cZ, 2, .inl (p2 (bI z0) (bI z1)))), (ca, .inl (cZ, 2, .inl (p2 (bI c0) (bI c1)))), (ta, .inl (cI, 2, .inl (p2 t0 t1))), (na, .inl (cI, 2, .inl (p2 n0 n1))), (bg, .inl (cI, 256, .inl fw)), (oa, .inl (cI, 1024, .inl fo)), (xa, .inl (cI, 1024, .inl fx)), (ya, .inl (cI, 1024, .inl fy))] := hD
  refine lv_iconst (v := 0) hx hb d_MO_boundary_16 (by decide) ?_
  refine lv_istore_n hx hb d_MO_boundary_17 rfl hl (by decide) rfl (fun ls hl => ?_)
  have hl : lv_has ls 3 [(1, .int 0), (0, .ref o)] := hl
  refine lv_aload_n hx hb d_MO_boundary_18 rfl (lv_at hl 1 rfl) ?_
  refine va_get (D := D) (ci := 5) (v := .int 0) (C := R_MO) (T := T_MO) (N := 18) hx hb hts iw_MO hown hK hP 0 rfl rfl 0 (by decide) (hts _ k_695) (fun _ h9 => h9) rfl d_MO_boundary_19 ?_
  refine lv_if_ne (tgt := 29) hx hb d_MO_boundary_22 rfl (fun hq9 => absurd (by decide) hq9) (fun _ => ?_)
  refine lv_iconst (v := 1) hx hb d_MO_boundary_25 (by decide) ?_
  refine lv_goto (tgt := 30) hx hb d_MO_boundary_26 rfl ?_
  refine lv_istore_n hx hb d_MO_boundary_30 rfl hl (by decide) rfl (fun ls hl => ?_)
  have hl : lv_has ls 3 [(2, .int 1), (1, .int 0), (0, .ref o)] := hl
  have loop : ∀ (k : Nat) (dd : Nat) (hL : Nat → Int32) (b0L : Int32) (b1L : Int32) (s1L : Int32) (p1L : Int32) (z1L : Bool) (c1L : Bool) (t1L : Int32) (b2L : Int32) (kpL : Bool) (n1L : Int32), (dd + k = 1024) → (sBound (mDoU fw fo fx fy) (fun p => bgN fw p 256) 1024 (h, b0, b1, s1, p1, z1, c1, t1, b2, kp) = ((sBound (mDoU fw fo fx fy) (fun p => bgN fw p 256) k (hL, b0L, b1L, s1L, p1L, z1L, c1L, t1L, b2L, kpL)).1 + dd, (sBound (mDoU fw fo fx fy) (fun p => bgN fw p 256) k (hL, b0L, b1L, s1L, p1L, z1L, c1L, t1L, b2L, kpL)).2)) → (n1L = n1 + nI dd) → (G (hL, b0L, b1L, s1L, p1L, z1L, c1L, t1L, b2L, kpL)) → ∀ (H : Heap) (locs : List Loc) (ls : Array Slot), lv_has ls 3 [(2, .int 1), (1, .int (nI dd)), (0, .ref o)] → va_P D vwCl [(o, .inr (5, [.int 0, .ref im, .int (bI true), .ref rc, .ref bg, .int ro, .ref oa, .ref xa, .ref ya, .ref rg, .ref me, .ref sa, .ref pa, .ref za, .ref ca, .int (bI kpL), .ref ta, .ref na])), (rg, .inl (cI, 6, .inl (rg6 a x d b0L b1L b2L))), (me, .inl (cI, 512, .inl (mm2 g hL))), (sa, .inl (cI, 2, .inl (p2 s0 s1L))), (pa, .inl (cI, 2, .inl (p2 p0 p1L))), (za, .inl (cZ, 2, .inl (p2 (bI z0) (bI z1L)))), (ca, .inl (cZ, 2, .inl (p2 (bI c0) (bI c1L)))), (ta, .inl (cI, 2, .inl (p2 t0 t1L))), (na, .inl (cI, 2, .inl (p2 n0 n1L))), (bg, .inl (cI, 256, .inl fw)), (oa, .inl (cI, 1024, .inl fo)), (xa, .inl (cI, 1024, .inl fx)), (ya, .inl (cI, 1024, .inl fy))] H → va_D A [(o, .inr (5, [.int 0, .ref im, .int (bI true), .ref rc, .ref bg, .int ro, .ref oa, .ref xa, .ref ya, .ref rg, .ref me, .ref sa, .ref pa, .ref za, .ref ca, .int (bI kpL), .ref ta, .ref na])), (rg, .inl (cI, 6, .inl (rg6 a x d b0L b1L b2L))), (me, .inl (cI, 512, .inl (mm2 g hL))), (sa, .inl (cI, 2, .inl (p2 s0 s1L))), (pa, .inl (cI, 2, .inl (p2 p0 p1L))), (za, .inl (cZ, 2, .inl (p2 (bI z0) (bI z1L)))), (ca, .inl (cZ, 2, .inl (p2 (bI c0) (bI c1L)))), (ta, .inl (cI, 2, .inl (p2 t0 t1L))), (na, .inl (cI, 2, .inl (p2 n0 n1L))), (bg, .inl (cI, 256, .inl fw)), (oa, .inl (cI, 1024, .inl fo)), (xa, .inl (cI, 1024, .inl fx)), (ya, .inl (cI, 1024, .inl fy))] → va_S A s.heap H locs → W p l e { frames := 5, cells := 0, slots := 0, locals := 117 } s m args below meth c H locs 0 0 (MQ below (QI D cI cZ (fun r (u : (Nat → Int32) × Int32 × Int32 × Int32 × Int32 × Int32 × Bool × Bool × Bool × Int32 × Int32) => match u with | (h1, v0, v1, v2, s9, q1, zz, cy, kp1, t9, n9) => r = nI (sBound (mDoU fw fo fx fy) (fun p => bgN fw p 256) 1024 (h, b0, b1, s1, p1, z1, c1, t1, b2, kp)).1 ∧ (h1, v0, v1, s9, q1, zz, cy, t9, v2, kp1) = (sBound (mDoU fw fo fx fy) (fun p => bgN fw p 256) 1024 (h, b0, b1, s1, p1, z1, c1, t1, b2, kp)).2 ∧ n9 = n1 + nI (sBound (mDoU fw fo fx fy) (fun p => bgN fw p 256) 1024 (h, b0, b1, s1, p1, z1, c1, t1, b2, kp)).1 ∧ G (h1, v0, v1, s9, q1, zz, cy, t9, v2, kp1)) (fun (u : (Nat → Int32) × Int32 × Int32 × Int32 × Int32 × Int32 × Bool × Bool × Bool × Int32 × Int32) => match u with | (h1, v0, v1, v2, s9, q1, zz, cy, kp1, t9, n9) => [(o, .inr (5, [.int 0, .ref im, .int (bI true), .ref rc, .ref bg, .int ro, .ref oa, .ref xa, .ref ya, .ref rg, .ref me, .ref sa, .ref pa, .ref za, .ref ca, .int (bI kp1), .ref ta, .ref na])), (rg, .inl (cI, 6, .inl (rg6 a x d v0 v1 v2))), (me, .inl (cI, 512, .inl (mm2 g h1))), (sa, .inl (cI, 2, .inl (p2 s0 s9))), (pa, .inl (cI, 2, .inl (p2 p0 q1))), (za, .inl (cZ, 2, .inl (p2 (bI z0) (bI zz)))), (ca, .inl (cZ, 2, .inl (p2 (bI c0) (bI cy)))), (ta, .inl (cI, 2, .inl (p2 t0 t9))), (na, .inl (cI, 2, .inl (p2 n0 n9))), (bg, .inl (cI, 256, .inl fw)), (oa, .inl (cI, 1024, .inl fo)), (xa, .inl (cI, 1024, .inl fx)), (ya, .inl (cI, 1024, .inl fy))]) A) args s 0 0 A) (F0 m 31 ls []) := by
    intro k
    induction k with
    | zero =>
      intro dd hL b0L b1L s1L p1L z1L c1L t1L b2L kpL n1L hk hI hc9 hGL H locs ls hl hP hD hS
      refine lv_iload_n hx hb d_MO_boundary_31 rfl (lv_at hl 0 rfl) ?_
      refine lv_if_eq (tgt := 74) hx hb d_MO_boundary_32 rfl (fun hq9 => absurd hq9 (by decide)) (fun _ => ?_)
      refine lv_iload_n hx hb d_MO_boundary_35 rfl (lv_at hl 1 rfl) ?_
      refine lv_sipush (v := 1024) hx hb d_MO_boundary_36 (by decide) ?_
      refine lv_icmp_ge (tgt := 74) hx hb d_MO_boundary_39 rfl (fun _ => ?_) (fun hq9 => absurd (by rw [show dd = 1024 from hk]; decide) hq9)
      have hfin : sBound (mDoU fw fo fx fy) (fun p => bgN fw p 256) 1024 (h, b0, b1, s1, p1, z1, c1, t1, b2, kp) = (dd, (hL, b0L, b1L, s1L, p1L, z1L, c1L, t1L, b2L, kpL)) := sB_0 hI
      have hc8 := hc9
      have hG8 := hGL
      refine lv_iload_n hx hb d_MO_boundary_74 rfl (lv_at hl 1 rfl) ?_
      have hP9 : va_P D vwCl [(o, .inr (5, [.int 0, .ref im, .int (bI true), .ref rc, .ref bg, .int ro, .ref oa, .ref xa, .ref ya, .ref rg, .ref me, .ref sa, .ref pa, .ref za, .ref ca, .int (bI kpL), .ref ta, .ref na])), (rg, .inl (cI, 6, .inl (rg6 a x d b0L b1L b2L))), (me, .inl (cI, 512, .inl (mm2 g hL))), (sa, .inl (cI, 2, .inl (p2 s0 s1L))), (pa, .inl (cI, 2, .inl (p2 p0 p1L))), (za, .inl (cZ, 2, .inl (p2 (bI z0) (bI z1L)))), (ca, .inl (cZ, 2, .inl (p2 (bI c0) (bI c1L)))), (ta, .inl (cI, 2, .inl (p2 t0 t1L))), (na, .inl (cI, 2, .inl (p2 n0 n1L))), (bg, .inl (cI, 256, .inl fw)), (oa, .inl (cI, 1024, .inl fo)), (xa, .inl (cI, 1024, .inl fx)), (ya, .inl (cI, 1024, .inl fy))] H := hP.sub [0, 1, 2, 3, 4, 5, 6, 7, 8, 9, 10, 11, 12] rfl
      have hD9 : va_D A [(o, .inr (5, [.int 0, .ref im, .int (bI true), .ref rc, .ref bg, .int ro, .ref oa, .ref xa, .ref ya, .ref rg, .ref me, .ref sa, .ref pa, .ref za, .ref ca, .int (bI kpL), .ref ta, .ref na])), (rg, .inl (cI, 6, .inl (rg6 a x d b0L b1L b2L))), (me, .inl (cI, 512, .inl (mm2 g hL))), (sa, .inl (cI, 2, .inl (p2 s0 s1L))), (pa, .inl (cI, 2, .inl (p2 p0 p1L))), (za, .inl (cZ, 2, .inl (p2 (bI z0) (bI z1L)))), (ca, .inl (cZ, 2, .inl (p2 (bI c0) (bI c1L)))), (ta, .inl (cI, 2, .inl (p2 t0 t1L))), (na, .inl (cI, 2, .inl (p2 n0 n1L))), (bg, .inl (cI, 256, .inl fw)), (oa, .inl (cI, 1024, .inl fo)), (xa, .inl (cI, 1024, .inl fx)), (ya, .inl (cI, 1024, .inl fy))] := hD.sub [0, 1, 2, 3, 4, 5, 6, 7, 8, 9, 10, 11, 12] (by decide) rfl
      exact W.iret (v := (nI dd)) hx hb hr (fun t ht hW => ⟨⟨(nI dd), (hL, b0L, b1L, b2L, s1L, p1L, z1L, c1L, kpL, t1L, n1L), rfl, by rw [hfin]; exact ⟨rfl, rfl, hc8, hG8⟩, by rw [ht]; exact hP9, va_K.moved hW.alike hK, hD9⟩, hS.F ht⟩) hS.2.2 d_MO_boundary_75
    | succ k ih =>
      intro dd hL b0L b1L s1L p1L z1L c1L t1L b2L kpL n1L hk hI hc9 hGL H locs ls hl hP hD hS
      refine lv_iload_n hx hb d_MO_boundary_31 rfl (lv_at hl 0 rfl) ?_
      refine lv_if_eq (tgt := 74) hx hb d_MO_boundary_32 rfl (fun hq9 => absurd hq9 (by decide)) (fun _ => ?_)
      refine lv_iload_n hx hb d_MO_boundary_35 rfl (lv_at hl 1 rfl) ?_
      refine lv_sipush (v := 1024) hx hb d_MO_boundary_36 (by decide) ?_
      refine lv_icmp_ge (tgt := 74) hx hb d_MO_boundary_39 rfl (fun hq9 => absurd hq9 (nI_ge (b := 1024) (by omega) (by decide))) (fun _ => ?_)
      refine lv_aload_n hx hb d_MO_boundary_42 rfl (lv_at hl 2 rfl) ?_
      refine va_get (D := D) (ci := 5) (v := .ref ta) (C := R_MO) (T := T_MO) (N := 18) hx hb hts iw_MO hown hK hP 0 rfl rfl 16 (by decide) (hts _ k_711) (fun _ h9 => h9) rfl d_MO_boundary_43 ?_
      refine lv_iconst (v := 1) hx hb d_MO_boundary_46 (by decide) ?_
      refine va_iald hx hb hK hP 7 0 rfl rfl (vp_in_nI (n := 1) (by decide) (by decide)) d_MO_boundary_47 ?_
      refine lv_if_ne (tgt := 74) hx hb d_MO_boundary_48 rfl (fun h48 => ?_) (fun h48 => ?_)
      · have h48 : ¬ t1L = 0 := h48
        have hfin : sBound (mDoU fw fo fx fy) (fun p => bgN fw p 256) 1024 (h, b0, b1, s1, p1, z1, c1, t1, b2, kp) = (dd, (hL, b0L, b1L, s1L, p1L, z1L, c1L, t1L, b2L, kpL)) := sB_end hI h48
        have hc8 := hc9
        have hG8 := hGL
        refine lv_iload_n hx hb d_MO_boundary_74 rfl (lv_at hl 1 rfl) ?_
        have hP9 : va_P D vwCl [(o, .inr (5, [.int 0, .ref im, .int (bI true), .ref rc, .ref bg, .int ro, .ref oa, .ref xa, .ref ya, .ref rg, .ref me, .ref sa, .ref pa, .ref za, .ref ca, .int (bI kpL), .ref ta, .ref na])), (rg, .inl (cI, 6, .inl (rg6 a x d b0L b1L b2L))), (me, .inl (cI, 512, .inl (mm2 g hL))), (sa, .inl (cI, 2, .inl (p2 s0 s1L))), (pa, .inl (cI, 2, .inl (p2 p0 p1L))), (za, .inl (cZ, 2, .inl (p2 (bI z0) (bI z1L)))), (ca, .inl (cZ, 2, .inl (p2 (bI c0) (bI c1L)))), (ta, .inl (cI, 2, .inl (p2 t0 t1L))), (na, .inl (cI, 2, .inl (p2 n0 n1L))), (bg, .inl (cI, 256, .inl fw)), (oa, .inl (cI, 1024, .inl fo)), (xa, .inl (cI, 1024, .inl fx)), (ya, .inl (cI, 1024, .inl fy))] H := hP.sub [0, 1, 2, 3, 4, 5, 6, 7, 8, 9, 10, 11, 12] rfl
        have hD9 : va_D A [(o, .inr (5, [.int 0, .ref im, .int (bI true), .ref rc, .ref bg, .int ro, .ref oa, .ref xa, .ref ya, .ref rg, .ref me, .ref sa, .ref pa, .ref za, .ref ca, .int (bI kpL), .ref ta, .ref na])), (rg, .inl (cI, 6, .inl (rg6 a x d b0L b1L b2L))), (me, .inl (cI, 512, .inl (mm2 g hL))), (sa, .inl (cI, 2, .inl (p2 s0 s1L))), (pa, .inl (cI, 2, .inl (p2 p0 p1L))), (za, .inl (cZ, 2, .inl (p2 (bI z0) (bI z1L)))), (ca, .inl (cZ, 2, .inl (p2 (bI c0) (bI c1L)))), (ta, .inl (cI, 2, .inl (p2 t0 t1L))), (na, .inl (cI, 2, .inl (p2 n0 n1L))), (bg, .inl (cI, 256, .inl fw)), (oa, .inl (cI, 1024, .inl fo)), (xa, .inl (cI, 1024, .inl fx)), (ya, .inl (cI, 1024, .inl fy))] := hD.sub [0, 1, 2, 3, 4, 5, 6, 7, 8, 9, 10, 11, 12] (by decide) rfl
        exact W.iret (v := (nI dd)) hx hb hr (fun t ht hW => ⟨⟨(nI dd), (hL, b0L, b1L, b2L, s1L, p1L, z1L, c1L, kpL, t1L, n1L), rfl, by rw [hfin]; exact ⟨rfl, rfl, hc8, hG8⟩, by rw [ht]; exact hP9, va_K.moved hW.alike hK, hD9⟩, hS.F ht⟩) hS.2.2 d_MO_boundary_75
      · have h48 : t1L = 0 := h48
        obtain ⟨g1, g2, ⟨gv0, gv1, gv2⟩, g4⟩ := hok (hL, b0L, b1L, s1L, p1L, z1L, c1L, t1L, b2L, kpL) hGL h48
        rcases g2 with g2 | g2 | g2
        · have g2 : fx p1L.toNatClampNeg = 0 := g2
          refine lv_aload_n hx hb d_MO_boundary_51 rfl (lv_at hl 2 rfl) ?_
          have hPc := hP.sub (ws' := [(o, .inr (5, [.int 0, .ref im, .int (bI true), .ref rc, .ref bg, .int ro, .ref oa, .ref xa, .ref ya, .ref rg, .ref me, .ref sa, .ref pa, .ref za, .ref ca, .int (bI kpL), .ref ta, .ref na])), (rg, .inl (cI, 6, .inl (rg6 a x d b0L b1L b2L))), (me, .inl (cI, 512, .inl (mm2 g hL))), (sa, .inl (cI, 2, .inl (p2 s0 s1L))), (pa, .inl (cI, 2, .inl (p2 p0 p1L))), (za, .inl (cZ, 2, .inl (p2 (bI z0) (bI z1L)))), (ca, .inl (cZ, 2, .inl (p2 (bI c0) (bI c1L)))), (ta, .inl (cI, 2, .inl (p2 t0 t1L))), (na, .inl (cI, 2, .inl (p2 n0 n1L))), (bg, .inl (cI, 256, .inl fw)), (oa, .inl (cI, 1024, .inl fo)), (xa, .inl (cI, 1024, .inl fx)), (ya, .inl (cI, 1024, .inl fy))]) [0, 1, 2, 3, 4, 5, 6, 7, 8, 9, 10, 11, 12] rfl
          have hDc := hD.sub (ws' := [(o, .inr (5, [.int 0, .ref im, .int (bI true), .ref rc, .ref bg, .int ro, .ref oa, .ref xa, .ref ya, .ref rg, .ref me, .ref sa, .ref pa, .ref za, .ref ca, .int (bI kpL), .ref ta, .ref na])), (rg, .inl (cI, 6, .inl (rg6 a x d b0L b1L b2L))), (me, .inl (cI, 512, .inl (mm2 g hL))), (sa, .inl (cI, 2, .inl (p2 s0 s1L))), (pa, .inl (cI, 2, .inl (p2 p0 p1L))), (za, .inl (cZ, 2, .inl (p2 (bI z0) (bI z1L)))), (ca, .inl (cZ, 2, .inl (p2 (bI c0) (bI c1L)))), (ta, .inl (cI, 2, .inl (p2 t0 t1L))), (na, .inl (cI, 2, .inl (p2 n0 n1L))), (bg, .inl (cI, 256, .inl fw)), (oa, .inl (cI, 1024, .inl fo)), (xa, .inl (cI, 1024, .inl fx)), (ya, .inl (cI, 1024, .inl fy))]) [0, 1, 2, 3, 4, 5, 6, 7, 8, 9, 10, 11, 12] (by decide) rfl
          have hFc := va_free (wc := [(o, .inr (5, [.int 0, .ref im, .int (bI true), .ref rc, .ref bg, .int ro, .ref oa, .ref xa, .ref ya, .ref rg, .ref me, .ref sa, .ref pa, .ref za, .ref ca, .int (bI kpL), .ref ta, .ref na])), (rg, .inl (cI, 6, .inl (rg6 a x d b0L b1L b2L))), (me, .inl (cI, 512, .inl (mm2 g hL))), (sa, .inl (cI, 2, .inl (p2 s0 s1L))), (pa, .inl (cI, 2, .inl (p2 p0 p1L))), (za, .inl (cZ, 2, .inl (p2 (bI z0) (bI z1L)))), (ca, .inl (cZ, 2, .inl (p2 (bI c0) (bI c1L)))), (ta, .inl (cI, 2, .inl (p2 t0 t1L))), (na, .inl (cI, 2, .inl (p2 n0 n1L))), (bg, .inl (cI, 256, .inl fw)), (oa, .inl (cI, 1024, .inl fo)), (xa, .inl (cI, 1024, .inl fx)), (ya, .inl (cI, 1024, .inl fy))]) hD hS hA [0, 1, 2, 3, 4, 5, 6, 7, 8, 9, 10, 11, 12] rfl
          refine va_callv (va_runV (As := []) (rest := []) ⟨hx, hb, hml, hown, hts⟩ (q_stepSecond0 l D cI cZ o 0 im true rc bg ro oa xa ya rg me sa pa za ca kpL ta na a x d b0L b1L b2L g hL s0 s1L p0 p1L z0 z1L c0 c1L t0 t1L n0 n1L fw fo fx fy H.size g1 g2 gv0) ⟨cB 0 hts k_885 k_62 k_882 hd_MO_stepSecond ⟨Nat.le_of_ble_eq_true rfl, Nat.le_of_ble_eq_true rfl⟩ rfl rfl, hts _ k_884, hts _ k_51⟩ (PcW.preV (va_recv hK hP (q0 := 0) (ci := 5) rfl rfl) hPc hK hDc hN) rfl rfl hl.1 rfl (lv_room (Nat.le_of_ble_eq_true rfl)) d_MO_boundary_52 ⟨Nat.le_of_ble_eq_true rfl, Nat.le_of_ble_eq_true rfl⟩) hS (fun q _ h => hFc q h) hFc (fun u t H1 locs ht hvm e52 hB hz1 hk1 hS => ?_)
          obtain ⟨h152, v052, v152, v252, s952, q152, zz52, cy52, kp152, t952, n952⟩ := u
          obtain ⟨hP1, hK1, hD1⟩ := hB
          rw [ht] at hP1
          obtain ⟨hP, hD⟩ := va_join (wr := []) (w1 := [(o, .inr (5, [.int 0, .ref im, .int (bI true), .ref rc, .ref bg, .int ro, .ref oa, .ref xa, .ref ya, .ref rg, .ref me, .ref sa, .ref pa, .ref za, .ref ca, .int (bI kp152), .ref ta, .ref na])), (rg, .inl (cI, 6, .inl (rg6 a x d v052 v152 v252))), (me, .inl (cI, 512, .inl (mm2 g h152))), (sa, .inl (cI, 2, .inl (p2 s0 s952))), (pa, .inl (cI, 2, .inl (p2 p0 q152))), (za, .inl (cZ, 2, .inl (p2 (bI z0) (bI zz52)))), (ca, .inl (cZ, 2, .inl (p2 (bI c0) (bI cy52)))), (ta, .inl (cI, 2, .inl (p2 t0 t952))), (na, .inl (cI, 2, .inl (p2 n0 n952))), (bg, .inl (cI, 256, .inl fw)), (oa, .inl (cI, 1024, .inl fo)), (xa, .inl (cI, 1024, .inl fx)), (ya, .inl (cI, 1024, .inl fy))]) hP hD [0, 1, 2, 3, 4, 5, 6, 7, 8, 9, 10, 11, 12] [] rfl rfl (by decide) (by decide) hk1 hFc hP1 hD1
          generalize H1 = H at hP hS ⊢
          try dsimp only at e52
          have hP : va_P D vwCl [(o, .inr (5, [.int 0, .ref im, .int (bI true), .ref rc, .ref bg, .int ro, .ref oa, .ref xa, .ref ya, .ref rg, .ref me, .ref sa, .ref pa, .ref za, .ref ca, .int (bI kp152), .ref ta, .ref na])), (rg, .inl (cI, 6, .inl (rg6 a x d v052 v152 v252))), (me, .inl (cI, 512, .inl (mm2 g h152))), (sa, .inl (cI, 2, .inl (p2 s0 s952))), (pa, .inl (cI, 2, .inl (p2 p0 q152))), (za, .inl (cZ, 2, .inl (p2 (bI z0) (bI zz52)))), (ca, .inl (cZ, 2, .inl (p2 (bI c0) (bI cy52)))), (ta, .inl (cI, 2, .inl (p2 t0 t952))), (na, .inl (cI, 2, .inl (p2 n0 n952))), (bg, .inl (cI, 256, .inl fw)), (oa, .inl (cI, 1024, .inl fo)), (xa, .inl (cI, 1024, .inl fx)), (ya, .inl (cI, 1024, .inl fy))] H := hP
          have hD : va_D A [(o, .inr (5, [.int 0, .ref im, .int (bI true), .ref rc, .ref bg, .int ro, .ref oa, .ref xa, .ref ya, .ref rg, .ref me, .ref sa, .ref pa, .ref za, .ref ca, .int (bI kp152), .ref ta, .ref na])), (rg, .inl (cI, 6, .inl (rg6 a x d v052 v152 v252))), (me, .inl (cI, 512, .inl (mm2 g h152))), (sa, .inl (cI, 2, .inl (p2 s0 s952))), (pa, .inl (cI, 2, .inl (p2 p0 q152))), (za, .inl (cZ, 2, .inl (p2 (bI z0) (bI zz52)))), (ca, .inl (cZ, 2, .inl (p2 (bI c0) (bI cy52)))), (ta, .inl (cI, 2, .inl (p2 t0 t952))), (na, .inl (cI, 2, .inl (p2 n0 n952))), (bg, .inl (cI, 256, .inl fw)), (oa, .inl (cI, 1024, .inl fo)), (xa, .inl (cI, 1024, .inl fx)), (ya, .inl (cI, 1024, .inl fy))] := hD
          refine lv_iinc (k := 1) (v := nI (dd + 1)) hx hb d_MO_boundary_55 hl rfl (nI_inc _) (by decide) rfl (fun ls hl => ?_)
          have hl : lv_has ls 3 [(1, .int (nI (dd + 1))), (2, .int 1), (0, .ref o)] := hl
          refine lv_aload_n hx hb d_MO_boundary_58 rfl (lv_at hl 2 rfl) ?_
          have hPc := hP.sub (ws' := [(o, .inr (5, [.int 0, .ref im, .int (bI true), .ref rc, .ref bg, .int ro, .ref oa, .ref xa, .ref ya, .ref rg, .ref me, .ref sa, .ref pa, .ref za, .ref ca, .int (bI kp152), .ref ta, .ref na])), (pa, .inl (cI, 2, .inl (p2 p0 q152))), (bg, .inl (cI, 256, .inl fw))]) [0, 4, 9] rfl
          refine vp_callSi (va_runV (As := []) (rest := []) ⟨hx, hb, hml, hown, hts⟩ (q_atBeg l D cI cZ o 0 im true rc bg ro oa xa ya rg me sa pa za ca kp152 ta na p0 q152 fw) ⟨cB 0 hts k_901 k_62 k_898 hd_MO_atBeginning ⟨Nat.le_of_ble_eq_true rfl, Nat.le_of_ble_eq_true rfl⟩ rfl rfl, hts _ k_900, hts _ k_54⟩ (PcR.preV (va_recv hK hP (q0 := 0) (ci := 5) rfl rfl) hPc hK hN) rfl rfl hl.1 rfl (lv_room (Nat.le_of_ble_eq_true rfl)) d_MO_boundary_59 ⟨Nat.le_of_ble_eq_true rfl, Nat.le_of_ble_eq_true rfl⟩).run (fun r59 e59 => ?_)
          replace e59 := e59.symm
          subst e59
          refine lv_if_ne (tgt := 69) hx hb d_MO_boundary_62 rfl (fun h62 => ?_) (fun h62 => ?_)
          · have h62 : bgN fw q152 256 = true := bI_t h62
            refine lv_iconst (v := 0) hx hb d_MO_boundary_69 (by decide) ?_
            refine lv_istore_n hx hb d_MO_boundary_70 rfl hl (by decide) rfl (fun ls hl => ?_)
            have hl : lv_has ls 3 [(2, .int 0), (1, .int (nI (dd + 1))), (0, .ref o)] := hl
            refine lv_goto (tgt := 31) hx hb d_MO_boundary_71 rfl ?_
            have e52 : (h152, v052, v152, s952, q152, zz52, cy52, t952, v252, kp152) = mDoU fw fo fx fy (hL, b0L, b1L, s1L, p1L, z1L, c1L, t1L, b2L, kpL) ∧ n952 = n1L + 1 := ⟨by rw [mDoU]; dsimp only; rw [g2]; exact e52.1, e52.2⟩
            have hfin : sBound (mDoU fw fo fx fy) (fun p => bgN fw p 256) 1024 (h, b0, b1, s1, p1, z1, c1, t1, b2, kp) = (dd + 1, (h152, v052, v152, s952, q152, zz52, cy52, t952, v252, kp152)) := by rw [e52.1]; exact sB_hit hI h48 (by rw [← e52.1]; exact h62)
            have hc8 : n952 = n1 + nI (dd + 1) := by rw [e52.2]; exact nI_x2 hc9
            have hG8 : G (h152, v052, v152, s952, q152, zz52, cy52, t952, v252, kp152) := by rw [e52.1]; exact g4
            refine lv_iload_n hx hb d_MO_boundary_31 rfl (lv_at hl 0 rfl) ?_
            refine lv_if_eq (tgt := 74) hx hb d_MO_boundary_32 rfl (fun _ => ?_) (fun hq9 => absurd (by decide) hq9)
            refine lv_iload_n hx hb d_MO_boundary_74 rfl (lv_at hl 1 rfl) ?_
            have hP9 : va_P D vwCl [(o, .inr (5, [.int 0, .ref im, .int (bI true), .ref rc, .ref bg, .int ro, .ref oa, .ref xa, .ref ya, .ref rg, .ref me, .ref sa, .ref pa, .ref za, .ref ca, .int (bI kp152), .ref ta, .ref na])), (rg, .inl (cI, 6, .inl (rg6 a x d v052 v152 v252))), (me, .inl (cI, 512, .inl (mm2 g h152))), (sa, .inl (cI, 2, .inl (p2 s0 s952))), (pa, .inl (cI, 2, .inl (p2 p0 q152))), (za, .inl (cZ, 2, .inl (p2 (bI z0) (bI zz52)))), (ca, .inl (cZ, 2, .inl (p2 (bI c0) (bI cy52)))), (ta, .inl (cI, 2, .inl (p2 t0 t952))), (na, .inl (cI, 2, .inl (p2 n0 n952))), (bg, .inl (cI, 256, .inl fw)), (oa, .inl (cI, 1024, .inl fo)), (xa, .inl (cI, 1024, .inl fx)), (ya, .inl (cI, 1024, .inl fy))] H := hP.sub [0, 1, 2, 3, 4, 5, 6, 7, 8, 9, 10, 11, 12] rfl
            have hD9 : va_D A [(o, .inr (5, [.int 0, .ref im, .int (bI true), .ref rc, .ref bg, .int ro, .ref oa, .ref xa, .ref ya, .ref rg, .ref me, .ref sa, .ref pa, .ref za, .ref ca, .int (bI kp152), .ref ta, .ref na])), (rg, .inl (cI, 6, .inl (rg6 a x d v052 v152 v252))), (me, .inl (cI, 512, .inl (mm2 g h152))), (sa, .inl (cI, 2, .inl (p2 s0 s952))), (pa, .inl (cI, 2, .inl (p2 p0 q152))), (za, .inl (cZ, 2, .inl (p2 (bI z0) (bI zz52)))), (ca, .inl (cZ, 2, .inl (p2 (bI c0) (bI cy52)))), (ta, .inl (cI, 2, .inl (p2 t0 t952))), (na, .inl (cI, 2, .inl (p2 n0 n952))), (bg, .inl (cI, 256, .inl fw)), (oa, .inl (cI, 1024, .inl fo)), (xa, .inl (cI, 1024, .inl fx)), (ya, .inl (cI, 1024, .inl fy))] := hD.sub [0, 1, 2, 3, 4, 5, 6, 7, 8, 9, 10, 11, 12] (by decide) rfl
            exact W.iret (v := (nI (dd + 1))) hx hb hr (fun t ht hW => ⟨⟨(nI (dd + 1)), (h152, v052, v152, v252, s952, q152, zz52, cy52, kp152, t952, n952), rfl, by rw [hfin]; exact ⟨rfl, rfl, hc8, hG8⟩, by rw [ht]; exact hP9, va_K.moved hW.alike hK, hD9⟩, hS.F ht⟩) hS.2.2 d_MO_boundary_75
          · have h62 : bgN fw q152 256 = false := bI_f h62
            refine lv_iconst (v := 1) hx hb d_MO_boundary_65 (by decide) ?_
            refine lv_goto (tgt := 70) hx hb d_MO_boundary_66 rfl ?_
            refine lv_istore_n hx hb d_MO_boundary_70 rfl hl (by decide) rfl (fun ls hl => ?_)
            have hl : lv_has ls 3 [(2, .int 1), (1, .int (nI (dd + 1))), (0, .ref o)] := hl
            refine lv_goto (tgt := 31) hx hb d_MO_boundary_71 rfl ?_
            have e52 : (h152, v052, v152, s952, q152, zz52, cy52, t952, v252, kp152) = mDoU fw fo fx fy (hL, b0L, b1L, s1L, p1L, z1L, c1L, t1L, b2L, kpL) ∧ n952 = n1L + 1 := ⟨by rw [mDoU]; dsimp only; rw [g2]; exact e52.1, e52.2⟩
            exact ih (dd + 1) h152 v052 v152 s952 q152 zz52 cy52 t952 v252 kp152 n952 (by omega) (by rw [e52.1]; exact sB_step hI h48 (by rw [← e52.1]; exact h62)) (by rw [e52.2]; exact nI_x2 hc9) (by rw [e52.1]; exact g4) H locs ls hl hP hD hS
        · have g2 : fx p1L.toNatClampNeg = 1 := g2
          refine lv_aload_n hx hb d_MO_boundary_51 rfl (lv_at hl 2 rfl) ?_
          have hPc := hP.sub (ws' := [(o, .inr (5, [.int 0, .ref im, .int (bI true), .ref rc, .ref bg, .int ro, .ref oa, .ref xa, .ref ya, .ref rg, .ref me, .ref sa, .ref pa, .ref za, .ref ca, .int (bI kpL), .ref ta, .ref na])), (rg, .inl (cI, 6, .inl (rg6 a x d b0L b1L b2L))), (me, .inl (cI, 512, .inl (mm2 g hL))), (sa, .inl (cI, 2, .inl (p2 s0 s1L))), (pa, .inl (cI, 2, .inl (p2 p0 p1L))), (za, .inl (cZ, 2, .inl (p2 (bI z0) (bI z1L)))), (ca, .inl (cZ, 2, .inl (p2 (bI c0) (bI c1L)))), (ta, .inl (cI, 2, .inl (p2 t0 t1L))), (na, .inl (cI, 2, .inl (p2 n0 n1L))), (bg, .inl (cI, 256, .inl fw)), (oa, .inl (cI, 1024, .inl fo)), (xa, .inl (cI, 1024, .inl fx)), (ya, .inl (cI, 1024, .inl fy))]) [0, 1, 2, 3, 4, 5, 6, 7, 8, 9, 10, 11, 12] rfl
          have hDc := hD.sub (ws' := [(o, .inr (5, [.int 0, .ref im, .int (bI true), .ref rc, .ref bg, .int ro, .ref oa, .ref xa, .ref ya, .ref rg, .ref me, .ref sa, .ref pa, .ref za, .ref ca, .int (bI kpL), .ref ta, .ref na])), (rg, .inl (cI, 6, .inl (rg6 a x d b0L b1L b2L))), (me, .inl (cI, 512, .inl (mm2 g hL))), (sa, .inl (cI, 2, .inl (p2 s0 s1L))), (pa, .inl (cI, 2, .inl (p2 p0 p1L))), (za, .inl (cZ, 2, .inl (p2 (bI z0) (bI z1L)))), (ca, .inl (cZ, 2, .inl (p2 (bI c0) (bI c1L)))), (ta, .inl (cI, 2, .inl (p2 t0 t1L))), (na, .inl (cI, 2, .inl (p2 n0 n1L))), (bg, .inl (cI, 256, .inl fw)), (oa, .inl (cI, 1024, .inl fo)), (xa, .inl (cI, 1024, .inl fx)), (ya, .inl (cI, 1024, .inl fy))]) [0, 1, 2, 3, 4, 5, 6, 7, 8, 9, 10, 11, 12] (by decide) rfl
          have hFc := va_free (wc := [(o, .inr (5, [.int 0, .ref im, .int (bI true), .ref rc, .ref bg, .int ro, .ref oa, .ref xa, .ref ya, .ref rg, .ref me, .ref sa, .ref pa, .ref za, .ref ca, .int (bI kpL), .ref ta, .ref na])), (rg, .inl (cI, 6, .inl (rg6 a x d b0L b1L b2L))), (me, .inl (cI, 512, .inl (mm2 g hL))), (sa, .inl (cI, 2, .inl (p2 s0 s1L))), (pa, .inl (cI, 2, .inl (p2 p0 p1L))), (za, .inl (cZ, 2, .inl (p2 (bI z0) (bI z1L)))), (ca, .inl (cZ, 2, .inl (p2 (bI c0) (bI c1L)))), (ta, .inl (cI, 2, .inl (p2 t0 t1L))), (na, .inl (cI, 2, .inl (p2 n0 n1L))), (bg, .inl (cI, 256, .inl fw)), (oa, .inl (cI, 1024, .inl fo)), (xa, .inl (cI, 1024, .inl fx)), (ya, .inl (cI, 1024, .inl fy))]) hD hS hA [0, 1, 2, 3, 4, 5, 6, 7, 8, 9, 10, 11, 12] rfl
          refine va_callv (va_runV (As := []) (rest := []) ⟨hx, hb, hml, hown, hts⟩ (q_stepSecond1 l D cI cZ o 0 im true rc bg ro oa xa ya rg me sa pa za ca kpL ta na a x d b0L b1L b2L g hL s0 s1L p0 p1L z0 z1L c0 c1L t0 t1L n0 n1L fw fo fx fy H.size g1 g2 gv1) ⟨cB 0 hts k_885 k_62 k_882 hd_MO_stepSecond ⟨Nat.le_of_ble_eq_true rfl, Nat.le_of_ble_eq_true rfl⟩ rfl rfl, hts _ k_884, hts _ k_51⟩ (PcW.preV (va_recv hK hP (q0 := 0) (ci := 5) rfl rfl) hPc hK hDc hN) rfl rfl hl.1 rfl (lv_room (Nat.le_of_ble_eq_true rfl)) d_MO_boundary_52 ⟨Nat.le_of_ble_eq_true rfl, Nat.le_of_ble_eq_true rfl⟩) hS (fun q _ h => hFc q h) hFc (fun u t H1 locs ht hvm e52 hB hz1 hk1 hS => ?_)
          obtain ⟨h152, v052, v152, v252, s952, q152, zz52, cy52, kp152, t952, n952⟩ := u
          obtain ⟨hP1, hK1, hD1⟩ := hB
          rw [ht] at hP1
          obtain ⟨hP, hD⟩ := va_join (wr := []) (w1 := [(o, .inr (5, [.int 0, .ref im, .int (bI true), .ref rc, .ref bg, .int ro, .ref oa, .ref xa, .ref ya, .ref rg, .ref me, .ref sa, .ref pa, .ref za, .ref ca, .int (bI kp152), .ref ta, .ref na])), (rg, .inl (cI, 6, .inl (rg6 a x d v052 v152 v252))), (me, .inl (cI, 512, .inl (mm2 g h152))), (sa, .inl (cI, 2, .inl (p2 s0 s952))), (pa, .inl (cI, 2, .inl (p2 p0 q152))), (za, .inl (cZ, 2, .inl (p2 (bI z0) (bI zz52)))), (ca, .inl (cZ, 2, .inl (p2 (bI c0) (bI cy52)))), (ta, .inl (cI, 2, .inl (p2 t0 t952))), (na, .inl (cI, 2, .inl (p2 n0 n952))), (bg, .inl (cI, 256, .inl fw)), (oa, .inl (cI, 1024, .inl fo)), (xa, .inl (cI, 1024, .inl fx)), (ya, .inl (cI, 1024, .inl fy))]) hP hD [0, 1, 2, 3, 4, 5, 6, 7, 8, 9, 10, 11, 12] [] rfl rfl (by decide) (by decide) hk1 hFc hP1 hD1
          generalize H1 = H at hP hS ⊢
          try dsimp only at e52
          have hP : va_P D vwCl [(o, .inr (5, [.int 0, .ref im, .int (bI true), .ref rc, .ref bg, .int ro, .ref oa, .ref xa, .ref ya, .ref rg, .ref me, .ref sa, .ref pa, .ref za, .ref ca, .int (bI kp152), .ref ta, .ref na])), (rg, .inl (cI, 6, .inl (rg6 a x d v052 v152 v252))), (me, .inl (cI, 512, .inl (mm2 g h152))), (sa, .inl (cI, 2, .inl (p2 s0 s952))), (pa, .inl (cI, 2, .inl (p2 p0 q152))), (za, .inl (cZ, 2, .inl (p2 (bI z0) (bI zz52)))), (ca, .inl (cZ, 2, .inl (p2 (bI c0) (bI cy52)))), (ta, .inl (cI, 2, .inl (p2 t0 t952))), (na, .inl (cI, 2, .inl (p2 n0 n952))), (bg, .inl (cI, 256, .inl fw)), (oa, .inl (cI, 1024, .inl fo)), (xa, .inl (cI, 1024, .inl fx)), (ya, .inl (cI, 1024, .inl fy))] H := hP
          have hD : va_D A [(o, .inr (5, [.int 0, .ref im, .int (bI true), .ref rc, .ref bg, .int ro, .ref oa, .ref xa, .ref ya, .ref rg, .ref me, .ref sa, .ref pa, .ref za, .ref ca, .int (bI kp152), .ref ta, .ref na])), (rg, .inl (cI, 6, .inl (rg6 a x d v052 v152 v252))), (me, .inl (cI, 512, .inl (mm2 g h152))), (sa, .inl (cI, 2, .inl (p2 s0 s952))), (pa, .inl (cI, 2, .inl (p2 p0 q152))), (za, .inl (cZ, 2, .inl (p2 (bI z0) (bI zz52)))), (ca, .inl (cZ, 2, .inl (p2 (bI c0) (bI cy52)))), (ta, .inl (cI, 2, .inl (p2 t0 t952))), (na, .inl (cI, 2, .inl (p2 n0 n952))), (bg, .inl (cI, 256, .inl fw)), (oa, .inl (cI, 1024, .inl fo)), (xa, .inl (cI, 1024, .inl fx)), (ya, .inl (cI, 1024, .inl fy))] := hD
          refine lv_iinc (k := 1) (v := nI (dd + 1)) hx hb d_MO_boundary_55 hl rfl (nI_inc _) (by decide) rfl (fun ls hl => ?_)
          have hl : lv_has ls 3 [(1, .int (nI (dd + 1))), (2, .int 1), (0, .ref o)] := hl
          refine lv_aload_n hx hb d_MO_boundary_58 rfl (lv_at hl 2 rfl) ?_
          have hPc := hP.sub (ws' := [(o, .inr (5, [.int 0, .ref im, .int (bI true), .ref rc, .ref bg, .int ro, .ref oa, .ref xa, .ref ya, .ref rg, .ref me, .ref sa, .ref pa, .ref za, .ref ca, .int (bI kp152), .ref ta, .ref na])), (pa, .inl (cI, 2, .inl (p2 p0 q152))), (bg, .inl (cI, 256, .inl fw))]) [0, 4, 9] rfl
          refine vp_callSi (va_runV (As := []) (rest := []) ⟨hx, hb, hml, hown, hts⟩ (q_atBeg l D cI cZ o 0 im true rc bg ro oa xa ya rg me sa pa za ca kp152 ta na p0 q152 fw) ⟨cB 0 hts k_901 k_62 k_898 hd_MO_atBeginning ⟨Nat.le_of_ble_eq_true rfl, Nat.le_of_ble_eq_true rfl⟩ rfl rfl, hts _ k_900, hts _ k_54⟩ (PcR.preV (va_recv hK hP (q0 := 0) (ci := 5) rfl rfl) hPc hK hN) rfl rfl hl.1 rfl (lv_room (Nat.le_of_ble_eq_true rfl)) d_MO_boundary_59 ⟨Nat.le_of_ble_eq_true rfl, Nat.le_of_ble_eq_true rfl⟩).run (fun r59 e59 => ?_)
          replace e59 := e59.symm
          subst e59
          refine lv_if_ne (tgt := 69) hx hb d_MO_boundary_62 rfl (fun h62 => ?_) (fun h62 => ?_)
          · have h62 : bgN fw q152 256 = true := bI_t h62
            refine lv_iconst (v := 0) hx hb d_MO_boundary_69 (by decide) ?_
            refine lv_istore_n hx hb d_MO_boundary_70 rfl hl (by decide) rfl (fun ls hl => ?_)
            have hl : lv_has ls 3 [(2, .int 0), (1, .int (nI (dd + 1))), (0, .ref o)] := hl
            refine lv_goto (tgt := 31) hx hb d_MO_boundary_71 rfl ?_
            have e52 : (h152, v052, v152, s952, q152, zz52, cy52, t952, v252, kp152) = mDoU fw fo fx fy (hL, b0L, b1L, s1L, p1L, z1L, c1L, t1L, b2L, kpL) ∧ n952 = n1L + 1 := ⟨by rw [mDoU]; dsimp only; rw [g2]; exact e52.1, e52.2⟩
            have hfin : sBound (mDoU fw fo fx fy) (fun p => bgN fw p 256) 1024 (h, b0, b1, s1, p1, z1, c1, t1, b2, kp) = (dd + 1, (h152, v052, v152, s952, q152, zz52, cy52, t952, v252, kp152)) := by rw [e52.1]; exact sB_hit hI h48 (by rw [← e52.1]; exact h62)
            have hc8 : n952 = n1 + nI (dd + 1) := by rw [e52.2]; exact nI_x2 hc9
            have hG8 : G (h152, v052, v152, s952, q152, zz52, cy52, t952, v252, kp152) := by rw [e52.1]; exact g4
            refine lv_iload_n hx hb d_MO_boundary_31 rfl (lv_at hl 0 rfl) ?_
            refine lv_if_eq (tgt := 74) hx hb d_MO_boundary_32 rfl (fun _ => ?_) (fun hq9 => absurd (by decide) hq9)
            refine lv_iload_n hx hb d_MO_boundary_74 rfl (lv_at hl 1 rfl) ?_
            have hP9 : va_P D vwCl [(o, .inr (5, [.int 0, .ref im, .int (bI true), .ref rc, .ref bg, .int ro, .ref oa, .ref xa, .ref ya, .ref rg, .ref me, .ref sa, .ref pa, .ref za, .ref ca, .int (bI kp152), .ref ta, .ref na])), (rg, .inl (cI, 6, .inl (rg6 a x d v052 v152 v252))), (me, .inl (cI, 512, .inl (mm2 g h152))), (sa, .inl (cI, 2, .inl (p2 s0 s952))), (pa, .inl (cI, 2, .inl (p2 p0 q152))), (za, .inl (cZ, 2, .inl (p2 (bI z0) (bI zz52)))), (ca, .inl (cZ, 2, .inl (p2 (bI c0) (bI cy52)))), (ta, .inl (cI, 2, .inl (p2 t0 t952))), (na, .inl (cI, 2, .inl (p2 n0 n952))), (bg, .inl (cI, 256, .inl fw)), (oa, .inl (cI, 1024, .inl fo)), (xa, .inl (cI, 1024, .inl fx)), (ya, .inl (cI, 1024, .inl fy))] H := hP.sub [0, 1, 2, 3, 4, 5, 6, 7, 8, 9, 10, 11, 12] rfl
            have hD9 : va_D A [(o, .inr (5, [.int 0, .ref im, .int (bI true), .ref rc, .ref bg, .int ro, .ref oa, .ref xa, .ref ya, .ref rg, .ref me, .ref sa, .ref pa, .ref za, .ref ca, .int (bI kp152), .ref ta, .ref na])), (rg, .inl (cI, 6, .inl (rg6 a x d v052 v152 v252))), (me, .inl (cI, 512, .inl (mm2 g h152))), (sa, .inl (cI, 2, .inl (p2 s0 s952))), (pa, .inl (cI, 2, .inl (p2 p0 q152))), (za, .inl (cZ, 2, .inl (p2 (bI z0) (bI zz52)))), (ca, .inl (cZ, 2, .inl (p2 (bI c0) (bI cy52)))), (ta, .inl (cI, 2, .inl (p2 t0 t952))), (na, .inl (cI, 2, .inl (p2 n0 n952))), (bg, .inl (cI, 256, .inl fw)), (oa, .inl (cI, 1024, .inl fo)), (xa, .inl (cI, 1024, .inl fx)), (ya, .inl (cI, 1024, .inl fy))] := hD.sub [0, 1, 2, 3, 4, 5, 6, 7, 8, 9, 10, 11, 12] (by decide) rfl
            exact W.iret (v := (nI (dd + 1))) hx hb hr (fun t ht hW => ⟨⟨(nI (dd + 1)), (h152, v052, v152, v252, s952, q152, zz52, cy52, kp152, t952, n952), rfl, by rw [hfin]; exact ⟨rfl, rfl, hc8, hG8⟩, by rw [ht]; exact hP9, va_K.moved hW.alike hK, hD9⟩, hS.F ht⟩) hS.2.2 d_MO_boundary_75
          · have h62 : bgN fw q152 256 = false := bI_f h62
            refine lv_iconst (v := 1) hx hb d_MO_boundary_65 (by decide) ?_
            refine lv_goto (tgt := 70) hx hb d_MO_boundary_66 rfl ?_
            refine lv_istore_n hx hb d_MO_boundary_70 rfl hl (by decide) rfl (fun ls hl => ?_)
            have hl : lv_has ls 3 [(2, .int 1), (1, .int (nI (dd + 1))), (0, .ref o)] := hl
            refine lv_goto (tgt := 31) hx hb d_MO_boundary_71 rfl ?_
            have e52 : (h152, v052, v152, s952, q152, zz52, cy52, t952, v252, kp152) = mDoU fw fo fx fy (hL, b0L, b1L, s1L, p1L, z1L, c1L, t1L, b2L, kpL) ∧ n952 = n1L + 1 := ⟨by rw [mDoU]; dsimp only; rw [g2]; exact e52.1, e52.2⟩
            exact ih (dd + 1) h152 v052 v152 s952 q152 zz52 cy52 t952 v252 kp152 n952 (by omega) (by rw [e52.1]; exact sB_step hI h48 (by rw [← e52.1]; exact h62)) (by rw [e52.2]; exact nI_x2 hc9) (by rw [e52.1]; exact g4) H locs ls hl hP hD hS
        · have g2 : fx p1L.toNatClampNeg = 2 := g2
          refine lv_aload_n hx hb d_MO_boundary_51 rfl (lv_at hl 2 rfl) ?_
          have hPc := hP.sub (ws' := [(o, .inr (5, [.int 0, .ref im, .int (bI true), .ref rc, .ref bg, .int ro, .ref oa, .ref xa, .ref ya, .ref rg, .ref me, .ref sa, .ref pa, .ref za, .ref ca, .int (bI kpL), .ref ta, .ref na])), (rg, .inl (cI, 6, .inl (rg6 a x d b0L b1L b2L))), (me, .inl (cI, 512, .inl (mm2 g hL))), (sa, .inl (cI, 2, .inl (p2 s0 s1L))), (pa, .inl (cI, 2, .inl (p2 p0 p1L))), (za, .inl (cZ, 2, .inl (p2 (bI z0) (bI z1L)))), (ca, .inl (cZ, 2, .inl (p2 (bI c0) (bI c1L)))), (ta, .inl (cI, 2, .inl (p2 t0 t1L))), (na, .inl (cI, 2, .inl (p2 n0 n1L))), (bg, .inl (cI, 256, .inl fw)), (oa, .inl (cI, 1024, .inl fo)), (xa, .inl (cI, 1024, .inl fx)), (ya, .inl (cI, 1024, .inl fy))]) [0, 1, 2, 3, 4, 5, 6, 7, 8, 9, 10, 11, 12] rfl
          have hDc := hD.sub (ws' := [(o, .inr (5, [.int 0, .ref im, .int (bI true), .ref rc, .ref bg, .int ro, .ref oa, .ref xa, .ref ya, .ref rg, .ref me, .ref sa, .ref pa, .ref za, .ref ca, .int (bI kpL), .ref ta, .ref na])), (rg, .inl (cI, 6, .inl (rg6 a x d b0L b1L b2L))), (me, .inl (cI, 512, .inl (mm2 g hL))), (sa, .inl (cI, 2, .inl (p2 s0 s1L))), (pa, .inl (cI, 2, .inl (p2 p0 p1L))), (za, .inl (cZ, 2, .inl (p2 (bI z0) (bI z1L)))), (ca, .inl (cZ, 2, .inl (p2 (bI c0) (bI c1L)))), (ta, .inl (cI, 2, .inl (p2 t0 t1L))), (na, .inl (cI, 2, .inl (p2 n0 n1L))), (bg, .inl (cI, 256, .inl fw)), (oa, .inl (cI, 1024, .inl fo)), (xa, .inl (cI, 1024, .inl fx)), (ya, .inl (cI, 1024, .inl fy))]) [0, 1, 2, 3, 4, 5, 6, 7, 8, 9, 10, 11, 12] (by decide) rfl
          have hFc := va_free (wc := [(o, .inr (5, [.int 0, .ref im, .int (bI true), .ref rc, .ref bg, .int ro, .ref oa, .ref xa, .ref ya, .ref rg, .ref me, .ref sa, .ref pa, .ref za, .ref ca, .int (bI kpL), .ref ta, .ref na])), (rg, .inl (cI, 6, .inl (rg6 a x d b0L b1L b2L))), (me, .inl (cI, 512, .inl (mm2 g hL))), (sa, .inl (cI, 2, .inl (p2 s0 s1L))), (pa, .inl (cI, 2, .inl (p2 p0 p1L))), (za, .inl (cZ, 2, .inl (p2 (bI z0) (bI z1L)))), (ca, .inl (cZ, 2, .inl (p2 (bI c0) (bI c1L)))), (ta, .inl (cI, 2, .inl (p2 t0 t1L))), (na, .inl (cI, 2, .inl (p2 n0 n1L))), (bg, .inl (cI, 256, .inl fw)), (oa, .inl (cI, 1024, .inl fo)), (xa, .inl (cI, 1024, .inl fx)), (ya, .inl (cI, 1024, .inl fy))]) hD hS hA [0, 1, 2, 3, 4, 5, 6, 7, 8, 9, 10, 11, 12] rfl
          refine va_callv (va_runV (As := []) (rest := []) ⟨hx, hb, hml, hown, hts⟩ (q_stepSecond2 l D cI cZ o 0 im true rc bg ro oa xa ya rg me sa pa za ca kpL ta na a x d b0L b1L b2L g hL s0 s1L p0 p1L z0 z1L c0 c1L t0 t1L n0 n1L fw fo fx fy H.size g1 g2 gv2) ⟨cB 0 hts k_885 k_62 k_882 hd_MO_stepSecond ⟨Nat.le_of_ble_eq_true rfl, Nat.le_of_ble_eq_true rfl⟩ rfl rfl, hts _ k_884, hts _ k_51⟩ (PcW.preV (va_recv hK hP (q0 := 0) (ci := 5) rfl rfl) hPc hK hDc hN) rfl rfl hl.1 rfl (lv_room (Nat.le_of_ble_eq_true rfl)) d_MO_boundary_52 ⟨Nat.le_of_ble_eq_true rfl, Nat.le_of_ble_eq_true rfl⟩) hS (fun q _ h => hFc q h) hFc (fun u t H1 locs ht hvm e52 hB hz1 hk1 hS => ?_)
          obtain ⟨h152, v052, v152, v252, s952, q152, zz52, cy52, kp152, t952, n952⟩ := u
          obtain ⟨hP1, hK1, hD1⟩ := hB
          rw [ht] at hP1
          obtain ⟨hP, hD⟩ := va_join (wr := []) (w1 := [(o, .inr (5, [.int 0, .ref im, .int (bI true), .ref rc, .ref bg, .int ro, .ref oa, .ref xa, .ref ya, .ref rg, .ref me, .ref sa, .ref pa, .ref za, .ref ca, .int (bI kp152), .ref ta, .ref na])), (rg, .inl (cI, 6, .inl (rg6 a x d v052 v152 v252))), (me, .inl (cI, 512, .inl (mm2 g h152))), (sa, .inl (cI, 2, .inl (p2 s0 s952))), (pa, .inl (cI, 2, .inl (p2 p0 q152))), (za, .inl (cZ, 2, .inl (p2 (bI z0) (bI zz52)))), (ca, .inl (cZ, 2, .inl (p2 (bI c0) (bI cy52)))), (ta, .inl (cI, 2, .inl (p2 t0 t952))), (na, .inl (cI, 2, .inl (p2 n0 n952))), (bg, .inl (cI, 256, .inl fw)), (oa, .inl (cI, 1024, .inl fo)), (xa, .inl (cI, 1024, .inl fx)), (ya, .inl (cI, 1024, .inl fy))]) hP hD [0, 1, 2, 3, 4, 5, 6, 7, 8, 9, 10, 11, 12] [] rfl rfl (by decide) (by decide) hk1 hFc hP1 hD1
          generalize H1 = H at hP hS ⊢
          try dsimp only at e52
          have hP : va_P D vwCl [(o, .inr (5, [.int 0, .ref im, .int (bI true), .ref rc, .ref bg, .int ro, .ref oa, .ref xa, .ref ya, .ref rg, .ref me, .ref sa, .ref pa, .ref za, .ref ca, .int (bI kp152), .ref ta, .ref na])), (rg, .inl (cI, 6, .inl (rg6 a x d v052 v152 v252))), (me, .inl (cI, 512, .inl (mm2 g h152))), (sa, .inl (cI, 2, .inl (p2 s0 s952))), (pa, .inl (cI, 2, .inl (p2 p0 q152))), (za, .inl (cZ, 2, .inl (p2 (bI z0) (bI zz52)))), (ca, .inl (cZ, 2, .inl (p2 (bI c0) (bI cy52)))), (ta, .inl (cI, 2, .inl (p2 t0 t952))), (na, .inl (cI, 2, .inl (p2 n0 n952))), (bg, .inl (cI, 256, .inl fw)), (oa, .inl (cI, 1024, .inl fo)), (xa, .inl (cI, 1024, .inl fx)), (ya, .inl (cI, 1024, .inl fy))] H := hP
          have hD : va_D A [(o, .inr (5, [.int 0, .ref im, .int (bI true), .ref rc, .ref bg, .int ro, .ref oa, .ref xa, .ref ya, .ref rg, .ref me, .ref sa, .ref pa, .ref za, .ref ca, .int (bI kp152), .ref ta, .ref na])), (rg, .inl (cI, 6, .inl (rg6 a x d v052 v152 v252))), (me, .inl (cI, 512, .inl (mm2 g h152))), (sa, .inl (cI, 2, .inl (p2 s0 s952))), (pa, .inl (cI, 2, .inl (p2 p0 q152))), (za, .inl (cZ, 2, .inl (p2 (bI z0) (bI zz52)))), (ca, .inl (cZ, 2, .inl (p2 (bI c0) (bI cy52)))), (ta, .inl (cI, 2, .inl (p2 t0 t952))), (na, .inl (cI, 2, .inl (p2 n0 n952))), (bg, .inl (cI, 256, .inl fw)), (oa, .inl (cI, 1024, .inl fo)), (xa, .inl (cI, 1024, .inl fx)), (ya, .inl (cI, 1024, .inl fy))] := hD
          refine lv_iinc (k := 1) (v := nI (dd + 1)) hx hb d_MO_boundary_55 hl rfl (nI_inc _) (by decide) rfl (fun ls hl => ?_)
          have hl : lv_has ls 3 [(1, .int (nI (dd + 1))), (2, .int 1), (0, .ref o)] := hl
          refine lv_aload_n hx hb d_MO_boundary_58 rfl (lv_at hl 2 rfl) ?_
          have hPc := hP.sub (ws' := [(o, .inr (5, [.int 0, .ref im, .int (bI true), .ref rc, .ref bg, .int ro, .ref oa, .ref xa, .ref ya, .ref rg, .ref me, .ref sa, .ref pa, .ref za, .ref ca, .int (bI kp152), .ref ta, .ref na])), (pa, .inl (cI, 2, .inl (p2 p0 q152))), (bg, .inl (cI, 256, .inl fw))]) [0, 4, 9] rfl
          refine vp_callSi (va_runV (As := []) (rest := []) ⟨hx, hb, hml, hown, hts⟩ (q_atBeg l D cI cZ o 0 im true rc bg ro oa xa ya rg me sa pa za ca kp152 ta na p0 q152 fw) ⟨cB 0 hts k_901 k_62 k_898 hd_MO_atBeginning ⟨Nat.le_of_ble_eq_true rfl, Nat.le_of_ble_eq_true rfl⟩ rfl rfl, hts _ k_900, hts _ k_54⟩ (PcR.preV (va_recv hK hP (q0 := 0) (ci := 5) rfl rfl) hPc hK hN) rfl rfl hl.1 rfl (lv_room (Nat.le_of_ble_eq_true rfl)) d_MO_boundary_59 ⟨Nat.le_of_ble_eq_true rfl, Nat.le_of_ble_eq_true rfl⟩).run (fun r59 e59 => ?_)
          replace e59 := e59.symm
          subst e59
          refine lv_if_ne (tgt := 69) hx hb d_MO_boundary_62 rfl (fun h62 => ?_) (fun h62 => ?_)
          · have h62 : bgN fw q152 256 = true := bI_t h62
            refine lv_iconst (v := 0) hx hb d_MO_boundary_69 (by decide) ?_
            refine lv_istore_n hx hb d_MO_boundary_70 rfl hl (by decide) rfl (fun ls hl => ?_)
            have hl : lv_has ls 3 [(2, .int 0), (1, .int (nI (dd + 1))), (0, .ref o)] := hl
            refine lv_goto (tgt := 31) hx hb d_MO_boundary_71 rfl ?_
            have e52 : (h152, v052, v152, s952, q152, zz52, cy52, t952, v252, kp152) = mDoU fw fo fx fy (hL, b0L, b1L, s1L, p1L, z1L, c1L, t1L, b2L, kpL) ∧ n952 = n1L + 1 := ⟨by rw [mDoU]; dsimp only; rw [g2]; exact e52.1, e52.2⟩
            have hfin : sBound (mDoU fw fo fx fy) (fun p => bgN fw p 256) 1024 (h, b0, b1, s1, p1, z1, c1, t1, b2, kp) = (dd + 1, (h152, v052, v152, s952, q152, zz52, cy52, t952, v252, kp152)) := by rw [e52.1]; exact sB_hit hI h48 (by rw [← e52.1]; exact h62)
            have hc8 : n952 = n1 + nI (dd + 1) := by rw [e52.2]; exact nI_x2 hc9
            have hG8 : G (h152, v052, v152, s952, q152, zz52, cy52, t952, v252, kp152) := by rw [e52.1]; exact g4
            refine lv_iload_n hx hb d_MO_boundary_31 rfl (lv_at hl 0 rfl) ?_
            refine lv_if_eq (tgt := 74) hx hb d_MO_boundary_32 rfl (fun _ => ?_) (fun hq9 => absurd (by decide) hq9)
            refine lv_iload_n hx hb d_MO_boundary_74 rfl (lv_at hl 1 rfl) ?_
            have hP9 : va_P D vwCl [(o, .inr (5, [.int 0, .ref im, .int (bI true), .ref rc, .ref bg, .int ro, .ref oa, .ref xa, .ref ya, .ref rg, .ref me, .ref sa, .ref pa, .ref za, .ref ca, .int (bI kp152), .ref ta, .ref na])), (rg, .inl (cI, 6, .inl (rg6 a x d v052 v152 v252))), (me, .inl (cI, 512, .inl (mm2 g h152))), (sa, .inl (cI, 2, .inl (p2 s0 s952))), (pa, .inl (cI, 2, .inl (p2 p0 q152))), (za, .inl (cZ, 2, .inl (p2 (bI z0) (bI zz52)))), (ca, .inl (cZ, 2, .inl (p2 (bI c0) (bI cy52)))), (ta, .inl (cI, 2, .inl (p2 t0 t952))), (na, .inl (cI, 2, .inl (p2 n0 n952))), (bg, .inl (cI, 256, .inl fw)), (oa, .inl (cI, 1024, .inl fo)), (xa, .inl (cI, 1024, .inl fx)), (ya, .inl (cI, 1024, .inl fy))] H := hP.sub [0, 1, 2, 3, 4, 5, 6, 7, 8, 9, 10, 11, 12] rfl
            have hD9 : va_D A [(o, .inr (5, [.int 0, .ref im, .int (bI true), .ref rc, .ref bg, .int ro, .ref oa, .ref xa, .ref ya, .ref rg, .ref me, .ref sa, .ref pa, .ref za, .ref ca, .int (bI kp152), .ref ta, .ref na])), (rg, .inl (cI, 6, .inl (rg6 a x d v052 v152 v252))), (me, .inl (cI, 512, .inl (mm2 g h152))), (sa, .inl (cI, 2, .inl (p2 s0 s952))), (pa, .inl (cI, 2, .inl (p2 p0 q152))), (za, .inl (cZ, 2, .inl (p2 (bI z0) (bI zz52)))), (ca, .inl (cZ, 2, .inl (p2 (bI c0) (bI cy52)))), (ta, .inl (cI, 2, .inl (p2 t0 t952))), (na, .inl (cI, 2, .inl (p2 n0 n952))), (bg, .inl (cI, 256, .inl fw)), (oa, .inl (cI, 1024, .inl fo)), (xa, .inl (cI, 1024, .inl fx)), (ya, .inl (cI, 1024, .inl fy))] := hD.sub [0, 1, 2, 3, 4, 5, 6, 7, 8, 9, 10, 11, 12] (by decide) rfl
            exact W.iret (v := (nI (dd + 1))) hx hb hr (fun t ht hW => ⟨⟨(nI (dd + 1)), (h152, v052, v152, v252, s952, q152, zz52, cy52, kp152, t952, n952), rfl, by rw [hfin]; exact ⟨rfl, rfl, hc8, hG8⟩, by rw [ht]; exact hP9, va_K.moved hW.alike hK, hD9⟩, hS.F ht⟩) hS.2.2 d_MO_boundary_75
          · have h62 : bgN fw q152 256 = false := bI_f h62
            refine lv_iconst (v := 1) hx hb d_MO_boundary_65 (by decide) ?_
            refine lv_goto (tgt := 70) hx hb d_MO_boundary_66 rfl ?_
            refine lv_istore_n hx hb d_MO_boundary_70 rfl hl (by decide) rfl (fun ls hl => ?_)
            have hl : lv_has ls 3 [(2, .int 1), (1, .int (nI (dd + 1))), (0, .ref o)] := hl
            refine lv_goto (tgt := 31) hx hb d_MO_boundary_71 rfl ?_
            have e52 : (h152, v052, v152, s952, q152, zz52, cy52, t952, v252, kp152) = mDoU fw fo fx fy (hL, b0L, b1L, s1L, p1L, z1L, c1L, t1L, b2L, kpL) ∧ n952 = n1L + 1 := ⟨by rw [mDoU]; dsimp only; rw [g2]; exact e52.1, e52.2⟩
            exact ih (dd + 1) h152 v052 v152 s952 q152 zz52 cy52 t952 v252 kp152 n952 (by omega) (by rw [e52.1]; exact sB_step hI h48 (by rw [← e52.1]; exact h62)) (by rw [e52.2]; exact nI_x2 hc9) (by rw [e52.1]; exact g4) H locs ls hl hP hD hS
  exact loop 1024 0 h b0 b1 s1 p1 z1 c1 t1 b2 kp n1 rfl rfl (by rw [nI_0, Int32.add_zero]) hG H locs ls hl hP hD hS
