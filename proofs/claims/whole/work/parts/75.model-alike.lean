set_option maxHeartbeats 4000000 in
set_option maxRecDepth 100000 in
theorem q_alike (l : Launch) (D : va_G) (cI cZ : ClassId) (o : Nat) (th : Int32) (im : Nat) (tr : Bool) (rc : Nat) (bg : Nat) (ro : Int32) (oa : Nat) (xa : Nat) (ya : Nat) (rg : Nat) (me : Nat) (sa : Nat) (pa : Nat) (za : Nat) (ca : Nat) (kp : Bool) (ta : Nat) (na : Nat) (a : Int32) (x : Int32) (d : Int32) (b0 : Int32) (b1 : Int32) (b2 : Int32) (g : Nat → Int32) (h : Nat → Int32) (s0 : Int32) (s1 : Int32) (p0 : Int32) (p1 : Int32) (z0 : Bool) (z1 : Bool) (c0 : Bool) (c1 : Bool) (t0 : Int32) (t1 : Int32) (fw : Nat → Int32) (sz : Nat) (hv : vp_in p0 256) : MetI l y_MO_alike w_MO_alike { frames := 0, cells := 0, slots := 0, locals := 0 } D cI cZ [.ref o] [(o, .inr (5, [.int th, .ref im, .int (bI tr), .ref rc, .ref bg, .int ro, .ref oa, .ref xa, .ref ya, .ref rg, .ref me, .ref sa, .ref pa, .ref za, .ref ca, .int (bI kp), .ref ta, .ref na])), (rg, .inl (cI, 6, .inl (rg6 a x d b0 b1 b2))), (me, .inl (cI, 512, .inl (mm2 g h))), (sa, .inl (cI, 2, .inl (p2 s0 s1))), (pa, .inl (cI, 2, .inl (p2 p0 p1))), (za, .inl (cZ, 2, .inl (p2 (bI z0) (bI z1)))), (ca, .inl (cZ, 2, .inl (p2 (bI c0) (bI c1)))), (ta, .inl (cI, 2, .inl (p2 t0 t1))), (bg, .inl (cI, 256, .inl fw))] sz (fun r (_ : Unit) => r = bI (alkB (decide (a = b0 ∧ x = b1 ∧ s0 = s1 ∧ z0 = z1 ∧ c0 = c1 ∧ ∀ j : Nat, j < 256 → g j = h j)) (fw p0.toNatClampNeg) p1 t0 t1)) (fun (_ : Unit) => [(o, .inr (5, [.int 0, .ref im, .int (bI tr), .ref rc, .ref bg, .int ro, .ref oa, .ref xa, .ref ya, .ref rg, .ref me, .ref sa, .ref pa, .ref za, .ref ca, .int (bI kp), .ref ta, .ref na])), (rg, .inl (cI, 6, .inl (rg6 a x d b0 b1 b2))), (me, .inl (cI, 512, .inl (mm2 g h))), (sa, .inl (cI, 2, .inl (p2 s0 s1))), (pa, .inl (cI, 2, .inl (p2 p0 p1))), (za, .inl (cZ, 2, .inl (p2 (bI z0) (bI z1)))), (ca, .inl (cZ, 2, .inl (p2 (bI c0) (bI c1)))), (ta, .inl (cI, 2, .inl (p2 t0 t1))), (bg, .inl (cI, 256, .inl fw))]) 0 0 := by
  refine ofI (cc := c_MO_alike) (maxL := 3) (ret := (some .boolean)) (by decide) rfl (Nat.le_of_ble_eq_true rfl) ?_
  intro p e s m args below meth c A H hH0 hx hb hr hlocks hts hown hnm hml ls hl hP hK hD hA hS hN
  have hown : s.vm.findClass R_MO = some m.cls := hown
  have hl : lv_has ls 3 [(0, .ref o)] := hl
  refine lv_aload_n hx hb d_MO_alike_0 rfl (lv_at hl 0 rfl) ?_
  refine lv_iconst (v := 0) hx hb d_MO_alike_1 (by decide) ?_
  refine va_put (D := D) (ci := 5) (v := .int 0) (ty := .int) (C := R_MO) (T := T_MO) (N := 18) hx hb hts iw_MO ty_MO ty_MO_ok nm_MO hown hK hP hD hS 0 rfl rfl 0 (by decide) (hts _ k_695) (fun _ h9 => h9) rfl (by decide +kernel) rfl rfl (Nat.le_of_ble_eq_true rfl) d_MO_alike_2 (fun H locs hP hD hS => ?_)
  have hP : va_P D vwCl [(o, .inr (5, [.int 0, .ref im, .int (bI tr), .ref rc, .ref bg, .int ro, .ref oa, .ref xa, .ref ya, .ref rg, .ref me, .ref sa, .ref pa, .ref za, .ref ca, .int (bI kp), .ref ta, .ref na])), (rg, .inl (cI, 6, .inl (rg6 a x d b0 b1 b2))), (me, .inl (cI, 512, .inl (mm2 g h))), (sa, .inl (cI, 2, .inl (p2 s0 s1))), (pa, .inl (cI, 2, .inl (p2 p0 p1))), (za, .inl (cZ, 2, .inl (p2 (bI z0) (bI z1)))), (ca, .inl (cZ, 2, .inl (p2 (bI c0) (bI c1)))), (ta, .inl (cI, 2, .inl (p2 t0 t1))), (bg, .inl (cI, 256, .inl fw))] H := hP
  have hD : va_D A [(o, .inr (5, [.int 0, .ref im, .int (bI tr), .ref rc, .ref bg, .int ro, .ref oa, .ref xa, .ref ya, .ref rg, .ref me, .ref sa, .ref pa, .ref za, .ref ca, .int (bI kp), .ref ta, .ref na])), (rg, .inl (cI, 6, .inl (rg6 a x d b0 b1 b2))), (me, .inl (cI, 512, .inl (mm2 g h))), (sa, .inl (cI, 2, .inl (p2 s0 s1))), (pa, .inl (cI, 2, .inl (p2 p0 p1))), (za, .inl (cZ, 2, .inl (p2 (bI z0) (bI z1)))), (ca, .inl (cZ, 2, .inl (p2 (bI c0) (bI c1)))), (ta, .inl (cI, 2, .inl (p2 t0 t1))), (bg, .inl (cI, 256, .inl fw))] := hD
  refine lv_aload_n hx hb d_MO_alike_5 rfl (lv_at hl 0 rfl) ?_
  refine va_get (D := D) (ci := 5) (v := .ref rg) (C := R_MO) (T := T_MO) (N := 18) hx hb hts iw_MO hown hK hP 0 rfl rfl 9 (by decide) (hts _ k_704) (fun _ h9 => h9) rfl d_MO_alike_6 ?_
  refine lv_iconst (v := 0) hx hb d_MO_alike_9 (by decide) ?_
  refine va_iald hx hb hK hP 1 0 rfl rfl (vp_in_nI (n := 0) (by decide) (by decide)) d_MO_alike_10 ?_
  refine lv_aload_n hx hb d_MO_alike_11 rfl (lv_at hl 0 rfl) ?_
  refine va_get (D := D) (ci := 5) (v := .ref rg) (C := R_MO) (T := T_MO) (N := 18) hx hb hts iw_MO hown hK hP 0 rfl rfl 9 (by decide) (hts _ k_704) (fun _ h9 => h9) rfl d_MO_alike_12 ?_
  refine lv_iconst (v := 3) hx hb d_MO_alike_15 (by decide) ?_
  refine va_iald hx hb hK hP 1 0 rfl rfl (vp_in_nI (n := 3) (by decide) (by decide)) d_MO_alike_16 ?_
  refine lv_icmp_ne (tgt := 84) hx hb d_MO_alike_17 rfl (fun h17 => ?_) (fun h17 => ?_)
  · have h17 : ¬ a = b0 := h17
    refine lv_iconst (v := 0) hx hb d_MO_alike_84 (by decide) ?_
    refine lv_istore_n hx hb d_MO_alike_85 rfl hl (by decide) rfl (fun ls hl => ?_)
    have hl : lv_has ls 3 [(1, .int 0), (0, .ref o)] := hl
    refine lv_iconst (v := 0) hx hb d_MO_alike_86 (by decide) ?_
    refine lv_istore_n hx hb d_MO_alike_87 rfl hl (by decide) rfl (fun ls hl => ?_)
    have hl : lv_has ls 3 [(2, .int 0), (1, .int 0), (0, .ref o)] := hl
    have loop : ∀ (k : Nat) (i : Nat), (i + k = 256) → ∀ (H : Heap) (locs : List Loc) (ls : Array Slot), lv_has ls 3 [(2, .int (nI i)), (1, .int (bI (decide (a = b0 ∧ x = b1 ∧ s0 = s1 ∧ z0 = z1 ∧ c0 = c1 ∧ ∀ j : Nat, j < i → g j = h j)))), (0, .ref o)] → va_P D vwCl [(o, .inr (5, [.int 0, .ref im, .int (bI tr), .ref rc, .ref bg, .int ro, .ref oa, .ref xa, .ref ya, .ref rg, .ref me, .ref sa, .ref pa, .ref za, .ref ca, .int (bI kp), .ref ta, .ref na])), (rg, .inl (cI, 6, .inl (rg6 a x d b0 b1 b2))), (me, .inl (cI, 512, .inl (mm2 g h))), (sa, .inl (cI, 2, .inl (p2 s0 s1))), (pa, .inl (cI, 2, .inl (p2 p0 p1))), (za, .inl (cZ, 2, .inl (p2 (bI z0) (bI z1)))), (ca, .inl (cZ, 2, .inl (p2 (bI c0) (bI c1)))), (ta, .inl (cI, 2, .inl (p2 t0 t1))), (bg, .inl (cI, 256, .inl fw))] H → va_D A [(o, .inr (5, [.int 0, .ref im, .int (bI tr), .ref rc, .ref bg, .int ro, .ref oa, .ref xa, .ref ya, .ref rg, .ref me, .ref sa, .ref pa, .ref za, .ref ca, .int (bI kp), .ref ta, .ref na])), (rg, .inl (cI, 6, .inl (rg6 a x d b0 b1 b2))), (me, .inl (cI, 512, .inl (mm2 g h))), (sa, .inl (cI, 2, .inl (p2 s0 s1))), (pa, .inl (cI, 2, .inl (p2 p0 p1))), (za, .inl (cZ, 2, .inl (p2 (bI z0) (bI z1)))), (ca, .inl (cZ, 2, .inl (p2 (bI c0) (bI c1)))), (ta, .inl (cI, 2, .inl (p2 t0 t1))), (bg, .inl (cI, 256, .inl fw))] → va_S A s.heap H locs → W p l e { frames := 0, cells := 0, slots := 0, locals := 0 } s m args below meth c H locs 0 0 (MQ below (QI D cI cZ (fun r (_ : Unit) => r = bI (alkB (decide (a = b0 ∧ x = b1 ∧ s0 = s1 ∧ z0 = z1 ∧ c0 = c1 ∧ ∀ j : Nat, j < 256 → g j = h j)) (fw p0.toNatClampNeg) p1 t0 t1)) (fun (_ : Unit) => [(o, .inr (5, [.int 0, .ref im, .int (bI tr), .ref rc, .ref bg, .int ro, .ref oa, .ref xa, .ref ya, .ref rg, .ref me, .ref sa, .ref pa, .ref za, .ref ca, .int (bI kp), .ref ta, .ref na])), (rg, .inl (cI, 6, .inl (rg6 a x d b0 b1 b2))), (me, .inl (cI, 512, .inl (mm2 g h))), (sa, .inl (cI, 2, .inl (p2 s0 s1))), (pa, .inl (cI, 2, .inl (p2 p0 p1))), (za, .inl (cZ, 2, .inl (p2 (bI z0) (bI z1)))), (ca, .inl (cZ, 2, .inl (p2 (bI c0) (bI c1)))), (ta, .inl (cI, 2, .inl (p2 t0 t1))), (bg, .inl (cI, 256, .inl fw))]) A) args s 0 0 A) (F0 m 88 ls []) := by
      intro k
      induction k with
      | zero =>
        intro i hk H locs ls hl hP hD hS
        refine lv_iload_n hx hb d_MO_alike_88 rfl (lv_at hl 0 rfl) ?_
        refine lv_sipush (v := 256) hx hb d_MO_alike_89 (by decide) ?_
        refine lv_icmp_ge (tgt := 130) hx hb d_MO_alike_92 rfl (fun _ => ?_) (fun hq9 => absurd (by rw [show i = 256 from hk]; decide) hq9)
        refine lv_aload_n hx hb d_MO_alike_130 rfl (lv_at hl 2 rfl) ?_
        refine va_get (D := D) (ci := 5) (v := .ref bg) (C := R_MO) (T := T_MO) (N := 18) hx hb hts iw_MO hown hK hP 0 rfl rfl 4 (by decide) (hts _ k_699) (fun _ h9 => h9) rfl d_MO_alike_131 ?_
        refine lv_aload_n hx hb d_MO_alike_134 rfl (lv_at hl 2 rfl) ?_
        refine va_get (D := D) (ci := 5) (v := .ref pa) (C := R_MO) (T := T_MO) (N := 18) hx hb hts iw_MO hown hK hP 0 rfl rfl 12 (by decide) (hts _ k_707) (fun _ h9 => h9) rfl d_MO_alike_135 ?_
        refine lv_iconst (v := 0) hx hb d_MO_alike_138 (by decide) ?_
        refine va_iald hx hb hK hP 4 0 rfl rfl (vp_in_nI (n := 0) (by decide) (by decide)) d_MO_alike_139 ?_
        refine va_iald hx hb hK hP 8 0 rfl rfl hv d_MO_alike_140 ?_
        refine lv_istore_n hx hb d_MO_alike_141 rfl hl (by decide) rfl (fun ls hl => ?_)
        have hl : lv_has ls 3 [(2, .int (fw p0.toNatClampNeg)), (1, .int (bI (decide (a = b0 ∧ x = b1 ∧ s0 = s1 ∧ z0 = z1 ∧ c0 = c1 ∧ ∀ j : Nat, j < i → g j = h j)))), (0, .ref o)] := hl
        refine lv_iload_n hx hb d_MO_alike_142 rfl (lv_at hl 1 rfl) ?_
        refine lv_if_eq (tgt := 198) hx hb d_MO_alike_143 rfl (fun h143 => ?_) (fun h143 => ?_)
        · have h143 : decide (a = b0 ∧ x = b1 ∧ s0 = s1 ∧ z0 = z1 ∧ c0 = c1 ∧ ∀ j : Nat, j < i → g j = h j) = false := bI_f h143
          refine lv_iconst (v := 0) hx hb d_MO_alike_198 (by decide) ?_
          have hP9 : va_P D vwCl [(o, .inr (5, [.int 0, .ref im, .int (bI tr), .ref rc, .ref bg, .int ro, .ref oa, .ref xa, .ref ya, .ref rg, .ref me, .ref sa, .ref pa, .ref za, .ref ca, .int (bI kp), .ref ta, .ref na])), (rg, .inl (cI, 6, .inl (rg6 a x d b0 b1 b2))), (me, .inl (cI, 512, .inl (mm2 g h))), (sa, .inl (cI, 2, .inl (p2 s0 s1))), (pa, .inl (cI, 2, .inl (p2 p0 p1))), (za, .inl (cZ, 2, .inl (p2 (bI z0) (bI z1)))), (ca, .inl (cZ, 2, .inl (p2 (bI c0) (bI c1)))), (ta, .inl (cI, 2, .inl (p2 t0 t1))), (bg, .inl (cI, 256, .inl fw))] H := hP.sub [0, 1, 2, 3, 4, 5, 6, 7, 8] rfl
          have hD9 : va_D A [(o, .inr (5, [.int 0, .ref im, .int (bI tr), .ref rc, .ref bg, .int ro, .ref oa, .ref xa, .ref ya, .ref rg, .ref me, .ref sa, .ref pa, .ref za, .ref ca, .int (bI kp), .ref ta, .ref na])), (rg, .inl (cI, 6, .inl (rg6 a x d b0 b1 b2))), (me, .inl (cI, 512, .inl (mm2 g h))), (sa, .inl (cI, 2, .inl (p2 s0 s1))), (pa, .inl (cI, 2, .inl (p2 p0 p1))), (za, .inl (cZ, 2, .inl (p2 (bI z0) (bI z1)))), (ca, .inl (cZ, 2, .inl (p2 (bI c0) (bI c1)))), (ta, .inl (cI, 2, .inl (p2 t0 t1))), (bg, .inl (cI, 256, .inl fw))] := hD.sub [0, 1, 2, 3, 4, 5, 6, 7, 8] (by decide) rfl
          exact W.zret (v := (bI false)) hx hb hr (nb_n _) (fun t ht hW => ⟨⟨(bI false), (), rfl, by rw [show i = 256 from hk] at h143; rw [alkB, h143]; rfl, by rw [ht]; exact hP9, va_K.moved hW.alike hK, hD9⟩, hS.F ht⟩) hS.2.2 d_MO_alike_199
        · have h143 : decide (a = b0 ∧ x = b1 ∧ s0 = s1 ∧ z0 = z1 ∧ c0 = c1 ∧ ∀ j : Nat, j < i → g j = h j) = true := bI_t h143
          refine lv_iload_n hx hb d_MO_alike_146 rfl (lv_at hl 0 rfl) ?_
          refine lv_iconst (v := (-1)) hx hb d_MO_alike_147 (by decide) ?_
          refine lv_icmp_eq (tgt := 198) hx hb d_MO_alike_148 rfl (fun h148 => ?_) (fun h148 => ?_)
          · have h148 : fw p0.toNatClampNeg = (-1) := h148
            refine lv_iconst (v := 0) hx hb d_MO_alike_198 (by decide) ?_
            have hP9 : va_P D vwCl [(o, .inr (5, [.int 0, .ref im, .int (bI tr), .ref rc, .ref bg, .int ro, .ref oa, .ref xa, .ref ya, .ref rg, .ref me, .ref sa, .ref pa, .ref za, .ref ca, .int (bI kp), .ref ta, .ref na])), (rg, .inl (cI, 6, .inl (rg6 a x d b0 b1 b2))), (me, .inl (cI, 512, .inl (mm2 g h))), (sa, .inl (cI, 2, .inl (p2 s0 s1))), (pa, .inl (cI, 2, .inl (p2 p0 p1))), (za, .inl (cZ, 2, .inl (p2 (bI z0) (bI z1)))), (ca, .inl (cZ, 2, .inl (p2 (bI c0) (bI c1)))), (ta, .inl (cI, 2, .inl (p2 t0 t1))), (bg, .inl (cI, 256, .inl fw))] H := hP.sub [0, 1, 2, 3, 4, 5, 6, 7, 8] rfl
            have hD9 : va_D A [(o, .inr (5, [.int 0, .ref im, .int (bI tr), .ref rc, .ref bg, .int ro, .ref oa, .ref xa, .ref ya, .ref rg, .ref me, .ref sa, .ref pa, .ref za, .ref ca, .int (bI kp), .ref ta, .ref na])), (rg, .inl (cI, 6, .inl (rg6 a x d b0 b1 b2))), (me, .inl (cI, 512, .inl (mm2 g h))), (sa, .inl (cI, 2, .inl (p2 s0 s1))), (pa, .inl (cI, 2, .inl (p2 p0 p1))), (za, .inl (cZ, 2, .inl (p2 (bI z0) (bI z1)))), (ca, .inl (cZ, 2, .inl (p2 (bI c0) (bI c1)))), (ta, .inl (cI, 2, .inl (p2 t0 t1))), (bg, .inl (cI, 256, .inl fw))] := hD.sub [0, 1, 2, 3, 4, 5, 6, 7, 8] (by decide) rfl
            exact W.zret (v := (bI false)) hx hb hr (nb_n _) (fun t ht hW => ⟨⟨(bI false), (), rfl, by rw [show i = 256 from hk] at h143; rw [alkB, h143, decide_eq_true h148]; rfl, by rw [ht]; exact hP9, va_K.moved hW.alike hK, hD9⟩, hS.F ht⟩) hS.2.2 d_MO_alike_199
          · have h148 : ¬ fw p0.toNatClampNeg = (-1) := h148
            refine lv_iload_n hx hb d_MO_alike_151 rfl (lv_at hl 0 rfl) ?_
            refine lv_aload_n hx hb d_MO_alike_152 rfl (lv_at hl 2 rfl) ?_
            refine va_get (D := D) (ci := 5) (v := .ref pa) (C := R_MO) (T := T_MO) (N := 18) hx hb hts iw_MO hown hK hP 0 rfl rfl 12 (by decide) (hts _ k_707) (fun _ h9 => h9) rfl d_MO_alike_153 ?_
            refine lv_iconst (v := 1) hx hb d_MO_alike_156 (by decide) ?_
            refine va_iald hx hb hK hP 4 0 rfl rfl (vp_in_nI (n := 1) (by decide) (by decide)) d_MO_alike_157 ?_
            refine lv_icmp_ne (tgt := 198) hx hb d_MO_alike_158 rfl (fun h158 => ?_) (fun h158 => ?_)
            · have h158 : ¬ fw p0.toNatClampNeg = p1 := h158
              refine lv_iconst (v := 0) hx hb d_MO_alike_198 (by decide) ?_
              have hP9 : va_P D vwCl [(o, .inr (5, [.int 0, .ref im, .int (bI tr), .ref rc, .ref bg, .int ro, .ref oa, .ref xa, .ref ya, .ref rg, .ref me, .ref sa, .ref pa, .ref za, .ref ca, .int (bI kp), .ref ta, .ref na])), (rg, .inl (cI, 6, .inl (rg6 a x d b0 b1 b2))), (me, .inl (cI, 512, .inl (mm2 g h))), (sa, .inl (cI, 2, .inl (p2 s0 s1))), (pa, .inl (cI, 2, .inl (p2 p0 p1))), (za, .inl (cZ, 2, .inl (p2 (bI z0) (bI z1)))), (ca, .inl (cZ, 2, .inl (p2 (bI c0) (bI c1)))), (ta, .inl (cI, 2, .inl (p2 t0 t1))), (bg, .inl (cI, 256, .inl fw))] H := hP.sub [0, 1, 2, 3, 4, 5, 6, 7, 8] rfl
              have hD9 : va_D A [(o, .inr (5, [.int 0, .ref im, .int (bI tr), .ref rc, .ref bg, .int ro, .ref oa, .ref xa, .ref ya, .ref rg, .ref me, .ref sa, .ref pa, .ref za, .ref ca, .int (bI kp), .ref ta, .ref na])), (rg, .inl (cI, 6, .inl (rg6 a x d b0 b1 b2))), (me, .inl (cI, 512, .inl (mm2 g h))), (sa, .inl (cI, 2, .inl (p2 s0 s1))), (pa, .inl (cI, 2, .inl (p2 p0 p1))), (za, .inl (cZ, 2, .inl (p2 (bI z0) (bI z1)))), (ca, .inl (cZ, 2, .inl (p2 (bI c0) (bI c1)))), (ta, .inl (cI, 2, .inl (p2 t0 t1))), (bg, .inl (cI, 256, .inl fw))] := hD.sub [0, 1, 2, 3, 4, 5, 6, 7, 8] (by decide) rfl
              exact W.zret (v := (bI false)) hx hb hr (nb_n _) (fun t ht hW => ⟨⟨(bI false), (), rfl, by rw [show i = 256 from hk] at h143; rw [alkB, h143, decide_eq_false h148, decide_eq_false h158]; rfl, by rw [ht]; exact hP9, va_K.moved hW.alike hK, hD9⟩, hS.F ht⟩) hS.2.2 d_MO_alike_199
            · have h158 : fw p0.toNatClampNeg = p1 := h158
              refine lv_aload_n hx hb d_MO_alike_161 rfl (lv_at hl 2 rfl) ?_
              refine va_get (D := D) (ci := 5) (v := .ref ta) (C := R_MO) (T := T_MO) (N := 18) hx hb hts iw_MO hown hK hP 0 rfl rfl 16 (by decide) (hts _ k_711) (fun _ h9 => h9) rfl d_MO_alike_162 ?_
              refine lv_iconst (v := 0) hx hb d_MO_alike_165 (by decide) ?_
              refine va_iald hx hb hK hP 7 0 rfl rfl (vp_in_nI (n := 0) (by decide) (by decide)) d_MO_alike_166 ?_
              refine lv_iconst (v := 1) hx hb d_MO_alike_167 (by decide) ?_
              refine lv_icmp_ne (tgt := 175) hx hb d_MO_alike_168 rfl (fun h168 => ?_) (fun h168 => ?_)
              · have h168 : ¬ t0 = 1 := h168
                refine lv_iconst (v := 0) hx hb d_MO_alike_175 (by decide) ?_
                refine lv_aload_n hx hb d_MO_alike_176 rfl (lv_at hl 2 rfl) ?_
                refine va_get (D := D) (ci := 5) (v := .ref ta) (C := R_MO) (T := T_MO) (N := 18) hx hb hts iw_MO hown hK hP 0 rfl rfl 16 (by decide) (hts _ k_711) (fun _ h9 => h9) rfl d_MO_alike_177 ?_
                refine lv_iconst (v := 1) hx hb d_MO_alike_180 (by decide) ?_
                refine va_iald hx hb hK hP 7 0 rfl rfl (vp_in_nI (n := 1) (by decide) (by decide)) d_MO_alike_181 ?_
                refine lv_iconst (v := 1) hx hb d_MO_alike_182 (by decide) ?_
                refine lv_icmp_ne (tgt := 190) hx hb d_MO_alike_183 rfl (fun h183 => ?_) (fun h183 => ?_)
                · have h183 : ¬ t1 = 1 := h183
                  refine lv_iconst (v := 0) hx hb d_MO_alike_190 (by decide) ?_
                  refine lv_icmp_ne (tgt := 198) hx hb d_MO_alike_191 rfl (fun hq9 => absurd (by decide) hq9) (fun _ => ?_)
                  refine lv_iconst (v := 1) hx hb d_MO_alike_194 (by decide) ?_
                  refine lv_goto (tgt := 199) hx hb d_MO_alike_195 rfl ?_
                  have hP9 : va_P D vwCl [(o, .inr (5, [.int 0, .ref im, .int (bI tr), .ref rc, .ref bg, .int ro, .ref oa, .ref xa, .ref ya, .ref rg, .ref me, .ref sa, .ref pa, .ref za, .ref ca, .int (bI kp), .ref ta, .ref na])), (rg, .inl (cI, 6, .inl (rg6 a x d b0 b1 b2))), (me, .inl (cI, 512, .inl (mm2 g h))), (sa, .inl (cI, 2, .inl (p2 s0 s1))), (pa, .inl (cI, 2, .inl (p2 p0 p1))), (za, .inl (cZ, 2, .inl (p2 (bI z0) (bI z1)))), (ca, .inl (cZ, 2, .inl (p2 (bI c0) (bI c1)))), (ta, .inl (cI, 2, .inl (p2 t0 t1))), (bg, .inl (cI, 256, .inl fw))] H := hP.sub [0, 1, 2, 3, 4, 5, 6, 7, 8] rfl
                  have hD9 : va_D A [(o, .inr (5, [.int 0, .ref im, .int (bI tr), .ref rc, .ref bg, .int ro, .ref oa, .ref xa, .ref ya, .ref rg, .ref me, .ref sa, .ref pa, .ref za, .ref ca, .int (bI kp), .ref ta, .ref na])), (rg, .inl (cI, 6, .inl (rg6 a x d b0 b1 b2))), (me, .inl (cI, 512, .inl (mm2 g h))), (sa, .inl (cI, 2, .inl (p2 s0 s1))), (pa, .inl (cI, 2, .inl (p2 p0 p1))), (za, .inl (cZ, 2, .inl (p2 (bI z0) (bI z1)))), (ca, .inl (cZ, 2, .inl (p2 (bI c0) (bI c1)))), (ta, .inl (cI, 2, .inl (p2 t0 t1))), (bg, .inl (cI, 256, .inl fw))] := hD.sub [0, 1, 2, 3, 4, 5, 6, 7, 8] (by decide) rfl
                  exact W.zret (v := (bI true)) hx hb hr (nb_n _) (fun t ht hW => ⟨⟨(bI true), (), rfl, by rw [show i = 256 from hk] at h143; rw [alkB, h143, decide_eq_false h148, decide_eq_true h158, decide_eq_false h168, decide_eq_false h183]; rfl, by rw [ht]; exact hP9, va_K.moved hW.alike hK, hD9⟩, hS.F ht⟩) hS.2.2 d_MO_alike_199
                · have h183 : t1 = 1 := h183
                  refine lv_iconst (v := 1) hx hb d_MO_alike_186 (by decide) ?_
                  refine lv_goto (tgt := 191) hx hb d_MO_alike_187 rfl ?_
                  refine lv_icmp_ne (tgt := 198) hx hb d_MO_alike_191 rfl (fun _ => ?_) (fun hq9 => absurd hq9 (by decide))
                  refine lv_iconst (v := 0) hx hb d_MO_alike_198 (by decide) ?_
                  have hP9 : va_P D vwCl [(o, .inr (5, [.int 0, .ref im, .int (bI tr), .ref rc, .ref bg, .int ro, .ref oa, .ref xa, .ref ya, .ref rg, .ref me, .ref sa, .ref pa, .ref za, .ref ca, .int (bI kp), .ref ta, .ref na])), (rg, .inl (cI, 6, .inl (rg6 a x d b0 b1 b2))), (me, .inl (cI, 512, .inl (mm2 g h))), (sa, .inl (cI, 2, .inl (p2 s0 s1))), (pa, .inl (cI, 2, .inl (p2 p0 p1))), (za, .inl (cZ, 2, .inl (p2 (bI z0) (bI z1)))), (ca, .inl (cZ, 2, .inl (p2 (bI c0) (bI c1)))), (ta, .inl (cI, 2, .inl (p2 t0 t1))), (bg, .inl (cI, 256, .inl fw))] H := hP.sub [0, 1, 2, 3, 4, 5, 6, 7, 8] rfl
                  have hD9 : va_D A [(o, .inr (5, [.int 0, .ref im, .int (bI tr), .ref rc, .ref bg, .int ro, .ref oa, .ref xa, .ref ya, .ref rg, .ref me, .ref sa, .ref pa, .ref za, .ref ca, .int (bI kp), .ref ta, .ref na])), (rg, .inl (cI, 6, .inl (rg6 a x d b0 b1 b2))), (me, .inl (cI, 512, .inl (mm2 g h))), (sa, .inl (cI, 2, .inl (p2 s0 s1))), (pa, .inl (cI, 2, .inl (p2 p0 p1))), (za, .inl (cZ, 2, .inl (p2 (bI z0) (bI z1)))), (ca, .inl (cZ, 2, .inl (p2 (bI c0) (bI c1)))), (ta, .inl (cI, 2, .inl (p2 t0 t1))), (bg, .inl (cI, 256, .inl fw))] := hD.sub [0, 1, 2, 3, 4, 5, 6, 7, 8] (by decide) rfl
                  exact W.zret (v := (bI false)) hx hb hr (nb_n _) (fun t ht hW => ⟨⟨(bI false), (), rfl, by rw [show i = 256 from hk] at h143; rw [alkB, h143, decide_eq_false h148, decide_eq_true h158, decide_eq_false h168, decide_eq_true h183]; rfl, by rw [ht]; exact hP9, va_K.moved hW.alike hK, hD9⟩, hS.F ht⟩) hS.2.2 d_MO_alike_199
              · have h168 : t0 = 1 := h168
                refine lv_iconst (v := 1) hx hb d_MO_alike_171 (by decide) ?_
                refine lv_goto (tgt := 176) hx hb d_MO_alike_172 rfl ?_
                refine lv_aload_n hx hb d_MO_alike_176 rfl (lv_at hl 2 rfl) ?_
                refine va_get (D := D) (ci := 5) (v := .ref ta) (C := R_MO) (T := T_MO) (N := 18) hx hb hts iw_MO hown hK hP 0 rfl rfl 16 (by decide) (hts _ k_711) (fun _ h9 => h9) rfl d_MO_alike_177 ?_
                refine lv_iconst (v := 1) hx hb d_MO_alike_180 (by decide) ?_
                refine va_iald hx hb hK hP 7 0 rfl rfl (vp_in_nI (n := 1) (by decide) (by decide)) d_MO_alike_181 ?_
                refine lv_iconst (v := 1) hx hb d_MO_alike_182 (by decide) ?_
                refine lv_icmp_ne (tgt := 190) hx hb d_MO_alike_183 rfl (fun h183 => ?_) (fun h183 => ?_)
                · have h183 : ¬ t1 = 1 := h183
                  refine lv_iconst (v := 0) hx hb d_MO_alike_190 (by decide) ?_
                  refine lv_icmp_ne (tgt := 198) hx hb d_MO_alike_191 rfl (fun _ => ?_) (fun hq9 => absurd hq9 (by decide))
                  refine lv_iconst (v := 0) hx hb d_MO_alike_198 (by decide) ?_
                  have hP9 : va_P D vwCl [(o, .inr (5, [.int 0, .ref im, .int (bI tr), .ref rc, .ref bg, .int ro, .ref oa, .ref xa, .ref ya, .ref rg, .ref me, .ref sa, .ref pa, .ref za, .ref ca, .int (bI kp), .ref ta, .ref na])), (rg, .inl (cI, 6, .inl (rg6 a x d b0 b1 b2))), (me, .inl (cI, 512, .inl (mm2 g h))), (sa, .inl (cI, 2, .inl (p2 s0 s1))), (pa, .inl (cI, 2, .inl (p2 p0 p1))), (za, .inl (cZ, 2, .inl (p2 (bI z0) (bI z1)))), (ca, .inl (cZ, 2, .inl (p2 (bI c0) (bI c1)))), (ta, .inl (cI, 2, .inl (p2 t0 t1))), (bg, .inl (cI, 256, .inl fw))] H := hP.sub [0, 1, 2, 3, 4, 5, 6, 7, 8] rfl
                  have hD9 : va_D A [(o, .inr (5, [.int 0, .ref im, .int (bI tr), .ref rc, .ref bg, .int ro, .ref oa, .ref xa, .ref ya, .ref rg, .ref me, .ref sa, .ref pa, .ref za, .ref ca, .int (bI kp), .ref ta, .ref na])), (rg, .inl (cI, 6, .inl (rg6 a x d b0 b1 b2))), (me, .inl (cI, 512, .inl (mm2 g h))), (sa, .inl (cI, 2, .inl (p2 s0 s1))), (pa, .inl (cI, 2, .inl (p2 p0 p1))), (za, .inl (cZ, 2, .inl (p2 (bI z0) (bI z1)))), (ca, .inl (cZ, 2, .inl (p2 (bI c0) (bI c1)))), (ta, .inl (cI, 2, .inl (p2 t0 t1))), (bg, .inl (cI, 256, .inl fw))] := hD.sub [0, 1, 2, 3, 4, 5, 6, 7, 8] (by decide) rfl
                  exact W.zret (v := (bI false)) hx hb hr (nb_n _) (fun t ht hW => ⟨⟨(bI false), (), rfl, by rw [show i = 256 from hk] at h143; rw [alkB, h143, decide_eq_false h148, decide_eq_true h158, decide_eq_true h168, decide_eq_false h183]; rfl, by rw [ht]; exact hP9, va_K.moved hW.alike hK, hD9⟩, hS.F ht⟩) hS.2.2 d_MO_alike_199
                · have h183 : t1 = 1 := h183
                  refine lv_iconst (v := 1) hx hb d_MO_alike_186 (by decide) ?_
                  refine lv_goto (tgt := 191) hx hb d_MO_alike_187 rfl ?_
                  refine lv_icmp_ne (tgt := 198) hx hb d_MO_alike_191 rfl (fun hq9 => absurd (by decide) hq9) (fun _ => ?_)
                  refine lv_iconst (v := 1) hx hb d_MO_alike_194 (by decide) ?_
                  refine lv_goto (tgt := 199) hx hb d_MO_alike_195 rfl ?_
                  have hP9 : va_P D vwCl [(o, .inr (5, [.int 0, .ref im, .int (bI tr), .ref rc, .ref bg, .int ro, .ref oa, .ref xa, .ref ya, .ref rg, .ref me, .ref sa, .ref pa, .ref za, .ref ca, .int (bI kp), .ref ta, .ref na])), (rg, .inl (cI, 6, .inl (rg6 a x d b0 b1 b2))), (me, .inl (cI, 512, .inl (mm2 g h))), (sa, .inl (cI, 2, .inl (p2 s0 s1))), (pa, .inl (cI, 2, .inl (p2 p0 p1))), (za, .inl (cZ, 2, .inl (p2 (bI z0) (bI z1)))), (ca, .inl (cZ, 2, .inl (p2 (bI c0) (bI c1)))), (ta, .inl (cI, 2, .inl (p2 t0 t1))), (bg, .inl (cI, 256, .inl fw))] H := hP.sub [0, 1, 2, 3, 4, 5, 6, 7, 8] rfl
                  have hD9 : va_D A [(o, .inr (5, [.int 0, .ref im, .int (bI tr), .ref rc, .ref bg, .int ro, .ref oa, .ref xa, .ref ya, .ref rg, .ref me, .ref sa, .ref pa, .ref za, .ref ca, .int (bI kp), .ref ta, .ref na])), (rg, .inl (cI, 6, .inl (rg6 a x d b0 b1 b2))), (me, .inl (cI, 512, .inl (mm2 g h))), (sa, .inl (cI, 2, .inl (p2 s0 s1))), (pa, .inl (cI, 2, .inl (p2 p0 p1))), (za, .inl (cZ, 2, .inl (p2 (bI z0) (bI z1)))), (ca, .inl (cZ, 2, .inl (p2 (bI c0) (bI c1)))), (ta, .inl (cI, 2, .inl (p2 t0 t1))), (bg, .inl (cI, 256, .inl fw))] := hD.sub [0, 1, 2, 3, 4, 5, 6, 7, 8] (by decide) rfl
                  exact W.zret (v := (bI true)) hx hb hr (nb_n _) (fun t ht hW => ⟨⟨(bI true), (), rfl, by rw [show i = 256 from hk] at h143; rw [alkB, h143, decide_eq_false h148, decide_eq_true h158, decide_eq_true h168, decide_eq_true h183]; rfl, by rw [ht]; exact hP9, va_K.moved hW.alike hK, hD9⟩, hS.F ht⟩) hS.2.2 d_MO_alike_199
      | succ k ih =>
        intro i hk H locs ls hl hP hD hS
        refine lv_iload_n hx hb d_MO_alike_88 rfl (lv_at hl 0 rfl) ?_
        refine lv_sipush (v := 256) hx hb d_MO_alike_89 (by decide) ?_
        refine lv_icmp_ge (tgt := 130) hx hb d_MO_alike_92 rfl (fun hq9 => absurd hq9 (nI_ge (b := 256) (by omega) (by decide))) (fun _ => ?_)
        refine lv_iload_n hx hb d_MO_alike_95 rfl (lv_at hl 1 rfl) ?_
        refine lv_if_eq (tgt := 122) hx hb d_MO_alike_96 rfl (fun h96 => ?_) (fun h96 => ?_)
        · have h96 : decide (a = b0 ∧ x = b1 ∧ s0 = s1 ∧ z0 = z1 ∧ c0 = c1 ∧ ∀ j : Nat, j < i → g j = h j) = false := bI_f h96
          refine lv_iconst (v := 0) hx hb d_MO_alike_122 (by decide) ?_
          refine lv_istore_n hx hb d_MO_alike_123 rfl hl (by decide) rfl (fun ls hl => ?_)
          have hl : lv_has ls 3 [(1, .int 0), (2, .int (nI i)), (0, .ref o)] := hl
          refine lv_iinc (k := 1) (v := nI (i + 1)) hx hb d_MO_alike_124 hl rfl (nI_inc _) (by decide) rfl (fun ls hl => ?_)
          have hl : lv_has ls 3 [(2, .int (nI (i + 1))), (1, .int 0), (0, .ref o)] := hl
          refine lv_goto (tgt := 88) hx hb d_MO_alike_127 rfl ?_
          exact ih (i + 1) (by omega) H locs ls (by rw [show decide (a = b0 ∧ x = b1 ∧ s0 = s1 ∧ z0 = z1 ∧ c0 = c1 ∧ ∀ j : Nat, j < (i + 1) → g j = h j) = false from decide_eq_false (fun q => of_decide_eq_false h96 ⟨q.1, q.2.1, q.2.2.1, q.2.2.2.1, q.2.2.2.2.1, fun j hj => q.2.2.2.2.2 j (by omega)⟩)]; exact hl) hP hD hS
        · have h96 : decide (a = b0 ∧ x = b1 ∧ s0 = s1 ∧ z0 = z1 ∧ c0 = c1 ∧ ∀ j : Nat, j < i → g j = h j) = true := bI_t h96
          refine lv_aload_n hx hb d_MO_alike_99 rfl (lv_at hl 2 rfl) ?_
          refine va_get (D := D) (ci := 5) (v := .ref me) (C := R_MO) (T := T_MO) (N := 18) hx hb hts iw_MO hown hK hP 0 rfl rfl 10 (by decide) (hts _ k_705) (fun _ h9 => h9) rfl d_MO_alike_100 ?_
          refine lv_iload_n hx hb d_MO_alike_103 rfl (lv_at hl 0 rfl) ?_
          refine va_iald hx hb hK hP 2 0 rfl rfl (vp_in_nI (by omega) (by decide)) d_MO_alike_104 ?_
          refine lv_topi (fun y9 e9 => ?_)
          have e9 : y9 = g i := e9.trans (mmi_0 _ _ (by omega))
          subst e9
          refine lv_aload_n hx hb d_MO_alike_105 rfl (lv_at hl 2 rfl) ?_
          refine va_get (D := D) (ci := 5) (v := .ref me) (C := R_MO) (T := T_MO) (N := 18) hx hb hts iw_MO hown hK hP 0 rfl rfl 10 (by decide) (hts _ k_705) (fun _ h9 => h9) rfl d_MO_alike_106 ?_
          refine lv_sipush (v := 256) hx hb d_MO_alike_109 (by decide) ?_
          refine lv_iload_n hx hb d_MO_alike_112 rfl (lv_at hl 0 rfl) ?_
          refine lv_iadd hx hb d_MO_alike_113 ?_
          refine va_iald hx hb hK hP 2 0 rfl rfl (ini_1 (by omega)) d_MO_alike_114 ?_
          refine lv_topi (fun y9 e9 => ?_)
          have e9 : y9 = h i := e9.trans (mmi_1 _ _ (by omega))
          subst e9
          refine lv_icmp_ne (tgt := 122) hx hb d_MO_alike_115 rfl (fun h115 => ?_) (fun h115 => ?_)
          · have h115 : ¬ g i = h i := h115
            refine lv_iconst (v := 0) hx hb d_MO_alike_122 (by decide) ?_
            refine lv_istore_n hx hb d_MO_alike_123 rfl hl (by decide) rfl (fun ls hl => ?_)
            have hl : lv_has ls 3 [(1, .int 0), (2, .int (nI i)), (0, .ref o)] := hl
            refine lv_iinc (k := 1) (v := nI (i + 1)) hx hb d_MO_alike_124 hl rfl (nI_inc _) (by decide) rfl (fun ls hl => ?_)
            have hl : lv_has ls 3 [(2, .int (nI (i + 1))), (1, .int 0), (0, .ref o)] := hl
            refine lv_goto (tgt := 88) hx hb d_MO_alike_127 rfl ?_
            exact ih (i + 1) (by omega) H locs ls (by rw [show decide (a = b0 ∧ x = b1 ∧ s0 = s1 ∧ z0 = z1 ∧ c0 = c1 ∧ ∀ j : Nat, j < (i + 1) → g j = h j) = false from decide_eq_false (fun q => h115 (q.2.2.2.2.2 i (by omega)))]; exact hl) hP hD hS
          · have h115 : g i = h i := h115
            refine lv_iconst (v := 1) hx hb d_MO_alike_118 (by decide) ?_
            refine lv_goto (tgt := 123) hx hb d_MO_alike_119 rfl ?_
            refine lv_istore_n hx hb d_MO_alike_123 rfl hl (by decide) rfl (fun ls hl => ?_)
            have hl : lv_has ls 3 [(1, .int 1), (2, .int (nI i)), (0, .ref o)] := hl
            refine lv_iinc (k := 1) (v := nI (i + 1)) hx hb d_MO_alike_124 hl rfl (nI_inc _) (by decide) rfl (fun ls hl => ?_)
            have hl : lv_has ls 3 [(2, .int (nI (i + 1))), (1, .int 1), (0, .ref o)] := hl
            refine lv_goto (tgt := 88) hx hb d_MO_alike_127 rfl ?_
            exact ih (i + 1) (by omega) H locs ls (by rw [show decide (a = b0 ∧ x = b1 ∧ s0 = s1 ∧ z0 = z1 ∧ c0 = c1 ∧ ∀ j : Nat, j < (i + 1) → g j = h j) = true from decide_eq_true ⟨(of_decide_eq_true h96).1, (of_decide_eq_true h96).2.1, (of_decide_eq_true h96).2.2.1, (of_decide_eq_true h96).2.2.2.1, (of_decide_eq_true h96).2.2.2.2.1, lt_s (of_decide_eq_true h96).2.2.2.2.2 h115⟩]; exact hl) hP hD hS
    exact loop 256 0 rfl H locs ls (by rw [show decide (a = b0 ∧ x = b1 ∧ s0 = s1 ∧ z0 = z1 ∧ c0 = c1 ∧ ∀ j : Nat, j < 0 → g j = h j) = false from decide_eq_false (fun q => h17 q.1)]; exact hl) hP hD hS
  · have h17 : a = b0 := h17
    refine lv_aload_n hx hb d_MO_alike_20 rfl (lv_at hl 0 rfl) ?_
    refine va_get (D := D) (ci := 5) (v := .ref rg) (C := R_MO) (T := T_MO) (N := 18) hx hb hts iw_MO hown hK hP 0 rfl rfl 9 (by decide) (hts _ k_704) (fun _ h9 => h9) rfl d_MO_alike_21 ?_
    refine lv_iconst (v := 1) hx hb d_MO_alike_24 (by decide) ?_
    refine va_iald hx hb hK hP 1 0 rfl rfl (vp_in_nI (n := 1) (by decide) (by decide)) d_MO_alike_25 ?_
    refine lv_aload_n hx hb d_MO_alike_26 rfl (lv_at hl 0 rfl) ?_
    refine va_get (D := D) (ci := 5) (v := .ref rg) (C := R_MO) (T := T_MO) (N := 18) hx hb hts iw_MO hown hK hP 0 rfl rfl 9 (by decide) (hts _ k_704) (fun _ h9 => h9) rfl d_MO_alike_27 ?_
    refine lv_iconst (v := 4) hx hb d_MO_alike_30 (by decide) ?_
    refine va_iald hx hb hK hP 1 0 rfl rfl (vp_in_nI (n := 4) (by decide) (by decide)) d_MO_alike_31 ?_
    refine lv_icmp_ne (tgt := 84) hx hb d_MO_alike_32 rfl (fun h32 => ?_) (fun h32 => ?_)
    · have h32 : ¬ x = b1 := h32
      refine lv_iconst (v := 0) hx hb d_MO_alike_84 (by decide) ?_
      refine lv_istore_n hx hb d_MO_alike_85 rfl hl (by decide) rfl (fun ls hl => ?_)
      have hl : lv_has ls 3 [(1, .int 0), (0, .ref o)] := hl
      refine lv_iconst (v := 0) hx hb d_MO_alike_86 (by decide) ?_
      refine lv_istore_n hx hb d_MO_alike_87 rfl hl (by decide) rfl (fun ls hl => ?_)
      have hl : lv_has ls 3 [(2, .int 0), (1, .int 0), (0, .ref o)] := hl
      have loop : ∀ (k : Nat) (i : Nat), (i + k = 256) → ∀ (H : Heap) (locs : List Loc) (ls : Array Slot), lv_has ls 3 [(2, .int (nI i)), (1, .int (bI (decide (a = b0 ∧ x = b1 ∧ s0 = s1 ∧ z0 = z1 ∧ c0 = c1 ∧ ∀ j : Nat, j < i → g j = h j)))), (0, .ref o)] → va_P D vwCl [(o, .inr (5, [.int 0, .ref im, .int (bI tr), .ref rc, .ref bg, .int ro, .ref oa, .ref xa, .ref ya, .ref rg, .ref me, .ref sa, .ref pa, .ref za, .ref ca, .int (bI kp), .ref ta, .ref na])), (rg, .inl (cI, 6, .inl (rg6 a x d b0 b1 b2))), (me, .inl (cI, 512, .inl (mm2 g h))), (sa, .inl (cI, 2, .inl (p2 s0 s1))), (pa, .inl (cI, 2, .inl (p2 p0 p1))), (za, .inl (cZ, 2, .inl (p2 (bI z0) (bI z1)))), (ca, .inl (cZ, 2, .inl (p2 (bI c0) (bI c1)))), (ta, .inl (cI, 2, .inl (p2 t0 t1))), (bg, .inl (cI, 256, .inl fw))] H → va_D A [(o, .inr (5, [.int 0, .ref im, .int (bI tr), .ref rc, .ref bg, .int ro, .ref oa, .ref xa, .ref ya, .ref rg, .ref me, .ref sa, .ref pa, .ref za, .ref ca, .int (bI kp), .ref ta, .ref na])), (rg, .inl (cI, 6, .inl (rg6 a x d b0 b1 b2))), (me, .inl (cI, 512, .inl (mm2 g h))), (sa, .inl (cI, 2, .inl (p2 s0 s1))), (pa, .inl (cI, 2, .inl (p2 p0 p1))), (za, .inl (cZ, 2, .inl (p2 (bI z0) (bI z1)))), (ca, .inl (cZ, 2, .inl (p2 (bI c0) (bI c1)))), (ta, .inl (cI, 2, .inl (p2 t0 t1))), (bg, .inl (cI, 256, .inl fw))] → va_S A s.heap H locs → W p l e { frames := 0, cells := 0, slots := 0, locals := 0 } s m args below meth c H locs 0 0 (MQ below (QI D cI cZ (fun r (_ : Unit) => r = bI (alkB (decide (a = b0 ∧ x = b1 ∧ s0 = s1 ∧ z0 = z1 ∧ c0 = c1 ∧ ∀ j : Nat, j < 256 → g j = h j)) (fw p0.toNatClampNeg) p1 t0 t1)) (fun (_ : Unit) => [(o, .inr (5, [.int 0, .ref im, .int (bI tr), .ref rc, .ref bg, .int ro, .ref oa, .ref xa, .ref ya, .ref rg, .ref me, .ref sa, .ref pa, .ref za, .ref ca, .int (bI kp), .ref ta, .ref na])), (rg, .inl (cI, 6, .inl (rg6 a x d b0 b1 b2))), (me, .inl (cI, 512, .inl (mm2 g h))), (sa, .inl (cI, 2, .inl (p2 s0 s1))), (pa, .inl (cI, 2, .inl (p2 p0 p1))), (za, .inl (cZ, 2, .inl (p2 (bI z0) (bI z1)))), (ca, .inl (cZ, 2, .inl (p2 (bI c0) (bI c1)))), (ta, .inl (cI, 2, .inl (p2 t0 t1))), (bg, .inl (cI, 256, .inl fw))]) A) args s 0 0 A) (F0 m 88 ls []) := by
        intro k
        induction k with
        | zero =>
          intro i hk H locs ls hl hP hD hS
          refine lv_iload_n hx hb d_MO_alike_88 rfl (lv_at hl 0 rfl) ?_
          refine lv_sipush (v := 256) hx hb d_MO_alike_89 (by decide) ?_
          refine lv_icmp_ge (tgt := 130) hx hb d_MO_alike_92 rfl (fun _ => ?_) (fun hq9 => absurd (by rw [show i = 256 from hk]; decide) hq9)
          refine lv_aload_n hx hb d_MO_alike_130 rfl (lv_at hl 2 rfl) ?_
          refine va_get (D := D) (ci := 5) (v := .ref bg) (C := R_MO) (T := T_MO) (N := 18) hx hb hts iw_MO hown hK hP 0 rfl rfl 4 (by decide) (hts _ k_699) (fun _ h9 => h9) rfl d_MO_alike_131 ?_
          refine lv_aload_n hx hb d_MO_alike_134 rfl (lv_at hl 2 rfl) ?_
          refine va_get (D := D) (ci := 5) (v := .ref pa) (C := R_MO) (T := T_MO) (N := 18) hx hb hts iw_MO hown hK hP 0 rfl rfl 12 (by decide) (hts _ k_707) (fun _ h9 => h9) rfl d_MO_alike_135 ?_
          refine lv_iconst (v := 0) hx hb d_MO_alike_138 (by decide) ?_
          refine va_iald hx hb hK hP 4 0 rfl rfl (vp_in_nI (n := 0) (by decide) (by decide)) d_MO_alike_139 ?_
          refine va_iald hx hb hK hP 8 0 rfl rfl hv d_MO_alike_140 ?_
          refine lv_istore_n hx hb d_MO_alike_141 rfl hl (by decide) rfl (fun ls hl => ?_)
          have hl : lv_has ls 3 [(2, .int (fw p0.toNatClampNeg)), (1, .int (bI (decide (a = b0 ∧ x = b1 ∧ s0 = s1 ∧ z0 = z1 ∧ c0 = c1 ∧ ∀ j : Nat, j < i → g j = h j)))), (0, .ref o)] := hl
          refine lv_iload_n hx hb d_MO_alike_142 rfl (lv_at hl 1 rfl) ?_
          refine lv_if_eq (tgt := 198) hx hb d_MO_alike_143 rfl (fun h143 => ?_) (fun h143 => ?_)
          · have h143 : decide (a = b0 ∧ x = b1 ∧ s0 = s1 ∧ z0 = z1 ∧ c0 = c1 ∧ ∀ j : Nat, j < i → g j = h j) = false := bI_f h143
            refine lv_iconst (v := 0) hx hb d_MO_alike_198 (by decide) ?_
            have hP9 : va_P D vwCl [(o, .inr (5, [.int 0, .ref im, .int (bI tr), .ref rc, .ref bg, .int ro, .ref oa, .ref xa, .ref ya, .ref rg, .ref me, .ref sa, .ref pa, .ref za, .ref ca, .int (bI kp), .ref ta, .ref na])), (rg, .inl (cI, 6, .inl (rg6 a x d b0 b1 b2))), (me, .inl (cI, 512, .inl (mm2 g h))), (sa, .inl (cI, 2, .inl (p2 s0 s1))), (pa, .inl (cI, 2, .inl (p2 p0 p1))), (za, .inl (cZ, 2, .inl (p2 (bI z0) (bI z1)))), (ca, .inl (cZ, 2, .inl (p2 (bI c0) (bI c1)))), (ta, .inl (cI, 2, .inl (p2 t0 t1))), (bg, .inl (cI, 256, .inl fw))] H := hP.sub [0, 1, 2, 3, 4, 5, 6, 7, 8] rfl
            have hD9 : va_D A [(o, .inr (5, [.int 0, .ref im, .int (bI tr), .ref rc, .ref bg, .int ro, .ref oa, .ref xa, .ref ya, .ref rg, .ref me, .ref sa, .ref pa, .ref za, .ref ca, .int (bI kp), .ref ta, .ref na])), (rg, .inl (cI, 6, .inl (rg6 a x d b0 b1 b2))), (me, .inl (cI, 512, .inl (mm2 g h))), (sa, .inl (cI, 2, .inl (p2 s0 s1))), (pa, .inl (cI, 2, .inl (p2 p0 p1))), (za, .inl (cZ, 2, .inl (p2 (bI z0) (bI z1)))), (ca, .inl (cZ, 2, .inl (p2 (bI c0) (bI c1)))), (ta, .inl (cI, 2, .inl (p2 t0 t1))), (bg, .inl (cI, 256, .inl fw))] := hD.sub [0, 1, 2, 3, 4, 5, 6, 7, 8] (by decide) rfl
            exact W.zret (v := (bI false)) hx hb hr (nb_n _) (fun t ht hW => ⟨⟨(bI false), (), rfl, by rw [show i = 256 from hk] at h143; rw [alkB, h143]; rfl, by rw [ht]; exact hP9, va_K.moved hW.alike hK, hD9⟩, hS.F ht⟩) hS.2.2 d_MO_alike_199
          · have h143 : decide (a = b0 ∧ x = b1 ∧ s0 = s1 ∧ z0 = z1 ∧ c0 = c1 ∧ ∀ j : Nat, j < i → g j = h j) = true := bI_t h143
            refine lv_iload_n hx hb d_MO_alike_146 rfl (lv_at hl 0 rfl) ?_
            refine lv_iconst (v := (-1)) hx hb d_MO_alike_147 (by decide) ?_
            refine lv_icmp_eq (tgt := 198) hx hb d_MO_alike_148 rfl (fun h148 => ?_) (fun h148 => ?_)
            · have h148 : fw p0.toNatClampNeg = (-1) := h148
              refine lv_iconst (v := 0) hx hb d_MO_alike_198 (by decide) ?_
              have hP9 : va_P D vwCl [(o, .inr (5, [.int 0, .ref im, .int (bI tr), .ref rc, .ref bg, .int ro, .ref oa, .ref xa, .ref ya, .ref rg, .ref me, .ref sa, .ref pa, .ref za, .ref ca, .int (bI kp), .ref ta, .ref na])), (rg, .inl (cI, 6, .inl (rg6 a x d b0 b1 b2))), (me, .inl (cI, 512, .inl (mm2 g h))), (sa, .inl (cI, 2, .inl (p2 s0 s1))), (pa, .inl (cI, 2, .inl (p2 p0 p1))), (za, .inl (cZ, 2, .inl (p2 (bI z0) (bI z1)))), (ca, .inl (cZ, 2, .inl (p2 (bI c0) (bI c1)))), (ta, .inl (cI, 2, .inl (p2 t0 t1))), (bg, .inl (cI, 256, .inl fw))] H := hP.sub [0, 1, 2, 3, 4, 5, 6, 7, 8] rfl
              have hD9 : va_D A [(o, .inr (5, [.int 0, .ref im, .int (bI tr), .ref rc, .ref bg, .int ro, .ref oa, .ref xa, .ref ya, .ref rg, .ref me, .ref sa, .ref pa, .ref za, .ref ca, .int (bI kp), .ref ta, .ref na])), (rg, .inl (cI, 6, .inl (rg6 a x d b0 b1 b2))), (me, .inl (cI, 512, .inl (mm2 g h))), (sa, .inl (cI, 2, .inl (p2 s0 s1))), (pa, .inl (cI, 2, .inl (p2 p0 p1))), (za, .inl (cZ, 2, .inl (p2 (bI z0) (bI z1)))), (ca, .inl (cZ, 2, .inl (p2 (bI c0) (bI c1)))), (ta, .inl (cI, 2, .inl (p2 t0 t1))), (bg, .inl (cI, 256, .inl fw))] := hD.sub [0, 1, 2, 3, 4, 5, 6, 7, 8] (by decide) rfl
              exact W.zret (v := (bI false)) hx hb hr (nb_n _) (fun t ht hW => ⟨⟨(bI false), (), rfl, by rw [show i = 256 from hk] at h143; rw [alkB, h143, decide_eq_true h148]; rfl, by rw [ht]; exact hP9, va_K.moved hW.alike hK, hD9⟩, hS.F ht⟩) hS.2.2 d_MO_alike_199
            · have h148 : ¬ fw p0.toNatClampNeg = (-1) := h148
              refine lv_iload_n hx hb d_MO_alike_151 rfl (lv_at hl 0 rfl) ?_
              refine lv_aload_n hx hb d_MO_alike_152 rfl (lv_at hl 2 rfl) ?_
              refine va_get (D := D) (ci := 5) (v := .ref pa) (C := R_MO) (T := T_MO) (N := 18) hx hb hts iw_MO hown hK hP 0 rfl rfl 12 (by decide) (hts _ k_707) (fun _ h9 => h9) rfl d_MO_alike_153 ?_
              refine lv_iconst (v := 1) hx hb d_MO_alike_156 (by decide) ?_
              refine va_iald hx hb hK hP 4 0 rfl rfl (vp_in_nI (n := 1) (by decide) (by decide)) d_MO_alike_157 ?_
              refine lv_icmp_ne (tgt := 198) hx hb d_MO_alike_158 rfl (fun h158 => ?_) (fun h158 => ?_)
              · have h158 : ¬ fw p0.toNatClampNeg = p1 := h158
                refine lv_iconst (v := 0) hx hb d_MO_alike_198 (by decide) ?_
                have hP9 : va_P D vwCl [(o, .inr (5, [.int 0, .ref im, .int (bI tr), .ref rc, .ref bg, .int ro, .ref oa, .ref xa, .ref ya, .ref rg, .ref me, .ref sa, .ref pa, .ref za, .ref ca, .int (bI kp), .ref ta, .ref na])), (rg, .inl (cI, 6, .inl (rg6 a x d b0 b1 b2))), (me, .inl (cI, 512, .inl (mm2 g h))), (sa, .inl (cI, 2, .inl (p2 s0 s1))), (pa, .inl (cI, 2, .inl (p2 p0 p1))), (za, .inl (cZ, 2, .inl (p2 (bI z0) (bI z1)))), (ca, .inl (cZ, 2, .inl (p2 (bI c0) (bI c1)))), (ta, .inl (cI, 2, .inl (p2 t0 t1))), (bg, .inl (cI, 256, .inl fw))] H := hP.sub [0, 1, 2, 3, 4, 5, 6, 7, 8] rfl
                have hD9 : va_D A [(o, .inr (5, [.int 0, .ref im, .int (bI tr), .ref rc, .ref bg, .int ro, .ref oa, .ref xa, .ref ya, .ref rg, .ref me, .ref sa, .ref pa, .ref za, .ref ca, .int (bI kp), .ref ta, .ref na])), (rg, .inl (cI, 6, .inl (rg6 a x d b0 b1 b2))), (me, .inl (cI, 512, .inl (mm2 g h))), (sa, .inl (cI, 2, .inl (p2 s0 s1))), (pa, .inl (cI, 2, .inl (p2 p0 p1))), (za, .inl (cZ, 2, .inl (p2 (bI z0) (bI z1)))), (ca, .inl (cZ, 2, .inl (p2 (bI c0) (bI c1)))), (ta, .inl (cI, 2, .inl (p2 t0 t1))), (bg, .inl (cI, 256, .inl fw))] := hD.sub [0, 1, 2, 3, 4, 5, 6, 7, 8] (by decide) rfl
                exact W.zret (v := (bI false)) hx hb hr (nb_n _) (fun t ht hW => ⟨⟨(bI false), (), rfl, by rw [show i = 256 from hk] at h143; rw [alkB, h143, decide_eq_false h148, decide_eq_false h158]; rfl, by rw [ht]; exact hP9, va_K.moved hW.alike hK, hD9⟩, hS.F ht⟩) hS.2.2 d_MO_alike_199
              · have h158 : fw p0.toNatClampNeg = p1 := h158
                refine lv_aload_n hx hb d_MO_alike_161 rfl (lv_at hl 2 rfl) ?_
                refine va_get (D := D) (ci := 5) (v := .ref ta) (C := R_MO) (T := T_MO) (N := 18) hx hb hts iw_MO hown hK hP 0 rfl rfl 16 (by decide) (hts _ k_711) (fun _ h9 => h9) rfl d_MO_alike_162 ?_
                refine lv_iconst (v := 0) hx hb d_MO_alike_165 (by decide) ?_
                refine va_iald hx hb hK hP 7 0 rfl rfl (vp_in_nI (n := 0) (by decide) (by decide)) d_MO_alike_166 ?_
                refine lv_iconst (v := 1) hx hb d_MO_alike_167 (by decide) ?_
                refine lv_icmp_ne (tgt := 175) hx hb d_MO_alike_168 rfl (fun h168 => ?_) (fun h168 => ?_)
                · have h168 : ¬ t0 = 1 := h168
                  refine lv_iconst (v := 0) hx hb d_MO_alike_175 (by decide) ?_
                  refine lv_aload_n hx hb d_MO_alike_176 rfl (lv_at hl 2 rfl) ?_
                  refine va_get (D := D) (ci := 5) (v := .ref ta) (C := R_MO) (T := T_MO) (N := 18) hx hb hts iw_MO hown hK hP 0 rfl rfl 16 (by decide) (hts _ k_711) (fun _ h9 => h9) rfl d_MO_alike_177 ?_
                  refine lv_iconst (v := 1) hx hb d_MO_alike_180 (by decide) ?_
                  refine va_iald hx hb hK hP 7 0 rfl rfl (vp_in_nI (n := 1) (by decide) (by decide)) d_MO_alike_181 ?_
                  refine lv_iconst (v := 1) hx hb d_MO_alike_182 (by decide) ?_
                  refine lv_icmp_ne (tgt := 190) hx hb d_MO_alike_183 rfl (fun h183 => ?_) (fun h183 => ?_)
                  · have h183 : ¬ t1 = 1 := h183
                    refine lv_iconst (v := 0) hx hb d_MO_alike_190 (by decide) ?_
                    refine lv_icmp_ne (tgt := 198) hx hb d_MO_alike_191 rfl (fun hq9 => absurd (by decide) hq9) (fun _ => ?_)
                    refine lv_iconst (v := 1) hx hb d_MO_alike_194 (by decide) ?_
                    refine lv_goto (tgt := 199) hx hb d_MO_alike_195 rfl ?_
                    have hP9 : va_P D vwCl [(o, .inr (5, [.int 0, .ref im, .int (bI tr), .ref rc, .ref bg, .int ro, .ref oa, .ref xa, .ref ya, .ref rg, .ref me, .ref sa, .ref pa, .ref za, .ref ca, .int (bI kp), .ref ta, .ref na])), (rg, .inl (cI, 6, .inl (rg6 a x d b0 b1 b2))), (me, .inl (cI, 512, .inl (mm2 g h))), (sa, .inl (cI, 2, .inl (p2 s0 s1))), (pa, .inl (cI, 2, .inl (p2 p0 p1))), (za, .inl (cZ, 2, .inl (p2 (bI z0) (bI z1)))), (ca, .inl (cZ, 2, .inl (p2 (bI c0) (bI c1)))), (ta, .inl (cI, 2, .inl (p2 t0 t1))), (bg, .inl (cI, 256, .inl fw))] H := hP.sub [0, 1, 2, 3, 4, 5, 6, 7, 8] rfl
                    have hD9 : va_D A [(o, .inr (5, [.int 0, .ref im, .int (bI tr), .ref rc, .ref bg, .int ro, .ref oa, .ref xa, .ref ya, .ref rg, .ref me, .ref sa, .ref pa, .ref za, .ref ca, .int (bI kp), .ref ta, .ref na])), (rg, .inl (cI, 6, .inl (rg6 a x d b0 b1 b2))), (me, .inl (cI, 512, .inl (mm2 g h))), (sa, .inl (cI, 2, .inl (p2 s0 s1))), (pa, .inl (cI, 2, .inl (p2 p0 p1))), (za, .inl (cZ, 2, .inl (p2 (bI z0) (bI z1)))), (ca, .inl (cZ, 2, .inl (p2 (bI c0) (bI c1)))), (ta, .inl (cI, 2, .inl (p2 t0 t1))), (bg, .inl (cI, 256, .inl fw))] := hD.sub [0, 1, 2, 3, 4, 5, 6, 7, 8] (by decide) rfl
                    exact W.zret (v := (bI true)) hx hb hr (nb_n _) (fun t ht hW => ⟨⟨(bI true), (), rfl, by rw [show i = 256 from hk] at h143; rw [alkB, h143, decide_eq_false h148, decide_eq_true h158, decide_eq_false h168, decide_eq_false h183]; rfl, by rw [ht]; exact hP9, va_K.moved hW.alike hK, hD9⟩, hS.F ht⟩) hS.2.2 d_MO_alike_199
                  · have h183 : t1 = 1 := h183
                    refine lv_iconst (v := 1) hx hb d_MO_alike_186 (by decide) ?_
                    refine lv_goto (tgt := 191) hx hb d_MO_alike_187 rfl ?_
                    refine lv_icmp_ne (tgt := 198) hx hb d_MO_alike_191 rfl (fun _ => ?_) (fun hq9 => absurd hq9 (by decide))
                    refine lv_iconst (v := 0) hx hb d_MO_alike_198 (by decide) ?_
                    have hP9 : va_P D vwCl [(o, .inr (5, [.int 0, .ref im, .int (bI tr), .ref rc, .ref bg, .int ro, .ref oa, .ref xa, .ref ya, .ref rg, .ref me, .ref sa, .ref pa, .ref za, .ref ca, .int (bI kp), .ref ta, .ref na])), (rg, .inl (cI, 6, .inl (rg6 a x d b0 b1 b2))), (me, .inl (cI, 512, .inl (mm2 g h))), (sa, .inl (cI, 2, .inl (p2 s0 s1))), (pa, .inl (cI, 2, .inl (p2 p0 p1))), (za, .inl (cZ, 2, .inl (p2 (bI z0) (bI z1)))), (ca, .inl (cZ, 2, .inl (p2 (bI c0) (bI c1)))), (ta, .inl (cI, 2, .inl (p2 t0 t1))), (bg, .inl (cI, 256, .inl fw))] H := hP.sub [0, 1, 2, 3, 4, 5, 6, 7, 8] rfl
                    have hD9 : va_D A [(o, .inr (5, [.int 0, .ref im, .int (bI tr), .ref rc, .ref bg, .int ro, .ref oa, .ref xa, .ref ya, .ref rg, .ref me, .ref sa, .ref pa, .ref za, .ref ca, .int (bI kp), .ref ta, .ref na])), (rg, .inl (cI, 6, .inl (rg6 a x d b0 b1 b2))), (me, .inl (cI, 512, .inl (mm2 g h))), (sa, .inl (cI, 2, .inl (p2 s0 s1))), (pa, .inl (cI, 2, .inl (p2 p0 p1))), (za, .inl (cZ, 2, .inl (p2 (bI z0) (bI z1)))), (ca, .inl (cZ, 2, .inl (p2 (bI c0) (bI c1)))), (ta, .inl (cI, 2, .inl (p2 t0 t1))), (bg, .inl (cI, 256, .inl fw))] := hD.sub [0, 1, 2, 3, 4, 5, 6, 7, 8] (by decide) rfl
                    exact W.zret (v := (bI false)) hx hb hr (nb_n _) (fun t ht hW => ⟨⟨(bI false), (), rfl, by rw [show i = 256 from hk] at h143; rw [alkB, h143, decide_eq_false h148, decide_eq_true h158, decide_eq_false h168, decide_eq_true h183]; rfl, by rw [ht]; exact hP9, va_K.moved hW.alike hK, hD9⟩, hS.F ht⟩) hS.2.2 d_MO_alike_199
                · have h168 : t0 = 1 := h168
                  refine lv_iconst (v := 1) hx hb d_MO_alike_171 (by decide) ?_
                  refine lv_goto (tgt := 176) hx hb d_MO_alike_172 rfl ?_
                  refine lv_aload_n hx hb d_MO_alike_176 rfl (lv_at hl 2 rfl) ?_
                  refine va_get (D := D) (ci := 5) (v := .ref ta) (C := R_MO) (T := T_MO) (N := 18) hx hb hts iw_MO hown hK hP 0 rfl rfl 16 (by decide) (hts _ k_711) (fun _ h9 => h9) rfl d_MO_alike_177 ?_
                  refine lv_iconst (v := 1) hx hb d_MO_alike_180 (by decide) ?_
                  refine va_iald hx hb hK hP 7 0 rfl rfl (vp_in_nI (n := 1) (by decide) (by decide)) d_MO_alike_181 ?_
                  refine lv_iconst (v := 1) hx hb d_MO_alike_182 (by decide) ?_
                  refine lv_icmp_ne (tgt := 190) hx hb d_MO_alike_183 rfl (fun h183 => ?_) (fun h183 => ?_)
                  · have h183 : ¬ t1 = 1 := h183
                    refine lv_iconst (v := 0) hx hb d_MO_alike_190 (by decide) ?_
                    refine lv_icmp_ne (tgt := 198) hx hb d_MO_alike_191 rfl (fun _ => ?_) (fun hq9 => absurd hq9 (by decide))
                    refine lv_iconst (v := 0) hx hb d_MO_alike_198 (by decide) ?_
                    have hP9 : va_P D vwCl [(o, .inr (5, [.int 0, .ref im, .int (bI tr), .ref rc, .ref bg, .int ro, .ref oa, .ref xa, .ref ya, .ref rg, .ref me, .ref sa, .ref pa, .ref za, .ref ca, .int (bI kp), .ref ta, .ref na])), (rg, .inl (cI, 6, .inl (rg6 a x d b0 b1 b2))), (me, .inl (cI, 512, .inl (mm2 g h))), (sa, .inl (cI, 2, .inl (p2 s0 s1))), (pa, .inl (cI, 2, .inl (p2 p0 p1))), (za, .inl (cZ, 2, .inl (p2 (bI z0) (bI z1)))), (ca, .inl (cZ, 2, .inl (p2 (bI c0) (bI c1)))), (ta, .inl (cI, 2, .inl (p2 t0 t1))), (bg, .inl (cI, 256, .inl fw))] H := hP.sub [0, 1, 2, 3, 4, 5, 6, 7, 8] rfl
                    have hD9 : va_D A [(o, .inr (5, [.int 0, .ref im, .int (bI tr), .ref rc, .ref bg, .int ro, .ref oa, .ref xa, .ref ya, .ref rg, .ref me, .ref sa, .ref pa, .ref za, .ref ca, .int (bI kp), .ref ta, .ref na])), (rg, .inl (cI, 6, .inl (rg6 a x d b0 b1 b2))), (me, .inl (cI, 512, .inl (mm2 g h))), (sa, .inl (cI, 2, .inl (p2 s0 s1))), (pa, .inl (cI, 2, .inl (p2 p0 p1))), (za, .inl (cZ, 2, .inl (p2 (bI z0) (bI z1)))), (ca, .inl (cZ, 2, .inl (p2 (bI c0) (bI c1)))), (ta, .inl (cI, 2, .inl (p2 t0 t1))), (bg, .inl (cI, 256, .inl fw))] := hD.sub [0, 1, 2, 3, 4, 5, 6, 7, 8] (by decide) rfl
                    exact W.zret (v := (bI false)) hx hb hr (nb_n _) (fun t ht hW => ⟨⟨(bI false), (), rfl, by rw [show i = 256 from hk] at h143; rw [alkB, h143, decide_eq_false h148, decide_eq_true h158, decide_eq_true h168, decide_eq_false h183]; rfl, by rw [ht]; exact hP9, va_K.moved hW.alike hK, hD9⟩, hS.F ht⟩) hS.2.2 d_MO_alike_199
                  · have h183 : t1 = 1 := h183
                    refine lv_iconst (v := 1) hx hb d_MO_alike_186 (by decide) ?_
                    refine lv_goto (tgt := 191) hx hb d_MO_alike_187 rfl ?_
                    refine lv_icmp_ne (tgt := 198) hx hb d_MO_alike_191 rfl (fun hq9 => absurd (by decide) hq9) (fun _ => ?_)
                    refine lv_iconst (v := 1) hx hb d_MO_alike_194 (by decide) ?_
                    refine lv_goto (tgt := 199) hx hb d_MO_alike_195 rfl ?_
                    have hP9 : va_P D vwCl [(o, .inr (5, [.int 0, .ref im, .int (bI tr), .ref rc, .ref bg, .int ro, .ref oa, .ref xa, .ref ya, .ref rg, .ref me, .ref sa, .ref pa, .ref za, .ref ca, .int (bI kp), .ref ta, .ref na])), (rg, .inl (cI, 6, .inl (rg6 a x d b0 b1 b2))), (me, .inl (cI, 512, .inl (mm2 g h))), (sa, .inl (cI, 2, .inl (p2 s0 s1))), (pa, .inl (cI, 2, .inl (p2 p0 p1))), (za, .inl (cZ, 2, .inl (p2 (bI z0) (bI z1)))), (ca, .inl (cZ, 2, .inl (p2 (bI c0) (bI c1)))), (ta, .inl (cI, 2, .inl (p2 t0 t1))), (bg, .inl (cI, 256, .inl fw))] H := hP.sub [0, 1, 2, 3, 4, 5, 6, 7, 8] rfl
                    have hD9 : va_D A [(o, .inr (5, [.int 0, .ref im, .int (bI tr), .ref rc, .ref bg, .int ro, .ref oa, .ref xa, .ref ya, .ref rg, .ref me, .ref sa, .ref pa, .ref za, .ref ca, .int (bI kp), .ref ta, .ref na])), (rg, .inl (cI, 6, .inl (rg6 a x d b0 b1 b2))), (me, .inl (cI, 512, .inl (mm2 g h))), (sa, .inl (cI, 2, .inl (p2 s0 s1))), (pa, .inl (cI, 2, .inl (p2 p0 p1))), (za, .inl (cZ, 2, .inl (p2 (bI z0) (bI z1)))), (ca, .inl (cZ, 2, .inl (p2 (bI c0) (bI c1)))), (ta, .inl (cI, 2, .inl (p2 t0 t1))), (bg, .inl (cI, 256, .inl fw))] := hD.sub [0, 1, 2, 3, 4, 5, 6, 7, 8] (by decide) rfl
                    exact W.zret (v := (bI true)) hx hb hr (nb_n _) (fun t ht hW => ⟨⟨(bI true), (), rfl, by rw [show i = 256 from hk] at h143; rw [alkB, h143, decide_eq_false h148, decide_eq_true h158, decide_eq_true h168, decide_eq_true h183]; rfl, by rw [ht]; exact hP9, va_K.moved hW.alike hK, hD9⟩, hS.F ht⟩) hS.2.2 d_MO_alike_199
        | succ k ih =>
          intro i hk H locs ls hl hP hD hS
          refine lv_iload_n hx hb d_MO_alike_88 rfl (lv_at hl 0 rfl) ?_
          refine lv_sipush (v := 256) hx hb d_MO_alike_89 (by decide) ?_
          refine lv_icmp_ge (tgt := 130) hx hb d_MO_alike_92 rfl (fun hq9 => absurd hq9 (nI_ge (b := 256) (by omega) (by decide))) (fun _ => ?_)
          refine lv_iload_n hx hb d_MO_alike_95 rfl (lv_at hl 1 rfl) ?_
          refine lv_if_eq (tgt := 122) hx hb d_MO_alike_96 rfl (fun h96 => ?_) (fun h96 => ?_)
          · have h96 : decide (a = b0 ∧ x = b1 ∧ s0 = s1 ∧ z0 = z1 ∧ c0 = c1 ∧ ∀ j : Nat, j < i → g j = h j) = false := bI_f h96
            refine lv_iconst (v := 0) hx hb d_MO_alike_122 (by decide) ?_
            refine lv_istore_n hx hb d_MO_alike_123 rfl hl (by decide) rfl (fun ls hl => ?_)
            have hl : lv_has ls 3 [(1, .int 0), (2, .int (nI i)), (0, .ref o)] := hl
            refine lv_iinc (k := 1) (v := nI (i + 1)) hx hb d_MO_alike_124 hl rfl (nI_inc _) (by decide) rfl (fun ls hl => ?_)
            have hl : lv_has ls 3 [(2, .int (nI (i + 1))), (1, .int 0), (0, .ref o)] := hl
            refine lv_goto (tgt := 88) hx hb d_MO_alike_127 rfl ?_
            exact ih (i + 1) (by omega) H locs ls (by rw [show decide (a = b0 ∧ x = b1 ∧ s0 = s1 ∧ z0 = z1 ∧ c0 = c1 ∧ ∀ j : Nat, j < (i + 1) → g j = h j) = false from decide_eq_false (fun q => of_decide_eq_false h96 ⟨q.1, q.2.1, q.2.2.1, q.2.2.2.1, q.2.2.2.2.1, fun j hj => q.2.2.2.2.2 j (by omega)⟩)]; exact hl) hP hD hS
          · have h96 : decide (a = b0 ∧ x = b1 ∧ s0 = s1 ∧ z0 = z1 ∧ c0 = c1 ∧ ∀ j : Nat, j < i → g j = h j) = true := bI_t h96
            refine lv_aload_n hx hb d_MO_alike_99 rfl (lv_at hl 2 rfl) ?_
            refine va_get (D := D) (ci := 5) (v := .ref me) (C := R_MO) (T := T_MO) (N := 18) hx hb hts iw_MO hown hK hP 0 rfl rfl 10 (by decide) (hts _ k_705) (fun _ h9 => h9) rfl d_MO_alike_100 ?_
            refine lv_iload_n hx hb d_MO_alike_103 rfl (lv_at hl 0 rfl) ?_
            refine va_iald hx hb hK hP 2 0 rfl rfl (vp_in_nI (by omega) (by decide)) d_MO_alike_104 ?_
            refine lv_topi (fun y9 e9 => ?_)
            have e9 : y9 = g i := e9.trans (mmi_0 _ _ (by omega))
            subst e9
            refine lv_aload_n hx hb d_MO_alike_105 rfl (lv_at hl 2 rfl) ?_
            refine va_get (D := D) (ci := 5) (v := .ref me) (C := R_MO) (T := T_MO) (N := 18) hx hb hts iw_MO hown hK hP 0 rfl rfl 10 (by decide) (hts _ k_705) (fun _ h9 => h9) rfl d_MO_alike_106 ?_
            refine lv_sipush (v := 256) hx hb d_MO_alike_109 (by decide) ?_
            refine lv_iload_n hx hb d_MO_alike_112 rfl (lv_at hl 0 rfl) ?_
            refine lv_iadd hx hb d_MO_alike_113 ?_
            refine va_iald hx hb hK hP 2 0 rfl rfl (ini_1 (by omega)) d_MO_alike_114 ?_
            refine lv_topi (fun y9 e9 => ?_)
            have e9 : y9 = h i := e9.trans (mmi_1 _ _ (by omega))
            subst e9
            refine lv_icmp_ne (tgt := 122) hx hb d_MO_alike_115 rfl (fun h115 => ?_) (fun h115 => ?_)
            · have h115 : ¬ g i = h i := h115
              refine lv_iconst (v := 0) hx hb d_MO_alike_122 (by decide) ?_
              refine lv_istore_n hx hb d_MO_alike_123 rfl hl (by decide) rfl (fun ls hl => ?_)
              have hl : lv_has ls 3 [(1, .int 0), (2, .int (nI i)), (0, .ref o)] := hl
              refine lv_iinc (k := 1) (v := nI (i + 1)) hx hb d_MO_alike_124 hl rfl (nI_inc _) (by decide) rfl (fun ls hl => ?_)
              have hl : lv_has ls 3 [(2, .int (nI (i + 1))), (1, .int 0), (0, .ref o)] := hl
              refine lv_goto (tgt := 88) hx hb d_MO_alike_127 rfl ?_
              exact ih (i + 1) (by omega) H locs ls (by rw [show decide (a = b0 ∧ x = b1 ∧ s0 = s1 ∧ z0 = z1 ∧ c0 = c1 ∧ ∀ j : Nat, j < (i + 1) → g j = h j) = false from decide_eq_false (fun q => h115 (q.2.2.2.2.2 i (by omega)))]; exact hl) hP hD hS
            · have h115 : g i = h i := h115
              refine lv_iconst (v := 1) hx hb d_MO_alike_118 (by decide) ?_
              refine lv_goto (tgt := 123) hx hb d_MO_alike_119 rfl ?_
              refine lv_istore_n hx hb d_MO_alike_123 rfl hl (by decide) rfl (fun ls hl => ?_)
              have hl : lv_has ls 3 [(1, .int 1), (2, .int (nI i)), (0, .ref o)] := hl
              refine lv_iinc (k := 1) (v := nI (i + 1)) hx hb d_MO_alike_124 hl rfl (nI_inc _) (by decide) rfl (fun ls hl => ?_)
              have hl : lv_has ls 3 [(2, .int (nI (i + 1))), (1, .int 1), (0, .ref o)] := hl
              refine lv_goto (tgt := 88) hx hb d_MO_alike_127 rfl ?_
              exact ih (i + 1) (by omega) H locs ls (by rw [show decide (a = b0 ∧ x = b1 ∧ s0 = s1 ∧ z0 = z1 ∧ c0 = c1 ∧ ∀ j : Nat, j < (i + 1) → g j = h j) = true from decide_eq_true ⟨(of_decide_eq_true h96).1, (of_decide_eq_true h96).2.1, (of_decide_eq_true h96).2.2.1, (of_decide_eq_true h96).2.2.2.1, (of_decide_eq_true h96).2.2.2.2.1, lt_s (of_decide_eq_true h96).2.2.2.2.2 h115⟩]; exact hl) hP hD hS
      exact loop 256 0 rfl H locs ls (by rw [show decide (a = b0 ∧ x = b1 ∧ s0 = s1 ∧ z0 = z1 ∧ c0 = c1 ∧ ∀ j : Nat, j < 0 → g j = h j) = false from decide_eq_false (fun q => h32 q.2.1)]; exact hl) hP hD hS
    · have h32 : x = b1 := h32
      refine lv_aload_n hx hb d_MO_alike_35 rfl (lv_at hl 0 rfl) ?_
      refine va_get (D := D) (ci := 5) (v := .ref sa) (C := R_MO) (T := T_MO) (N := 18) hx hb hts iw_MO hown hK hP 0 rfl rfl 11 (by decide) (hts _ k_706) (fun _ h9 => h9) rfl d_MO_alike_36 ?_
      refine lv_iconst (v := 0) hx hb d_MO_alike_39 (by decide) ?_
      refine va_iald hx hb hK hP 3 0 rfl rfl (vp_in_nI (n := 0) (by decide) (by decide)) d_MO_alike_40 ?_
      refine lv_aload_n hx hb d_MO_alike_41 rfl (lv_at hl 0 rfl) ?_
      refine va_get (D := D) (ci := 5) (v := .ref sa) (C := R_MO) (T := T_MO) (N := 18) hx hb hts iw_MO hown hK hP 0 rfl rfl 11 (by decide) (hts _ k_706) (fun _ h9 => h9) rfl d_MO_alike_42 ?_
      refine lv_iconst (v := 1) hx hb d_MO_alike_45 (by decide) ?_
      refine va_iald hx hb hK hP 3 0 rfl rfl (vp_in_nI (n := 1) (by decide) (by decide)) d_MO_alike_46 ?_
      refine lv_icmp_ne (tgt := 84) hx hb d_MO_alike_47 rfl (fun h47 => ?_) (fun h47 => ?_)
      · have h47 : ¬ s0 = s1 := h47
        refine lv_iconst (v := 0) hx hb d_MO_alike_84 (by decide) ?_
        refine lv_istore_n hx hb d_MO_alike_85 rfl hl (by decide) rfl (fun ls hl => ?_)
        have hl : lv_has ls 3 [(1, .int 0), (0, .ref o)] := hl
        refine lv_iconst (v := 0) hx hb d_MO_alike_86 (by decide) ?_
        refine lv_istore_n hx hb d_MO_alike_87 rfl hl (by decide) rfl (fun ls hl => ?_)
        have hl : lv_has ls 3 [(2, .int 0), (1, .int 0), (0, .ref o)] := hl
        have loop : ∀ (k : Nat) (i : Nat), (i + k = 256) → ∀ (H : Heap) (locs : List Loc) (ls : Array Slot), lv_has ls 3 [(2, .int (nI i)), (1, .int (bI (decide (a = b0 ∧ x = b1 ∧ s0 = s1 ∧ z0 = z1 ∧ c0 = c1 ∧ ∀ j : Nat, j < i → g j = h j)))), (0, .ref o)] → va_P D vwCl [(o, .inr (5, [.int 0, .ref im, .int (bI tr), .ref rc, .ref bg, .int ro, .ref oa, .ref xa, .ref ya, .ref rg, .ref me, .ref sa, .ref pa, .ref za, .ref ca, .int (bI kp), .ref ta, .ref na])), (rg, .inl (cI, 6, .inl (rg6 a x d b0 b1 b2))), (me, .inl (cI, 512, .inl (mm2 g h))), (sa, .inl (cI, 2, .inl (p2 s0 s1))), (pa, .inl (cI, 2, .inl (p2 p0 p1))), (za, .inl (cZ, 2, .inl (p2 (bI z0) (bI z1)))), (ca, .inl (cZ, 2, .inl (p2 (bI c0) (bI c1)))), (ta, .inl (cI, 2, .inl (p2 t0 t1))), (bg, .inl (cI, 256, .inl fw))] H → va_D A [(o, .inr (5, [.int 0, .ref im, .int (bI tr), .ref rc, .ref bg, .int ro, .ref oa, .ref xa, .ref ya, .ref rg, .ref me, .ref sa, .ref pa, .ref za, .ref ca, .int (bI kp), .ref ta, .ref na])), (rg, .inl (cI, 6, .inl (rg6 a x d b0 b1 b2))), (me, .inl (cI, 512, .inl (mm2 g h))), (sa, .inl (cI, 2, .inl (p2 s0 s1))), (pa, .inl (cI, 2, .inl (p2 p0 p1))), (za, .inl (cZ, 2, .inl (p2 (bI z0) (bI z1)))), (ca, .inl (cZ, 2, .inl (p2 (bI c0) (bI c1)))), (ta, .inl (cI, 2, .inl (p2 t0 t1))), (bg, .inl (cI, 256, .inl fw))] → va_S A s.heap H locs → W p l e { frames := 0, cells := 0, slots := 0, locals := 0 } s m args below meth c H locs 0 0 (MQ below (QI D cI cZ (fun r (_ : Unit) => r = bI (alkB (decide (a = b0 ∧ x = b1 ∧ s0 = s1 ∧ z0 = z1 ∧ c0 = c1 ∧ ∀ j : Nat, j < 256 → g j = h j)) (fw p0.toNatClampNeg) p1 t0 t1)) (fun (_ : Unit) => [(o, .inr (5, [.int 0, .ref im, .int (bI tr), .ref rc, .ref bg, .int ro, .ref oa, .ref xa, .ref ya, .ref rg, .ref me, .ref sa, .ref pa, .ref za, .ref ca, .int (bI kp), .ref ta, .ref na])), (rg, .inl (cI, 6, .inl (rg6 a x d b0 b1 b2))), (me, .inl (cI, 512, .inl (mm2 g h))), (sa, .inl (cI, 2, .inl (p2 s0 s1))), (pa, .inl (cI, 2, .inl (p2 p0 p1))), (za, .inl (cZ, 2, .inl (p2 (bI z0) (bI z1)))), (ca, .inl (cZ, 2, .inl (p2 (bI c0) (bI c1)))), (ta, .inl (cI, 2, .inl (p2 t0 t1))), (bg, .inl (cI, 256, .inl fw))]) A) args s 0 0 A) (F0 m 88 ls []) := by
          intro k
          induction k with
          | zero =>
            intro i hk H locs ls hl hP hD hS
            refine lv_iload_n hx hb d_MO_alike_88 rfl (lv_at hl 0 rfl) ?_
            refine lv_sipush (v := 256) hx hb d_MO_alike_89 (by decide) ?_
            refine lv_icmp_ge (tgt := 130) hx hb d_MO_alike_92 rfl (fun _ => ?_) (fun hq9 => absurd (by rw [show i = 256 from hk]; decide) hq9)
            refine lv_aload_n hx hb d_MO_alike_130 rfl (lv_at hl 2 rfl) ?_
            refine va_get (D := D) (ci := 5) (v := .ref bg) (C := R_MO) (T := T_MO) (N := 18) hx hb hts iw_MO hown hK hP 0 rfl rfl 4 (by decide) (hts _ k_699) (fun _ h9 => h9) rfl d_MO_alike_131 ?_
            refine lv_aload_n hx hb d_MO_alike_134 rfl (lv_at hl 2 rfl) ?_
            refine va_get (D := D) (ci := 5) (v := .ref pa) (C := R_MO) (T := T_MO) (N := 18) hx hb hts iw_MO hown hK hP 0 rfl rfl 12 (by decide) (hts _ k_707) (fun _ h9 => h9) rfl d_MO_alike_135 ?_
            refine lv_iconst (v := 0) hx hb d_MO_alike_138 (by decide) ?_
            refine va_iald hx hb hK hP 4 0 rfl rfl (vp_in_nI (n := 0) (by decide) (by decide)) d_MO_alike_139 ?_
            refine va_iald hx hb hK hP 8 0 rfl rfl hv d_MO_alike_140 ?_
            refine lv_istore_n hx hb d_MO_alike_141 rfl hl (by decide) rfl (fun ls hl => ?_)
            have hl : lv_has ls 3 [(2, .int (fw p0.toNatClampNeg)), (1, .int (bI (decide (a = b0 ∧ x = b1 ∧ s0 = s1 ∧ z0 = z1 ∧ c0 = c1 ∧ ∀ j : Nat, j < i → g j = h j)))), (0, .ref o)] := hl
            refine lv_iload_n hx hb d_MO_alike_142 rfl (lv_at hl 1 rfl) ?_
            refine lv_if_eq (tgt := 198) hx hb d_MO_alike_143 rfl (fun h143 => ?_) (fun h143 => ?_)
            · have h143 : decide (a = b0 ∧ x = b1 ∧ s0 = s1 ∧ z0 = z1 ∧ c0 = c1 ∧ ∀ j : Nat, j < i → g j = h j) = false := bI_f h143
              refine lv_iconst (v := 0) hx hb d_MO_alike_198 (by decide) ?_
              have hP9 : va_P D vwCl [(o, .inr (5, [.int 0, .ref im, .int (bI tr), .ref rc, .ref bg, .int ro, .ref oa, .ref xa, .ref ya, .ref rg, .ref me, .ref sa, .ref pa, .ref za, .ref ca, .int (bI kp), .ref ta, .ref na])), (rg, .inl (cI, 6, .inl (rg6 a x d b0 b1 b2))), (me, .inl (cI, 512, .inl (mm2 g h))), (sa, .inl (cI, 2, .inl (p2 s0 s1))), (pa, .inl (cI, 2, .inl (p2 p0 p1))), (za, .inl (cZ, 2, .inl (p2 (bI z0) (bI z1)))), (ca, .inl (cZ, 2, .inl (p2 (bI c0) (bI c1)))), (ta, .inl (cI, 2, .inl (p2 t0 t1))), (bg, .inl (cI, 256, .inl fw))] H := hP.sub [0, 1, 2, 3, 4, 5, 6, 7, 8] rfl
              have hD9 : va_D A [(o, .inr (5, [.int 0, .ref im, .int (bI tr), .ref rc, .ref bg, .int ro, .ref oa, .ref xa, .ref ya, .ref rg, .ref me, .ref sa, .ref pa, .ref za, .ref ca, .int (bI kp), .ref ta, .ref na])), (rg, .inl (cI, 6, .inl (rg6 a x d b0 b1 b2))), (me, .inl (cI, 512, .inl (mm2 g h))), (sa, .inl (cI, 2, .inl (p2 s0 s1))), (pa, .inl (cI, 2, .inl (p2 p0 p1))), (za, .inl (cZ, 2, .inl (p2 (bI z0) (bI z1)))), (ca, .inl (cZ, 2, .inl (p2 (bI c0) (bI c1)))), (ta, .inl (cI, 2, .inl (p2 t0 t1))), (bg, .inl (cI, 256, .inl fw))] := hD.sub [0, 1, 2, 3, 4, 5, 6, 7, 8] (by decide) rfl
              exact W.zret (v := (bI false)) hx hb hr (nb_n _) (fun t ht hW => ⟨⟨(bI false), (), rfl, by rw [show i = 256 from hk] at h143; rw [alkB, h143]; rfl, by rw [ht]; exact hP9, va_K.moved hW.alike hK, hD9⟩, hS.F ht⟩) hS.2.2 d_MO_alike_199
            · have h143 : decide (a = b0 ∧ x = b1 ∧ s0 = s1 ∧ z0 = z1 ∧ c0 = c1 ∧ ∀ j : Nat, j < i → g j = h j) = true := bI_t h143
              refine lv_iload_n hx hb d_MO_alike_146 rfl (lv_at hl 0 rfl) ?_
              refine lv_iconst (v := (-1)) hx hb d_MO_alike_147 (by decide) ?_
              refine lv_icmp_eq (tgt := 198) hx hb d_MO_alike_148 rfl (fun h148 => ?_) (fun h148 => ?_)
              · have h148 : fw p0.toNatClampNeg = (-1) := h148
                refine lv_iconst (v := 0) hx hb d_MO_alike_198 (by decide) ?_
                have hP9 : va_P D vwCl [(o, .inr (5, [.int 0, .ref im, .int (bI tr), .ref rc, .ref bg, .int ro, .ref oa, .ref xa, .ref ya, .ref rg, .ref me, .ref sa, .ref pa, .ref za, .ref ca, .int (bI kp), .ref ta, .ref na])), (rg, .inl (cI, 6, .inl (rg6 a x d b0 b1 b2))), (me, .inl (cI, 512, .inl (mm2 g h))), (sa, .inl (cI, 2, .inl (p2 s0 s1))), (pa, .inl (cI, 2, .inl (p2 p0 p1))), (za, .inl (cZ, 2, .inl (p2 (bI z0) (bI z1)))), (ca, .inl (cZ, 2, .inl (p2 (bI c0) (bI c1)))), (ta, .inl (cI, 2, .inl (p2 t0 t1))), (bg, .inl (cI, 256, .inl fw))] H := hP.sub [0, 1, 2, 3, 4, 5, 6, 7, 8] rfl
                have hD9 : va_D A [(o, .inr (5, [.int 0, .ref im, .int (bI tr), .ref rc, .ref bg, .int ro, .ref oa, .ref xa, .ref ya, .ref rg, .ref me, .ref sa, .ref pa, .ref za, .ref ca, .int (bI kp), .ref ta, .ref na])), (rg, .inl (cI, 6, .inl (rg6 a x d b0 b1 b2))), (me, .inl (cI, 512, .inl (mm2 g h))), (sa, .inl (cI, 2, .inl (p2 s0 s1))), (pa, .inl (cI, 2, .inl (p2 p0 p1))), (za, .inl (cZ, 2, .inl (p2 (bI z0) (bI z1)))), (ca, .inl (cZ, 2, .inl (p2 (bI c0) (bI c1)))), (ta, .inl (cI, 2, .inl (p2 t0 t1))), (bg, .inl (cI, 256, .inl fw))] := hD.sub [0, 1, 2, 3, 4, 5, 6, 7, 8] (by decide) rfl
                exact W.zret (v := (bI false)) hx hb hr (nb_n _) (fun t ht hW => ⟨⟨(bI false), (), rfl, by rw [show i = 256 from hk] at h143; rw [alkB, h143, decide_eq_true h148]; rfl, by rw [ht]; exact hP9, va_K.moved hW.alike hK, hD9⟩, hS.F ht⟩) hS.2.2 d_MO_alike_199
              · have h148 : ¬ fw p0.toNatClampNeg = (-1) := h148
                refine lv_iload_n hx hb d_MO_alike_151 rfl (lv_at hl 0 rfl) ?_
                refine lv_aload_n hx hb d_MO_alike_152 rfl (lv_at hl 2 rfl) ?_
                refine va_get (D := D) (ci := 5) (v := .ref pa) (C := R_MO) (T := T_MO) (N := 18) hx hb hts iw_MO hown hK hP 0 rfl rfl 12 (by decide) (hts _ k_707) (fun _ h9 => h9) rfl d_MO_alike_153 ?_
                refine lv_iconst (v := 1) hx hb d_MO_alike_156 (by decide) ?_
                refine va_iald hx hb hK hP 4 0 rfl rfl (vp_in_nI (n := 1) (by decide) (by decide)) d_MO_alike_157 ?_
                refine lv_icmp_ne (tgt := 198) hx hb d_MO_alike_158 rfl (fun h158 => ?_) (fun h158 => ?_)
                · have h158 : ¬ fw p0.toNatClampNeg = p1 := h158
                  refine lv_iconst (v := 0) hx hb d_MO_alike_198 (by decide) ?_
                  have hP9 : va_P D vwCl [(o, .inr (5, [.int 0, .ref im, .int (bI tr), .ref rc, .ref bg, .int ro, .ref oa, .ref xa, .ref ya, .ref rg, .ref me, .ref sa, .ref pa, .ref za, .ref ca, .int (bI kp), .ref ta, .ref na])), (rg, .inl (cI, 6, .inl (rg6 a x d b0 b1 b2))), (me, .inl (cI, 512, .inl (mm2 g h))), (sa, .inl (cI, 2, .inl (p2 s0 s1))), (pa, .inl (cI, 2, .inl (p2 p0 p1))), (za, .inl (cZ, 2, .inl (p2 (bI z0) (bI z1)))), (ca, .inl (cZ, 2, .inl (p2 (bI c0) (bI c1)))), (ta, .inl (cI, 2, .inl (p2 t0 t1))), (bg, .inl (cI, 256, .inl fw))] H := hP.sub [0, 1, 2, 3, 4, 5, 6, 7, 8] rfl
                  have hD9 : va_D A [(o, .inr (5, [.int 0, .ref im, .int (bI tr), .ref rc, .ref bg, .int ro, .ref oa, .ref xa, .ref ya, .ref rg, .ref me, .ref sa, .ref pa, .ref za, .ref ca, .int (bI kp), .ref ta, .ref na])), (rg, .inl (cI, 6, .inl (rg6 a x d b0 b1 b2))), (me, .inl (cI, 512, .inl (mm2 g h))), (sa, .inl (cI, 2, .inl (p2 s0 s1))), (pa, .inl (cI, 2, .inl (p2 p0 p1))), (za, .inl (cZ, 2, .inl (p2 (bI z0) (bI z1)))), (ca, .inl (cZ, 2, .inl (p2 (bI c0) (bI c1)))), (ta, .inl (cI, 2, .inl (p2 t0 t1))), (bg, .inl (cI, 256, .inl fw))] := hD.sub [0, 1, 2, 3, 4, 5, 6, 7, 8] (by decide) rfl
                  exact W.zret (v := (bI false)) hx hb hr (nb_n _) (fun t ht hW => ⟨⟨(bI false), (), rfl, by rw [show i = 256 from hk] at h143; rw [alkB, h143, decide_eq_false h148, decide_eq_false h158]; rfl, by rw [ht]; exact hP9, va_K.moved hW.alike hK, hD9⟩, hS.F ht⟩) hS.2.2 d_MO_alike_199
                · have h158 : fw p0.toNatClampNeg = p1 := h158
                  refine lv_aload_n hx hb d_MO_alike_161 rfl (lv_at hl 2 rfl) ?_
                  refine va_get (D := D) (ci := 5) (v := .ref ta) (C := R_MO) (T := T_MO) (N := 18) hx hb hts iw_MO hown hK hP 0 rfl rfl 16 (by decide) (hts _ k_711) (fun _ h9 => h9) rfl d_MO_alike_162 ?_
                  refine lv_iconst (v := 0) hx hb d_MO_alike_165 (by decide) ?_
                  refine va_iald hx hb hK hP 7 0 rfl rfl (vp_in_nI (n := 0) (by decide) (by decide)) d_MO_alike_166 ?_
                  refine lv_iconst (v := 1) hx hb d_MO_alike_167 (by decide) ?_
                  refine lv_icmp_ne (tgt := 175) hx hb d_MO_alike_168 rfl (fun h168 => ?_) (fun h168 => ?_)
                  · have h168 : ¬ t0 = 1 := h168
                    refine lv_iconst (v := 0) hx hb d_MO_alike_175 (by decide) ?_
                    refine lv_aload_n hx hb d_MO_alike_176 rfl (lv_at hl 2 rfl) ?_
                    refine va_get (D := D) (ci := 5) (v := .ref ta) (C := R_MO) (T := T_MO) (N := 18) hx hb hts iw_MO hown hK hP 0 rfl rfl 16 (by decide) (hts _ k_711) (fun _ h9 => h9) rfl d_MO_alike_177 ?_
                    refine lv_iconst (v := 1) hx hb d_MO_alike_180 (by decide) ?_
                    refine va_iald hx hb hK hP 7 0 rfl rfl (vp_in_nI (n := 1) (by decide) (by decide)) d_MO_alike_181 ?_
                    refine lv_iconst (v := 1) hx hb d_MO_alike_182 (by decide) ?_
                    refine lv_icmp_ne (tgt := 190) hx hb d_MO_alike_183 rfl (fun h183 => ?_) (fun h183 => ?_)
                    · have h183 : ¬ t1 = 1 := h183
                      refine lv_iconst (v := 0) hx hb d_MO_alike_190 (by decide) ?_
                      refine lv_icmp_ne (tgt := 198) hx hb d_MO_alike_191 rfl (fun hq9 => absurd (by decide) hq9) (fun _ => ?_)
                      refine lv_iconst (v := 1) hx hb d_MO_alike_194 (by decide) ?_
                      refine lv_goto (tgt := 199) hx hb d_MO_alike_195 rfl ?_
                      have hP9 : va_P D vwCl [(o, .inr (5, [.int 0, .ref im, .int (bI tr), .ref rc, .ref bg, .int ro, .ref oa, .ref xa, .ref ya, .ref rg, .ref me, .ref sa, .ref pa, .ref za, .ref ca, .int (bI kp), .ref ta, .ref na])), (rg, .inl (cI, 6, .inl (rg6 a x d b0 b1 b2))), (me, .inl (cI, 512, .inl (mm2 g h))), (sa, .inl (cI, 2, .inl (p2 s0 s1))), (pa, .inl (cI, 2, .inl (p2 p0 p1))), (za, .inl (cZ, 2, .inl (p2 (bI z0) (bI z1)))), (ca, .inl (cZ, 2, .inl (p2 (bI c0) (bI c1)))), (ta, .inl (cI, 2, .inl (p2 t0 t1))), (bg, .inl (cI, 256, .inl fw))] H := hP.sub [0, 1, 2, 3, 4, 5, 6, 7, 8] rfl
                      have hD9 : va_D A [(o, .inr (5, [.int 0, .ref im, .int (bI tr), .ref rc, .ref bg, .int ro, .ref oa, .ref xa, .ref ya, .ref rg, .ref me, .ref sa, .ref pa, .ref za, .ref ca, .int (bI kp), .ref ta, .ref na])), (rg, .inl (cI, 6, .inl (rg6 a x d b0 b1 b2))), (me, .inl (cI, 512, .inl (mm2 g h))), (sa, .inl (cI, 2, .inl (p2 s0 s1))), (pa, .inl (cI, 2, .inl (p2 p0 p1))), (za, .inl (cZ, 2, .inl (p2 (bI z0) (bI z1)))), (ca, .inl (cZ, 2, .inl (p2 (bI c0) (bI c1)))), (ta, .inl (cI, 2, .inl (p2 t0 t1))), (bg, .inl (cI, 256, .inl fw))] := hD.sub [0, 1, 2, 3, 4, 5, 6, 7, 8] (by decide) rfl
                      exact W.zret (v := (bI true)) hx hb hr (nb_n _) (fun t ht hW => ⟨⟨(bI true), (), rfl, by rw [show i = 256 from hk] at h143; rw [alkB, h143, decide_eq_false h148, decide_eq_true h158, decide_eq_false h168, decide_eq_false h183]; rfl, by rw [ht]; exact hP9, va_K.moved hW.alike hK, hD9⟩, hS.F ht⟩) hS.2.2 d_MO_alike_199
                    · have h183 : t1 = 1 := h183
                      refine lv_iconst (v := 1) hx hb d_MO_alike_186 (by decide) ?_
                      refine lv_goto (tgt := 191) hx hb d_MO_alike_187 rfl ?_
                      refine lv_icmp_ne (tgt := 198) hx hb d_MO_alike_191 rfl (fun _ => ?_) (fun hq9 => absurd hq9 (by decide))
                      refine lv_iconst (v := 0) hx hb d_MO_alike_198 (by decide) ?_
                      have hP9 : va_P D vwCl [(o, .inr (5, [.int 0, .ref im, .int (bI tr), .ref rc, .ref bg, .int ro, .ref oa, .ref xa, .ref ya, .ref rg, .ref me, .ref sa, .ref pa, .ref za, .ref ca, .int (bI kp), .ref ta, .ref na])), (rg, .inl (cI, 6, .inl (rg6 a x d b0 b1 b2))), (me, .inl (cI, 512, .inl (mm2 g h))), (sa, .inl (cI, 2, .inl (p2 s0 s1))), (pa, .inl (cI, 2, .inl (p2 p0 p1))), (za, .inl (cZ, 2, .inl (p2 (bI z0) (bI z1)))), (ca, .inl (cZ, 2, .inl (p2 (bI c0) (bI c1)))), (ta, .inl (cI, 2, .inl (p2 t0 t1))), (bg, .inl (cI, 256, .inl fw))] H := hP.sub [0, 1, 2, 3, 4, 5, 6, 7, 8] rfl
                      have hD9 : va_D A [(o, .inr (5, [.int 0, .ref im, .int (bI tr), .ref rc, .ref bg, .int ro, .ref oa, .ref xa, .ref ya, .ref rg, .ref me, .ref sa, .ref pa, .ref za, .ref ca, .int (bI kp), .ref ta, .ref na])), (rg, .inl (cI, 6, .inl (rg6 a x d b0 b1 b2))), (me, .inl (cI, 512, .inl (mm2 g h))), (sa, .inl (cI, 2, .inl (p2 s0 s1))), (pa, .inl (cI, 2, .inl (p2 p0 p1))), (za, .inl (cZ, 2, .inl (p2 (bI z0) (bI z1)))), (ca, .inl (cZ, 2, .inl (p2 (bI c0) (bI c1)))), (ta, .inl (cI, 2, .inl (p2 t0 t1))), (bg, .inl (cI, 256, .inl fw))] := hD.sub [0, 1, 2, 3, 4, 5, 6, 7, 8] (by decide) rfl
                      exact W.zret (v := (bI false)) hx hb hr (nb_n _) (fun t ht hW => ⟨⟨(bI false), (), rfl, by rw [show i = 256 from hk] at h143; rw [alkB, h143, decide_eq_false h148, decide_eq_true h158, decide_eq_false h168, decide_eq_true h183]; rfl, by rw [ht]; exact hP9, va_K.moved hW.alike hK, hD9⟩, hS.F ht⟩) hS.2.2 d_MO_alike_199
                  · have h168 : t0 = 1 := h168
                    refine lv_iconst (v := 1) hx hb d_MO_alike_171 (by decide) ?_
                    refine lv_goto (tgt := 176) hx hb d_MO_alike_172 rfl ?_
                    refine lv_aload_n hx hb d_MO_alike_176 rfl (lv_at hl 2 rfl) ?_
                    refine va_get (D := D) (ci := 5) (v := .ref ta) (C := R_MO) (T := T_MO) (N := 18) hx hb hts iw_MO hown hK hP 0 rfl rfl 16 (by decide) (hts _ k_711) (fun _ h9 => h9) rfl d_MO_alike_177 ?_
                    refine lv_iconst (v := 1) hx hb d_MO_alike_180 (by decide) ?_
                    refine va_iald hx hb hK hP 7 0 rfl rfl (vp_in_nI (n := 1) (by decide) (by decide)) d_MO_alike_181 ?_
                    refine lv_iconst (v := 1) hx hb d_MO_alike_182 (by decide) ?_
                    refine lv_icmp_ne (tgt := 190) hx hb d_MO_alike_183 rfl (fun h183 => ?_) (fun h183 => ?_)
                    · have h183 : ¬ t1 = 1 := h183
                      refine lv_iconst (v := 0) hx hb d_MO_alike_190 (by decide) ?_
                      refine lv_icmp_ne (tgt := 198) hx hb d_MO_alike_191 rfl (fun _ => ?_) (fun hq9 => absurd hq9 (by decide))
                      refine lv_iconst (v := 0) hx hb d_MO_alike_198 (by decide) ?_
                      have hP9 : va_P D vwCl [(o, .inr (5, [.int 0, .ref im, .int (bI tr), .ref rc, .ref bg, .int ro, .ref oa, .ref xa, .ref ya, .ref rg, .ref me, .ref sa, .ref pa, .ref za, .ref ca, .int (bI kp), .ref ta, .ref na])), (rg, .inl (cI, 6, .inl (rg6 a x d b0 b1 b2))), (me, .inl (cI, 512, .inl (mm2 g h))), (sa, .inl (cI, 2, .inl (p2 s0 s1))), (pa, .inl (cI, 2, .inl (p2 p0 p1))), (za, .inl (cZ, 2, .inl (p2 (bI z0) (bI z1)))), (ca, .inl (cZ, 2, .inl (p2 (bI c0) (bI c1)))), (ta, .inl (cI, 2, .inl (p2 t0 t1))), (bg, .inl (cI, 256, .inl fw))] H := hP.sub [0, 1, 2, 3, 4, 5, 6, 7, 8] rfl
                      have hD9 : va_D A [(o, .inr (5, [.int 0, .ref im, .int (bI tr), .ref rc, .ref bg, .int ro, .ref oa, .ref xa, .ref ya, .ref rg, .ref me, .ref sa, .ref pa, .ref za, .ref ca, .int (bI kp), .ref ta, .ref na])), (rg, .inl (cI, 6, .inl (rg6 a x d b0 b1 b2))), (me, .inl (cI, 512, .inl (mm2 g h))), (sa, .inl (cI, 2, .inl (p2 s0 s1))), (pa, .inl (cI, 2, .inl (p2 p0 p1))), (za, .inl (cZ, 2, .inl (p2 (bI z0) (bI z1)))), (ca, .inl (cZ, 2, .inl (p2 (bI c0) (bI c1)))), (ta, .inl (cI, 2, .inl (p2 t0 t1))), (bg, .inl (cI, 256, .inl fw))] := hD.sub [0, 1, 2, 3, 4, 5, 6, 7, 8] (by decide) rfl
                      exact W.zret (v := (bI false)) hx hb hr (nb_n _) (fun t ht hW => ⟨⟨(bI false), (), rfl, by rw [show i = 256 from hk] at h143; rw [alkB, h143, decide_eq_false h148, decide_eq_true h158, decide_eq_true h168, decide_eq_false h183]; rfl, by rw [ht]; exact hP9, va_K.moved hW.alike hK, hD9⟩, hS.F ht⟩) hS.2.2 d_MO_alike_199
                    · have h183 : t1 = 1 := h183
                      refine lv_iconst (v := 1) hx hb d_MO_alike_186 (by decide) ?_
                      refine lv_goto (tgt := 191) hx hb d_MO_alike_187 rfl ?_
                      refine lv_icmp_ne (tgt := 198) hx hb d_MO_alike_191 rfl (fun hq9 => absurd (by decide) hq9) (fun _ => ?_)
                      refine lv_iconst (v := 1) hx hb d_MO_alike_194 (by decide) ?_
                      refine lv_goto (tgt := 199) hx hb d_MO_alike_195 rfl ?_
                      have hP9 : va_P D vwCl [(o, .inr (5, [.int 0, .ref im, .int (bI tr), .ref rc, .ref bg, .int ro, .ref oa, .ref xa, .ref ya, .ref rg, .ref me, .ref sa, .ref pa, .ref za, .ref ca, .int (bI kp), .ref ta, .ref na])), (rg, .inl (cI, 6, .inl (rg6 a x d b0 b1 b2))), (me, .inl (cI, 512, .inl (mm2 g h))), (sa, .inl (cI, 2, .inl (p2 s0 s1))), (pa, .inl (cI, 2, .inl (p2 p0 p1))), (za, .inl (cZ, 2, .inl (p2 (bI z0) (bI z1)))), (ca, .inl (cZ, 2, .inl (p2 (bI c0) (bI c1)))), (ta, .inl (cI, 2, .inl (p2 t0 t1))), (bg, .inl (cI, 256, .inl fw))] H := hP.sub [0, 1, 2, 3, 4, 5, 6, 7, 8] rfl
                      have hD9 : va_D A [(o, .inr (5, [.int 0, .ref im, .int (bI tr), .ref rc, .ref bg, .int ro, .ref oa, .ref xa, .ref ya, .ref rg, .ref me, .ref sa, .ref pa, .ref za, .ref ca, .int (bI kp), .ref ta, .ref na])), (rg, .inl (cI, 6, .inl (rg6 a x d b0 b1 b2))), (me, .inl (cI, 512, .inl (mm2 g h))), (sa, .inl (cI, 2, .inl (p2 s0 s1))), (pa, .inl (cI, 2, .inl (p2 p0 p1))), (za, .inl (cZ, 2, .inl (p2 (bI z0) (bI z1)))), (ca, .inl (cZ, 2, .inl (p2 (bI c0) (bI c1)))), (ta, .inl (cI, 2, .inl (p2 t0 t1))), (bg, .inl (cI, 256, .inl fw))] := hD.sub [0, 1, 2, 3, 4, 5, 6, 7, 8] (by decide) rfl
                      exact W.zret (v := (bI true)) hx hb hr (nb_n _) (fun t ht hW => ⟨⟨(bI true), (), rfl, by rw [show i = 256 from hk] at h143; rw [alkB, h143, decide_eq_false h148, decide_eq_true h158, decide_eq_true h168, decide_eq_true h183]; rfl, by rw [ht]; exact hP9, va_K.moved hW.alike hK, hD9⟩, hS.F ht⟩) hS.2.2 d_MO_alike_199
          | succ k ih =>
            intro i hk H locs ls hl hP hD hS
            refine lv_iload_n hx hb d_MO_alike_88 rfl (lv_at hl 0 rfl) ?_
            refine lv_sipush (v := 256) hx hb d_MO_alike_89 (by decide) ?_
            refine lv_icmp_ge (tgt := 130) hx hb d_MO_alike_92 rfl (fun hq9 => absurd hq9 (nI_ge (b := 256) (by omega) (by decide))) (fun _ => ?_)
            refine lv_iload_n hx hb d_MO_alike_95 rfl (lv_at hl 1 rfl) ?_
            refine lv_if_eq (tgt := 122) hx hb d_MO_alike_96 rfl (fun h96 => ?_) (fun h96 => ?_)
            · have h96 : decide (a = b0 ∧ x = b1 ∧ s0 = s1 ∧ z0 = z1 ∧ c0 = c1 ∧ ∀ j : Nat, j < i → g j = h j) = false := bI_f h96
              refine lv_iconst (v := 0) hx hb d_MO_alike_122 (by decide) ?_
              refine lv_istore_n hx hb d_MO_alike_123 rfl hl (by decide) rfl (fun ls hl => ?_)
              have hl : lv_has ls 3 [(1, .int 0), (2, .int (nI i)), (0, .ref o)] := hl
              refine lv_iinc (k := 1) (v := nI (i + 1)) hx hb d_MO_alike_124 hl rfl (nI_inc _) (by decide) rfl (fun ls hl => ?_)
              have hl : lv_has ls 3 [(2, .int (nI (i + 1))), (1, .int 0), (0, .ref o)] := hl
              refine lv_goto (tgt := 88) hx hb d_MO_alike_127 rfl ?_
              exact ih (i + 1) (by omega) H locs ls (by rw [show decide (a = b0 ∧ x = b1 ∧ s0 = s1 ∧ z0 = z1 ∧ c0 = c1 ∧ ∀ j : Nat, j < (i + 1) → g j = h j) = false from decide_eq_false (fun q => of_decide_eq_false h96 ⟨q.1, q.2.1, q.2.2.1, q.2.2.2.1, q.2.2.2.2.1, fun j hj => q.2.2.2.2.2 j (by omega)⟩)]; exact hl) hP hD hS
            · have h96 : decide (a = b0 ∧ x = b1 ∧ s0 = s1 ∧ z0 = z1 ∧ c0 = c1 ∧ ∀ j : Nat, j < i → g j = h j) = true := bI_t h96
              refine lv_aload_n hx hb d_MO_alike_99 rfl (lv_at hl 2 rfl) ?_
              refine va_get (D := D) (ci := 5) (v := .ref me) (C := R_MO) (T := T_MO) (N := 18) hx hb hts iw_MO hown hK hP 0 rfl rfl 10 (by decide) (hts _ k_705) (fun _ h9 => h9) rfl d_MO_alike_100 ?_
              refine lv_iload_n hx hb d_MO_alike_103 rfl (lv_at hl 0 rfl) ?_
              refine va_iald hx hb hK hP 2 0 rfl rfl (vp_in_nI (by omega) (by decide)) d_MO_alike_104 ?_
              refine lv_topi (fun y9 e9 => ?_)
              have e9 : y9 = g i := e9.trans (mmi_0 _ _ (by omega))
              subst e9
              refine lv_aload_n hx hb d_MO_alike_105 rfl (lv_at hl 2 rfl) ?_
              refine va_get (D := D) (ci := 5) (v := .ref me) (C := R_MO) (T := T_MO) (N := 18) hx hb hts iw_MO hown hK hP 0 rfl rfl 10 (by decide) (hts _ k_705) (fun _ h9 => h9) rfl d_MO_alike_106 ?_
              refine lv_sipush (v := 256) hx hb d_MO_alike_109 (by decide) ?_
              refine lv_iload_n hx hb d_MO_alike_112 rfl (lv_at hl 0 rfl) ?_
              refine lv_iadd hx hb d_MO_alike_113 ?_
              refine va_iald hx hb hK hP 2 0 rfl rfl (ini_1 (by omega)) d_MO_alike_114 ?_
              refine lv_topi (fun y9 e9 => ?_)
              have e9 : y9 = h i := e9.trans (mmi_1 _ _ (by omega))
              subst e9
              refine lv_icmp_ne (tgt := 122) hx hb d_MO_alike_115 rfl (fun h115 => ?_) (fun h115 => ?_)
              · have h115 : ¬ g i = h i := h115
                refine lv_iconst (v := 0) hx hb d_MO_alike_122 (by decide) ?_
                refine lv_istore_n hx hb d_MO_alike_123 rfl hl (by decide) rfl (fun ls hl => ?_)
                have hl : lv_has ls 3 [(1, .int 0), (2, .int (nI i)), (0, .ref o)] := hl
                refine lv_iinc (k := 1) (v := nI (i + 1)) hx hb d_MO_alike_124 hl rfl (nI_inc _) (by decide) rfl (fun ls hl => ?_)
                have hl : lv_has ls 3 [(2, .int (nI (i + 1))), (1, .int 0), (0, .ref o)] := hl
                refine lv_goto (tgt := 88) hx hb d_MO_alike_127 rfl ?_
                exact ih (i + 1) (by omega) H locs ls (by rw [show decide (a = b0 ∧ x = b1 ∧ s0 = s1 ∧ z0 = z1 ∧ c0 = c1 ∧ ∀ j : Nat, j < (i + 1) → g j = h j) = false from decide_eq_false (fun q => h115 (q.2.2.2.2.2 i (by omega)))]; exact hl) hP hD hS
              · have h115 : g i = h i := h115
                refine lv_iconst (v := 1) hx hb d_MO_alike_118 (by decide) ?_
                refine lv_goto (tgt := 123) hx hb d_MO_alike_119 rfl ?_
                refine lv_istore_n hx hb d_MO_alike_123 rfl hl (by decide) rfl (fun ls hl => ?_)
                have hl : lv_has ls 3 [(1, .int 1), (2, .int (nI i)), (0, .ref o)] := hl
                refine lv_iinc (k := 1) (v := nI (i + 1)) hx hb d_MO_alike_124 hl rfl (nI_inc _) (by decide) rfl (fun ls hl => ?_)
                have hl : lv_has ls 3 [(2, .int (nI (i + 1))), (1, .int 1), (0, .ref o)] := hl
                refine lv_goto (tgt := 88) hx hb d_MO_alike_127 rfl ?_
                exact ih (i + 1) (by omega) H locs ls (by rw [show decide (a = b0 ∧ x = b1 ∧ s0 = s1 ∧ z0 = z1 ∧ c0 = c1 ∧ ∀ j : Nat, j < (i + 1) → g j = h j) = true from decide_eq_true ⟨(of_decide_eq_true h96).1, (of_decide_eq_true h96).2.1, (of_decide_eq_true h96).2.2.1, (of_decide_eq_true h96).2.2.2.1, (of_decide_eq_true h96).2.2.2.2.1, lt_s (of_decide_eq_true h96).2.2.2.2.2 h115⟩]; exact hl) hP hD hS
        exact loop 256 0 rfl H locs ls (by rw [show decide (a = b0 ∧ x = b1 ∧ s0 = s1 ∧ z0 = z1 ∧ c0 = c1 ∧ ∀ j : Nat, j < 0 → g j = h j) = false from decide_eq_false (fun q => h47 q.2.2.1)]; exact hl) hP hD hS
      · have h47 : s0 = s1 := h47
        refine lv_aload_n hx hb d_MO_alike_50 rfl (lv_at hl 0 rfl) ?_
        refine va_get (D := D) (ci := 5) (v := .ref za) (C := R_MO) (T := T_MO) (N := 18) hx hb hts iw_MO hown hK hP 0 rfl rfl 13 (by decide) (hts _ k_708) (fun _ h9 => h9) rfl d_MO_alike_51 ?_
        refine lv_iconst (v := 0) hx hb d_MO_alike_54 (by decide) ?_
        refine va_zald hx hb hK hP 5 1 rfl rfl (vp_in_nI (n := 0) (by decide) (by decide)) d_MO_alike_55 ?_
        refine lv_aload_n hx hb d_MO_alike_56 rfl (lv_at hl 0 rfl) ?_
        refine va_get (D := D) (ci := 5) (v := .ref za) (C := R_MO) (T := T_MO) (N := 18) hx hb hts iw_MO hown hK hP 0 rfl rfl 13 (by decide) (hts _ k_708) (fun _ h9 => h9) rfl d_MO_alike_57 ?_
        refine lv_iconst (v := 1) hx hb d_MO_alike_60 (by decide) ?_
        refine va_zald hx hb hK hP 5 1 rfl rfl (vp_in_nI (n := 1) (by decide) (by decide)) d_MO_alike_61 ?_
        refine lv_icmp_ne (tgt := 84) hx hb d_MO_alike_62 rfl (fun h62 => ?_) (fun h62 => ?_)
        · have h62 : ¬ bI z0 = bI z1 := h62
          refine lv_iconst (v := 0) hx hb d_MO_alike_84 (by decide) ?_
          refine lv_istore_n hx hb d_MO_alike_85 rfl hl (by decide) rfl (fun ls hl => ?_)
          have hl : lv_has ls 3 [(1, .int 0), (0, .ref o)] := hl
          refine lv_iconst (v := 0) hx hb d_MO_alike_86 (by decide) ?_
          refine lv_istore_n hx hb d_MO_alike_87 rfl hl (by decide) rfl (fun ls hl => ?_)
          have hl : lv_has ls 3 [(2, .int 0), (1, .int 0), (0, .ref o)] := hl
          have loop : ∀ (k : Nat) (i : Nat), (i + k = 256) → ∀ (H : Heap) (locs : List Loc) (ls : Array Slot), lv_has ls 3 [(2, .int (nI i)), (1, .int (bI (decide (a = b0 ∧ x = b1 ∧ s0 = s1 ∧ z0 = z1 ∧ c0 = c1 ∧ ∀ j : Nat, j < i → g j = h j)))), (0, .ref o)] → va_P D vwCl [(o, .inr (5, [.int 0, .ref im, .int (bI tr), .ref rc, .ref bg, .int ro, .ref oa, .ref xa, .ref ya, .ref rg, .ref me, .ref sa, .ref pa, .ref za, .ref ca, .int (bI kp), .ref ta, .ref na])), (rg, .inl (cI, 6, .inl (rg6 a x d b0 b1 b2))), (me, .inl (cI, 512, .inl (mm2 g h))), (sa, .inl (cI, 2, .inl (p2 s0 s1))), (pa, .inl (cI, 2, .inl (p2 p0 p1))), (za, .inl (cZ, 2, .inl (p2 (bI z0) (bI z1)))), (ca, .inl (cZ, 2, .inl (p2 (bI c0) (bI c1)))), (ta, .inl (cI, 2, .inl (p2 t0 t1))), (bg, .inl (cI, 256, .inl fw))] H → va_D A [(o, .inr (5, [.int 0, .ref im, .int (bI tr), .ref rc, .ref bg, .int ro, .ref oa, .ref xa, .ref ya, .ref rg, .ref me, .ref sa, .ref pa, .ref za, .ref ca, .int (bI kp), .ref ta, .ref na])), (rg, .inl (cI, 6, .inl (rg6 a x d b0 b1 b2))), (me, .inl (cI, 512, .inl (mm2 g h))), (sa, .inl (cI, 2, .inl (p2 s0 s1))), (pa, .inl (cI, 2, .inl (p2 p0 p1))), (za, .inl (cZ, 2, .inl (p2 (bI z0) (bI z1)))), (ca, .inl (cZ, 2, .inl (p2 (bI c0) (bI c1)))), (ta, .inl (cI, 2, .inl (p2 t0 t1))), (bg, .inl (cI, 256, .inl fw))] → va_S A s.heap H locs → W p l e { frames := 0, cells := 0, slots := 0, locals := 0 } s m args below meth c H locs 0 0 (MQ below (QI D cI cZ (fun r (_ : Unit) => r = bI (alkB (decide (a = b0 ∧ x = b1 ∧ s0 = s1 ∧ z0 = z1 ∧ c0 = c1 ∧ ∀ j : Nat, j < 256 → g j = h j)) (fw p0.toNatClampNeg) p1 t0 t1)) (fun (_ : Unit) => [(o, .inr (5, [.int 0, .ref im, .int (bI tr), .ref rc, .ref bg, .int ro, .ref oa, .ref xa, .ref ya, .ref rg, .ref me, .ref sa, .ref pa, .ref za, .ref ca, .int (bI kp), .ref ta, .ref na])), (rg, .inl (cI, 6, .inl (rg6 a x d b0 b1 b2))), (me, .inl (cI, 512, .inl (mm2 g h))), (sa, .inl (cI, 2, .inl (p2 s0 s1))), (pa, .inl (cI, 2, .inl (p2 p0 p1))), (za, .inl (cZ, 2, .inl (p2 (bI z0) (bI z1)))), (ca, .inl (cZ, 2, .inl (p2 (bI c0) (bI c1)))), (ta, .inl (cI, 2, .inl (p2 t0 t1))), (bg, .inl (cI, 256, .inl fw))]) A) args s 0 0 A) (F0 m 88 ls []) := by
            intro k
            induction k with
            | zero =>
              intro i hk H locs ls hl hP hD hS
              refine lv_iload_n hx hb d_MO_alike_88 rfl (lv_at hl 0 rfl) ?_
              refine lv_sipush (v := 256) hx hb d_MO_alike_89 (by decide) ?_
              refine lv_icmp_ge (tgt := 130) hx hb d_MO_alike_92 rfl (fun _ => ?_) (fun hq9 => absurd (by rw [show i = 256 from hk]; decide) hq9)
              refine lv_aload_n hx hb d_MO_alike_130 rfl (lv_at hl 2 rfl) ?_
              refine va_get (D := D) (ci := 5) (v := .ref bg) (C := R_MO) (T := T_MO) (N := 18) hx hb hts iw_MO hown hK hP 0 rfl rfl 4 (by decide) (hts _ k_699) (fun _ h9 => h9) rfl d_MO_alike_131 ?_
              refine lv_aload_n hx hb d_MO_alike_134 rfl (lv_at hl 2 rfl) ?_
              refine va_get (D := D) (ci := 5) (v := .ref pa) (C := R_MO) (T := T_MO) (N := 18) hx hb hts iw_MO hown hK hP 0 rfl rfl 12 (by decide) (hts _ k_707) (fun _ h9 => h9) rfl d_MO_alike_135 ?_
              refine lv_iconst (v := 0) hx hb d_MO_alike_138 (by decide) ?_
              refine va_iald hx hb hK hP 4 0 rfl rfl (vp_in_nI (n := 0) (by decide) (by decide)) d_MO_alike_139 ?_
              refine va_iald hx hb hK hP 8 0 rfl rfl hv d_MO_alike_140 ?_
              refine lv_istore_n hx hb d_MO_alike_141 rfl hl (by decide) rfl (fun ls hl => ?_)
              have hl : lv_has ls 3 [(2, .int (fw p0.toNatClampNeg)), (1, .int (bI (decide (a = b0 ∧ x = b1 ∧ s0 = s1 ∧ z0 = z1 ∧ c0 = c1 ∧ ∀ j : Nat, j < i → g j = h j)))), (0, .ref o)] := hl
              refine lv_iload_n hx hb d_MO_alike_142 rfl (lv_at hl 1 rfl) ?_
              refine lv_if_eq (tgt := 198) hx hb d_MO_alike_143 rfl (fun h143 => ?_) (fun h143 => ?_)
              · have h143 : decide (a = b0 ∧ x = b1 ∧ s0 = s1 ∧ z0 = z1 ∧ c0 = c1 ∧ ∀ j : Nat, j < i → g j = h j) = false := bI_f h143
                refine lv_iconst (v := 0) hx hb d_MO_alike_198 (by decide) ?_
                have hP9 : va_P D vwCl [(o, .inr (5, [.int 0, .ref im, .int (bI tr), .ref rc, .ref bg, .int ro, .ref oa, .ref xa, .ref ya, .ref rg, .ref me, .ref sa, .ref pa, .ref za, .ref ca, .int (bI kp), .ref ta, .ref na])), (rg, .inl (cI, 6, .inl (rg6 a x d b0 b1 b2))), (me, .inl (cI, 512, .inl (mm2 g h))), (sa, .inl (cI, 2, .inl (p2 s0 s1))), (pa, .inl (cI, 2, .inl (p2 p0 p1))), (za, .inl (cZ, 2, .inl (p2 (bI z0) (bI z1)))), (ca, .inl (cZ, 2, .inl (p2 (bI c0) (bI c1)))), (ta, .inl (cI, 2, .inl (p2 t0 t1))), (bg, .inl (cI, 256, .inl fw))] H := hP.sub [0, 1, 2, 3, 4, 5, 6, 7, 8] rfl
                have hD9 : va_D A [(o, .inr (5, [.int 0, .ref im, .int (bI tr), .ref rc, .ref bg, .int ro, .ref oa, .ref xa, .ref ya, .ref rg, .ref me, .ref sa, .ref pa, .ref za, .ref ca, .int (bI kp), .ref ta, .ref na])), (rg, .inl (cI, 6, .inl (rg6 a x d b0 b1 b2))), (me, .inl (cI, 512, .inl (mm2 g h))), (sa, .inl (cI, 2, .inl (p2 s0 s1))), (pa, .inl (cI, 2, .inl (p2 p0 p1))), (za, .inl (cZ, 2, .inl (p2 (bI z0) (bI z1)))), (ca, .inl (cZ, 2, .inl (p2 (bI c0) (bI c1)))), (ta, .inl (cI, 2, .inl (p2 t0 t1))), (bg, .inl (cI, 256, .inl fw))] := hD.sub [0, 1, 2, 3, 4, 5, 6, 7, 8] (by decide) rfl
                exact W.zret (v := (bI false)) hx hb hr (nb_n _) (fun t ht hW => ⟨⟨(bI false), (), rfl, by rw [show i = 256 from hk] at h143; rw [alkB, h143]; rfl, by rw [ht]; exact hP9, va_K.moved hW.alike hK, hD9⟩, hS.F ht⟩) hS.2.2 d_MO_alike_199
              · have h143 : decide (a = b0 ∧ x = b1 ∧ s0 = s1 ∧ z0 = z1 ∧ c0 = c1 ∧ ∀ j : Nat, j < i → g j = h j) = true := bI_t h143
                refine lv_iload_n hx hb d_MO_alike_146 rfl (lv_at hl 0 rfl) ?_
                refine lv_iconst (v := (-1)) hx hb d_MO_alike_147 (by decide) ?_
                refine lv_icmp_eq (tgt := 198) hx hb d_MO_alike_148 rfl (fun h148 => ?_) (fun h148 => ?_)
                · have h148 : fw p0.toNatClampNeg = (-1) := h148
                  refine lv_iconst (v := 0) hx hb d_MO_alike_198 (by decide) ?_
                  have hP9 : va_P D vwCl [(o, .inr (5, [.int 0, .ref im, .int (bI tr), .ref rc, .ref bg, .int ro, .ref oa, .ref xa, .ref ya, .ref rg, .ref me, .ref sa, .ref pa, .ref za, .ref ca, .int (bI kp), .ref ta, .ref na])), (rg, .inl (cI, 6, .inl (rg6 a x d b0 b1 b2))), (me, .inl (cI, 512, .inl (mm2 g h))), (sa, .inl (cI, 2, .inl (p2 s0 s1))), (pa, .inl (cI, 2, .inl (p2 p0 p1))), (za, .inl (cZ, 2, .inl (p2 (bI z0) (bI z1)))), (ca, .inl (cZ, 2, .inl (p2 (bI c0) (bI c1)))), (ta, .inl (cI, 2, .inl (p2 t0 t1))), (bg, .inl (cI, 256, .inl fw))] H := hP.sub [0, 1, 2, 3, 4, 5, 6, 7, 8] rfl
                  have hD9 : va_D A [(o, .inr (5, [.int 0, .ref im, .int (bI tr), .ref rc, .ref bg, .int ro, .ref oa, .ref xa, .ref ya, .ref rg, .ref me, .ref sa, .ref pa, .ref za, .ref ca, .int (bI kp), .ref ta, .ref na])), (rg, .inl (cI, 6, .inl (rg6 a x d b0 b1 b2))), (me, .inl (cI, 512, .inl (mm2 g h))), (sa, .inl (cI, 2, .inl (p2 s0 s1))), (pa, .inl (cI, 2, .inl (p2 p0 p1))), (za, .inl (cZ, 2, .inl (p2 (bI z0) (bI z1)))), (ca, .inl (cZ, 2, .inl (p2 (bI c0) (bI c1)))), (ta, .inl (cI, 2, .inl (p2 t0 t1))), (bg, .inl (cI, 256, .inl fw))] := hD.sub [0, 1, 2, 3, 4, 5, 6, 7, 8] (by decide) rfl
                  exact W.zret (v := (bI false)) hx hb hr (nb_n _) (fun t ht hW => ⟨⟨(bI false), (), rfl, by rw [show i = 256 from hk] at h143; rw [alkB, h143, decide_eq_true h148]; rfl, by rw [ht]; exact hP9, va_K.moved hW.alike hK, hD9⟩, hS.F ht⟩) hS.2.2 d_MO_alike_199
                · have h148 : ¬ fw p0.toNatClampNeg = (-1) := h148
                  refine lv_iload_n hx hb d_MO_alike_151 rfl (lv_at hl 0 rfl) ?_
                  refine lv_aload_n hx hb d_MO_alike_152 rfl (lv_at hl 2 rfl) ?_
                  refine va_get (D := D) (ci := 5) (v := .ref pa) (C := R_MO) (T := T_MO) (N := 18) hx hb hts iw_MO hown hK hP 0 rfl rfl 12 (by decide) (hts _ k_707) (fun _ h9 => h9) rfl d_MO_alike_153 ?_
                  refine lv_iconst (v := 1) hx hb d_MO_alike_156 (by decide) ?_
                  refine va_iald hx hb hK hP 4 0 rfl rfl (vp_in_nI (n := 1) (by decide) (by decide)) d_MO_alike_157 ?_
                  refine lv_icmp_ne (tgt := 198) hx hb d_MO_alike_158 rfl (fun h158 => ?_) (fun h158 => ?_)
                  · have h158 : ¬ fw p0.toNatClampNeg = p1 := h158
                    refine lv_iconst (v := 0) hx hb d_MO_alike_198 (by decide) ?_
                    have hP9 : va_P D vwCl [(o, .inr (5, [.int 0, .ref im, .int (bI tr), .ref rc, .ref bg, .int ro, .ref oa, .ref xa, .ref ya, .ref rg, .ref me, .ref sa, .ref pa, .ref za, .ref ca, .int (bI kp), .ref ta, .ref na])), (rg, .inl (cI, 6, .inl (rg6 a x d b0 b1 b2))), (me, .inl (cI, 512, .inl (mm2 g h))), (sa, .inl (cI, 2, .inl (p2 s0 s1))), (pa, .inl (cI, 2, .inl (p2 p0 p1))), (za, .inl (cZ, 2, .inl (p2 (bI z0) (bI z1)))), (ca, .inl (cZ, 2, .inl (p2 (bI c0) (bI c1)))), (ta, .inl (cI, 2, .inl (p2 t0 t1))), (bg, .inl (cI, 256, .inl fw))] H := hP.sub [0, 1, 2, 3, 4, 5, 6, 7, 8] rfl
                    have hD9 : va_D A [(o, .inr (5, [.int 0, .ref im, .int (bI tr), .ref rc, .ref bg, .int ro, .ref oa, .ref xa, .ref ya, .ref rg, .ref me, .ref sa, .ref pa, .ref za, .ref ca, .int (bI kp), .ref ta, .ref na])), (rg, .inl (cI, 6, .inl (rg6 a x d b0 b1 b2))), (me, .inl (cI, 512, .inl (mm2 g h))), (sa, .inl (cI, 2, .inl (p2 s0 s1))), (pa, .inl (cI, 2, .inl (p2 p0 p1))), (za, .inl (cZ, 2, .inl (p2 (bI z0) (bI z1)))), (ca, .inl (cZ, 2, .inl (p2 (bI c0) (bI c1)))), (ta, .inl (cI, 2, .inl (p2 t0 t1))), (bg, .inl (cI, 256, .inl fw))] := hD.sub [0, 1, 2, 3, 4, 5, 6, 7, 8] (by decide) rfl
                    exact W.zret (v := (bI false)) hx hb hr (nb_n _) (fun t ht hW => ⟨⟨(bI false), (), rfl, by rw [show i = 256 from hk] at h143; rw [alkB, h143, decide_eq_false h148, decide_eq_false h158]; rfl, by rw [ht]; exact hP9, va_K.moved hW.alike hK, hD9⟩, hS.F ht⟩) hS.2.2 d_MO_alike_199
                  · have h158 : fw p0.toNatClampNeg = p1 := h158
                    refine lv_aload_n hx hb d_MO_alike_161 rfl (lv_at hl 2 rfl) ?_
                    refine va_get (D := D) (ci := 5) (v := .ref ta) (C := R_MO) (T := T_MO) (N := 18) hx hb hts iw_MO hown hK hP 0 rfl rfl 16 (by decide) (hts _ k_711) (fun _ h9 => h9) rfl d_MO_alike_162 ?_
                    refine lv_iconst (v := 0) hx hb d_MO_alike_165 (by decide) ?_
                    refine va_iald hx hb hK hP 7 0 rfl rfl (vp_in_nI (n := 0) (by decide) (by decide)) d_MO_alike_166 ?_
                    refine lv_iconst (v := 1) hx hb d_MO_alike_167 (by decide) ?_
                    refine lv_icmp_ne (tgt := 175) hx hb d_MO_alike_168 rfl (fun h168 => ?_) (fun h168 => ?_)
                    · have h168 : ¬ t0 = 1 := h168
                      refine lv_iconst (v := 0) hx hb d_MO_alike_175 (by decide) ?_
                      refine lv_aload_n hx hb d_MO_alike_176 rfl (lv_at hl 2 rfl) ?_
                      refine va_get (D := D) (ci := 5) (v := .ref ta) (C := R_MO) (T := T_MO) (N := 18) hx hb hts iw_MO hown hK hP 0 rfl rfl 16 (by decide) (hts _ k_711) (fun _ h9 => h9) rfl d_MO_alike_177 ?_
                      refine lv_iconst (v := 1) hx hb d_MO_alike_180 (by decide) ?_
                      refine va_iald hx hb hK hP 7 0 rfl rfl (vp_in_nI (n := 1) (by decide) (by decide)) d_MO_alike_181 ?_
                      refine lv_iconst (v := 1) hx hb d_MO_alike_182 (by decide) ?_
                      refine lv_icmp_ne (tgt := 190) hx hb d_MO_alike_183 rfl (fun h183 => ?_) (fun h183 => ?_)
                      · have h183 : ¬ t1 = 1 := h183
                        refine lv_iconst (v := 0) hx hb d_MO_alike_190 (by decide) ?_
                        refine lv_icmp_ne (tgt := 198) hx hb d_MO_alike_191 rfl (fun hq9 => absurd (by decide) hq9) (fun _ => ?_)
                        refine lv_iconst (v := 1) hx hb d_MO_alike_194 (by decide) ?_
                        refine lv_goto (tgt := 199) hx hb d_MO_alike_195 rfl ?_
                        have hP9 : va_P D vwCl [(o, .inr (5, [.int 0, .ref im, .int (bI tr), .ref rc, .ref bg, .int ro, .ref oa, .ref xa, .ref ya, .ref rg, .ref me, .ref sa, .ref pa, .ref za, .ref ca, .int (bI kp), .ref ta, .ref na])), (rg, .inl (cI, 6, .inl (rg6 a x d b0 b1 b2))), (me, .inl (cI, 512, .inl (mm2 g h))), (sa, .inl (cI, 2, .inl (p2 s0 s1))), (pa, .inl (cI, 2, .inl (p2 p0 p1))), (za, .inl (cZ, 2, .inl (p2 (bI z0) (bI z1)))), (ca, .inl (cZ, 2, .inl (p2 (bI c0) (bI c1)))), (ta, .inl (cI, 2, .inl (p2 t0 t1))), (bg, .inl (cI, 256, .inl fw))] H := hP.sub [0, 1, 2, 3, 4, 5, 6, 7, 8] rfl
                        have hD9 : va_D A [(o, .inr (5, [.int 0, .ref im, .int (bI tr), .ref rc, .ref bg, .int ro, .ref oa, .ref xa, .ref ya, .ref rg, .ref me, .ref sa, .ref pa, .ref za, .ref ca, .int (bI kp), .ref ta, .ref na])), (rg, .inl (cI, 6, .inl (rg6 a x d b0 b1 b2))), (me, .inl (cI, 512, .inl (mm2 g h))), (sa, .inl (cI, 2, .inl (p2 s0 s1))), (pa, .inl (cI, 2, .inl (p2 p0 p1))), (za, .inl (cZ, 2, .inl (p2 (bI z0) (bI z1)))), (ca, .inl (cZ, 2, .inl (p2 (bI c0) (bI c1)))), (ta, .inl (cI, 2, .inl (p2 t0 t1))), (bg, .inl (cI, 256, .inl fw))] := hD.sub [0, 1, 2, 3, 4, 5, 6, 7, 8] (by decide) rfl
                        exact W.zret (v := (bI true)) hx hb hr (nb_n _) (fun t ht hW => ⟨⟨(bI true), (), rfl, by rw [show i = 256 from hk] at h143; rw [alkB, h143, decide_eq_false h148, decide_eq_true h158, decide_eq_false h168, decide_eq_false h183]; rfl, by rw [ht]; exact hP9, va_K.moved hW.alike hK, hD9⟩, hS.F ht⟩) hS.2.2 d_MO_alike_199
                      · have h183 : t1 = 1 := h183
                        refine lv_iconst (v := 1) hx hb d_MO_alike_186 (by decide) ?_
                        refine lv_goto (tgt := 191) hx hb d_MO_alike_187 rfl ?_
                        refine lv_icmp_ne (tgt := 198) hx hb d_MO_alike_191 rfl (fun _ => ?_) (fun hq9 => absurd hq9 (by decide))
                        refine lv_iconst (v := 0) hx hb d_MO_alike_198 (by decide) ?_
                        have hP9 : va_P D vwCl [(o, .inr (5, [.int 0, .ref im, .int (bI tr), .ref rc, .ref bg, .int ro, .ref oa, .ref xa, .ref ya, .ref rg, .ref me, .ref sa, .ref pa, .ref za, .ref ca, .int (bI kp), .ref ta, .ref na])), (rg, .inl (cI, 6, .inl (rg6 a x d b0 b1 b2))), (me, .inl (cI, 512, .inl (mm2 g h))), (sa, .inl (cI, 2, .inl (p2 s0 s1))), (pa, .inl (cI, 2, .inl (p2 p0 p1))), (za, .inl (cZ, 2, .inl (p2 (bI z0) (bI z1)))), (ca, .inl (cZ, 2, .inl (p2 (bI c0) (bI c1)))), (ta, .inl (cI, 2, .inl (p2 t0 t1))), (bg, .inl (cI, 256, .inl fw))] H := hP.sub [0, 1, 2, 3, 4, 5, 6, 7, 8] rfl
                        have hD9 : va_D A [(o, .inr (5, [.int 0, .ref im, .int (bI tr), .ref rc, .ref bg, .int ro, .ref oa, .ref xa, .ref ya, .ref rg, .ref me, .ref sa, .ref pa, .ref za, .ref ca, .int (bI kp), .ref ta, .ref na])), (rg, .inl (cI, 6, .inl (rg6 a x d b0 b1 b2))), (me, .inl (cI, 512, .inl (mm2 g h))), (sa, .inl (cI, 2, .inl (p2 s0 s1))), (pa, .inl (cI, 2, .inl (p2 p0 p1))), (za, .inl (cZ, 2, .inl (p2 (bI z0) (bI z1)))), (ca, .inl (cZ, 2, .inl (p2 (bI c0) (bI c1)))), (ta, .inl (cI, 2, .inl (p2 t0 t1))), (bg, .inl (cI, 256, .inl fw))] := hD.sub [0, 1, 2, 3, 4, 5, 6, 7, 8] (by decide) rfl
                        exact W.zret (v := (bI false)) hx hb hr (nb_n _) (fun t ht hW => ⟨⟨(bI false), (), rfl, by rw [show i = 256 from hk] at h143; rw [alkB, h143, decide_eq_false h148, decide_eq_true h158, decide_eq_false h168, decide_eq_true h183]; rfl, by rw [ht]; exact hP9, va_K.moved hW.alike hK, hD9⟩, hS.F ht⟩) hS.2.2 d_MO_alike_199
                    · have h168 : t0 = 1 := h168
                      refine lv_iconst (v := 1) hx hb d_MO_alike_171 (by decide) ?_
                      refine lv_goto (tgt := 176) hx hb d_MO_alike_172 rfl ?_
                      refine lv_aload_n hx hb d_MO_alike_176 rfl (lv_at hl 2 rfl) ?_
                      refine va_get (D := D) (ci := 5) (v := .ref ta) (C := R_MO) (T := T_MO) (N := 18) hx hb hts iw_MO hown hK hP 0 rfl rfl 16 (by decide) (hts _ k_711) (fun _ h9 => h9) rfl d_MO_alike_177 ?_
                      refine lv_iconst (v := 1) hx hb d_MO_alike_180 (by decide) ?_
                      refine va_iald hx hb hK hP 7 0 rfl rfl (vp_in_nI (n := 1) (by decide) (by decide)) d_MO_alike_181 ?_
                      refine lv_iconst (v := 1) hx hb d_MO_alike_182 (by decide) ?_
                      refine lv_icmp_ne (tgt := 190) hx hb d_MO_alike_183 rfl (fun h183 => ?_) (fun h183 => ?_)
                      · have h183 : ¬ t1 = 1 := h183
                        refine lv_iconst (v := 0) hx hb d_MO_alike_190 (by decide) ?_
                        refine lv_icmp_ne (tgt := 198) hx hb d_MO_alike_191 rfl (fun _ => ?_) (fun hq9 => absurd hq9 (by decide))
                        refine lv_iconst (v := 0) hx hb d_MO_alike_198 (by decide) ?_
                        have hP9 : va_P D vwCl [(o, .inr (5, [.int 0, .ref im, .int (bI tr), .ref rc, .ref bg, .int ro, .ref oa, .ref xa, .ref ya, .ref rg, .ref me, .ref sa, .ref pa, .ref za, .ref ca, .int (bI kp), .ref ta, .ref na])), (rg, .inl (cI, 6, .inl (rg6 a x d b0 b1 b2))), (me, .inl (cI, 512, .inl (mm2 g h))), (sa, .inl (cI, 2, .inl (p2 s0 s1))), (pa, .inl (cI, 2, .inl (p2 p0 p1))), (za, .inl (cZ, 2, .inl (p2 (bI z0) (bI z1)))), (ca, .inl (cZ, 2, .inl (p2 (bI c0) (bI c1)))), (ta, .inl (cI, 2, .inl (p2 t0 t1))), (bg, .inl (cI, 256, .inl fw))] H := hP.sub [0, 1, 2, 3, 4, 5, 6, 7, 8] rfl
                        have hD9 : va_D A [(o, .inr (5, [.int 0, .ref im, .int (bI tr), .ref rc, .ref bg, .int ro, .ref oa, .ref xa, .ref ya, .ref rg, .ref me, .ref sa, .ref pa, .ref za, .ref ca, .int (bI kp), .ref ta, .ref na])), (rg, .inl (cI, 6, .inl (rg6 a x d b0 b1 b2))), (me, .inl (cI, 512, .inl (mm2 g h))), (sa, .inl (cI, 2, .inl (p2 s0 s1))), (pa, .inl (cI, 2, .inl (p2 p0 p1))), (za, .inl (cZ, 2, .inl (p2 (bI z0) (bI z1)))), (ca, .inl (cZ, 2, .inl (p2 (bI c0) (bI c1)))), (ta, .inl (cI, 2, .inl (p2 t0 t1))), (bg, .inl (cI, 256, .inl fw))] := hD.sub [0, 1, 2, 3, 4, 5, 6, 7, 8] (by decide) rfl
                        exact W.zret (v := (bI false)) hx hb hr (nb_n _) (fun t ht hW => ⟨⟨(bI false), (), rfl, by rw [show i = 256 from hk] at h143; rw [alkB, h143, decide_eq_false h148, decide_eq_true h158, decide_eq_true h168, decide_eq_false h183]; rfl, by rw [ht]; exact hP9, va_K.moved hW.alike hK, hD9⟩, hS.F ht⟩) hS.2.2 d_MO_alike_199
                      · have h183 : t1 = 1 := h183
                        refine lv_iconst (v := 1) hx hb d_MO_alike_186 (by decide) ?_
                        refine lv_goto (tgt := 191) hx hb d_MO_alike_187 rfl ?_
                        refine lv_icmp_ne (tgt := 198) hx hb d_MO_alike_191 rfl (fun hq9 => absurd (by decide) hq9) (fun _ => ?_)
                        refine lv_iconst (v := 1) hx hb d_MO_alike_194 (by decide) ?_
                        refine lv_goto (tgt := 199) hx hb d_MO_alike_195 rfl ?_
                        have hP9 : va_P D vwCl [(o, .inr (5, [.int 0, .ref im, .int (bI tr), .ref rc, .ref bg, .int ro, .ref oa, .ref xa, .ref ya, .ref rg, .ref me, .ref sa, .ref pa, .ref za, .ref ca, .int (bI kp), .ref ta, .ref na])), (rg, .inl (cI, 6, .inl (rg6 a x d b0 b1 b2))), (me, .inl (cI, 512, .inl (mm2 g h))), (sa, .inl (cI, 2, .inl (p2 s0 s1))), (pa, .inl (cI, 2, .inl (p2 p0 p1))), (za, .inl (cZ, 2, .inl (p2 (bI z0) (bI z1)))), (ca, .inl (cZ, 2, .inl (p2 (bI c0) (bI c1)))), (ta, .inl (cI, 2, .inl (p2 t0 t1))), (bg, .inl (cI, 256, .inl fw))] H := hP.sub [0, 1, 2, 3, 4, 5, 6, 7, 8] rfl
                        have hD9 : va_D A [(o, .inr (5, [.int 0, .ref im, .int (bI tr), .ref rc, .ref bg, .int ro, .ref oa, .ref xa, .ref ya, .ref rg, .ref me, .ref sa, .ref pa, .ref za, .ref ca, .int (bI kp), .ref ta, .ref na])), (rg, .inl (cI, 6, .inl (rg6 a x d b0 b1 b2))), (me, .inl (cI, 512, .inl (mm2 g h))), (sa, .inl (cI, 2, .inl (p2 s0 s1))), (pa, .inl (cI, 2, .inl (p2 p0 p1))), (za, .inl (cZ, 2, .inl (p2 (bI z0) (bI z1)))), (ca, .inl (cZ, 2, .inl (p2 (bI c0) (bI c1)))), (ta, .inl (cI, 2, .inl (p2 t0 t1))), (bg, .inl (cI, 256, .inl fw))] := hD.sub [0, 1, 2, 3, 4, 5, 6, 7, 8] (by decide) rfl
                        exact W.zret (v := (bI true)) hx hb hr (nb_n _) (fun t ht hW => ⟨⟨(bI true), (), rfl, by rw [show i = 256 from hk] at h143; rw [alkB, h143, decide_eq_false h148, decide_eq_true h158, decide_eq_true h168, decide_eq_true h183]; rfl, by rw [ht]; exact hP9, va_K.moved hW.alike hK, hD9⟩, hS.F ht⟩) hS.2.2 d_MO_alike_199
            | succ k ih =>
              intro i hk H locs ls hl hP hD hS
              refine lv_iload_n hx hb d_MO_alike_88 rfl (lv_at hl 0 rfl) ?_
              refine lv_sipush (v := 256) hx hb d_MO_alike_89 (by decide) ?_
              refine lv_icmp_ge (tgt := 130) hx hb d_MO_alike_92 rfl (fun hq9 => absurd hq9 (nI_ge (b := 256) (by omega) (by decide))) (fun _ => ?_)
              refine lv_iload_n hx hb d_MO_alike_95 rfl (lv_at hl 1 rfl) ?_
              refine lv_if_eq (tgt := 122) hx hb d_MO_alike_96 rfl (fun h96 => ?_) (fun h96 => ?_)
              · have h96 : decide (a = b0 ∧ x = b1 ∧ s0 = s1 ∧ z0 = z1 ∧ c0 = c1 ∧ ∀ j : Nat, j < i → g j = h j) = false := bI_f h96
                refine lv_iconst (v := 0) hx hb d_MO_alike_122 (by decide) ?_
                refine lv_istore_n hx hb d_MO_alike_123 rfl hl (by decide) rfl (fun ls hl => ?_)
                have hl : lv_has ls 3 [(1, .int 0), (2, .int (nI i)), (0, .ref o)] := hl
                refine lv_iinc (k := 1) (v := nI (i + 1)) hx hb d_MO_alike_124 hl rfl (nI_inc _) (by decide) rfl (fun ls hl => ?_)
                have hl : lv_has ls 3 [(2, .int (nI (i + 1))), (1, .int 0), (0, .ref o)] := hl
                refine lv_goto (tgt := 88) hx hb d_MO_alike_127 rfl ?_
                exact ih (i + 1) (by omega) H locs ls (by rw [show decide (a = b0 ∧ x = b1 ∧ s0 = s1 ∧ z0 = z1 ∧ c0 = c1 ∧ ∀ j : Nat, j < (i + 1) → g j = h j) = false from decide_eq_false (fun q => of_decide_eq_false h96 ⟨q.1, q.2.1, q.2.2.1, q.2.2.2.1, q.2.2.2.2.1, fun j hj => q.2.2.2.2.2 j (by omega)⟩)]; exact hl) hP hD hS
              · have h96 : decide (a = b0 ∧ x = b1 ∧ s0 = s1 ∧ z0 = z1 ∧ c0 = c1 ∧ ∀ j : Nat, j < i → g j = h j) = true := bI_t h96
                refine lv_aload_n hx hb d_MO_alike_99 rfl (lv_at hl 2 rfl) ?_
                refine va_get (D := D) (ci := 5) (v := .ref me) (C := R_MO) (T := T_MO) (N := 18) hx hb hts iw_MO hown hK hP 0 rfl rfl 10 (by decide) (hts _ k_705) (fun _ h9 => h9) rfl d_MO_alike_100 ?_
                refine lv_iload_n hx hb d_MO_alike_103 rfl (lv_at hl 0 rfl) ?_
                refine va_iald hx hb hK hP 2 0 rfl rfl (vp_in_nI (by omega) (by decide)) d_MO_alike_104 ?_
                refine lv_topi (fun y9 e9 => ?_)
                have e9 : y9 = g i := e9.trans (mmi_0 _ _ (by omega))
                subst e9
                refine lv_aload_n hx hb d_MO_alike_105 rfl (lv_at hl 2 rfl) ?_
                refine va_get (D := D) (ci := 5) (v := .ref me) (C := R_MO) (T := T_MO) (N := 18) hx hb hts iw_MO hown hK hP 0 rfl rfl 10 (by decide) (hts _ k_705) (fun _ h9 => h9) rfl d_MO_alike_106 ?_
                refine lv_sipush (v := 256) hx hb d_MO_alike_109 (by decide) ?_
                refine lv_iload_n hx hb d_MO_alike_112 rfl (lv_at hl 0 rfl) ?_
                refine lv_iadd hx hb d_MO_alike_113 ?_
                refine va_iald hx hb hK hP 2 0 rfl rfl (ini_1 (by omega)) d_MO_alike_114 ?_
                refine lv_topi (fun y9 e9 => ?_)
                have e9 : y9 = h i := e9.trans (mmi_1 _ _ (by omega))
                subst e9
                refine lv_icmp_ne (tgt := 122) hx hb d_MO_alike_115 rfl (fun h115 => ?_) (fun h115 => ?_)
                · have h115 : ¬ g i = h i := h115
                  refine lv_iconst (v := 0) hx hb d_MO_alike_122 (by decide) ?_
                  refine lv_istore_n hx hb d_MO_alike_123 rfl hl (by decide) rfl (fun ls hl => ?_)
                  have hl : lv_has ls 3 [(1, .int 0), (2, .int (nI i)), (0, .ref o)] := hl
                  refine lv_iinc (k := 1) (v := nI (i + 1)) hx hb d_MO_alike_124 hl rfl (nI_inc _) (by decide) rfl (fun ls hl => ?_)
                  have hl : lv_has ls 3 [(2, .int (nI (i + 1))), (1, .int 0), (0, .ref o)] := hl
                  refine lv_goto (tgt := 88) hx hb d_MO_alike_127 rfl ?_
                  exact ih (i + 1) (by omega) H locs ls (by rw [show decide (a = b0 ∧ x = b1 ∧ s0 = s1 ∧ z0 = z1 ∧ c0 = c1 ∧ ∀ j : Nat, j < (i + 1) → g j = h j) = false from decide_eq_false (fun q => h115 (q.2.2.2.2.2 i (by omega)))]; exact hl) hP hD hS
                · have h115 : g i = h i := h115
                  refine lv_iconst (v := 1) hx hb d_MO_alike_118 (by decide) ?_
                  refine lv_goto (tgt := 123) hx hb d_MO_alike_119 rfl ?_
                  refine lv_istore_n hx hb d_MO_alike_123 rfl hl (by decide) rfl (fun ls hl => ?_)
                  have hl : lv_has ls 3 [(1, .int 1), (2, .int (nI i)), (0, .ref o)] := hl
                  refine lv_iinc (k := 1) (v := nI (i + 1)) hx hb d_MO_alike_124 hl rfl (nI_inc _) (by decide) rfl (fun ls hl => ?_)
                  have hl : lv_has ls 3 [(2, .int (nI (i + 1))), (1, .int 1), (0, .ref o)] := hl
                  refine lv_goto (tgt := 88) hx hb d_MO_alike_127 rfl ?_
                  exact ih (i + 1) (by omega) H locs ls (by rw [show decide (a = b0 ∧ x = b1 ∧ s0 = s1 ∧ z0 = z1 ∧ c0 = c1 ∧ ∀ j : Nat, j < (i + 1) → g j = h j) = true from decide_eq_true ⟨(of_decide_eq_true h96).1, (of_decide_eq_true h96).2.1, (of_decide_eq_true h96).2.2.1, (of_decide_eq_true h96).2.2.2.1, (of_decide_eq_true h96).2.2.2.2.1, lt_s (of_decide_eq_true h96).2.2.2.2.2 h115⟩]; exact hl) hP hD hS
          exact loop 256 0 rfl H locs ls (by rw [show decide (a = b0 ∧ x = b1 ∧ s0 = s1 ∧ z0 = z1 ∧ c0 = c1 ∧ ∀ j : Nat, j < 0 → g j = h j) = false from decide_eq_false (fun q => h62 (by rw [q.2.2.2.1]))]; exact hl) hP hD hS
        · have h62 : bI z0 = bI z1 := h62
          refine lv_aload_n hx hb d_MO_alike_65 rfl (lv_at hl 0 rfl) ?_
          refine va_get (D := D) (ci := 5) (v := .ref ca) (C := R_MO) (T := T_MO) (N := 18) hx hb hts iw_MO hown hK hP 0 rfl rfl 14 (by decide) (hts _ k_709) (fun _ h9 => h9) rfl d_MO_alike_66 ?_
          refine lv_iconst (v := 0) hx hb d_MO_alike_69 (by decide) ?_
          refine va_zald hx hb hK hP 6 1 rfl rfl (vp_in_nI (n := 0) (by decide) (by decide)) d_MO_alike_70 ?_
          refine lv_aload_n hx hb d_MO_alike_71 rfl (lv_at hl 0 rfl) ?_
          refine va_get (D := D) (ci := 5) (v := .ref ca) (C := R_MO) (T := T_MO) (N := 18) hx hb hts iw_MO hown hK hP 0 rfl rfl 14 (by decide) (hts _ k_709) (fun _ h9 => h9) rfl d_MO_alike_72 ?_
          refine lv_iconst (v := 1) hx hb d_MO_alike_75 (by decide) ?_
          refine va_zald hx hb hK hP 6 1 rfl rfl (vp_in_nI (n := 1) (by decide) (by decide)) d_MO_alike_76 ?_
          refine lv_icmp_ne (tgt := 84) hx hb d_MO_alike_77 rfl (fun h77 => ?_) (fun h77 => ?_)
          · have h77 : ¬ bI c0 = bI c1 := h77
            refine lv_iconst (v := 0) hx hb d_MO_alike_84 (by decide) ?_
            refine lv_istore_n hx hb d_MO_alike_85 rfl hl (by decide) rfl (fun ls hl => ?_)
            have hl : lv_has ls 3 [(1, .int 0), (0, .ref o)] := hl
            refine lv_iconst (v := 0) hx hb d_MO_alike_86 (by decide) ?_
            refine lv_istore_n hx hb d_MO_alike_87 rfl hl (by decide) rfl (fun ls hl => ?_)
            have hl : lv_has ls 3 [(2, .int 0), (1, .int 0), (0, .ref o)] := hl
            have loop : ∀ (k : Nat) (i : Nat), (i + k = 256) → ∀ (H : Heap) (locs : List Loc) (ls : Array Slot), lv_has ls 3 [(2, .int (nI i)), (1, .int (bI (decide (a = b0 ∧ x = b1 ∧ s0 = s1 ∧ z0 = z1 ∧ c0 = c1 ∧ ∀ j : Nat, j < i → g j = h j)))), (0, .ref o)] → va_P D vwCl [(o, .inr (5, [.int 0, .ref im, .int (bI tr), .ref rc, .ref bg, .int ro, .ref oa, .ref xa, .ref ya, .ref rg, .ref me, .ref sa, .ref pa, .ref za, .ref ca, .int (bI kp), .ref ta, .ref na])), (rg, .inl (cI, 6, .inl (rg6 a x d b0 b1 b2))), (me, .inl (cI, 512, .inl (mm2 g h))), (sa, .inl (cI, 2, .inl (p2 s0 s1))), (pa, .inl (cI, 2, .inl (p2 p0 p1))), (za, .inl (cZ, 2, .inl (p2 (bI z0) (bI z1)))), (ca, .inl (cZ, 2, .inl (p2 (bI c0) (bI c1)))), (ta, .inl (cI, 2, .inl (p2 t0 t1))), (bg, .inl (cI, 256, .inl fw))] H → va_D A [(o, .inr (5, [.int 0, .ref im, .int (bI tr), .ref rc, .ref bg, .int ro, .ref oa, .ref xa, .ref ya, .ref rg, .ref me, .ref sa, .ref pa, .ref za, .ref ca, .int (bI kp), .ref ta, .ref na])), (rg, .inl (cI, 6, .inl (rg6 a x d b0 b1 b2))), (me, .inl (cI, 512, .inl (mm2 g h))), (sa, .inl (cI, 2, .inl (p2 s0 s1))), (pa, .inl (cI, 2, .inl (p2 p0 p1))), (za, .inl (cZ, 2, .inl (p2 (bI z0) (bI z1)))), (ca, .inl (cZ, 2, .inl (p2 (bI c0) (bI c1)))), (ta, .inl (cI, 2, .inl (p2 t0 t1))), (bg, .inl (cI, 256, .inl fw))] → va_S A s.heap H locs → W p l e { frames := 0, cells := 0, slots := 0, locals := 0 } s m args below meth c H locs 0 0 (MQ below (QI D cI cZ (fun r (_ : Unit) => r = bI (alkB (decide (a = b0 ∧ x = b1 ∧ s0 = s1 ∧ z0 = z1 ∧ c0 = c1 ∧ ∀ j : Nat, j < 256 → g j = h j)) (fw p0.toNatClampNeg) p1 t0 t1)) (fun (_ : Unit) => [(o, .inr (5, [.int 0, .ref im, .int (bI tr), .ref rc, .ref bg, .int ro, .ref oa, .ref xa, .ref ya, .ref rg, .ref me, .ref sa, .ref pa, .ref za, .ref ca, .int (bI kp), .ref ta, .ref na])), (rg, .inl (cI, 6, .inl (rg6 a x d b0 b1 b2))), (me, .inl (cI, 512, .inl (mm2 g h))), (sa, .inl (cI, 2, .inl (p2 s0 s1))), (pa, .inl (cI, 2, .inl (p2 p0 p1))), (za, .inl (cZ, 2, .inl (p2 (bI z0) (bI z1)))), (ca, .inl (cZ, 2, .inl (p2 (bI c0) (bI c1)))), (ta, .inl (cI, 2, .inl (p2 t0 t1))), (bg, .inl (cI, 256, .inl fw))]) A) args s 0 0 A) (F0 m 88 ls []) := by
              intro k
              induction k with
              | zero =>
                intro i hk H locs ls hl hP hD hS
                refine lv_iload_n hx hb d_MO_alike_88 rfl (lv_at hl 0 rfl) ?_
                refine lv_sipush (v := 256) hx hb d_MO_alike_89 (by decide) ?_
                refine lv_icmp_ge (tgt := 130) hx hb d_MO_alike_92 rfl (fun _ => ?_) (fun hq9 => absurd (by rw [show i = 256 from hk]; decide) hq9)
                refine lv_aload_n hx hb d_MO_alike_130 rfl (lv_at hl 2 rfl) ?_
                refine va_get (D := D) (ci := 5) (v := .ref bg) (C := R_MO) (T := T_MO) (N := 18) hx hb hts iw_MO hown hK hP 0 rfl rfl 4 (by decide) (hts _ k_699) (fun _ h9 => h9) rfl d_MO_alike_131 ?_
                refine lv_aload_n hx hb d_MO_alike_134 rfl (lv_at hl 2 rfl) ?_
                refine va_get (D := D) (ci := 5) (v := .ref pa) (C := R_MO) (T := T_MO) (N := 18) hx hb hts iw_MO hown hK hP 0 rfl rfl 12 (by decide) (hts _ k_707) (fun _ h9 => h9) rfl d_MO_alike_135 ?_
                refine lv_iconst (v := 0) hx hb d_MO_alike_138 (by decide) ?_
                refine va_iald hx hb hK hP 4 0 rfl rfl (vp_in_nI (n := 0) (by decide) (by decide)) d_MO_alike_139 ?_
                refine va_iald hx hb hK hP 8 0 rfl rfl hv d_MO_alike_140 ?_
                refine lv_istore_n hx hb d_MO_alike_141 rfl hl (by decide) rfl (fun ls hl => ?_)
                have hl : lv_has ls 3 [(2, .int (fw p0.toNatClampNeg)), (1, .int (bI (decide (a = b0 ∧ x = b1 ∧ s0 = s1 ∧ z0 = z1 ∧ c0 = c1 ∧ ∀ j : Nat, j < i → g j = h j)))), (0, .ref o)] := hl
                refine lv_iload_n hx hb d_MO_alike_142 rfl (lv_at hl 1 rfl) ?_
                refine lv_if_eq (tgt := 198) hx hb d_MO_alike_143 rfl (fun h143 => ?_) (fun h143 => ?_)
                · have h143 : decide (a = b0 ∧ x = b1 ∧ s0 = s1 ∧ z0 = z1 ∧ c0 = c1 ∧ ∀ j : Nat, j < i → g j = h j) = false := bI_f h143
                  refine lv_iconst (v := 0) hx hb d_MO_alike_198 (by decide) ?_
                  have hP9 : va_P D vwCl [(o, .inr (5, [.int 0, .ref im, .int (bI tr), .ref rc, .ref bg, .int ro, .ref oa, .ref xa, .ref ya, .ref rg, .ref me, .ref sa, .ref pa, .ref za, .ref ca, .int (bI kp), .ref ta, .ref na])), (rg, .inl (cI, 6, .inl (rg6 a x d b0 b1 b2))), (me, .inl (cI, 512, .inl (mm2 g h))), (sa, .inl (cI, 2, .inl (p2 s0 s1))), (pa, .inl (cI, 2, .inl (p2 p0 p1))), (za, .inl (cZ, 2, .inl (p2 (bI z0) (bI z1)))), (ca, .inl (cZ, 2, .inl (p2 (bI c0) (bI c1)))), (ta, .inl (cI, 2, .inl (p2 t0 t1))), (bg, .inl (cI, 256, .inl fw))] H := hP.sub [0, 1, 2, 3, 4, 5, 6, 7, 8] rfl
                  have hD9 : va_D A [(o, .inr (5, [.int 0, .ref im, .int (bI tr), .ref rc, .ref bg, .int ro, .ref oa, .ref xa, .ref ya, .ref rg, .ref me, .ref sa, .ref pa, .ref za, .ref ca, .int (bI kp), .ref ta, .ref na])), (rg, .inl (cI, 6, .inl (rg6 a x d b0 b1 b2))), (me, .inl (cI, 512, .inl (mm2 g h))), (sa, .inl (cI, 2, .inl (p2 s0 s1))), (pa, .inl (cI, 2, .inl (p2 p0 p1))), (za, .inl (cZ, 2, .inl (p2 (bI z0) (bI z1)))), (ca, .inl (cZ, 2, .inl (p2 (bI c0) (bI c1)))), (ta, .inl (cI, 2, .inl (p2 t0 t1))), (bg, .inl (cI, 256, .inl fw))] := hD.sub [0, 1, 2, 3, 4, 5, 6, 7, 8] (by decide) rfl
                  exact W.zret (v := (bI false)) hx hb hr (nb_n _) (fun t ht hW => ⟨⟨(bI false), (), rfl, by rw [show i = 256 from hk] at h143; rw [alkB, h143]; rfl, by rw [ht]; exact hP9, va_K.moved hW.alike hK, hD9⟩, hS.F ht⟩) hS.2.2 d_MO_alike_199
                · have h143 : decide (a = b0 ∧ x = b1 ∧ s0 = s1 ∧ z0 = z1 ∧ c0 = c1 ∧ ∀ j : Nat, j < i → g j = h j) = true := bI_t h143
                  refine lv_iload_n hx hb d_MO_alike_146 rfl (lv_at hl 0 rfl) ?_
                  refine lv_iconst (v := (-1)) hx hb d_MO_alike_147 (by decide) ?_
                  refine lv_icmp_eq (tgt := 198) hx hb d_MO_alike_148 rfl (fun h148 => ?_) (fun h148 => ?_)
                  · have h148 : fw p0.toNatClampNeg = (-1) := h148
                    refine lv_iconst (v := 0) hx hb d_MO_alike_198 (by decide) ?_
                    have hP9 : va_P D vwCl [(o, .inr (5, [.int 0, .ref im, .int (bI tr), .ref rc, .ref bg, .int ro, .ref oa, .ref xa, .ref ya, .ref rg, .ref me, .ref sa, .ref pa, .ref za, .ref ca, .int (bI kp), .ref ta, .ref na])), (rg, .inl (cI, 6, .inl (rg6 a x d b0 b1 b2))), (me, .inl (cI, 512, .inl (mm2 g h))), (sa, .inl (cI, 2, .inl (p2 s0 s1))), (pa, .inl (cI, 2, .inl (p2 p0 p1))), (za, .inl (cZ, 2, .inl (p2 (bI z0) (bI z1)))), (ca, .inl (cZ, 2, .inl (p2 (bI c0) (bI c1)))), (ta, .inl (cI, 2, .inl (p2 t0 t1))), (bg, .inl (cI, 256, .inl fw))] H := hP.sub [0, 1, 2, 3, 4, 5, 6, 7, 8] rfl
                    have hD9 : va_D A [(o, .inr (5, [.int 0, .ref im, .int (bI tr), .ref rc, .ref bg, .int ro, .ref oa, .ref xa, .ref ya, .ref rg, .ref me, .ref sa, .ref pa, .ref za, .ref ca, .int (bI kp), .ref ta, .ref na])), (rg, .inl (cI, 6, .inl (rg6 a x d b0 b1 b2))), (me, .inl (cI, 512, .inl (mm2 g h))), (sa, .inl (cI, 2, .inl (p2 s0 s1))), (pa, .inl (cI, 2, .inl (p2 p0 p1))), (za, .inl (cZ, 2, .inl (p2 (bI z0) (bI z1)))), (ca, .inl (cZ, 2, .inl (p2 (bI c0) (bI c1)))), (ta, .inl (cI, 2, .inl (p2 t0 t1))), (bg, .inl (cI, 256, .inl fw))] := hD.sub [0, 1, 2, 3, 4, 5, 6, 7, 8] (by decide) rfl
                    exact W.zret (v := (bI false)) hx hb hr (nb_n _) (fun t ht hW => ⟨⟨(bI false), (), rfl, by rw [show i = 256 from hk] at h143; rw [alkB, h143, decide_eq_true h148]; rfl, by rw [ht]; exact hP9, va_K.moved hW.alike hK, hD9⟩, hS.F ht⟩) hS.2.2 d_MO_alike_199
                  · have h148 : ¬ fw p0.toNatClampNeg = (-1) := h148
                    refine lv_iload_n hx hb d_MO_alike_151 rfl (lv_at hl 0 rfl) ?_
                    refine lv_aload_n hx hb d_MO_alike_152 rfl (lv_at hl 2 rfl) ?_
                    refine va_get (D := D) (ci := 5) (v := .ref pa) (C := R_MO) (T := T_MO) (N := 18) hx hb hts iw_MO hown hK hP 0 rfl rfl 12 (by decide) (hts _ k_707) (fun _ h9 => h9) rfl d_MO_alike_153 ?_
                    refine lv_iconst (v := 1) hx hb d_MO_alike_156 (by decide) ?_
                    refine va_iald hx hb hK hP 4 0 rfl rfl (vp_in_nI (n := 1) (by decide) (by decide)) d_MO_alike_157 ?_
                    refine lv_icmp_ne (tgt := 198) hx hb d_MO_alike_158 rfl (fun h158 => ?_) (fun h158 => ?_)
                    · have h158 : ¬ fw p0.toNatClampNeg = p1 := h158
                      refine lv_iconst (v := 0) hx hb d_MO_alike_198 (by decide) ?_
                      have hP9 : va_P D vwCl [(o, .inr (5, [.int 0, .ref im, .int (bI tr), .ref rc, .ref bg, .int ro, .ref oa, .ref xa, .ref ya, .ref rg, .ref me, .ref sa, .ref pa, .ref za, .ref ca, .int (bI kp), .ref ta, .ref na])), (rg, .inl (cI, 6, .inl (rg6 a x d b0 b1 b2))), (me, .inl (cI, 512, .inl (mm2 g h))), (sa, .inl (cI, 2, .inl (p2 s0 s1))), (pa, .inl (cI, 2, .inl (p2 p0 p1))), (za, .inl (cZ, 2, .inl (p2 (bI z0) (bI z1)))), (ca, .inl (cZ, 2, .inl (p2 (bI c0) (bI c1)))), (ta, .inl (cI, 2, .inl (p2 t0 t1))), (bg, .inl (cI, 256, .inl fw))] H := hP.sub [0, 1, 2, 3, 4, 5, 6, 7, 8] rfl
                      have hD9 : va_D A [(o, .inr (5, [.int 0, .ref im, .int (bI tr), .ref rc, .ref bg, .int ro, .ref oa, .ref xa, .ref ya, .ref rg, .ref me, .ref sa, .ref pa, .ref za, .ref ca, .int (bI kp), .ref ta, .ref na])), (rg, .inl (cI, 6, .inl (rg6 a x d b0 b1 b2))), (me, .inl (cI, 512, .inl (mm2 g h))), (sa, .inl (cI, 2, .inl (p2 s0 s1))), (pa, .inl (cI, 2, .inl (p2 p0 p1))), (za, .inl (cZ, 2, .inl (p2 (bI z0) (bI z1)))), (ca, .inl (cZ, 2, .inl (p2 (bI c0) (bI c1)))), (ta, .inl (cI, 2, .inl (p2 t0 t1))), (bg, .inl (cI, 256, .inl fw))] := hD.sub [0, 1, 2, 3, 4, 5, 6, 7, 8] (by decide) rfl
                      exact W.zret (v := (bI false)) hx hb hr (nb_n _) (fun t ht hW => ⟨⟨(bI false), (), rfl, by rw [show i = 256 from hk] at h143; rw [alkB, h143, decide_eq_false h148, decide_eq_false h158]; rfl, by rw [ht]; exact hP9, va_K.moved hW.alike hK, hD9⟩, hS.F ht⟩) hS.2.2 d_MO_alike_199
                    · have h158 : fw p0.toNatClampNeg = p1 := h158
                      refine lv_aload_n hx hb d_MO_alike_161 rfl (lv_at hl 2 rfl) ?_
                      refine va_get (D := D) (ci := 5) (v := .ref ta) (C := R_MO) (T := T_MO) (N := 18) hx hb hts iw_MO hown hK hP 0 rfl rfl 16 (by decide) (hts _ k_711) (fun _ h9 => h9) rfl d_MO_alike_162 ?_
                      refine lv_iconst (v := 0) hx hb d_MO_alike_165 (by decide) ?_
                      refine va_iald hx hb hK hP 7 0 rfl rfl (vp_in_nI (n := 0) (by decide) (by decide)) d_MO_alike_166 ?_
                      refine lv_iconst (v := 1) hx hb d_MO_alike_167 (by decide) ?_
                      refine lv_icmp_ne (tgt := 175) hx hb d_MO_alike_168 rfl (fun h168 => ?_) (fun h168 => ?_)
                      · have h168 : ¬ t0 = 1 := h168
                        refine lv_iconst (v := 0) hx hb d_MO_alike_175 (by decide) ?_
                        refine lv_aload_n hx hb d_MO_alike_176 rfl (lv_at hl 2 rfl) ?_
                        refine va_get (D := D) (ci := 5) (v := .ref ta) (C := R_MO) (T := T_MO) (N := 18) hx hb hts iw_MO hown hK hP 0 rfl rfl 16 (by decide) (hts _ k_711) (fun _ h9 => h9) rfl d_MO_alike_177 ?_
                        refine lv_iconst (v := 1) hx hb d_MO_alike_180 (by decide) ?_
                        refine va_iald hx hb hK hP 7 0 rfl rfl (vp_in_nI (n := 1) (by decide) (by decide)) d_MO_alike_181 ?_
                        refine lv_iconst (v := 1) hx hb d_MO_alike_182 (by decide) ?_
                        refine lv_icmp_ne (tgt := 190) hx hb d_MO_alike_183 rfl (fun h183 => ?_) (fun h183 => ?_)
                        · have h183 : ¬ t1 = 1 := h183
                          refine lv_iconst (v := 0) hx hb d_MO_alike_190 (by decide) ?_
                          refine lv_icmp_ne (tgt := 198) hx hb d_MO_alike_191 rfl (fun hq9 => absurd (by decide) hq9) (fun _ => ?_)
                          refine lv_iconst (v := 1) hx hb d_MO_alike_194 (by decide) ?_
                          refine lv_goto (tgt := 199) hx hb d_MO_alike_195 rfl ?_
                          have hP9 : va_P D vwCl [(o, .inr (5, [.int 0, .ref im, .int (bI tr), .ref rc, .ref bg, .int ro, .ref oa, .ref xa, .ref ya, .ref rg, .ref me, .ref sa, .ref pa, .ref za, .ref ca, .int (bI kp), .ref ta, .ref na])), (rg, .inl (cI, 6, .inl (rg6 a x d b0 b1 b2))), (me, .inl (cI, 512, .inl (mm2 g h))), (sa, .inl (cI, 2, .inl (p2 s0 s1))), (pa, .inl (cI, 2, .inl (p2 p0 p1))), (za, .inl (cZ, 2, .inl (p2 (bI z0) (bI z1)))), (ca, .inl (cZ, 2, .inl (p2 (bI c0) (bI c1)))), (ta, .inl (cI, 2, .inl (p2 t0 t1))), (bg, .inl (cI, 256, .inl fw))] H := hP.sub [0, 1, 2, 3, 4, 5, 6, 7, 8] rfl
                          have hD9 : va_D A [(o, .inr (5, [.int 0, .ref im, .int (bI tr), .ref rc, .ref bg, .int ro, .ref oa, .ref xa, .ref ya, .ref rg, .ref me, .ref sa, .ref pa, .ref za, .ref ca, .int (bI kp), .ref ta, .ref na])), (rg, .inl (cI, 6, .inl (rg6 a x d b0 b1 b2))), (me, .inl (cI, 512, .inl (mm2 g h))), (sa, .inl (cI, 2, .inl (p2 s0 s1))), (pa, .inl (cI, 2, .inl (p2 p0 p1))), (za, .inl (cZ, 2, .inl (p2 (bI z0) (bI z1)))), (ca, .inl (cZ, 2, .inl (p2 (bI c0) (bI c1)))), (ta, .inl (cI, 2, .inl (p2 t0 t1))), (bg, .inl (cI, 256, .inl fw))] := hD.sub [0, 1, 2, 3, 4, 5, 6, 7, 8] (by decide) rfl
                          exact W.zret (v := (bI true)) hx hb hr (nb_n _) (fun t ht hW => ⟨⟨(bI true), (), rfl, by rw [show i = 256 from hk] at h143; rw [alkB, h143, decide_eq_false h148, decide_eq_true h158, decide_eq_false h168, decide_eq_false h183]; rfl, by rw [ht]; exact hP9, va_K.moved hW.alike hK, hD9⟩, hS.F ht⟩) hS.2.2 d_MO_alike_199
                        · have h183 : t1 = 1 := h183
                          refine lv_iconst (v := 1) hx hb d_MO_alike_186 (by decide) ?_
                          refine lv_goto (tgt := 191) hx hb d_MO_alike_187 rfl ?_
                          refine lv_icmp_ne (tgt := 198) hx hb d_MO_alike_191 rfl (fun _ => ?_) (fun hq9 => absurd hq9 (by decide))
                          refine lv_iconst (v := 0) hx hb d_MO_alike_198 (by decide) ?_
                          have hP9 : va_P D vwCl [(o, .inr (5, [.int 0, .ref im, .int (bI tr), .ref rc, .ref bg, .int ro, .ref oa, .ref xa, .ref ya, .ref rg, .ref me, .ref sa, .ref pa, .ref za, .ref ca, .int (bI kp), .ref ta, .ref na])), (rg, .inl (cI, 6, .inl (rg6 a x d b0 b1 b2))), (me, .inl (cI, 512, .inl (mm2 g h))), (sa, .inl (cI, 2, .inl (p2 s0 s1))), (pa, .inl (cI, 2, .inl (p2 p0 p1))), (za, .inl (cZ, 2, .inl (p2 (bI z0) (bI z1)))), (ca, .inl (cZ, 2, .inl (p2 (bI c0) (bI c1)))), (ta, .inl (cI, 2, .inl (p2 t0 t1))), (bg, .inl (cI, 256, .inl fw))] H := hP.sub [0, 1, 2, 3, 4, 5, 6, 7, 8] rfl
                          have hD9 : va_D A [(o, .inr (5, [.int 0, .ref im, .int (bI tr), .ref rc, .ref bg, .int ro, .ref oa, .ref xa, .ref ya, .ref rg, .ref me, .ref sa, .ref pa, .ref za, .ref ca, .int (bI kp), .ref ta, .ref na])), (rg, .inl (cI, 6, .inl (rg6 a x d b0 b1 b2))), (me, .inl (cI, 512, .inl (mm2 g h))), (sa, .inl (cI, 2, .inl (p2 s0 s1))), (pa, .inl (cI, 2, .inl (p2 p0 p1))), (za, .inl (cZ, 2, .inl (p2 (bI z0) (bI z1)))), (ca, .inl (cZ, 2, .inl (p2 (bI c0) (bI c1)))), (ta, .inl (cI, 2, .inl (p2 t0 t1))), (bg, .inl (cI, 256, .inl fw))] := hD.sub [0, 1, 2, 3, 4, 5, 6, 7, 8] (by decide) rfl
                          exact W.zret (v := (bI false)) hx hb hr (nb_n _) (fun t ht hW => ⟨⟨(bI false), (), rfl, by rw [show i = 256 from hk] at h143; rw [alkB, h143, decide_eq_false h148, decide_eq_true h158, decide_eq_false h168, decide_eq_true h183]; rfl, by rw [ht]; exact hP9, va_K.moved hW.alike hK, hD9⟩, hS.F ht⟩) hS.2.2 d_MO_alike_199
                      · have h168 : t0 = 1 := h168
                        refine lv_iconst (v := 1) hx hb d_MO_alike_171 (by decide) ?_
                        refine lv_goto (tgt := 176) hx hb d_MO_alike_172 rfl ?_
                        refine lv_aload_n hx hb d_MO_alike_176 rfl (lv_at hl 2 rfl) ?_
                        refine va_get (D := D) (ci := 5) (v := .ref ta) (C := R_MO) (T := T_MO) (N := 18) hx hb hts iw_MO hown hK hP 0 rfl rfl 16 (by decide) (hts _ k_711) (fun _ h9 => h9) rfl d_MO_alike_177 ?_
                        refine lv_iconst (v := 1) hx hb d_MO_alike_180 (by decide) ?_
                        refine va_iald hx hb hK hP 7 0 rfl rfl (vp_in_nI (n := 1) (by decide) (by decide)) d_MO_alike_181 ?_
                        refine lv_iconst (v := 1) hx hb d_MO_alike_182 (by decide) ?_
                        refine lv_icmp_ne (tgt := 190) hx hb d_MO_alike_183 rfl (fun h183 => ?_) (fun h183 => ?_)
                        · have h183 : ¬ t1 = 1 := h183
                          refine lv_iconst (v := 0) hx hb d_MO_alike_190 (by decide) ?_
                          refine lv_icmp_ne (tgt := 198) hx hb d_MO_alike_191 rfl (fun _ => ?_) (fun hq9 => absurd hq9 (by decide))
                          refine lv_iconst (v := 0) hx hb d_MO_alike_198 (by decide) ?_
                          have hP9 : va_P D vwCl [(o, .inr (5, [.int 0, .ref im, .int (bI tr), .ref rc, .ref bg, .int ro, .ref oa, .ref xa, .ref ya, .ref rg, .ref me, .ref sa, .ref pa, .ref za, .ref ca, .int (bI kp), .ref ta, .ref na])), (rg, .inl (cI, 6, .inl (rg6 a x d b0 b1 b2))), (me, .inl (cI, 512, .inl (mm2 g h))), (sa, .inl (cI, 2, .inl (p2 s0 s1))), (pa, .inl (cI, 2, .inl (p2 p0 p1))), (za, .inl (cZ, 2, .inl (p2 (bI z0) (bI z1)))), (ca, .inl (cZ, 2, .inl (p2 (bI c0) (bI c1)))), (ta, .inl (cI, 2, .inl (p2 t0 t1))), (bg, .inl (cI, 256, .inl fw))] H := hP.sub [0, 1, 2, 3, 4, 5, 6, 7, 8] rfl
                          have hD9 : va_D A [(o, .inr (5, [.int 0, .ref im, .int (bI tr), .ref rc, .ref bg, .int ro, .ref oa, .ref xa, .ref ya, .ref rg, .ref me, .ref sa, .ref pa, .ref za, .ref ca, .int (bI kp), .ref ta, .ref na])), (rg, .inl (cI, 6, .inl (rg6 a x d b0 b1 b2))), (me, .inl (cI, 512, .inl (mm2 g h))), (sa, .inl (cI, 2, .inl (p2 s0 s1))), (pa, .inl (cI, 2, .inl (p2 p0 p1))), (za, .inl (cZ, 2, .inl (p2 (bI z0) (bI z1)))), (ca, .inl (cZ, 2, .inl (p2 (bI c0) (bI c1)))), (ta, .inl (cI, 2, .inl (p2 t0 t1))), (bg, .inl (cI, 256, .inl fw))] := hD.sub [0, 1, 2, 3, 4, 5, 6, 7, 8] (by decide) rfl
                          exact W.zret (v := (bI false)) hx hb hr (nb_n _) (fun t ht hW => ⟨⟨(bI false), (), rfl, by rw [show i = 256 from hk] at h143; rw [alkB, h143, decide_eq_false h148, decide_eq_true h158, decide_eq_true h168, decide_eq_false h183]; rfl, by rw [ht]; exact hP9, va_K.moved hW.alike hK, hD9⟩, hS.F ht⟩) hS.2.2 d_MO_alike_199
                        · have h183 : t1 = 1 := h183
                          refine lv_iconst (v := 1) hx hb d_MO_alike_186 (by decide) ?_
                          refine lv_goto (tgt := 191) hx hb d_MO_alike_187 rfl ?_
                          refine lv_icmp_ne (tgt := 198) hx hb d_MO_alike_191 rfl (fun hq9 => absurd (by decide) hq9) (fun _ => ?_)
                          refine lv_iconst (v := 1) hx hb d_MO_alike_194 (by decide) ?_
                          refine lv_goto (tgt := 199) hx hb d_MO_alike_195 rfl ?_
                          have hP9 : va_P D vwCl [(o, .inr (5, [.int 0, .ref im, .int (bI tr), .ref rc, .ref bg, .int ro, .ref oa, .ref xa, .ref ya, .ref rg, .ref me, .ref sa, .ref pa, .ref za, .ref ca, .int (bI kp), .ref ta, .ref na])), (rg, .inl (cI, 6, .inl (rg6 a x d b0 b1 b2))), (me, .inl (cI, 512, .inl (mm2 g h))), (sa, .inl (cI, 2, .inl (p2 s0 s1))), (pa, .inl (cI, 2, .inl (p2 p0 p1))), (za, .inl (cZ, 2, .inl (p2 (bI z0) (bI z1)))), (ca, .inl (cZ, 2, .inl (p2 (bI c0) (bI c1)))), (ta, .inl (cI, 2, .inl (p2 t0 t1))), (bg, .inl (cI, 256, .inl fw))] H := hP.sub [0, 1, 2, 3, 4, 5, 6, 7, 8] rfl
                          have hD9 : va_D A [(o, .inr (5, [.int 0, .ref im, .int (bI tr), .ref rc, .ref bg, .int ro, .ref oa, .ref xa, .ref ya, .ref rg, .ref me, .ref sa, .ref pa, .ref za, .ref ca, .int (bI kp), .ref ta, .ref na])), (rg, .inl (cI, 6, .inl (rg6 a x d b0 b1 b2))), (me, .inl (cI, 512, .inl (mm2 g h))), (sa, .inl (cI, 2, .inl (p2 s0 s1))), (pa, .inl (cI, 2, .inl (p2 p0 p1))), (za, .inl (cZ, 2, .inl (p2 (bI z0) (bI z1)))), (ca, .inl (cZ, 2, .inl (p2 (bI c0) (bI c1)))), (ta, .inl (cI, 2, .inl (p2 t0 t1))), (bg, .inl (cI, 256, .inl fw))] := hD.sub [0, 1, 2, 3, 4, 5, 6, 7, 8] (by decide) rfl
                          exact W.zret (v := (bI true)) hx hb hr (nb_n _) (fun t ht hW => ⟨⟨(bI true), (), rfl, by rw [show i = 256 from hk] at h143; rw [alkB, h143, decide_eq_false h148, decide_eq_true h158, decide_eq_true h168, decide_eq_true h183]; rfl, by rw [ht]; exact hP9, va_K.moved hW.alike hK, hD9⟩, hS.F ht⟩) hS.2.2 d_MO_alike_199
              | succ k ih =>
                intro i hk H locs ls hl hP hD hS
                refine lv_iload_n hx hb d_MO_alike_88 rfl (lv_at hl 0 rfl) ?_
                refine lv_sipush (v := 256) hx hb d_MO_alike_89 (by decide) ?_
                refine lv_icmp_ge (tgt := 130) hx hb d_MO_alike_92 rfl (fun hq9 => absurd hq9 (nI_ge (b := 256) (by omega) (by decide))) (fun _ => ?_)
                refine lv_iload_n hx hb d_MO_alike_95 rfl (lv_at hl 1 rfl) ?_
                refine lv_if_eq (tgt := 122) hx hb d_MO_alike_96 rfl (fun h96 => ?_) (fun h96 => ?_)
                · have h96 : decide (a = b0 ∧ x = b1 ∧ s0 = s1 ∧ z0 = z1 ∧ c0 = c1 ∧ ∀ j : Nat, j < i → g j = h j) = false := bI_f h96
                  refine lv_iconst (v := 0) hx hb d_MO_alike_122 (by decide) ?_
                  refine lv_istore_n hx hb d_MO_alike_123 rfl hl (by decide) rfl (fun ls hl => ?_)
                  have hl : lv_has ls 3 [(1, .int 0), (2, .int (nI i)), (0, .ref o)] := hl
                  refine lv_iinc (k := 1) (v := nI (i + 1)) hx hb d_MO_alike_124 hl rfl (nI_inc _) (by decide) rfl (fun ls hl => ?_)
                  have hl : lv_has ls 3 [(2, .int (nI (i + 1))), (1, .int 0), (0, .ref o)] := hl
                  refine lv_goto (tgt := 88) hx hb d_MO_alike_127 rfl ?_
                  exact ih (i + 1) (by omega) H locs ls (by rw [show decide (a = b0 ∧ x = b1 ∧ s0 = s1 ∧ z0 = z1 ∧ c0 = c1 ∧ ∀ j : Nat, j < (i + 1) → g j = h j) = false from decide_eq_false (fun q => of_decide_eq_false h96 ⟨q.1, q.2.1, q.2.2.1, q.2.2.2.1, q.2.2.2.2.1, fun j hj => q.2.2.2.2.2 j (by omega)⟩)]; exact hl) hP hD hS
                · have h96 : decide (a = b0 ∧ x = b1 ∧ s0 = s1 ∧ z0 = z1 ∧ c0 = c1 ∧ ∀ j : Nat, j < i → g j = h j) = true := bI_t h96
                  refine lv_aload_n hx hb d_MO_alike_99 rfl (lv_at hl 2 rfl) ?_
                  refine va_get (D := D) (ci := 5) (v := .ref me) (C := R_MO) (T := T_MO) (N := 18) hx hb hts iw_MO hown hK hP 0 rfl rfl 10 (by decide) (hts _ k_705) (fun _ h9 => h9) rfl d_MO_alike_100 ?_
                  refine lv_iload_n hx hb d_MO_alike_103 rfl (lv_at hl 0 rfl) ?_
                  refine va_iald hx hb hK hP 2 0 rfl rfl (vp_in_nI (by omega) (by decide)) d_MO_alike_104 ?_
                  refine lv_topi (fun y9 e9 => ?_)
                  have e9 : y9 = g i := e9.trans (mmi_0 _ _ (by omega))
                  subst e9
                  refine lv_aload_n hx hb d_MO_alike_105 rfl (lv_at hl 2 rfl) ?_
                  refine va_get (D := D) (ci := 5) (v := .ref me) (C := R_MO) (T := T_MO) (N := 18) hx hb hts iw_MO hown hK hP 0 rfl rfl 10 (by decide) (hts _ k_705) (fun _ h9 => h9) rfl d_MO_alike_106 ?_
                  refine lv_sipush (v := 256) hx hb d_MO_alike_109 (by decide) ?_
                  refine lv_iload_n hx hb d_MO_alike_112 rfl (lv_at hl 0 rfl) ?_
                  refine lv_iadd hx hb d_MO_alike_113 ?_
                  refine va_iald hx hb hK hP 2 0 rfl rfl (ini_1 (by omega)) d_MO_alike_114 ?_
                  refine lv_topi (fun y9 e9 => ?_)
                  have e9 : y9 = h i := e9.trans (mmi_1 _ _ (by omega))
                  subst e9
                  refine lv_icmp_ne (tgt := 122) hx hb d_MO_alike_115 rfl (fun h115 => ?_) (fun h115 => ?_)
                  · have h115 : ¬ g i = h i := h115
                    refine lv_iconst (v := 0) hx hb d_MO_alike_122 (by decide) ?_
                    refine lv_istore_n hx hb d_MO_alike_123 rfl hl (by decide) rfl (fun ls hl => ?_)
                    have hl : lv_has ls 3 [(1, .int 0), (2, .int (nI i)), (0, .ref o)] := hl
                    refine lv_iinc (k := 1) (v := nI (i + 1)) hx hb d_MO_alike_124 hl rfl (nI_inc _) (by decide) rfl (fun ls hl => ?_)
                    have hl : lv_has ls 3 [(2, .int (nI (i + 1))), (1, .int 0), (0, .ref o)] := hl
                    refine lv_goto (tgt := 88) hx hb d_MO_alike_127 rfl ?_
                    exact ih (i + 1) (by omega) H locs ls (by rw [show decide (a = b0 ∧ x = b1 ∧ s0 = s1 ∧ z0 = z1 ∧ c0 = c1 ∧ ∀ j : Nat, j < (i + 1) → g j = h j) = false from decide_eq_false (fun q => h115 (q.2.2.2.2.2 i (by omega)))]; exact hl) hP hD hS
                  · have h115 : g i = h i := h115
                    refine lv_iconst (v := 1) hx hb d_MO_alike_118 (by decide) ?_
                    refine lv_goto (tgt := 123) hx hb d_MO_alike_119 rfl ?_
                    refine lv_istore_n hx hb d_MO_alike_123 rfl hl (by decide) rfl (fun ls hl => ?_)
                    have hl : lv_has ls 3 [(1, .int 1), (2, .int (nI i)), (0, .ref o)] := hl
                    refine lv_iinc (k := 1) (v := nI (i + 1)) hx hb d_MO_alike_124 hl rfl (nI_inc _) (by decide) rfl (fun ls hl => ?_)
                    have hl : lv_has ls 3 [(2, .int (nI (i + 1))), (1, .int 1), (0, .ref o)] := hl
                    refine lv_goto (tgt := 88) hx hb d_MO_alike_127 rfl ?_
                    exact ih (i + 1) (by omega) H locs ls (by rw [show decide (a = b0 ∧ x = b1 ∧ s0 = s1 ∧ z0 = z1 ∧ c0 = c1 ∧ ∀ j : Nat, j < (i + 1) → g j = h j) = true from decide_eq_true ⟨(of_decide_eq_true h96).1, (of_decide_eq_true h96).2.1, (of_decide_eq_true h96).2.2.1, (of_decide_eq_true h96).2.2.2.1, (of_decide_eq_true h96).2.2.2.2.1, lt_s (of_decide_eq_true h96).2.2.2.2.2 h115⟩]; exact hl) hP hD hS
            exact loop 256 0 rfl H locs ls (by rw [show decide (a = b0 ∧ x = b1 ∧ s0 = s1 ∧ z0 = z1 ∧ c0 = c1 ∧ ∀ j : Nat, j < 0 → g j = h j) = false from decide_eq_false (fun q => h77 (by rw [q.2.2.2.2.1]))]; exact hl) hP hD hS
          · have h77 : bI c0 = bI c1 := h77
            refine lv_iconst (v := 1) hx hb d_MO_alike_80 (by decide) ?_
            refine lv_goto (tgt := 85) hx hb d_MO_alike_81 rfl ?_
            refine lv_istore_n hx hb d_MO_alike_85 rfl hl (by decide) rfl (fun ls hl => ?_)
            have hl : lv_has ls 3 [(1, .int 1), (0, .ref o)] := hl
            refine lv_iconst (v := 0) hx hb d_MO_alike_86 (by decide) ?_
            refine lv_istore_n hx hb d_MO_alike_87 rfl hl (by decide) rfl (fun ls hl => ?_)
            have hl : lv_has ls 3 [(2, .int 0), (1, .int 1), (0, .ref o)] := hl
            have loop : ∀ (k : Nat) (i : Nat), (i + k = 256) → ∀ (H : Heap) (locs : List Loc) (ls : Array Slot), lv_has ls 3 [(2, .int (nI i)), (1, .int (bI (decide (a = b0 ∧ x = b1 ∧ s0 = s1 ∧ z0 = z1 ∧ c0 = c1 ∧ ∀ j : Nat, j < i → g j = h j)))), (0, .ref o)] → va_P D vwCl [(o, .inr (5, [.int 0, .ref im, .int (bI tr), .ref rc, .ref bg, .int ro, .ref oa, .ref xa, .ref ya, .ref rg, .ref me, .ref sa, .ref pa, .ref za, .ref ca, .int (bI kp), .ref ta, .ref na])), (rg, .inl (cI, 6, .inl (rg6 a x d b0 b1 b2))), (me, .inl (cI, 512, .inl (mm2 g h))), (sa, .inl (cI, 2, .inl (p2 s0 s1))), (pa, .inl (cI, 2, .inl (p2 p0 p1))), (za, .inl (cZ, 2, .inl (p2 (bI z0) (bI z1)))), (ca, .inl (cZ, 2, .inl (p2 (bI c0) (bI c1)))), (ta, .inl (cI, 2, .inl (p2 t0 t1))), (bg, .inl (cI, 256, .inl fw))] H → va_D A [(o, .inr (5, [.int 0, .ref im, .int (bI tr), .ref rc, .ref bg, .int ro, .ref oa, .ref xa, .ref ya, .ref rg, .ref me, .ref sa, .ref pa, .ref za, .ref ca, .int (bI kp), .ref ta, .ref na])), (rg, .inl (cI, 6, .inl (rg6 a x d b0 b1 b2))), (me, .inl (cI, 512, .inl (mm2 g h))), (sa, .inl (cI, 2, .inl (p2 s0 s1))), (pa, .inl (cI, 2, .inl (p2 p0 p1))), (za, .inl (cZ, 2, .inl (p2 (bI z0) (bI z1)))), (ca, .inl (cZ, 2, .inl (p2 (bI c0) (bI c1)))), (ta, .inl (cI, 2, .inl (p2 t0 t1))), (bg, .inl (cI, 256, .inl fw))] → va_S A s.heap H locs → W p l e { frames := 0, cells := 0, slots := 0, locals := 0 } s m args below meth c H locs 0 0 (MQ below (QI D cI cZ (fun r (_ : Unit) => r = bI (alkB (decide (a = b0 ∧ x = b1 ∧ s0 = s1 ∧ z0 = z1 ∧ c0 = c1 ∧ ∀ j : Nat, j < 256 → g j = h j)) (fw p0.toNatClampNeg) p1 t0 t1)) (fun (_ : Unit) => [(o, .inr (5, [.int 0, .ref im, .int (bI tr), .ref rc, .ref bg, .int ro, .ref oa, .ref xa, .ref ya, .ref rg, .ref me, .ref sa, .ref pa, .ref za, .ref ca, .int (bI kp), .ref ta, .ref na])), (rg, .inl (cI, 6, .inl (rg6 a x d b0 b1 b2))), (me, .inl (cI, 512, .inl (mm2 g h))), (sa, .inl (cI, 2, .inl (p2 s0 s1))), (pa, .inl (cI, 2, .inl (p2 p0 p1))), (za, .inl (cZ, 2, .inl (p2 (bI z0) (bI z1)))), (ca, .inl (cZ, 2, .inl (p2 (bI c0) (bI c1)))), (ta, .inl (cI, 2, .inl (p2 t0 t1))), (bg, .inl (cI, 256, .inl fw))]) A) args s 0 0 A) (F0 m 88 ls []) := by
              intro k
              induction k with
              | zero =>
                intro i hk H locs ls hl hP hD hS
                refine lv_iload_n hx hb d_MO_alike_88 rfl (lv_at hl 0 rfl) ?_
                refine lv_sipush (v := 256) hx hb d_MO_alike_89 (by decide) ?_
                refine lv_icmp_ge (tgt := 130) hx hb d_MO_alike_92 rfl (fun _ => ?_) (fun hq9 => absurd (by rw [show i = 256 from hk]; decide) hq9)
                refine lv_aload_n hx hb d_MO_alike_130 rfl (lv_at hl 2 rfl) ?_
                refine va_get (D := D) (ci := 5) (v := .ref bg) (C := R_MO) (T := T_MO) (N := 18) hx hb hts iw_MO hown hK hP 0 rfl rfl 4 (by decide) (hts _ k_699) (fun _ h9 => h9) rfl d_MO_alike_131 ?_
                refine lv_aload_n hx hb d_MO_alike_134 rfl (lv_at hl 2 rfl) ?_
                refine va_get (D := D) (ci := 5) (v := .ref pa) (C := R_MO) (T := T_MO) (N := 18) hx hb hts iw_MO hown hK hP 0 rfl rfl 12 (by decide) (hts _ k_707) (fun _ h9 => h9) rfl d_MO_alike_135 ?_
                refine lv_iconst (v := 0) hx hb d_MO_alike_138 (by decide) ?_
                refine va_iald hx hb hK hP 4 0 rfl rfl (vp_in_nI (n := 0) (by decide) (by decide)) d_MO_alike_139 ?_
                refine va_iald hx hb hK hP 8 0 rfl rfl hv d_MO_alike_140 ?_
                refine lv_istore_n hx hb d_MO_alike_141 rfl hl (by decide) rfl (fun ls hl => ?_)
                have hl : lv_has ls 3 [(2, .int (fw p0.toNatClampNeg)), (1, .int (bI (decide (a = b0 ∧ x = b1 ∧ s0 = s1 ∧ z0 = z1 ∧ c0 = c1 ∧ ∀ j : Nat, j < i → g j = h j)))), (0, .ref o)] := hl
                refine lv_iload_n hx hb d_MO_alike_142 rfl (lv_at hl 1 rfl) ?_
                refine lv_if_eq (tgt := 198) hx hb d_MO_alike_143 rfl (fun h143 => ?_) (fun h143 => ?_)
                · have h143 : decide (a = b0 ∧ x = b1 ∧ s0 = s1 ∧ z0 = z1 ∧ c0 = c1 ∧ ∀ j : Nat, j < i → g j = h j) = false := bI_f h143
                  refine lv_iconst (v := 0) hx hb d_MO_alike_198 (by decide) ?_
                  have hP9 : va_P D vwCl [(o, .inr (5, [.int 0, .ref im, .int (bI tr), .ref rc, .ref bg, .int ro, .ref oa, .ref xa, .ref ya, .ref rg, .ref me, .ref sa, .ref pa, .ref za, .ref ca, .int (bI kp), .ref ta, .ref na])), (rg, .inl (cI, 6, .inl (rg6 a x d b0 b1 b2))), (me, .inl (cI, 512, .inl (mm2 g h))), (sa, .inl (cI, 2, .inl (p2 s0 s1))), (pa, .inl (cI, 2, .inl (p2 p0 p1))), (za, .inl (cZ, 2, .inl (p2 (bI z0) (bI z1)))), (ca, .inl (cZ, 2, .inl (p2 (bI c0) (bI c1)))), (ta, .inl (cI, 2, .inl (p2 t0 t1))), (bg, .inl (cI, 256, .inl fw))] H := hP.sub [0, 1, 2, 3, 4, 5, 6, 7, 8] rfl
                  have hD9 : va_D A [(o, .inr (5, [.int 0, .ref im, .int (bI tr), .ref rc, .ref bg, .int ro, .ref oa, .ref xa, .ref ya, .ref rg, .ref me, .ref sa, .ref pa, .ref za, .ref ca, .int (bI kp), .ref ta, .ref na])), (rg, .inl (cI, 6, .inl (rg6 a x d b0 b1 b2))), (me, .inl (cI, 512, .inl (mm2 g h))), (sa, .inl (cI, 2, .inl (p2 s0 s1))), (pa, .inl (cI, 2, .inl (p2 p0 p1))), (za, .inl (cZ, 2, .inl (p2 (bI z0) (bI z1)))), (ca, .inl (cZ, 2, .inl (p2 (bI c0) (bI c1)))), (ta, .inl (cI, 2, .inl (p2 t0 t1))), (bg, .inl (cI, 256, .inl fw))] := hD.sub [0, 1, 2, 3, 4, 5, 6, 7, 8] (by decide) rfl
                  exact W.zret (v := (bI false)) hx hb hr (nb_n _) (fun t ht hW => ⟨⟨(bI false), (), rfl, by rw [show i = 256 from hk] at h143; rw [alkB, h143]; rfl, by rw [ht]; exact hP9, va_K.moved hW.alike hK, hD9⟩, hS.F ht⟩) hS.2.2 d_MO_alike_199
                · have h143 : decide (a = b0 ∧ x = b1 ∧ s0 = s1 ∧ z0 = z1 ∧ c0 = c1 ∧ ∀ j : Nat, j < i → g j = h j) = true := bI_t h143
                  refine lv_iload_n hx hb d_MO_alike_146 rfl (lv_at hl 0 rfl) ?_
                  refine lv_iconst (v := (-1)) hx hb d_MO_alike_147 (by decide) ?_
                  refine lv_icmp_eq (tgt := 198) hx hb d_MO_alike_148 rfl (fun h148 => ?_) (fun h148 => ?_)
                  · have h148 : fw p0.toNatClampNeg = (-1) := h148
                    refine lv_iconst (v := 0) hx hb d_MO_alike_198 (by decide) ?_
                    have hP9 : va_P D vwCl [(o, .inr (5, [.int 0, .ref im, .int (bI tr), .ref rc, .ref bg, .int ro, .ref oa, .ref xa, .ref ya, .ref rg, .ref me, .ref sa, .ref pa, .ref za, .ref ca, .int (bI kp), .ref ta, .ref na])), (rg, .inl (cI, 6, .inl (rg6 a x d b0 b1 b2))), (me, .inl (cI, 512, .inl (mm2 g h))), (sa, .inl (cI, 2, .inl (p2 s0 s1))), (pa, .inl (cI, 2, .inl (p2 p0 p1))), (za, .inl (cZ, 2, .inl (p2 (bI z0) (bI z1)))), (ca, .inl (cZ, 2, .inl (p2 (bI c0) (bI c1)))), (ta, .inl (cI, 2, .inl (p2 t0 t1))), (bg, .inl (cI, 256, .inl fw))] H := hP.sub [0, 1, 2, 3, 4, 5, 6, 7, 8] rfl
                    have hD9 : va_D A [(o, .inr (5, [.int 0, .ref im, .int (bI tr), .ref rc, .ref bg, .int ro, .ref oa, .ref xa, .ref ya, .ref rg, .ref me, .ref sa, .ref pa, .ref za, .ref ca, .int (bI kp), .ref ta, .ref na])), (rg, .inl (cI, 6, .inl (rg6 a x d b0 b1 b2))), (me, .inl (cI, 512, .inl (mm2 g h))), (sa, .inl (cI, 2, .inl (p2 s0 s1))), (pa, .inl (cI, 2, .inl (p2 p0 p1))), (za, .inl (cZ, 2, .inl (p2 (bI z0) (bI z1)))), (ca, .inl (cZ, 2, .inl (p2 (bI c0) (bI c1)))), (ta, .inl (cI, 2, .inl (p2 t0 t1))), (bg, .inl (cI, 256, .inl fw))] := hD.sub [0, 1, 2, 3, 4, 5, 6, 7, 8] (by decide) rfl
                    exact W.zret (v := (bI false)) hx hb hr (nb_n _) (fun t ht hW => ⟨⟨(bI false), (), rfl, by rw [show i = 256 from hk] at h143; rw [alkB, h143, decide_eq_true h148]; rfl, by rw [ht]; exact hP9, va_K.moved hW.alike hK, hD9⟩, hS.F ht⟩) hS.2.2 d_MO_alike_199
                  · have h148 : ¬ fw p0.toNatClampNeg = (-1) := h148
                    refine lv_iload_n hx hb d_MO_alike_151 rfl (lv_at hl 0 rfl) ?_
                    refine lv_aload_n hx hb d_MO_alike_152 rfl (lv_at hl 2 rfl) ?_
                    refine va_get (D := D) (ci := 5) (v := .ref pa) (C := R_MO) (T := T_MO) (N := 18) hx hb hts iw_MO hown hK hP 0 rfl rfl 12 (by decide) (hts _ k_707) (fun _ h9 => h9) rfl d_MO_alike_153 ?_
                    refine lv_iconst (v := 1) hx hb d_MO_alike_156 (by decide) ?_
                    refine va_iald hx hb hK hP 4 0 rfl rfl (vp_in_nI (n := 1) (by decide) (by decide)) d_MO_alike_157 ?_
                    refine lv_icmp_ne (tgt := 198) hx hb d_MO_alike_158 rfl (fun h158 => ?_) (fun h158 => ?_)
                    · have h158 : ¬ fw p0.toNatClampNeg = p1 := h158
                      refine lv_iconst (v := 0) hx hb d_MO_alike_198 (by decide) ?_
                      have hP9 : va_P D vwCl [(o, .inr (5, [.int 0, .ref im, .int (bI tr), .ref rc, .ref bg, .int ro, .ref oa, .ref xa, .ref ya, .ref rg, .ref me, .ref sa, .ref pa, .ref za, .ref ca, .int (bI kp), .ref ta, .ref na])), (rg, .inl (cI, 6, .inl (rg6 a x d b0 b1 b2))), (me, .inl (cI, 512, .inl (mm2 g h))), (sa, .inl (cI, 2, .inl (p2 s0 s1))), (pa, .inl (cI, 2, .inl (p2 p0 p1))), (za, .inl (cZ, 2, .inl (p2 (bI z0) (bI z1)))), (ca, .inl (cZ, 2, .inl (p2 (bI c0) (bI c1)))), (ta, .inl (cI, 2, .inl (p2 t0 t1))), (bg, .inl (cI, 256, .inl fw))] H := hP.sub [0, 1, 2, 3, 4, 5, 6, 7, 8] rfl
                      have hD9 : va_D A [(o, .inr (5, [.int 0, .ref im, .int (bI tr), .ref rc, .ref bg, .int ro, .ref oa, .ref xa, .ref ya, .ref rg, .ref me, .ref sa, .ref pa, .ref za, .ref ca, .int (bI kp), .ref ta, .ref na])), (rg, .inl (cI, 6, .inl (rg6 a x d b0 b1 b2))), (me, .inl (cI, 512, .inl (mm2 g h))), (sa, .inl (cI, 2, .inl (p2 s0 s1))), (pa, .inl (cI, 2, .inl (p2 p0 p1))), (za, .inl (cZ, 2, .inl (p2 (bI z0) (bI z1)))), (ca, .inl (cZ, 2, .inl (p2 (bI c0) (bI c1)))), (ta, .inl (cI, 2, .inl (p2 t0 t1))), (bg, .inl (cI, 256, .inl fw))] := hD.sub [0, 1, 2, 3, 4, 5, 6, 7, 8] (by decide) rfl
                      exact W.zret (v := (bI false)) hx hb hr (nb_n _) (fun t ht hW => ⟨⟨(bI false), (), rfl, by rw [show i = 256 from hk] at h143; rw [alkB, h143, decide_eq_false h148, decide_eq_false h158]; rfl, by rw [ht]; exact hP9, va_K.moved hW.alike hK, hD9⟩, hS.F ht⟩) hS.2.2 d_MO_alike_199
                    · have h158 : fw p0.toNatClampNeg = p1 := h158
                      refine lv_aload_n hx hb d_MO_alike_161 rfl (lv_at hl 2 rfl) ?_
                      refine va_get (D := D) (ci := 5) (v := .ref ta) (C := R_MO) (T := T_MO) (N := 18) hx hb hts iw_MO hown hK hP 0 rfl rfl 16 (by decide) (hts _ k_711) (fun _ h9 => h9) rfl d_MO_alike_162 ?_
                      refine lv_iconst (v := 0) hx hb d_MO_alike_165 (by decide) ?_
                      refine va_iald hx hb hK hP 7 0 rfl rfl (vp_in_nI (n := 0) (by decide) (by decide)) d_MO_alike_166 ?_
                      refine lv_iconst (v := 1) hx hb d_MO_alike_167 (by decide) ?_
                      refine lv_icmp_ne (tgt := 175) hx hb d_MO_alike_168 rfl (fun h168 => ?_) (fun h168 => ?_)
                      · have h168 : ¬ t0 = 1 := h168
                        refine lv_iconst (v := 0) hx hb d_MO_alike_175 (by decide) ?_
                        refine lv_aload_n hx hb d_MO_alike_176 rfl (lv_at hl 2 rfl) ?_
                        refine va_get (D := D) (ci := 5) (v := .ref ta) (C := R_MO) (T := T_MO) (N := 18) hx hb hts iw_MO hown hK hP 0 rfl rfl 16 (by decide) (hts _ k_711) (fun _ h9 => h9) rfl d_MO_alike_177 ?_
                        refine lv_iconst (v := 1) hx hb d_MO_alike_180 (by decide) ?_
                        refine va_iald hx hb hK hP 7 0 rfl rfl (vp_in_nI (n := 1) (by decide) (by decide)) d_MO_alike_181 ?_
                        refine lv_iconst (v := 1) hx hb d_MO_alike_182 (by decide) ?_
                        refine lv_icmp_ne (tgt := 190) hx hb d_MO_alike_183 rfl (fun h183 => ?_) (fun h183 => ?_)
                        · have h183 : ¬ t1 = 1 := h183
                          refine lv_iconst (v := 0) hx hb d_MO_alike_190 (by decide) ?_
                          refine lv_icmp_ne (tgt := 198) hx hb d_MO_alike_191 rfl (fun hq9 => absurd (by decide) hq9) (fun _ => ?_)
                          refine lv_iconst (v := 1) hx hb d_MO_alike_194 (by decide) ?_
                          refine lv_goto (tgt := 199) hx hb d_MO_alike_195 rfl ?_
                          have hP9 : va_P D vwCl [(o, .inr (5, [.int 0, .ref im, .int (bI tr), .ref rc, .ref bg, .int ro, .ref oa, .ref xa, .ref ya, .ref rg, .ref me, .ref sa, .ref pa, .ref za, .ref ca, .int (bI kp), .ref ta, .ref na])), (rg, .inl (cI, 6, .inl (rg6 a x d b0 b1 b2))), (me, .inl (cI, 512, .inl (mm2 g h))), (sa, .inl (cI, 2, .inl (p2 s0 s1))), (pa, .inl (cI, 2, .inl (p2 p0 p1))), (za, .inl (cZ, 2, .inl (p2 (bI z0) (bI z1)))), (ca, .inl (cZ, 2, .inl (p2 (bI c0) (bI c1)))), (ta, .inl (cI, 2, .inl (p2 t0 t1))), (bg, .inl (cI, 256, .inl fw))] H := hP.sub [0, 1, 2, 3, 4, 5, 6, 7, 8] rfl
                          have hD9 : va_D A [(o, .inr (5, [.int 0, .ref im, .int (bI tr), .ref rc, .ref bg, .int ro, .ref oa, .ref xa, .ref ya, .ref rg, .ref me, .ref sa, .ref pa, .ref za, .ref ca, .int (bI kp), .ref ta, .ref na])), (rg, .inl (cI, 6, .inl (rg6 a x d b0 b1 b2))), (me, .inl (cI, 512, .inl (mm2 g h))), (sa, .inl (cI, 2, .inl (p2 s0 s1))), (pa, .inl (cI, 2, .inl (p2 p0 p1))), (za, .inl (cZ, 2, .inl (p2 (bI z0) (bI z1)))), (ca, .inl (cZ, 2, .inl (p2 (bI c0) (bI c1)))), (ta, .inl (cI, 2, .inl (p2 t0 t1))), (bg, .inl (cI, 256, .inl fw))] := hD.sub [0, 1, 2, 3, 4, 5, 6, 7, 8] (by decide) rfl
                          exact W.zret (v := (bI true)) hx hb hr (nb_n _) (fun t ht hW => ⟨⟨(bI true), (), rfl, by rw [show i = 256 from hk] at h143; rw [alkB, h143, decide_eq_false h148, decide_eq_true h158, decide_eq_false h168, decide_eq_false h183]; rfl, by rw [ht]; exact hP9, va_K.moved hW.alike hK, hD9⟩, hS.F ht⟩) hS.2.2 d_MO_alike_199
                        · have h183 : t1 = 1 := h183
                          refine lv_iconst (v := 1) hx hb d_MO_alike_186 (by decide) ?_
                          refine lv_goto (tgt := 191) hx hb d_MO_alike_187 rfl ?_
                          refine lv_icmp_ne (tgt := 198) hx hb d_MO_alike_191 rfl (fun _ => ?_) (fun hq9 => absurd hq9 (by decide))
                          refine lv_iconst (v := 0) hx hb d_MO_alike_198 (by decide) ?_
                          have hP9 : va_P D vwCl [(o, .inr (5, [.int 0, .ref im, .int (bI tr), .ref rc, .ref bg, .int ro, .ref oa, .ref xa, .ref ya, .ref rg, .ref me, .ref sa, .ref pa, .ref za, .ref ca, .int (bI kp), .ref ta, .ref na])), (rg, .inl (cI, 6, .inl (rg6 a x d b0 b1 b2))), (me, .inl (cI, 512, .inl (mm2 g h))), (sa, .inl (cI, 2, .inl (p2 s0 s1))), (pa, .inl (cI, 2, .inl (p2 p0 p1))), (za, .inl (cZ, 2, .inl (p2 (bI z0) (bI z1)))), (ca, .inl (cZ, 2, .inl (p2 (bI c0) (bI c1)))), (ta, .inl (cI, 2, .inl (p2 t0 t1))), (bg, .inl (cI, 256, .inl fw))] H := hP.sub [0, 1, 2, 3, 4, 5, 6, 7, 8] rfl
                          have hD9 : va_D A [(o, .inr (5, [.int 0, .ref im, .int (bI tr), .ref rc, .ref bg, .int ro, .ref oa, .ref xa, .ref ya, .ref rg, .ref me, .ref sa, .ref pa, .ref za, .ref ca, .int (bI kp), .ref ta, .ref na])), (rg, .inl (cI, 6, .inl (rg6 a x d b0 b1 b2))), (me, .inl (cI, 512, .inl (mm2 g h))), (sa, .inl (cI, 2, .inl (p2 s0 s1))), (pa, .inl (cI, 2, .inl (p2 p0 p1))), (za, .inl (cZ, 2, .inl (p2 (bI z0) (bI z1)))), (ca, .inl (cZ, 2, .inl (p2 (bI c0) (bI c1)))), (ta, .inl (cI, 2, .inl (p2 t0 t1))), (bg, .inl (cI, 256, .inl fw))] := hD.sub [0, 1, 2, 3, 4, 5, 6, 7, 8] (by decide) rfl
                          exact W.zret (v := (bI false)) hx hb hr (nb_n _) (fun t ht hW => ⟨⟨(bI false), (), rfl, by rw [show i = 256 from hk] at h143; rw [alkB, h143, decide_eq_false h148, decide_eq_true h158, decide_eq_false h168, decide_eq_true h183]; rfl, by rw [ht]; exact hP9, va_K.moved hW.alike hK, hD9⟩, hS.F ht⟩) hS.2.2 d_MO_alike_199
                      · have h168 : t0 = 1 := h168
                        refine lv_iconst (v := 1) hx hb d_MO_alike_171 (by decide) ?_
                        refine lv_goto (tgt := 176) hx hb d_MO_alike_172 rfl ?_
                        refine lv_aload_n hx hb d_MO_alike_176 rfl (lv_at hl 2 rfl) ?_
                        refine va_get (D := D) (ci := 5) (v := .ref ta) (C := R_MO) (T := T_MO) (N := 18) hx hb hts iw_MO hown hK hP 0 rfl rfl 16 (by decide) (hts _ k_711) (fun _ h9 => h9) rfl d_MO_alike_177 ?_
                        refine lv_iconst (v := 1) hx hb d_MO_alike_180 (by decide) ?_
                        refine va_iald hx hb hK hP 7 0 rfl rfl (vp_in_nI (n := 1) (by decide) (by decide)) d_MO_alike_181 ?_
                        refine lv_iconst (v := 1) hx hb d_MO_alike_182 (by decide) ?_
                        refine lv_icmp_ne (tgt := 190) hx hb d_MO_alike_183 rfl (fun h183 => ?_) (fun h183 => ?_)
                        · have h183 : ¬ t1 = 1 := h183
                          refine lv_iconst (v := 0) hx hb d_MO_alike_190 (by decide) ?_
                          refine lv_icmp_ne (tgt := 198) hx hb d_MO_alike_191 rfl (fun _ => ?_) (fun hq9 => absurd hq9 (by decide))
                          refine lv_iconst (v := 0) hx hb d_MO_alike_198 (by decide) ?_
                          have hP9 : va_P D vwCl [(o, .inr (5, [.int 0, .ref im, .int (bI tr), .ref rc, .ref bg, .int ro, .ref oa, .ref xa, .ref ya, .ref rg, .ref me, .ref sa, .ref pa, .ref za, .ref ca, .int (bI kp), .ref ta, .ref na])), (rg, .inl (cI, 6, .inl (rg6 a x d b0 b1 b2))), (me, .inl (cI, 512, .inl (mm2 g h))), (sa, .inl (cI, 2, .inl (p2 s0 s1))), (pa, .inl (cI, 2, .inl (p2 p0 p1))), (za, .inl (cZ, 2, .inl (p2 (bI z0) (bI z1)))), (ca, .inl (cZ, 2, .inl (p2 (bI c0) (bI c1)))), (ta, .inl (cI, 2, .inl (p2 t0 t1))), (bg, .inl (cI, 256, .inl fw))] H := hP.sub [0, 1, 2, 3, 4, 5, 6, 7, 8] rfl
                          have hD9 : va_D A [(o, .inr (5, [.int 0, .ref im, .int (bI tr), .ref rc, .ref bg, .int ro, .ref oa, .ref xa, .ref ya, .ref rg, .ref me, .ref sa, .ref pa, .ref za, .ref ca, .int (bI kp), .ref ta, .ref na])), (rg, .inl (cI, 6, .inl (rg6 a x d b0 b1 b2))), (me, .inl (cI, 512, .inl (mm2 g h))), (sa, .inl (cI, 2, .inl (p2 s0 s1))), (pa, .inl (cI, 2, .inl (p2 p0 p1))), (za, .inl (cZ, 2, .inl (p2 (bI z0) (bI z1)))), (ca, .inl (cZ, 2, .inl (p2 (bI c0) (bI c1)))), (ta, .inl (cI, 2, .inl (p2 t0 t1))), (bg, .inl (cI, 256, .inl fw))] := hD.sub [0, 1, 2, 3, 4, 5, 6, 7, 8] (by decide) rfl
                          exact W.zret (v := (bI false)) hx hb hr (nb_n _) (fun t ht hW => ⟨⟨(bI false), (), rfl, by rw [show i = 256 from hk] at h143; rw [alkB, h143, decide_eq_false h148, decide_eq_true h158, decide_eq_true h168, decide_eq_false h183]; rfl, by rw [ht]; exact hP9, va_K.moved hW.alike hK, hD9⟩, hS.F ht⟩) hS.2.2 d_MO_alike_199
                        · have h183 : t1 = 1 := h183
                          refine lv_iconst (v := 1) hx hb d_MO_alike_186 (by decide) ?_
                          refine lv_goto (tgt := 191) hx hb d_MO_alike_187 rfl ?_
                          refine lv_icmp_ne (tgt := 198) hx hb d_MO_alike_191 rfl (fun hq9 => absurd (by decide) hq9) (fun _ => ?_)
                          refine lv_iconst (v := 1) hx hb d_MO_alike_194 (by decide) ?_
                          refine lv_goto (tgt := 199) hx hb d_MO_alike_195 rfl ?_
                          have hP9 : va_P D vwCl [(o, .inr (5, [.int 0, .ref im, .int (bI tr), .ref rc, .ref bg, .int ro, .ref oa, .ref xa, .ref ya, .ref rg, .ref me, .ref sa, .ref pa, .ref za, .ref ca, .int (bI kp), .ref ta, .ref na])), (rg, .inl (cI, 6, .inl (rg6 a x d b0 b1 b2))), (me, .inl (cI, 512, .inl (mm2 g h))), (sa, .inl (cI, 2, .inl (p2 s0 s1))), (pa, .inl (cI, 2, .inl (p2 p0 p1))), (za, .inl (cZ, 2, .inl (p2 (bI z0) (bI z1)))), (ca, .inl (cZ, 2, .inl (p2 (bI c0) (bI c1)))), (ta, .inl (cI, 2, .inl (p2 t0 t1))), (bg, .inl (cI, 256, .inl fw))] H := hP.sub [0, 1, 2, 3, 4, 5, 6, 7, 8] rfl
                          have hD9 : va_D A [(o, .inr (5, [.int 0, .ref im, .int (bI tr), .ref rc, .ref bg, .int ro, .ref oa, .ref xa, .ref ya, .ref rg, .ref me, .ref sa, .ref pa, .ref za, .ref ca, .int (bI kp), .ref ta, .ref na])), (rg, .inl (cI, 6, .inl (rg6 a x d b0 b1 b2))), (me, .inl (cI, 512, .inl (mm2 g h))), (sa, .inl (cI, 2, .inl (p2 s0 s1))), (pa, .inl (cI, 2, .inl (p2 p0 p1))), (za, .inl (cZ, 2, .inl (p2 (bI z0) (bI z1)))), (ca, .inl (cZ, 2, .inl (p2 (bI c0) (bI c1)))), (ta, .inl (cI, 2, .inl (p2 t0 t1))), (bg, .inl (cI, 256, .inl fw))] := hD.sub [0, 1, 2, 3, 4, 5, 6, 7, 8] (by decide) rfl
                          exact W.zret (v := (bI true)) hx hb hr (nb_n _) (fun t ht hW => ⟨⟨(bI true), (), rfl, by rw [show i = 256 from hk] at h143; rw [alkB, h143, decide_eq_false h148, decide_eq_true h158, decide_eq_true h168, decide_eq_true h183]; rfl, by rw [ht]; exact hP9, va_K.moved hW.alike hK, hD9⟩, hS.F ht⟩) hS.2.2 d_MO_alike_199
              | succ k ih =>
                intro i hk H locs ls hl hP hD hS
                refine lv_iload_n hx hb d_MO_alike_88 rfl (lv_at hl 0 rfl) ?_
                refine lv_sipush (v := 256) hx hb d_MO_alike_89 (by decide) ?_
                refine lv_icmp_ge (tgt := 130) hx hb d_MO_alike_92 rfl (fun hq9 => absurd hq9 (nI_ge (b := 256) (by omega) (by decide))) (fun _ => ?_)
                refine lv_iload_n hx hb d_MO_alike_95 rfl (lv_at hl 1 rfl) ?_
                refine lv_if_eq (tgt := 122) hx hb d_MO_alike_96 rfl (fun h96 => ?_) (fun h96 => ?_)
                · have h96 : decide (a = b0 ∧ x = b1 ∧ s0 = s1 ∧ z0 = z1 ∧ c0 = c1 ∧ ∀ j : Nat, j < i → g j = h j) = false := bI_f h96
                  refine lv_iconst (v := 0) hx hb d_MO_alike_122 (by decide) ?_
                  refine lv_istore_n hx hb d_MO_alike_123 rfl hl (by decide) rfl (fun ls hl => ?_)
                  have hl : lv_has ls 3 [(1, .int 0), (2, .int (nI i)), (0, .ref o)] := hl
                  refine lv_iinc (k := 1) (v := nI (i + 1)) hx hb d_MO_alike_124 hl rfl (nI_inc _) (by decide) rfl (fun ls hl => ?_)
                  have hl : lv_has ls 3 [(2, .int (nI (i + 1))), (1, .int 0), (0, .ref o)] := hl
                  refine lv_goto (tgt := 88) hx hb d_MO_alike_127 rfl ?_
                  exact ih (i + 1) (by omega) H locs ls (by rw [show decide (a = b0 ∧ x = b1 ∧ s0 = s1 ∧ z0 = z1 ∧ c0 = c1 ∧ ∀ j : Nat, j < (i + 1) → g j = h j) = false from decide_eq_false (fun q => of_decide_eq_false h96 ⟨q.1, q.2.1, q.2.2.1, q.2.2.2.1, q.2.2.2.2.1, fun j hj => q.2.2.2.2.2 j (by omega)⟩)]; exact hl) hP hD hS
                · have h96 : decide (a = b0 ∧ x = b1 ∧ s0 = s1 ∧ z0 = z1 ∧ c0 = c1 ∧ ∀ j : Nat, j < i → g j = h j) = true := bI_t h96
                  refine lv_aload_n hx hb d_MO_alike_99 rfl (lv_at hl 2 rfl) ?_
                  refine va_get (D := D) (ci := 5) (v := .ref me) (C := R_MO) (T := T_MO) (N := 18) hx hb hts iw_MO hown hK hP 0 rfl rfl 10 (by decide) (hts _ k_705) (fun _ h9 => h9) rfl d_MO_alike_100 ?_
                  refine lv_iload_n hx hb d_MO_alike_103 rfl (lv_at hl 0 rfl) ?_
                  refine va_iald hx hb hK hP 2 0 rfl rfl (vp_in_nI (by omega) (by decide)) d_MO_alike_104 ?_
                  refine lv_topi (fun y9 e9 => ?_)
                  have e9 : y9 = g i := e9.trans (mmi_0 _ _ (by omega))
                  subst e9
                  refine lv_aload_n hx hb d_MO_alike_105 rfl (lv_at hl 2 rfl) ?_
                  refine va_get (D := D) (ci := 5) (v := .ref me) (C := R_MO) (T := T_MO) (N := 18) hx hb hts iw_MO hown hK hP 0 rfl rfl 10 (by decide) (hts _ k_705) (fun _ h9 => h9) rfl d_MO_alike_106 ?_
                  refine lv_sipush (v := 256) hx hb d_MO_alike_109 (by decide) ?_
                  refine lv_iload_n hx hb d_MO_alike_112 rfl (lv_at hl 0 rfl) ?_
                  refine lv_iadd hx hb d_MO_alike_113 ?_
                  refine va_iald hx hb hK hP 2 0 rfl rfl (ini_1 (by omega)) d_MO_alike_114 ?_
                  refine lv_topi (fun y9 e9 => ?_)
                  have e9 : y9 = h i := e9.trans (mmi_1 _ _ (by omega))
                  subst e9
                  refine lv_icmp_ne (tgt := 122) hx hb d_MO_alike_115 rfl (fun h115 => ?_) (fun h115 => ?_)
                  · have h115 : ¬ g i = h i := h115
                    refine lv_iconst (v := 0) hx hb d_MO_alike_122 (by decide) ?_
                    refine lv_istore_n hx hb d_MO_alike_123 rfl hl (by decide) rfl (fun ls hl => ?_)
                    have hl : lv_has ls 3 [(1, .int 0), (2, .int (nI i)), (0, .ref o)] := hl
                    refine lv_iinc (k := 1) (v := nI (i + 1)) hx hb d_MO_alike_124 hl rfl (nI_inc _) (by decide) rfl (fun ls hl => ?_)
                    have hl : lv_has ls 3 [(2, .int (nI (i + 1))), (1, .int 0), (0, .ref o)] := hl
                    refine lv_goto (tgt := 88) hx hb d_MO_alike_127 rfl ?_
                    exact ih (i + 1) (by omega) H locs ls (by rw [show decide (a = b0 ∧ x = b1 ∧ s0 = s1 ∧ z0 = z1 ∧ c0 = c1 ∧ ∀ j : Nat, j < (i + 1) → g j = h j) = false from decide_eq_false (fun q => h115 (q.2.2.2.2.2 i (by omega)))]; exact hl) hP hD hS
                  · have h115 : g i = h i := h115
                    refine lv_iconst (v := 1) hx hb d_MO_alike_118 (by decide) ?_
                    refine lv_goto (tgt := 123) hx hb d_MO_alike_119 rfl ?_
                    refine lv_istore_n hx hb d_MO_alike_123 rfl hl (by decide) rfl (fun ls hl => ?_)
                    have hl : lv_has ls 3 [(1, .int 1), (2, .int (nI i)), (0, .ref o)] := hl
                    refine lv_iinc (k := 1) (v := nI (i + 1)) hx hb d_MO_alike_124 hl rfl (nI_inc _) (by decide) rfl (fun ls hl => ?_)
                    have hl : lv_has ls 3 [(2, .int (nI (i + 1))), (1, .int 1), (0, .ref o)] := hl
                    refine lv_goto (tgt := 88) hx hb d_MO_alike_127 rfl ?_
                    exact ih (i + 1) (by omega) H locs ls (by rw [show decide (a = b0 ∧ x = b1 ∧ s0 = s1 ∧ z0 = z1 ∧ c0 = c1 ∧ ∀ j : Nat, j < (i + 1) → g j = h j) = true from decide_eq_true ⟨(of_decide_eq_true h96).1, (of_decide_eq_true h96).2.1, (of_decide_eq_true h96).2.2.1, (of_decide_eq_true h96).2.2.2.1, (of_decide_eq_true h96).2.2.2.2.1, lt_s (of_decide_eq_true h96).2.2.2.2.2 h115⟩]; exact hl) hP hD hS
            exact loop 256 0 rfl H locs ls (by rw [show decide (a = b0 ∧ x = b1 ∧ s0 = s1 ∧ z0 = z1 ∧ c0 = c1 ∧ ∀ j : Nat, j < 0 → g j = h j) = true from decide_eq_true ⟨h17, h32, h47, bI_inj h62, bI_inj h77, fun _ q => absurd q (Nat.not_lt_zero _)⟩]; exact hl) hP hD hS
