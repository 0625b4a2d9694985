set_option maxHeartbeats 4000000 in
set_option maxRecDepth 100000 in
theorem q_transfers (l : Launch) (D : va_G) (cI cZ : ClassId) (o : Nat) (th : Int32) (im : Nat) (tr : Bool) (rc : Nat) (bg : Nat) (ro : Int32) (oa : Nat) (xa : Nat) (ya : Nat) (rg : Nat) (me : Nat) (sa : Nat) (pa : Nat) (za : Nat) (ca : Nat) (kp : Bool) (ta : Nat) (na : Nat) (a : Int32) (x : Int32) (d : Int32) (b0 : Int32) (b1 : Int32) (b2 : Int32) (g : Nat → Int32) (h : Nat → Int32) (s0 : Int32) (s1 : Int32) (p0 : Int32) (p1 : Int32) (z0 : Bool) (z1 : Bool) (c0 : Bool) (c1 : Bool) (op : Int32) (n : Int32) (sz : Nat) : MetV l y_MO_transfers w_MO_transfers { frames := 2, cells := 0, slots := 0, locals := 46 } D cI cZ [.ref o, .int op, .int n] [(o, .inr (5, [.int th, .ref im, .int (bI tr), .ref rc, .ref bg, .int ro, .ref oa, .ref xa, .ref ya, .ref rg, .ref me, .ref sa, .ref pa, .ref za, .ref ca, .int (bI kp), .ref ta, .ref na])), (rg, .inl (cI, 6, .inl (rg6 a x d b0 b1 b2))), (me, .inl (cI, 512, .inl (mm2 g h))), (sa, .inl (cI, 2, .inl (p2 s0 s1))), (pa, .inl (cI, 2, .inl (p2 p0 p1))), (za, .inl (cZ, 2, .inl (p2 (bI z0) (bI z1)))), (ca, .inl (cZ, 2, .inl (p2 (bI c0) (bI c1))))] sz (fun (u : (Nat → Int32) × Int32 × Int32 × Int32 × Bool) => match u with | (g1, a1, s9, q0, zz) => (g1, a1, s9, q0, zz) = mTran op n g a x s0 p0 z0 c0) (fun (u : (Nat → Int32) × Int32 × Int32 × Int32 × Bool) => match u with | (g1, a1, s9, q0, zz) => [(o, .inr (5, [.int th, .ref im, .int (bI tr), .ref rc, .ref bg, .int ro, .ref oa, .ref xa, .ref ya, .ref rg, .ref me, .ref sa, .ref pa, .ref za, .ref ca, .int (bI kp), .ref ta, .ref na])), (rg, .inl (cI, 6, .inl (rg6 a1 x d b0 b1 b2))), (me, .inl (cI, 512, .inl (mm2 g1 h))), (sa, .inl (cI, 2, .inl (p2 s9 s1))), (pa, .inl (cI, 2, .inl (p2 q0 p1))), (za, .inl (cZ, 2, .inl (p2 (bI zz) (bI z1)))), (ca, .inl (cZ, 2, .inl (p2 (bI c0) (bI c1))))]) 0 0 := by
  refine ofV (cc := c_MO_transfers) (maxL := 6) (ret := none) (by decide) rfl (Nat.le_of_ble_eq_true rfl) ?_
  intro p e s m args below meth c A H hH0 hx hb hr hlocks hts hown hnm hml ls hl hP hK hD hA hS hN
  have hown : s.vm.findClass R_MO = some m.cls := hown
  have hl : lv_has ls 6 [(0, .ref o), (1, .int op), (2, .int n)] := hl
  refine lv_aload_n hx hb d_MO_transfers_0 rfl (lv_at hl 0 rfl) ?_
  refine va_get (D := D) (ci := 5) (v := .ref pa) (C := R_MO) (T := T_MO) (N := 18) hx hb hts iw_MO hown hK hP 0 rfl rfl 12 (by decide) (hts _ k_707) (fun _ h9 => h9) rfl d_MO_transfers_1 ?_
  refine lv_iconst (v := 0) hx hb d_MO_transfers_4 (by decide) ?_
  refine va_iald hx hb hK hP 4 0 rfl rfl (vp_in_nI (n := 0) (by decide) (by decide)) d_MO_transfers_5 ?_
  refine lv_istore_n hx hb d_MO_transfers_6 rfl hl (by decide) rfl (fun ls hl => ?_)
  have hl : lv_has ls 6 [(3, .int p0), (0, .ref o), (1, .int op), (2, .int n)] := hl
  refine lv_iload_n hx hb d_MO_transfers_7 rfl (lv_at hl 2 rfl) ?_
  refine lv_bipush (v := 22) hx hb d_MO_transfers_8 (by decide) ?_
  refine lv_icmp_eq (tgt := 74) hx hb d_MO_transfers_10 rfl (fun h10 => ?_) (fun h10 => ?_)
  · refine lv_iconst (v := 1) hx hb d_MO_transfers_74 (by decide) ?_
    refine lv_goto (tgt := 79) hx hb d_MO_transfers_75 rfl ?_
    refine lv_istore hx hb d_MO_transfers_79 hl (by decide) rfl (fun ls hl => ?_)
    have hl : lv_has ls 6 [(4, .int 1), (3, .int p0), (0, .ref o), (1, .int op), (2, .int n)] := hl
    refine lv_iload_n hx hb d_MO_transfers_81 rfl (lv_at hl 3 rfl) ?_
    refine lv_bipush (v := 27) hx hb d_MO_transfers_82 (by decide) ?_
    refine lv_icmp_ne (tgt := 93) hx hb d_MO_transfers_84 rfl (fun _ => ?_) (fun h9 => absurd h9 (by rw [h10]; first | done | decide))
    refine lv_iload_n hx hb d_MO_transfers_93 rfl (lv_at hl 3 rfl) ?_
    refine lv_bipush (v := 28) hx hb d_MO_transfers_94 (by decide) ?_
    refine lv_icmp_ge (tgt := 118) hx hb d_MO_transfers_96 rfl (fun h9 => absurd h9 (by rw [h10]; first | done | decide)) (fun _ => ?_)
    refine lv_aload_n hx hb d_MO_transfers_99 rfl (lv_at hl 2 rfl) ?_
    refine va_get (D := D) (ci := 5) (v := .ref pa) (C := R_MO) (T := T_MO) (N := 18) hx hb hts iw_MO hown hK hP 0 rfl rfl 12 (by decide) (hts _ k_707) (fun _ h9 => h9) rfl d_MO_transfers_100 ?_
    refine lv_iconst (v := 0) hx hb d_MO_transfers_103 (by decide) ?_
    refine lv_iload hx hb d_MO_transfers_104 (lv_at hl 0 rfl) ?_
    refine lv_if_eq (tgt := 113) hx hb d_MO_transfers_106 rfl (fun h9 => absurd h9 (by decide)) (fun _ => ?_)
    refine lv_iload_n hx hb d_MO_transfers_109 rfl (lv_at hl 4 rfl) ?_
    refine lv_goto (tgt := 114) hx hb d_MO_transfers_110 rfl ?_
    refine va_iast hx hb hK hP hD hS 4 0 rfl rfl (vp_in_nI (n := 0) (by decide) (by decide)) d_MO_transfers_114 (fun H locs hP hD hS => ?_)
    have hP : va_P D vwCl [(o, .inr (5, [.int th, .ref im, .int (bI tr), .ref rc, .ref bg, .int ro, .ref oa, .ref xa, .ref ya, .ref rg, .ref me, .ref sa, .ref pa, .ref za, .ref ca, .int (bI kp), .ref ta, .ref na])), (rg, .inl (cI, 6, .inl (rg6 a x d b0 b1 b2))), (me, .inl (cI, 512, .inl (mm2 g h))), (sa, .inl (cI, 2, .inl (p2 s0 s1))), (pa, .inl (cI, 2, .inl (upd (p2 p0 p1) 0 n))), (za, .inl (cZ, 2, .inl (p2 (bI z0) (bI z1)))), (ca, .inl (cZ, 2, .inl (p2 (bI c0) (bI c1))))] H := hP
    have hD : va_D A [(o, .inr (5, [.int th, .ref im, .int (bI tr), .ref rc, .ref bg, .int ro, .ref oa, .ref xa, .ref ya, .ref rg, .ref me, .ref sa, .ref pa, .ref za, .ref ca, .int (bI kp), .ref ta, .ref na])), (rg, .inl (cI, 6, .inl (rg6 a x d b0 b1 b2))), (me, .inl (cI, 512, .inl (mm2 g h))), (sa, .inl (cI, 2, .inl (p2 s0 s1))), (pa, .inl (cI, 2, .inl (upd (p2 p0 p1) 0 n))), (za, .inl (cZ, 2, .inl (p2 (bI z0) (bI z1)))), (ca, .inl (cZ, 2, .inl (p2 (bI c0) (bI c1))))] := hD
    rw [show upd (p2 p0 p1) 0 n = p2 n p1 from p2_0] at hP hD
    have hP : va_P D vwCl [(o, .inr (5, [.int th, .ref im, .int (bI tr), .ref rc, .ref bg, .int ro, .ref oa, .ref xa, .ref ya, .ref rg, .ref me, .ref sa, .ref pa, .ref za, .ref ca, .int (bI kp), .ref ta, .ref na])), (rg, .inl (cI, 6, .inl (rg6 a x d b0 b1 b2))), (me, .inl (cI, 512, .inl (mm2 g h))), (sa, .inl (cI, 2, .inl (p2 s0 s1))), (pa, .inl (cI, 2, .inl (p2 n p1))), (za, .inl (cZ, 2, .inl (p2 (bI z0) (bI z1)))), (ca, .inl (cZ, 2, .inl (p2 (bI c0) (bI c1))))] H := hP
    have hD : va_D A [(o, .inr (5, [.int th, .ref im, .int (bI tr), .ref rc, .ref bg, .int ro, .ref oa, .ref xa, .ref ya, .ref rg, .ref me, .ref sa, .ref pa, .ref za, .ref ca, .int (bI kp), .ref ta, .ref na])), (rg, .inl (cI, 6, .inl (rg6 a x d b0 b1 b2))), (me, .inl (cI, 512, .inl (mm2 g h))), (sa, .inl (cI, 2, .inl (p2 s0 s1))), (pa, .inl (cI, 2, .inl (p2 n p1))), (za, .inl (cZ, 2, .inl (p2 (bI z0) (bI z1)))), (ca, .inl (cZ, 2, .inl (p2 (bI c0) (bI c1))))] := hD
    refine lv_goto (tgt := 198) hx hb d_MO_transfers_115 rfl ?_
    have hP9 : va_P D vwCl [(o, .inr (5, [.int th, .ref im, .int (bI tr), .ref rc, .ref bg, .int ro, .ref oa, .ref xa, .ref ya, .ref rg, .ref me, .ref sa, .ref pa, .ref za, .ref ca, .int (bI kp), .ref ta, .ref na])), (rg, .inl (cI, 6, .inl (rg6 a x d b0 b1 b2))), (me, .inl (cI, 512, .inl (mm2 g h))), (sa, .inl (cI, 2, .inl (p2 s0 s1))), (pa, .inl (cI, 2, .inl (p2 n p1))), (za, .inl (cZ, 2, .inl (p2 (bI z0) (bI z1)))), (ca, .inl (cZ, 2, .inl (p2 (bI c0) (bI c1))))] H := hP.sub [0, 1, 2, 3, 4, 5, 6] rfl
    have hD9 : va_D A [(o, .inr (5, [.int th, .ref im, .int (bI tr), .ref rc, .ref bg, .int ro, .ref oa, .ref xa, .ref ya, .ref rg, .ref me, .ref sa, .ref pa, .ref za, .ref ca, .int (bI kp), .ref ta, .ref na])), (rg, .inl (cI, 6, .inl (rg6 a x d b0 b1 b2))), (me, .inl (cI, 512, .inl (mm2 g h))), (sa, .inl (cI, 2, .inl (p2 s0 s1))), (pa, .inl (cI, 2, .inl (p2 n p1))), (za, .inl (cZ, 2, .inl (p2 (bI z0) (bI z1)))), (ca, .inl (cZ, 2, .inl (p2 (bI c0) (bI c1))))] := hD.sub [0, 1, 2, 3, 4, 5, 6] (by decide) rfl
    exact W.vret hx hb hr (fun t ht hW => ⟨⟨(g, a, s0, n, z0), rfl, by rw [h10]; rfl, by rw [ht]; exact hP9, va_K.moved hW.alike hK, hD9⟩, hS.F ht⟩) hS.2.2 d_MO_transfers_198
  · refine lv_iload_n hx hb d_MO_transfers_13 rfl (lv_at hl 2 rfl) ?_
    refine lv_bipush (v := 27) hx hb d_MO_transfers_14 (by decide) ?_
    refine lv_icmp_eq (tgt := 74) hx hb d_MO_transfers_16 rfl (fun h16 => ?_) (fun h16 => ?_)
    · refine lv_iconst (v := 1) hx hb d_MO_transfers_74 (by decide) ?_
      refine lv_goto (tgt := 79) hx hb d_MO_transfers_75 rfl ?_
      refine lv_istore hx hb d_MO_transfers_79 hl (by decide) rfl (fun ls hl => ?_)
      have hl : lv_has ls 6 [(4, .int 1), (3, .int p0), (0, .ref o), (1, .int op), (2, .int n)] := hl
      refine lv_iload_n hx hb d_MO_transfers_81 rfl (lv_at hl 3 rfl) ?_
      refine lv_bipush (v := 27) hx hb d_MO_transfers_82 (by decide) ?_
      refine lv_icmp_ne (tgt := 93) hx hb d_MO_transfers_84 rfl (fun h9 => absurd (by rw [h16]; first | done | decide) h9) (fun _ => ?_)
      refine lv_aload_n hx hb d_MO_transfers_87 rfl (lv_at hl 2 rfl) ?_
      refine lv_iconst (v := 0) hx hb d_MO_transfers_88 (by decide) ?_
      refine lv_iload_n hx hb d_MO_transfers_89 rfl (lv_at hl 1 rfl) ?_
      have hPc := hP.sub (ws' := [(o, .inr (5, [.int th, .ref im, .int (bI tr), .ref rc, .ref bg, .int ro, .ref oa, .ref xa, .ref ya, .ref rg, .ref me, .ref sa, .ref pa, .ref za, .ref ca, .int (bI kp), .ref ta, .ref na])), (me, .inl (cI, 512, .inl (mm2 g h))), (sa, .inl (cI, 2, .inl (p2 s0 s1)))]) [0, 2, 3] rfl
      have hDc := hD.sub (ws' := [(o, .inr (5, [.int th, .ref im, .int (bI tr), .ref rc, .ref bg, .int ro, .ref oa, .ref xa, .ref ya, .ref rg, .ref me, .ref sa, .ref pa, .ref za, .ref ca, .int (bI kp), .ref ta, .ref na])), (me, .inl (cI, 512, .inl (mm2 g h))), (sa, .inl (cI, 2, .inl (p2 s0 s1)))]) [0, 2, 3] (by decide) rfl
      have hFc := va_free (wc := [(o, .inr (5, [.int th, .ref im, .int (bI tr), .ref rc, .ref bg, .int ro, .ref oa, .ref xa, .ref ya, .ref rg, .ref me, .ref sa, .ref pa, .ref za, .ref ca, .int (bI kp), .ref ta, .ref na])), (me, .inl (cI, 512, .inl (mm2 g h))), (sa, .inl (cI, 2, .inl (p2 s0 s1)))]) hD hS hA [0, 2, 3] rfl
      refine va_callv (va_runV (As := [.int 0, .int p0]) (rest := []) ⟨hx, hb, hml, hown, hts⟩ (q_push0 l D cI cZ o th im tr rc bg ro oa xa ya rg me sa pa za ca kp ta na g h s0 s1 p0 H.size) ⟨cB 2 hts k_833 k_62 k_830 hd_MO_push ⟨Nat.le_of_ble_eq_true rfl, Nat.le_of_ble_eq_true rfl⟩ rfl rfl, hts _ k_832, hts _ k_39⟩ (PcW.preV (va_recv hK hP (q0 := 0) (ci := 5) rfl rfl) hPc hK hDc hN) rfl rfl hl.1 rfl (lv_room (Nat.le_of_ble_eq_true rfl)) d_MO_transfers_90 ⟨Nat.le_of_ble_eq_true rfl, Nat.le_of_ble_eq_true rfl⟩) hS (fun q _ h => hFc q h) hFc (fun u t H1 locs ht hvm e90 hB hz1 hk1 hS => ?_)
      obtain ⟨g190, s990⟩ := u
      obtain ⟨hP1, hK1, hD1⟩ := hB
      rw [ht] at hP1
      obtain ⟨hP, hD⟩ := va_join (wr := [(rg, .inl (cI, 6, .inl (rg6 a x d b0 b1 b2))), (pa, .inl (cI, 2, .inl (p2 p0 p1))), (za, .inl (cZ, 2, .inl (p2 (bI z0) (bI z1)))), (ca, .inl (cZ, 2, .inl (p2 (bI c0) (bI c1))))]) (w1 := [(o, .inr (5, [.int th, .ref im, .int (bI tr), .ref rc, .ref bg, .int ro, .ref oa, .ref xa, .ref ya, .ref rg, .ref me, .ref sa, .ref pa, .ref za, .ref ca, .int (bI kp), .ref ta, .ref na])), (me, .inl (cI, 512, .inl (mm2 g190 h))), (sa, .inl (cI, 2, .inl (p2 s990 s1)))]) hP hD [0, 2, 3] [1, 4, 5, 6] rfl rfl (by decide) (by decide) hk1 hFc hP1 hD1
      generalize H1 = H at hP hS ⊢
      try dsimp only at e90
      obtain ⟨e90_0, e90_1⟩ := e90
      replace e90_0 := e90_0.symm
      subst e90_0
      replace e90_1 := e90_1.symm
      subst e90_1
      have hP : va_P D vwCl [(rg, .inl (cI, 6, .inl (rg6 a x d b0 b1 b2))), (pa, .inl (cI, 2, .inl (p2 p0 p1))), (za, .inl (cZ, 2, .inl (p2 (bI z0) (bI z1)))), (ca, .inl (cZ, 2, .inl (p2 (bI c0) (bI c1)))), (o, .inr (5, [.int th, .ref im, .int (bI tr), .ref rc, .ref bg, .int ro, .ref oa, .ref xa, .ref ya, .ref rg, .ref me, .ref sa, .ref pa, .ref za, .ref ca, .int (bI kp), .ref ta, .ref na])), (me, .inl (cI, 512, .inl (mm2 (wr g s0 p0) h))), (sa, .inl (cI, 2, .inl (p2 ((s0 - 1) &&& 255) s1)))] H := hP
      have hD : va_D A [(rg, .inl (cI, 6, .inl (rg6 a x d b0 b1 b2))), (pa, .inl (cI, 2, .inl (p2 p0 p1))), (za, .inl (cZ, 2, .inl (p2 (bI z0) (bI z1)))), (ca, .inl (cZ, 2, .inl (p2 (bI c0) (bI c1)))), (o, .inr (5, [.int th, .ref im, .int (bI tr), .ref rc, .ref bg, .int ro, .ref oa, .ref xa, .ref ya, .ref rg, .ref me, .ref sa, .ref pa, .ref za, .ref ca, .int (bI kp), .ref ta, .ref na])), (me, .inl (cI, 512, .inl (mm2 (wr g s0 p0) h))), (sa, .inl (cI, 2, .inl (p2 ((s0 - 1) &&& 255) s1)))] := hD
      refine lv_iload_n hx hb d_MO_transfers_93 rfl (lv_at hl 3 rfl) ?_
      refine lv_bipush (v := 28) hx hb d_MO_transfers_94 (by decide) ?_
      refine lv_icmp_ge (tgt := 118) hx hb d_MO_transfers_96 rfl (fun h9 => absurd h9 (by rw [h16]; first | done | decide)) (fun _ => ?_)
      refine lv_aload_n hx hb d_MO_transfers_99 rfl (lv_at hl 2 rfl) ?_
      refine va_get (D := D) (ci := 5) (v := .ref pa) (C := R_MO) (T := T_MO) (N := 18) hx hb hts iw_MO hown hK hP 4 rfl rfl 12 (by decide) (hts _ k_707) (fun _ h9 => h9) rfl d_MO_transfers_100 ?_
      refine lv_iconst (v := 0) hx hb d_MO_transfers_103 (by decide) ?_
      refine lv_iload hx hb d_MO_transfers_104 (lv_at hl 0 rfl) ?_
      refine lv_if_eq (tgt := 113) hx hb d_MO_transfers_106 rfl (fun h9 => absurd h9 (by decide)) (fun _ => ?_)
      refine lv_iload_n hx hb d_MO_transfers_109 rfl (lv_at hl 4 rfl) ?_
      refine lv_goto (tgt := 114) hx hb d_MO_transfers_110 rfl ?_
      refine va_iast hx hb hK hP hD hS 1 0 rfl rfl (vp_in_nI (n := 0) (by decide) (by decide)) d_MO_transfers_114 (fun H locs hP hD hS => ?_)
      have hP : va_P D vwCl [(rg, .inl (cI, 6, .inl (rg6 a x d b0 b1 b2))), (pa, .inl (cI, 2, .inl (upd (p2 p0 p1) 0 n))), (za, .inl (cZ, 2, .inl (p2 (bI z0) (bI z1)))), (ca, .inl (cZ, 2, .inl (p2 (bI c0) (bI c1)))), (o, .inr (5, [.int th, .ref im, .int (bI tr), .ref rc, .ref bg, .int ro, .ref oa, .ref xa, .ref ya, .ref rg, .ref me, .ref sa, .ref pa, .ref za, .ref ca, .int (bI kp), .ref ta, .ref na])), (me, .inl (cI, 512, .inl (mm2 (wr g s0 p0) h))), (sa, .inl (cI, 2, .inl (p2 ((s0 - 1) &&& 255) s1)))] H := hP
      have hD : va_D A [(rg, .inl (cI, 6, .inl (rg6 a x d b0 b1 b2))), (pa, .inl (cI, 2, .inl (upd (p2 p0 p1) 0 n))), (za, .inl (cZ, 2, .inl (p2 (bI z0) (bI z1)))), (ca, .inl (cZ, 2, .inl (p2 (bI c0) (bI c1)))), (o, .inr (5, [.int th, .ref im, .int (bI tr), .ref rc, .ref bg, .int ro, .ref oa, .ref xa, .ref ya, .ref rg, .ref me, .ref sa, .ref pa, .ref za, .ref ca, .int (bI kp), .ref ta, .ref na])), (me, .inl (cI, 512, .inl (mm2 (wr g s0 p0) h))), (sa, .inl (cI, 2, .inl (p2 ((s0 - 1) &&& 255) s1)))] := hD
      rw [show upd (p2 p0 p1) 0 n = p2 n p1 from p2_0] at hP hD
      have hP : va_P D vwCl [(rg, .inl (cI, 6, .inl (rg6 a x d b0 b1 b2))), (pa, .inl (cI, 2, .inl (p2 n p1))), (za, .inl (cZ, 2, .inl (p2 (bI z0) (bI z1)))), (ca, .inl (cZ, 2, .inl (p2 (bI c0) (bI c1)))), (o, .inr (5, [.int th, .ref im, .int (bI tr), .ref rc, .ref bg, .int ro, .ref oa, .ref xa, .ref ya, .ref rg, .ref me, .ref sa, .ref pa, .ref za, .ref ca, .int (bI kp), .ref ta, .ref na])), (me, .inl (cI, 512, .inl (mm2 (wr g s0 p0) h))), (sa, .inl (cI, 2, .inl (p2 ((s0 - 1) &&& 255) s1)))] H := hP
      have hD : va_D A [(rg, .inl (cI, 6, .inl (rg6 a x d b0 b1 b2))), (pa, .inl (cI, 2, .inl (p2 n p1))), (za, .inl (cZ, 2, .inl (p2 (bI z0) (bI z1)))), (ca, .inl (cZ, 2, .inl (p2 (bI c0) (bI c1)))), (o, .inr (5, [.int th, .ref im, .int (bI tr), .ref rc, .ref bg, .int ro, .ref oa, .ref xa, .ref ya, .ref rg, .ref me, .ref sa, .ref pa, .ref za, .ref ca, .int (bI kp), .ref ta, .ref na])), (me, .inl (cI, 512, .inl (mm2 (wr g s0 p0) h))), (sa, .inl (cI, 2, .inl (p2 ((s0 - 1) &&& 255) s1)))] := hD
      refine lv_goto (tgt := 198) hx hb d_MO_transfers_115 rfl ?_
      have hP9 : va_P D vwCl [(o, .inr (5, [.int th, .ref im, .int (bI tr), .ref rc, .ref bg, .int ro, .ref oa, .ref xa, .ref ya, .ref rg, .ref me, .ref sa, .ref pa, .ref za, .ref ca, .int (bI kp), .ref ta, .ref na])), (rg, .inl (cI, 6, .inl (rg6 a x d b0 b1 b2))), (me, .inl (cI, 512, .inl (mm2 (wr g s0 p0) h))), (sa, .inl (cI, 2, .inl (p2 ((s0 - 1) &&& 255) s1))), (pa, .inl (cI, 2, .inl (p2 n p1))), (za, .inl (cZ, 2, .inl (p2 (bI z0) (bI z1)))), (ca, .inl (cZ, 2, .inl (p2 (bI c0) (bI c1))))] H := hP.sub [4, 0, 5, 6, 1, 2, 3] rfl
      have hD9 : va_D A [(o, .inr (5, [.int th, .ref im, .int (bI tr), .ref rc, .ref bg, .int ro, .ref oa, .ref xa, .ref ya, .ref rg, .ref me, .ref sa, .ref pa, .ref za, .ref ca, .int (bI kp), .ref ta, .ref na])), (rg, .inl (cI, 6, .inl (rg6 a x d b0 b1 b2))), (me, .inl (cI, 512, .inl (mm2 (wr g s0 p0) h))), (sa, .inl (cI, 2, .inl (p2 ((s0 - 1) &&& 255) s1))), (pa, .inl (cI, 2, .inl (p2 n p1))), (za, .inl (cZ, 2, .inl (p2 (bI z0) (bI z1)))), (ca, .inl (cZ, 2, .inl (p2 (bI c0) (bI c1))))] := hD.sub [4, 0, 5, 6, 1, 2, 3] (by decide) rfl
      exact W.vret hx hb hr (fun t ht hW => ⟨⟨(wr g s0 p0, a, (s0 - 1) &&& 255, n, z0), rfl, by rw [h16]; rfl, by rw [ht]; exact hP9, va_K.moved hW.alike hK, hD9⟩, hS.F ht⟩) hS.2.2 d_MO_transfers_198
    · refine lv_iload_n hx hb d_MO_transfers_19 rfl (lv_at hl 2 rfl) ?_
      refine lv_bipush (v := 23) hx hb d_MO_transfers_20 (by decide) ?_
      refine lv_icmp_eq (tgt := 31) hx hb d_MO_transfers_22 rfl (fun h22 => ?_) (fun h22 => ?_)
      · refine lv_aload_n hx hb d_MO_transfers_31 rfl (lv_at hl 1 rfl) ?_
        refine va_get (D := D) (ci := 5) (v := .ref za) (C := R_MO) (T := T_MO) (N := 18) hx hb hts iw_MO hown hK hP 0 rfl rfl 13 (by decide) (hts _ k_708) (fun _ h9 => h9) rfl d_MO_transfers_32 ?_
        refine lv_iconst (v := 0) hx hb d_MO_transfers_35 (by decide) ?_
        refine va_zald hx hb hK hP 5 1 rfl rfl (vp_in_nI (n := 0) (by decide) (by decide)) d_MO_transfers_36 ?_
        refine lv_iload_n hx hb d_MO_transfers_37 rfl (lv_at hl 2 rfl) ?_
        refine lv_bipush (v := 23) hx hb d_MO_transfers_38 (by decide) ?_
        refine lv_icmp_ne (tgt := 47) hx hb d_MO_transfers_40 rfl (fun h9 => absurd (by rw [h22]; first | done | decide) h9) (fun _ => ?_)
        refine lv_iconst (v := 1) hx hb d_MO_transfers_43 (by decide) ?_
        refine lv_goto (tgt := 48) hx hb d_MO_transfers_44 rfl ?_
        refine lv_icmp_ne (tgt := 78) hx hb d_MO_transfers_48 rfl (fun h48 => ?_) (fun h48 => ?_)
        · refine lv_iconst (v := 0) hx hb d_MO_transfers_78 (by decide) ?_
          refine lv_istore hx hb d_MO_transfers_79 hl (by decide) rfl (fun ls hl => ?_)
          have hl : lv_has ls 6 [(4, .int 0), (3, .int p0), (0, .ref o), (1, .int op), (2, .int n)] := hl
          refine lv_iload_n hx hb d_MO_transfers_81 rfl (lv_at hl 3 rfl) ?_
          refine lv_bipush (v := 27) hx hb d_MO_transfers_82 (by decide) ?_
          refine lv_icmp_ne (tgt := 93) hx hb d_MO_transfers_84 rfl (fun _ => ?_) (fun h9 => absurd h9 (by rw [h22]; first | done | decide))
          refine lv_iload_n hx hb d_MO_transfers_93 rfl (lv_at hl 3 rfl) ?_
          refine lv_bipush (v := 28) hx hb d_MO_transfers_94 (by decide) ?_
          refine lv_icmp_ge (tgt := 118) hx hb d_MO_transfers_96 rfl (fun h9 => absurd h9 (by rw [h22]; first | done | decide)) (fun _ => ?_)
          refine lv_aload_n hx hb d_MO_transfers_99 rfl (lv_at hl 2 rfl) ?_
          refine va_get (D := D) (ci := 5) (v := .ref pa) (C := R_MO) (T := T_MO) (N := 18) hx hb hts iw_MO hown hK hP 0 rfl rfl 12 (by decide) (hts _ k_707) (fun _ h9 => h9) rfl d_MO_transfers_100 ?_
          refine lv_iconst (v := 0) hx hb d_MO_transfers_103 (by decide) ?_
          refine lv_iload hx hb d_MO_transfers_104 (lv_at hl 0 rfl) ?_
          refine lv_if_eq (tgt := 113) hx hb d_MO_transfers_106 rfl (fun _ => ?_) (fun h9 => absurd (by decide) h9)
          refine lv_iload_n hx hb d_MO_transfers_113 rfl (lv_at hl 1 rfl) ?_
          refine va_iast hx hb hK hP hD hS 4 0 rfl rfl (vp_in_nI (n := 0) (by decide) (by decide)) d_MO_transfers_114 (fun H locs hP hD hS => ?_)
          have hP : va_P D vwCl [(o, .inr (5, [.int th, .ref im, .int (bI tr), .ref rc, .ref bg, .int ro, .ref oa, .ref xa, .ref ya, .ref rg, .ref me, .ref sa, .ref pa, .ref za, .ref ca, .int (bI kp), .ref ta, .ref na])), (rg, .inl (cI, 6, .inl (rg6 a x d b0 b1 b2))), (me, .inl (cI, 512, .inl (mm2 g h))), (sa, .inl (cI, 2, .inl (p2 s0 s1))), (pa, .inl (cI, 2, .inl (upd (p2 p0 p1) 0 p0))), (za, .inl (cZ, 2, .inl (p2 (bI z0) (bI z1)))), (ca, .inl (cZ, 2, .inl (p2 (bI c0) (bI c1))))] H := hP
          have hD : va_D A [(o, .inr (5, [.int th, .ref im, .int (bI tr), .ref rc, .ref bg, .int ro, .ref oa, .ref xa, .ref ya, .ref rg, .ref me, .ref sa, .ref pa, .ref za, .ref ca, .int (bI kp), .ref ta, .ref na])), (rg, .inl (cI, 6, .inl (rg6 a x d b0 b1 b2))), (me, .inl (cI, 512, .inl (mm2 g h))), (sa, .inl (cI, 2, .inl (p2 s0 s1))), (pa, .inl (cI, 2, .inl (upd (p2 p0 p1) 0 p0))), (za, .inl (cZ, 2, .inl (p2 (bI z0) (bI z1)))), (ca, .inl (cZ, 2, .inl (p2 (bI c0) (bI c1))))] := hD
          rw [show upd (p2 p0 p1) 0 p0 = p2 p0 p1 from p2_0] at hP hD
          have hP : va_P D vwCl [(o, .inr (5, [.int th, .ref im, .int (bI tr), .ref rc, .ref bg, .int ro, .ref oa, .ref xa, .ref ya, .ref rg, .ref me, .ref sa, .ref pa, .ref za, .ref ca, .int (bI kp), .ref ta, .ref na])), (rg, .inl (cI, 6, .inl (rg6 a x d b0 b1 b2))), (me, .inl (cI, 512, .inl (mm2 g h))), (sa, .inl (cI, 2, .inl (p2 s0 s1))), (pa, .inl (cI, 2, .inl (p2 p0 p1))), (za, .inl (cZ, 2, .inl (p2 (bI z0) (bI z1)))), (ca, .inl (cZ, 2, .inl (p2 (bI c0) (bI c1))))] H := hP
          have hD : va_D A [(o, .inr (5, [.int th, .ref im, .int (bI tr), .ref rc, .ref bg, .int ro, .ref oa, .ref xa, .ref ya, .ref rg, .ref me, .ref sa, .ref pa, .ref za, .ref ca, .int (bI kp), .ref ta, .ref na])), (rg, .inl (cI, 6, .inl (rg6 a x d b0 b1 b2))), (me, .inl (cI, 512, .inl (mm2 g h))), (sa, .inl (cI, 2, .inl (p2 s0 s1))), (pa, .inl (cI, 2, .inl (p2 p0 p1))), (za, .inl (cZ, 2, .inl (p2 (bI z0) (bI z1)))), (ca, .inl (cZ, 2, .inl (p2 (bI c0) (bI c1))))] := hD
          refine lv_goto (tgt := 198) hx hb d_MO_transfers_115 rfl ?_
          have hP9 : va_P D vwCl [(o, .inr (5, [.int th, .ref im, .int (bI tr), .ref rc, .ref bg, .int ro, .ref oa, .ref xa, .ref ya, .ref rg, .ref me, .ref sa, .ref pa, .ref za, .ref ca, .int (bI kp), .ref ta, .ref na])), (rg, .inl (cI, 6, .inl (rg6 a x d b0 b1 b2))), (me, .inl (cI, 512, .inl (mm2 g h))), (sa, .inl (cI, 2, .inl (p2 s0 s1))), (pa, .inl (cI, 2, .inl (p2 p0 p1))), (za, .inl (cZ, 2, .inl (p2 (bI z0) (bI z1)))), (ca, .inl (cZ, 2, .inl (p2 (bI c0) (bI c1))))] H := hP.sub [0, 1, 2, 3, 4, 5, 6] rfl
          have hD9 : va_D A [(o, .inr (5, [.int th, .ref im, .int (bI tr), .ref rc, .ref bg, .int ro, .ref oa, .ref xa, .ref ya, .ref rg, .ref me, .ref sa, .ref pa, .ref za, .ref ca, .int (bI kp), .ref ta, .ref na])), (rg, .inl (cI, 6, .inl (rg6 a x d b0 b1 b2))), (me, .inl (cI, 512, .inl (mm2 g h))), (sa, .inl (cI, 2, .inl (p2 s0 s1))), (pa, .inl (cI, 2, .inl (p2 p0 p1))), (za, .inl (cZ, 2, .inl (p2 (bI z0) (bI z1)))), (ca, .inl (cZ, 2, .inl (p2 (bI c0) (bI c1))))] := hD.sub [0, 1, 2, 3, 4, 5, 6] (by decide) rfl
          exact W.vret hx hb hr (fun t ht hW => ⟨⟨(g, a, s0, p0, z0), rfl, by rw [h22, show z0 = false from bI_n1 h48]; rfl, by rw [ht]; exact hP9, va_K.moved hW.alike hK, hD9⟩, hS.F ht⟩) hS.2.2 d_MO_transfers_198
        · refine lv_goto (tgt := 74) hx hb d_MO_transfers_51 rfl ?_
          refine lv_iconst (v := 1) hx hb d_MO_transfers_74 (by decide) ?_
          refine lv_goto (tgt := 79) hx hb d_MO_transfers_75 rfl ?_
          refine lv_istore hx hb d_MO_transfers_79 hl (by decide) rfl (fun ls hl => ?_)
          have hl : lv_has ls 6 [(4, .int 1), (3, .int p0), (0, .ref o), (1, .int op), (2, .int n)] := hl
          refine lv_iload_n hx hb d_MO_transfers_81 rfl (lv_at hl 3 rfl) ?_
          refine lv_bipush (v := 27) hx hb d_MO_transfers_82 (by decide) ?_
          refine lv_icmp_ne (tgt := 93) hx hb d_MO_transfers_84 rfl (fun _ => ?_) (fun h9 => absurd h9 (by rw [h22]; first | done | decide))
          refine lv_iload_n hx hb d_MO_transfers_93 rfl (lv_at hl 3 rfl) ?_
          refine lv_bipush (v := 28) hx hb d_MO_transfers_94 (by decide) ?_
          refine lv_icmp_ge (tgt := 118) hx hb d_MO_transfers_96 rfl (fun h9 => absurd h9 (by rw [h22]; first | done | decide)) (fun _ => ?_)
          refine lv_aload_n hx hb d_MO_transfers_99 rfl (lv_at hl 2 rfl) ?_
          refine va_get (D := D) (ci := 5) (v := .ref pa) (C := R_MO) (T := T_MO) (N := 18) hx hb hts iw_MO hown hK hP 0 rfl rfl 12 (by decide) (hts _ k_707) (fun _ h9 => h9) rfl d_MO_transfers_100 ?_
          refine lv_iconst (v := 0) hx hb d_MO_transfers_103 (by decide) ?_
          refine lv_iload hx hb d_MO_transfers_104 (lv_at hl 0 rfl) ?_
          refine lv_if_eq (tgt := 113) hx hb d_MO_transfers_106 rfl (fun h9 => absurd h9 (by decide)) (fun _ => ?_)
          refine lv_iload_n hx hb d_MO_transfers_109 rfl (lv_at hl 4 rfl) ?_
          refine lv_goto (tgt := 114) hx hb d_MO_transfers_110 rfl ?_
          refine va_iast hx hb hK hP hD hS 4 0 rfl rfl (vp_in_nI (n := 0) (by decide) (by decide)) d_MO_transfers_114 (fun H locs hP hD hS => ?_)
          have hP : va_P D vwCl [(o, .inr (5, [.int th, .ref im, .int (bI tr), .ref rc, .ref bg, .int ro, .ref oa, .ref xa, .ref ya, .ref rg, .ref me, .ref sa, .ref pa, .ref za, .ref ca, .int (bI kp), .ref ta, .ref na])), (rg, .inl (cI, 6, .inl (rg6 a x d b0 b1 b2))), (me, .inl (cI, 512, .inl (mm2 g h))), (sa, .inl (cI, 2, .inl (p2 s0 s1))), (pa, .inl (cI, 2, .inl (upd (p2 p0 p1) 0 n))), (za, .inl (cZ, 2, .inl (p2 (bI z0) (bI z1)))), (ca, .inl (cZ, 2, .inl (p2 (bI c0) (bI c1))))] H := hP
          have hD : va_D A [(o, .inr (5, [.int th, .ref im, .int (bI tr), .ref rc, .ref bg, .int ro, .ref oa, .ref xa, .ref ya, .ref rg, .ref me, .ref sa, .ref pa, .ref za, .ref ca, .int (bI kp), .ref ta, .ref na])), (rg, .inl (cI, 6, .inl (rg6 a x d b0 b1 b2))), (me, .inl (cI, 512, .inl (mm2 g h))), (sa, .inl (cI, 2, .inl (p2 s0 s1))), (pa, .inl (cI, 2, .inl (upd (p2 p0 p1) 0 n))), (za, .inl (cZ, 2, .inl (p2 (bI z0) (bI z1)))), (ca, .inl (cZ, 2, .inl (p2 (bI c0) (bI c1))))] := hD
          rw [show upd (p2 p0 p1) 0 n = p2 n p1 from p2_0] at hP hD
          have hP : va_P D vwCl [(o, .inr (5, [.int th, .ref im, .int (bI tr), .ref rc, .ref bg, .int ro, .ref oa, .ref xa, .ref ya, .ref rg, .ref me, .ref sa, .ref pa, .ref za, .ref ca, .int (bI kp), .ref ta, .ref na])), (rg, .inl (cI, 6, .inl (rg6 a x d b0 b1 b2))), (me, .inl (cI, 512, .inl (mm2 g h))), (sa, .inl (cI, 2, .inl (p2 s0 s1))), (pa, .inl (cI, 2, .inl (p2 n p1))), (za, .inl (cZ, 2, .inl (p2 (bI z0) (bI z1)))), (ca, .inl (cZ, 2, .inl (p2 (bI c0) (bI c1))))] H := hP
          have hD : va_D A [(o, .inr (5, [.int th, .ref im, .int (bI tr), .ref rc, .ref bg, .int ro, .ref oa, .ref xa, .ref ya, .ref rg, .ref me, .ref sa, .ref pa, .ref za, .ref ca, .int (bI kp), .ref ta, .ref na])), (rg, .inl (cI, 6, .inl (rg6 a x d b0 b1 b2))), (me, .inl (cI, 512, .inl (mm2 g h))), (sa, .inl (cI, 2, .inl (p2 s0 s1))), (pa, .inl (cI, 2, .inl (p2 n p1))), (za, .inl (cZ, 2, .inl (p2 (bI z0) (bI z1)))), (ca, .inl (cZ, 2, .inl (p2 (bI c0) (bI c1))))] := hD
          refine lv_goto (tgt := 198) hx hb d_MO_transfers_115 rfl ?_
          have hP9 : va_P D vwCl [(o, .inr (5, [.int th, .ref im, .int (bI tr), .ref rc, .ref bg, .int ro, .ref oa, .ref xa, .ref ya, .ref rg, .ref me, .ref sa, .ref pa, .ref za, .ref ca, .int (bI kp), .ref ta, .ref na])), (rg, .inl (cI, 6, .inl (rg6 a x d b0 b1 b2))), (me, .inl (cI, 512, .inl (mm2 g h))), (sa, .inl (cI, 2, .inl (p2 s0 s1))), (pa, .inl (cI, 2, .inl (p2 n p1))), (za, .inl (cZ, 2, .inl (p2 (bI z0) (bI z1)))), (ca, .inl (cZ, 2, .inl (p2 (bI c0) (bI c1))))] H := hP.sub [0, 1, 2, 3, 4, 5, 6] rfl
          have hD9 : va_D A [(o, .inr (5, [.int th, .ref im, .int (bI tr), .ref rc, .ref bg, .int ro, .ref oa, .ref xa, .ref ya, .ref rg, .ref me, .ref sa, .ref pa, .ref za, .ref ca, .int (bI kp), .ref ta, .ref na])), (rg, .inl (cI, 6, .inl (rg6 a x d b0 b1 b2))), (me, .inl (cI, 512, .inl (mm2 g h))), (sa, .inl (cI, 2, .inl (p2 s0 s1))), (pa, .inl (cI, 2, .inl (p2 n p1))), (za, .inl (cZ, 2, .inl (p2 (bI z0) (bI z1)))), (ca, .inl (cZ, 2, .inl (p2 (bI c0) (bI c1))))] := hD.sub [0, 1, 2, 3, 4, 5, 6] (by decide) rfl
          exact W.vret hx hb hr (fun t ht hW => ⟨⟨(g, a, s0, n, z0), rfl, by rw [h22, show z0 = true from bI_e1 h48]; rfl, by rw [ht]; exact hP9, va_K.moved hW.alike hK, hD9⟩, hS.F ht⟩) hS.2.2 d_MO_transfers_198
      · refine lv_iload_n hx hb d_MO_transfers_25 rfl (lv_at hl 2 rfl) ?_
        refine lv_bipush (v := 24) hx hb d_MO_transfers_26 (by decide) ?_
        refine lv_icmp_ne (tgt := 54) hx hb d_MO_transfers_28 rfl (fun h28 => ?_) (fun h28 => ?_)
        · refine lv_aload_n hx hb d_MO_transfers_54 rfl (lv_at hl 1 rfl) ?_
          refine va_get (D := D) (ci := 5) (v := .ref ca) (C := R_MO) (T := T_MO) (N := 18) hx hb hts iw_MO hown hK hP 0 rfl rfl 14 (by decide) (hts _ k_709) (fun _ h9 => h9) rfl d_MO_transfers_55 ?_
          refine lv_iconst (v := 0) hx hb d_MO_transfers_58 (by decide) ?_
          refine va_zald hx hb hK hP 6 1 rfl rfl (vp_in_nI (n := 0) (by decide) (by decide)) d_MO_transfers_59 ?_
          refine lv_iload_n hx hb d_MO_transfers_60 rfl (lv_at hl 2 rfl) ?_
          refine lv_bipush (v := 25) hx hb d_MO_transfers_61 (by decide) ?_
          refine lv_icmp_ne (tgt := 70) hx hb d_MO_transfers_63 rfl (fun h63 => ?_) (fun h63 => ?_)
          · refine lv_iconst (v := 0) hx hb d_MO_transfers_70 (by decide) ?_
            refine lv_icmp_ne (tgt := 78) hx hb d_MO_transfers_71 rfl (fun h71 => ?_) (fun h71 => ?_)
            · refine lv_iconst (v := 0) hx hb d_MO_transfers_78 (by decide) ?_
              refine lv_istore hx hb d_MO_transfers_79 hl (by decide) rfl (fun ls hl => ?_)
              have hl : lv_has ls 6 [(4, .int 0), (3, .int p0), (0, .ref o), (1, .int op), (2, .int n)] := hl
              refine lv_iload_n hx hb d_MO_transfers_81 rfl (lv_at hl 3 rfl) ?_
              refine lv_bipush (v := 27) hx hb d_MO_transfers_82 (by decide) ?_
              refine lv_icmp_ne (tgt := 93) hx hb d_MO_transfers_84 rfl (fun _ => ?_) (fun h9 => absurd h9 h16)
              refine lv_iload_n hx hb d_MO_transfers_93 rfl (lv_at hl 3 rfl) ?_
              refine lv_bipush (v := 28) hx hb d_MO_transfers_94 (by decide) ?_
              refine lv_icmp_ge (tgt := 118) hx hb d_MO_transfers_96 rfl (fun h96 => ?_) (fun h96 => ?_)
              · refine lv_iload_n hx hb d_MO_transfers_118 rfl (lv_at hl 3 rfl) ?_
                refine lv_bipush (v := 28) hx hb d_MO_transfers_119 (by decide) ?_
                refine lv_icmp_ne (tgt := 142) hx hb d_MO_transfers_121 rfl (fun h121 => ?_) (fun h121 => ?_)
                · refine lv_iload_n hx hb d_MO_transfers_142 rfl (lv_at hl 3 rfl) ?_
                  refine lv_bipush (v := 29) hx hb d_MO_transfers_143 (by decide) ?_
                  refine lv_icmp_ne (tgt := 162) hx hb d_MO_transfers_145 rfl (fun h145 => ?_) (fun h145 => ?_)
                  · refine lv_iload_n hx hb d_MO_transfers_162 rfl (lv_at hl 3 rfl) ?_
                    refine lv_bipush (v := 30) hx hb d_MO_transfers_163 (by decide) ?_
                    refine lv_icmp_ne (tgt := 186) hx hb d_MO_transfers_165 rfl (fun h165 => ?_) (fun h165 => ?_)
                    · refine lv_aload_n hx hb d_MO_transfers_186 rfl (lv_at hl 2 rfl) ?_
                      refine va_get (D := D) (ci := 5) (v := .ref pa) (C := R_MO) (T := T_MO) (N := 18) hx hb hts iw_MO hown hK hP 0 rfl rfl 12 (by decide) (hts _ k_707) (fun _ h9 => h9) rfl d_MO_transfers_187 ?_
                      refine lv_iconst (v := 0) hx hb d_MO_transfers_190 (by decide) ?_
                      refine lv_aload_n hx hb d_MO_transfers_191 rfl (lv_at hl 2 rfl) ?_
                      refine va_get (D := D) (ci := 5) (v := .ref rg) (C := R_MO) (T := T_MO) (N := 18) hx hb hts iw_MO hown hK hP 0 rfl rfl 9 (by decide) (hts _ k_704) (fun _ h9 => h9) rfl d_MO_transfers_192 ?_
                      refine lv_iconst (v := 1) hx hb d_MO_transfers_195 (by decide) ?_
                      refine va_iald hx hb hK hP 1 0 rfl rfl (vp_in_nI (n := 1) (by decide) (by decide)) d_MO_transfers_196 ?_
                      refine va_iast hx hb hK hP hD hS 4 0 rfl rfl (vp_in_nI (n := 0) (by decide) (by decide)) d_MO_transfers_197 (fun H locs hP hD hS => ?_)
                      have hP : va_P D vwCl [(o, .inr (5, [.int th, .ref im, .int (bI tr), .ref rc, .ref bg, .int ro, .ref oa, .ref xa, .ref ya, .ref rg, .ref me, .ref sa, .ref pa, .ref za, .ref ca, .int (bI kp), .ref ta, .ref na])), (rg, .inl (cI, 6, .inl (rg6 a x d b0 b1 b2))), (me, .inl (cI, 512, .inl (mm2 g h))), (sa, .inl (cI, 2, .inl (p2 s0 s1))), (pa, .inl (cI, 2, .inl (upd (p2 p0 p1) 0 x))), (za, .inl (cZ, 2, .inl (p2 (bI z0) (bI z1)))), (ca, .inl (cZ, 2, .inl (p2 (bI c0) (bI c1))))] H := hP
                      have hD : va_D A [(o, .inr (5, [.int th, .ref im, .int (bI tr), .ref rc, .ref bg, .int ro, .ref oa, .ref xa, .ref ya, .ref rg, .ref me, .ref sa, .ref pa, .ref za, .ref ca, .int (bI kp), .ref ta, .ref na])), (rg, .inl (cI, 6, .inl (rg6 a x d b0 b1 b2))), (me, .inl (cI, 512, .inl (mm2 g h))), (sa, .inl (cI, 2, .inl (p2 s0 s1))), (pa, .inl (cI, 2, .inl (upd (p2 p0 p1) 0 x))), (za, .inl (cZ, 2, .inl (p2 (bI z0) (bI z1)))), (ca, .inl (cZ, 2, .inl (p2 (bI c0) (bI c1))))] := hD
                      rw [show upd (p2 p0 p1) 0 x = p2 x p1 from p2_0] at hP hD
                      have hP : va_P D vwCl [(o, .inr (5, [.int th, .ref im, .int (bI tr), .ref rc, .ref bg, .int ro, .ref oa, .ref xa, .ref ya, .ref rg, .ref me, .ref sa, .ref pa, .ref za, .ref ca, .int (bI kp), .ref ta, .ref na])), (rg, .inl (cI, 6, .inl (rg6 a x d b0 b1 b2))), (me, .inl (cI, 512, .inl (mm2 g h))), (sa, .inl (cI, 2, .inl (p2 s0 s1))), (pa, .inl (cI, 2, .inl (p2 x p1))), (za, .inl (cZ, 2, .inl (p2 (bI z0) (bI z1)))), (ca, .inl (cZ, 2, .inl (p2 (bI c0) (bI c1))))] H := hP
                      have hD : va_D A [(o, .inr (5, [.int th, .ref im, .int (bI tr), .ref rc, .ref bg, .int ro, .ref oa, .ref xa, .ref ya, .ref rg, .ref me, .ref sa, .ref pa, .ref za, .ref ca, .int (bI kp), .ref ta, .ref na])), (rg, .inl (cI, 6, .inl (rg6 a x d b0 b1 b2))), (me, .inl (cI, 512, .inl (mm2 g h))), (sa, .inl (cI, 2, .inl (p2 s0 s1))), (pa, .inl (cI, 2, .inl (p2 x p1))), (za, .inl (cZ, 2, .inl (p2 (bI z0) (bI z1)))), (ca, .inl (cZ, 2, .inl (p2 (bI c0) (bI c1))))] := hD
                      have hP9 : va_P D vwCl [(o, .inr (5, [.int th, .ref im, .int (bI tr), .ref rc, .ref bg, .int ro, .ref oa, .ref xa, .ref ya, .ref rg, .ref me, .ref sa, .ref pa, .ref za, .ref ca, .int (bI kp), .ref ta, .ref na])), (rg, .inl (cI, 6, .inl (rg6 a x d b0 b1 b2))), (me, .inl (cI, 512, .inl (mm2 g h))), (sa, .inl (cI, 2, .inl (p2 s0 s1))), (pa, .inl (cI, 2, .inl (p2 x p1))), (za, .inl (cZ, 2, .inl (p2 (bI z0) (bI z1)))), (ca, .inl (cZ, 2, .inl (p2 (bI c0) (bI c1))))] H := hP.sub [0, 1, 2, 3, 4, 5, 6] rfl
                      have hD9 : va_D A [(o, .inr (5, [.int th, .ref im, .int (bI tr), .ref rc, .ref bg, .int ro, .ref oa, .ref xa, .ref ya, .ref rg, .ref me, .ref sa, .ref pa, .ref za, .ref ca, .int (bI kp), .ref ta, .ref na])), (rg, .inl (cI, 6, .inl (rg6 a x d b0 b1 b2))), (me, .inl (cI, 512, .inl (mm2 g h))), (sa, .inl (cI, 2, .inl (p2 s0 s1))), (pa, .inl (cI, 2, .inl (p2 x p1))), (za, .inl (cZ, 2, .inl (p2 (bI z0) (bI z1)))), (ca, .inl (cZ, 2, .inl (p2 (bI c0) (bI c1))))] := hD.sub [0, 1, 2, 3, 4, 5, 6] (by decide) rfl
                      exact W.vret hx hb hr (fun t ht hW => ⟨⟨(g, a, s0, x, z0), rfl, by rw [mTran, if_neg h16, if_neg (Int32.not_lt.mpr h96), if_neg h121, if_neg h145, if_neg h165], by rw [ht]; exact hP9, va_K.moved hW.alike hK, hD9⟩, hS.F ht⟩) hS.2.2 d_MO_transfers_198
                    · refine lv_aload_n hx hb d_MO_transfers_168 rfl (lv_at hl 2 rfl) ?_
                      refine lv_iconst (v := 0) hx hb d_MO_transfers_169 (by decide) ?_
                      have hPc := hP.sub (ws' := [(o, .inr (5, [.int th, .ref im, .int (bI tr), .ref rc, .ref bg, .int ro, .ref oa, .ref xa, .ref ya, .ref rg, .ref me, .ref sa, .ref pa, .ref za, .ref ca, .int (bI kp), .ref ta, .ref na])), (me, .inl (cI, 512, .inl (mm2 g h))), (sa, .inl (cI, 2, .inl (p2 s0 s1)))]) [0, 2, 3] rfl
                      have hDc := hD.sub (ws' := [(o, .inr (5, [.int th, .ref im, .int (bI tr), .ref rc, .ref bg, .int ro, .ref oa, .ref xa, .ref ya, .ref rg, .ref me, .ref sa, .ref pa, .ref za, .ref ca, .int (bI kp), .ref ta, .ref na])), (me, .inl (cI, 512, .inl (mm2 g h))), (sa, .inl (cI, 2, .inl (p2 s0 s1)))]) [0, 2, 3] (by decide) rfl
                      have hFc := va_free (wc := [(o, .inr (5, [.int th, .ref im, .int (bI tr), .ref rc, .ref bg, .int ro, .ref oa, .ref xa, .ref ya, .ref rg, .ref me, .ref sa, .ref pa, .ref za, .ref ca, .int (bI kp), .ref ta, .ref na])), (me, .inl (cI, 512, .inl (mm2 g h))), (sa, .inl (cI, 2, .inl (p2 s0 s1)))]) hD hS hA [0, 2, 3] rfl
                      refine va_calli (va_runV (As := [.int 0]) (rest := []) ⟨hx, hb, hml, hown, hts⟩ (q_pop0 l D cI cZ o th im tr rc bg ro oa xa ya rg me sa pa za ca kp ta na g h s0 s1 H.size) ⟨cB 1 hts k_841 k_62 k_838 hd_MO_pop ⟨Nat.le_of_ble_eq_true rfl, Nat.le_of_ble_eq_true rfl⟩ rfl rfl, hts _ k_840, hts _ k_41⟩ (PcW.preV (va_recv hK hP (q0 := 0) (ci := 5) rfl rfl) hPc hK hDc hN) rfl rfl hl.1 rfl (lv_room (Nat.le_of_ble_eq_true rfl)) d_MO_transfers_170 ⟨Nat.le_of_ble_eq_true rfl, Nat.le_of_ble_eq_true rfl⟩) hS (fun q _ h => hFc q h) hFc (fun r170 u t H1 locs ht hvm e170 hB hz1 hk1 hS => ?_)
                      obtain ⟨s9170, rfl⟩ : ∃ z, z = u := ⟨_, rfl⟩
                      obtain ⟨hP1, hK1, hD1⟩ := hB
                      rw [ht] at hP1
                      obtain ⟨hP, hD⟩ := va_join (wr := [(rg, .inl (cI, 6, .inl (rg6 a x d b0 b1 b2))), (pa, .inl (cI, 2, .inl (p2 p0 p1))), (za, .inl (cZ, 2, .inl (p2 (bI z0) (bI z1)))), (ca, .inl (cZ, 2, .inl (p2 (bI c0) (bI c1))))]) (w1 := [(o, .inr (5, [.int th, .ref im, .int (bI tr), .ref rc, .ref bg, .int ro, .ref oa, .ref xa, .ref ya, .ref rg, .ref me, .ref sa, .ref pa, .ref za, .ref ca, .int (bI kp), .ref ta, .ref na])), (me, .inl (cI, 512, .inl (mm2 g h))), (sa, .inl (cI, 2, .inl (p2 s9170 s1)))]) hP hD [0, 2, 3] [1, 4, 5, 6] rfl rfl (by decide) (by decide) hk1 hFc hP1 hD1
                      generalize H1 = H at hP hS ⊢
                      try dsimp only at e170
                      obtain ⟨e170_0, e170_1⟩ := e170
                      replace e170_0 := e170_0.symm
                      subst e170_0
                      replace e170_1 := e170_1.symm
                      subst e170_1
                      have hP : va_P D vwCl [(rg, .inl (cI, 6, .inl (rg6 a x d b0 b1 b2))), (pa, .inl (cI, 2, .inl (p2 p0 p1))), (za, .inl (cZ, 2, .inl (p2 (bI z0) (bI z1)))), (ca, .inl (cZ, 2, .inl (p2 (bI c0) (bI c1)))), (o, .inr (5, [.int th, .ref im, .int (bI tr), .ref rc, .ref bg, .int ro, .ref oa, .ref xa, .ref ya, .ref rg, .ref me, .ref sa, .ref pa, .ref za, .ref ca, .int (bI kp), .ref ta, .ref na])), (me, .inl (cI, 512, .inl (mm2 g h))), (sa, .inl (cI, 2, .inl (p2 ((s0 + 1) &&& 255) s1)))] H := hP
                      have hD : va_D A [(rg, .inl (cI, 6, .inl (rg6 a x d b0 b1 b2))), (pa, .inl (cI, 2, .inl (p2 p0 p1))), (za, .inl (cZ, 2, .inl (p2 (bI z0) (bI z1)))), (ca, .inl (cZ, 2, .inl (p2 (bI c0) (bI c1)))), (o, .inr (5, [.int th, .ref im, .int (bI tr), .ref rc, .ref bg, .int ro, .ref oa, .ref xa, .ref ya, .ref rg, .ref me, .ref sa, .ref pa, .ref za, .ref ca, .int (bI kp), .ref ta, .ref na])), (me, .inl (cI, 512, .inl (mm2 g h))), (sa, .inl (cI, 2, .inl (p2 ((s0 + 1) &&& 255) s1)))] := hD
                      refine lv_istore hx hb d_MO_transfers_173 hl (by decide) rfl (fun ls hl => ?_)
                      have hl : lv_has ls 6 [(5, .int (rd g ((s0 + 1) &&& 255))), (4, .int 0), (3, .int p0), (0, .ref o), (1, .int op), (2, .int n)] := hl
                      refine lv_aload_n hx hb d_MO_transfers_175 rfl (lv_at hl 3 rfl) ?_
                      refine lv_iconst (v := 0) hx hb d_MO_transfers_176 (by decide) ?_
                      refine lv_iconst (v := 0) hx hb d_MO_transfers_177 (by decide) ?_
                      refine lv_iload hx hb d_MO_transfers_178 (lv_at hl 0 rfl) ?_
                      have hPc := hP.sub (ws' := [(o, .inr (5, [.int th, .ref im, .int (bI tr), .ref rc, .ref bg, .int ro, .ref oa, .ref xa, .ref ya, .ref rg, .ref me, .ref sa, .ref pa, .ref za, .ref ca, .int (bI kp), .ref ta, .ref na])), (rg, .inl (cI, 6, .inl (rg6 a x d b0 b1 b2))), (za, .inl (cZ, 2, .inl (p2 (bI z0) (bI z1))))]) [4, 0, 2] rfl
                      have hDc := hD.sub (ws' := [(o, .inr (5, [.int th, .ref im, .int (bI tr), .ref rc, .ref bg, .int ro, .ref oa, .ref xa, .ref ya, .ref rg, .ref me, .ref sa, .ref pa, .ref za, .ref ca, .int (bI kp), .ref ta, .ref na])), (rg, .inl (cI, 6, .inl (rg6 a x d b0 b1 b2))), (za, .inl (cZ, 2, .inl (p2 (bI z0) (bI z1))))]) [4, 0, 2] (by decide) rfl
                      have hFc := va_free (wc := [(o, .inr (5, [.int th, .ref im, .int (bI tr), .ref rc, .ref bg, .int ro, .ref oa, .ref xa, .ref ya, .ref rg, .ref me, .ref sa, .ref pa, .ref za, .ref ca, .int (bI kp), .ref ta, .ref na])), (rg, .inl (cI, 6, .inl (rg6 a x d b0 b1 b2))), (za, .inl (cZ, 2, .inl (p2 (bI z0) (bI z1))))]) hD hS hA [4, 0, 2] rfl
                      refine va_callv (va_runV (As := [.int 0, .int 0, .int (rd g ((s0 + 1) &&& 255))]) (rest := []) ⟨hx, hb, hml, hown, hts⟩ (q_setZ00 l D cI cZ o th im tr rc bg ro oa xa ya rg me sa pa za ca kp ta na a x d b0 b1 b2 z0 z1 (rd g ((s0 + 1) &&& 255)) H.size) ⟨cB 3 hts k_845 k_62 k_842 hd_MO_setZ ⟨Nat.le_of_ble_eq_true rfl, Nat.le_of_ble_eq_true rfl⟩ rfl rfl, hts _ k_844, hts _ k_42⟩ (PcW.preV (va_recv hK hP (q0 := 4) (ci := 5) rfl rfl) hPc hK hDc hN) rfl rfl hl.1 rfl (lv_room (Nat.le_of_ble_eq_true rfl)) d_MO_transfers_180 ⟨Nat.le_of_ble_eq_true rfl, Nat.le_of_ble_eq_true rfl⟩) hS (fun q _ h => hFc q h) hFc (fun u t H1 locs ht hvm e180 hB hz1 hk1 hS => ?_)
                      obtain ⟨v1180, zz180⟩ := u
                      obtain ⟨hP1, hK1, hD1⟩ := hB
                      rw [ht] at hP1
                      obtain ⟨hP, hD⟩ := va_join (wr := [(pa, .inl (cI, 2, .inl (p2 p0 p1))), (ca, .inl (cZ, 2, .inl (p2 (bI c0) (bI c1)))), (me, .inl (cI, 512, .inl (mm2 g h))), (sa, .inl (cI, 2, .inl (p2 ((s0 + 1) &&& 255) s1)))]) (w1 := [(o, .inr (5, [.int th, .ref im, .int (bI tr), .ref rc, .ref bg, .int ro, .ref oa, .ref xa, .ref ya, .ref rg, .ref me, .ref sa, .ref pa, .ref za, .ref ca, .int (bI kp), .ref ta, .ref na])), (rg, .inl (cI, 6, .inl (rg6 v1180 x d b0 b1 b2))), (za, .inl (cZ, 2, .inl (p2 (bI zz180) (bI z1))))]) hP hD [4, 0, 2] [1, 3, 5, 6] rfl rfl (by decide) (by decide) hk1 hFc hP1 hD1
                      generalize H1 = H at hP hS ⊢
                      try dsimp only at e180
                      obtain ⟨e180_0, e180_1⟩ := e180
                      replace e180_0 := e180_0.symm
                      subst e180_0
                      replace e180_1 := e180_1.symm
                      subst e180_1
                      have hP : va_P D vwCl [(pa, .inl (cI, 2, .inl (p2 p0 p1))), (ca, .inl (cZ, 2, .inl (p2 (bI c0) (bI c1)))), (me, .inl (cI, 512, .inl (mm2 g h))), (sa, .inl (cI, 2, .inl (p2 ((s0 + 1) &&& 255) s1))), (o, .inr (5, [.int th, .ref im, .int (bI tr), .ref rc, .ref bg, .int ro, .ref oa, .ref xa, .ref ya, .ref rg, .ref me, .ref sa, .ref pa, .ref za, .ref ca, .int (bI kp), .ref ta, .ref na])), (rg, .inl (cI, 6, .inl (rg6 ((rd g ((s0 + 1) &&& 255)) &&& 255) x d b0 b1 b2))), (za, .inl (cZ, 2, .inl (p2 (bI (decide ((rd g ((s0 + 1) &&& 255)) &&& 255 = 0))) (bI z1))))] H := hP
                      have hD : va_D A [(pa, .inl (cI, 2, .inl (p2 p0 p1))), (ca, .inl (cZ, 2, .inl (p2 (bI c0) (bI c1)))), (me, .inl (cI, 512, .inl (mm2 g h))), (sa, .inl (cI, 2, .inl (p2 ((s0 + 1) &&& 255) s1))), (o, .inr (5, [.int th, .ref im, .int (bI tr), .ref rc, .ref bg, .int ro, .ref oa, .ref xa, .ref ya, .ref rg, .ref me, .ref sa, .ref pa, .ref za, .ref ca, .int (bI kp), .ref ta, .ref na])), (rg, .inl (cI, 6, .inl (rg6 ((rd g ((s0 + 1) &&& 255)) &&& 255) x d b0 b1 b2))), (za, .inl (cZ, 2, .inl (p2 (bI (decide ((rd g ((s0 + 1) &&& 255)) &&& 255 = 0))) (bI z1))))] := hD
                      refine lv_goto (tgt := 198) hx hb d_MO_transfers_183 rfl ?_
                      have hP9 : va_P D vwCl [(o, .inr (5, [.int th, .ref im, .int (bI tr), .ref rc, .ref bg, .int ro, .ref oa, .ref xa, .ref ya, .ref rg, .ref me, .ref sa, .ref pa, .ref za, .ref ca, .int (bI kp), .ref ta, .ref na])), (rg, .inl (cI, 6, .inl (rg6 ((rd g ((s0 + 1) &&& 255)) &&& 255) x d b0 b1 b2))), (me, .inl (cI, 512, .inl (mm2 g h))), (sa, .inl (cI, 2, .inl (p2 ((s0 + 1) &&& 255) s1))), (pa, .inl (cI, 2, .inl (p2 p0 p1))), (za, .inl (cZ, 2, .inl (p2 (bI (decide ((rd g ((s0 + 1) &&& 255)) &&& 255 = 0))) (bI z1)))), (ca, .inl (cZ, 2, .inl (p2 (bI c0) (bI c1))))] H := hP.sub [4, 5, 2, 3, 0, 6, 1] rfl
                      have hD9 : va_D A [(o, .inr (5, [.int th, .ref im, .int (bI tr), .ref rc, .ref bg, .int ro, .ref oa, .ref xa, .ref ya, .ref rg, .ref me, .ref sa, .ref pa, .ref za, .ref ca, .int (bI kp), .ref ta, .ref na])), (rg, .inl (cI, 6, .inl (rg6 ((rd g ((s0 + 1) &&& 255)) &&& 255) x d b0 b1 b2))), (me, .inl (cI, 512, .inl (mm2 g h))), (sa, .inl (cI, 2, .inl (p2 ((s0 + 1) &&& 255) s1))), (pa, .inl (cI, 2, .inl (p2 p0 p1))), (za, .inl (cZ, 2, .inl (p2 (bI (decide ((rd g ((s0 + 1) &&& 255)) &&& 255 = 0))) (bI z1)))), (ca, .inl (cZ, 2, .inl (p2 (bI c0) (bI c1))))] := hD.sub [4, 5, 2, 3, 0, 6, 1] (by decide) rfl
                      exact W.vret hx hb hr (fun t ht hW => ⟨⟨(g, (rd g ((s0 + 1) &&& 255)) &&& 255, (s0 + 1) &&& 255, p0, decide ((rd g ((s0 + 1) &&& 255)) &&& 255 = 0)), rfl, by rw [h165]; rfl, by rw [ht]; exact hP9, va_K.moved hW.alike hK, hD9⟩, hS.F ht⟩) hS.2.2 d_MO_transfers_198
                  · refine lv_aload_n hx hb d_MO_transfers_148 rfl (lv_at hl 2 rfl) ?_
                    refine lv_iconst (v := 0) hx hb d_MO_transfers_149 (by decide) ?_
                    refine lv_aload_n hx hb d_MO_transfers_150 rfl (lv_at hl 2 rfl) ?_
                    refine va_get (D := D) (ci := 5) (v := .ref rg) (C := R_MO) (T := T_MO) (N := 18) hx hb hts iw_MO hown hK hP 0 rfl rfl 9 (by decide) (hts _ k_704) (fun _ h9 => h9) rfl d_MO_transfers_151 ?_
                    refine lv_iconst (v := 0) hx hb d_MO_transfers_154 (by decide) ?_
                    refine va_iald hx hb hK hP 1 0 rfl rfl (vp_in_nI (n := 0) (by decide) (by decide)) d_MO_transfers_155 ?_
                    have hPc := hP.sub (ws' := [(o, .inr (5, [.int th, .ref im, .int (bI tr), .ref rc, .ref bg, .int ro, .ref oa, .ref xa, .ref ya, .ref rg, .ref me, .ref sa, .ref pa, .ref za, .ref ca, .int (bI kp), .ref ta, .ref na])), (me, .inl (cI, 512, .inl (mm2 g h))), (sa, .inl (cI, 2, .inl (p2 s0 s1)))]) [0, 2, 3] rfl
                    have hDc := hD.sub (ws' := [(o, .inr (5, [.int th, .ref im, .int (bI tr), .ref rc, .ref bg, .int ro, .ref oa, .ref xa, .ref ya, .ref rg, .ref me, .ref sa, .ref pa, .ref za, .ref ca, .int (bI kp), .ref ta, .ref na])), (me, .inl (cI, 512, .inl (mm2 g h))), (sa, .inl (cI, 2, .inl (p2 s0 s1)))]) [0, 2, 3] (by decide) rfl
                    have hFc := va_free (wc := [(o, .inr (5, [.int th, .ref im, .int (bI tr), .ref rc, .ref bg, .int ro, .ref oa, .ref xa, .ref ya, .ref rg, .ref me, .ref sa, .ref pa, .ref za, .ref ca, .int (bI kp), .ref ta, .ref na])), (me, .inl (cI, 512, .inl (mm2 g h))), (sa, .inl (cI, 2, .inl (p2 s0 s1)))]) hD hS hA [0, 2, 3] rfl
                    refine va_callv (va_runV (As := [.int 0, .int a]) (rest := []) ⟨hx, hb, hml, hown, hts⟩ (q_push0 l D cI cZ o th im tr rc bg ro oa xa ya rg me sa pa za ca kp ta na g h s0 s1 a H.size) ⟨cB 2 hts k_833 k_62 k_830 hd_MO_push ⟨Nat.le_of_ble_eq_true rfl, Nat.le_of_ble_eq_true rfl⟩ rfl rfl, hts _ k_832, hts _ k_39⟩ (PcW.preV (va_recv hK hP (q0 := 0) (ci := 5) rfl rfl) hPc hK hDc hN) rfl rfl hl.1 rfl (lv_room (Nat.le_of_ble_eq_true rfl)) d_MO_transfers_156 ⟨Nat.le_of_ble_eq_true rfl, Nat.le_of_ble_eq_true rfl⟩) hS (fun q _ h => hFc q h) hFc (fun u t H1 locs ht hvm e156 hB hz1 hk1 hS => ?_)
                    obtain ⟨g1156, s9156⟩ := u
                    obtain ⟨hP1, hK1, hD1⟩ := hB
                    rw [ht] at hP1
                    obtain ⟨hP, hD⟩ := va_join (wr := [(rg, .inl (cI, 6, .inl (rg6 a x d b0 b1 b2))), (pa, .inl (cI, 2, .inl (p2 p0 p1))), (za, .inl (cZ, 2, .inl (p2 (bI z0) (bI z1)))), (ca, .inl (cZ, 2, .inl (p2 (bI c0) (bI c1))))]) (w1 := [(o, .inr (5, [.int th, .ref im, .int (bI tr), .ref rc, .ref bg, .int ro, .ref oa, .ref xa, .ref ya, .ref rg, .ref me, .ref sa, .ref pa, .ref za, .ref ca, .int (bI kp), .ref ta, .ref na])), (me, .inl (cI, 512, .inl (mm2 g1156 h))), (sa, .inl (cI, 2, .inl (p2 s9156 s1)))]) hP hD [0, 2, 3] [1, 4, 5, 6] rfl rfl (by decide) (by decide) hk1 hFc hP1 hD1
                    generalize H1 = H at hP hS ⊢
                    try dsimp only at e156
                    obtain ⟨e156_0, e156_1⟩ := e156
                    replace e156_0 := e156_0.symm
                    subst e156_0
                    replace e156_1 := e156_1.symm
                    subst e156_1
                    have hP : va_P D vwCl [(rg, .inl (cI, 6, .inl (rg6 a x d b0 b1 b2))), (pa, .inl (cI, 2, .inl (p2 p0 p1))), (za, .inl (cZ, 2, .inl (p2 (bI z0) (bI z1)))), (ca, .inl (cZ, 2, .inl (p2 (bI c0) (bI c1)))), (o, .inr (5, [.int th, .ref im, .int (bI tr), .ref rc, .ref bg, .int ro, .ref oa, .ref xa, .ref ya, .ref rg, .ref me, .ref sa, .ref pa, .ref za, .ref ca, .int (bI kp), .ref ta, .ref na])), (me, .inl (cI, 512, .inl (mm2 (wr g s0 a) h))), (sa, .inl (cI, 2, .inl (p2 ((s0 - 1) &&& 255) s1)))] H := hP
                    have hD : va_D A [(rg, .inl (cI, 6, .inl (rg6 a x d b0 b1 b2))), (pa, .inl (cI, 2, .inl (p2 p0 p1))), (za, .inl (cZ, 2, .inl (p2 (bI z0) (bI z1)))), (ca, .inl (cZ, 2, .inl (p2 (bI c0) (bI c1)))), (o, .inr (5, [.int th, .ref im, .int (bI tr), .ref rc, .ref bg, .int ro, .ref oa, .ref xa, .ref ya, .ref rg, .ref me, .ref sa, .ref pa, .ref za, .ref ca, .int (bI kp), .ref ta, .ref na])), (me, .inl (cI, 512, .inl (mm2 (wr g s0 a) h))), (sa, .inl (cI, 2, .inl (p2 ((s0 - 1) &&& 255) s1)))] := hD
                    refine lv_goto (tgt := 198) hx hb d_MO_transfers_159 rfl ?_
                    have hP9 : va_P D vwCl [(o, .inr (5, [.int th, .ref im, .int (bI tr), .ref rc, .ref bg, .int ro, .ref oa, .ref xa, .ref ya, .ref rg, .ref me, .ref sa, .ref pa, .ref za, .ref ca, .int (bI kp), .ref ta, .ref na])), (rg, .inl (cI, 6, .inl (rg6 a x d b0 b1 b2))), (me, .inl (cI, 512, .inl (mm2 (wr g s0 a) h))), (sa, .inl (cI, 2, .inl (p2 ((s0 - 1) &&& 255) s1))), (pa, .inl (cI, 2, .inl (p2 p0 p1))), (za, .inl (cZ, 2, .inl (p2 (bI z0) (bI z1)))), (ca, .inl (cZ, 2, .inl (p2 (bI c0) (bI c1))))] H := hP.sub [4, 0, 5, 6, 1, 2, 3] rfl
                    have hD9 : va_D A [(o, .inr (5, [.int th, .ref im, .int (bI tr), .ref rc, .ref bg, .int ro, .ref oa, .ref xa, .ref ya, .ref rg, .ref me, .ref sa, .ref pa, .ref za, .ref ca, .int (bI kp), .ref ta, .ref na])), (rg, .inl (cI, 6, .inl (rg6 a x d b0 b1 b2))), (me, .inl (cI, 512, .inl (mm2 (wr g s0 a) h))), (sa, .inl (cI, 2, .inl (p2 ((s0 - 1) &&& 255) s1))), (pa, .inl (cI, 2, .inl (p2 p0 p1))), (za, .inl (cZ, 2, .inl (p2 (bI z0) (bI z1)))), (ca, .inl (cZ, 2, .inl (p2 (bI c0) (bI c1))))] := hD.sub [4, 0, 5, 6, 1, 2, 3] (by decide) rfl
                    exact W.vret hx hb hr (fun t ht hW => ⟨⟨(wr g s0 a, a, (s0 - 1) &&& 255, p0, z0), rfl, by rw [h145]; rfl, by rw [ht]; exact hP9, va_K.moved hW.alike hK, hD9⟩, hS.F ht⟩) hS.2.2 d_MO_transfers_198
                · refine lv_aload_n hx hb d_MO_transfers_124 rfl (lv_at hl 2 rfl) ?_
                  refine lv_iconst (v := 0) hx hb d_MO_transfers_125 (by decide) ?_
                  have hPc := hP.sub (ws' := [(o, .inr (5, [.int th, .ref im, .int (bI tr), .ref rc, .ref bg, .int ro, .ref oa, .ref xa, .ref ya, .ref rg, .ref me, .ref sa, .ref pa, .ref za, .ref ca, .int (bI kp), .ref ta, .ref na])), (me, .inl (cI, 512, .inl (mm2 g h))), (sa, .inl (cI, 2, .inl (p2 s0 s1)))]) [0, 2, 3] rfl
                  have hDc := hD.sub (ws' := [(o, .inr (5, [.int th, .ref im, .int (bI tr), .ref rc, .ref bg, .int ro, .ref oa, .ref xa, .ref ya, .ref rg, .ref me, .ref sa, .ref pa, .ref za, .ref ca, .int (bI kp), .ref ta, .ref na])), (me, .inl (cI, 512, .inl (mm2 g h))), (sa, .inl (cI, 2, .inl (p2 s0 s1)))]) [0, 2, 3] (by decide) rfl
                  have hFc := va_free (wc := [(o, .inr (5, [.int th, .ref im, .int (bI tr), .ref rc, .ref bg, .int ro, .ref oa, .ref xa, .ref ya, .ref rg, .ref me, .ref sa, .ref pa, .ref za, .ref ca, .int (bI kp), .ref ta, .ref na])), (me, .inl (cI, 512, .inl (mm2 g h))), (sa, .inl (cI, 2, .inl (p2 s0 s1)))]) hD hS hA [0, 2, 3] rfl
                  refine va_calli (va_runV (As := [.int 0]) (rest := []) ⟨hx, hb, hml, hown, hts⟩ (q_pop0 l D cI cZ o th im tr rc bg ro oa xa ya rg me sa pa za ca kp ta na g h s0 s1 H.size) ⟨cB 1 hts k_841 k_62 k_838 hd_MO_pop ⟨Nat.le_of_ble_eq_true rfl, Nat.le_of_ble_eq_true rfl⟩ rfl rfl, hts _ k_840, hts _ k_41⟩ (PcW.preV (va_recv hK hP (q0 := 0) (ci := 5) rfl rfl) hPc hK hDc hN) rfl rfl hl.1 rfl (lv_room (Nat.le_of_ble_eq_true rfl)) d_MO_transfers_126 ⟨Nat.le_of_ble_eq_true rfl, Nat.le_of_ble_eq_true rfl⟩) hS (fun q _ h => hFc q h) hFc (fun r126 u t H1 locs ht hvm e126 hB hz1 hk1 hS => ?_)
                  obtain ⟨s9126, rfl⟩ : ∃ z, z = u := ⟨_, rfl⟩
                  obtain ⟨hP1, hK1, hD1⟩ := hB
                  rw [ht] at hP1
                  obtain ⟨hP, hD⟩ := va_join (wr := [(rg, .inl (cI, 6, .inl (rg6 a x d b0 b1 b2))), (pa, .inl (cI, 2, .inl (p2 p0 p1))), (za, .inl (cZ, 2, .inl (p2 (bI z0) (bI z1)))), (ca, .inl (cZ, 2, .inl (p2 (bI c0) (bI c1))))]) (w1 := [(o, .inr (5, [.int th, .ref im, .int (bI tr), .ref rc, .ref bg, .int ro, .ref oa, .ref xa, .ref ya, .ref rg, .ref me, .ref sa, .ref pa, .ref za, .ref ca, .int (bI kp), .ref ta, .ref na])), (me, .inl (cI, 512, .inl (mm2 g h))), (sa, .inl (cI, 2, .inl (p2 s9126 s1)))]) hP hD [0, 2, 3] [1, 4, 5, 6] rfl rfl (by decide) (by decide) hk1 hFc hP1 hD1
                  generalize H1 = H at hP hS ⊢
                  try dsimp only at e126
                  obtain ⟨e126_0, e126_1⟩ := e126
                  replace e126_0 := e126_0.symm
                  subst e126_0
                  replace e126_1 := e126_1.symm
                  subst e126_1
                  have hP : va_P D vwCl [(rg, .inl (cI, 6, .inl (rg6 a x d b0 b1 b2))), (pa, .inl (cI, 2, .inl (p2 p0 p1))), (za, .inl (cZ, 2, .inl (p2 (bI z0) (bI z1)))), (ca, .inl (cZ, 2, .inl (p2 (bI c0) (bI c1)))), (o, .inr (5, [.int th, .ref im, .int (bI tr), .ref rc, .ref bg, .int ro, .ref oa, .ref xa, .ref ya, .ref rg, .ref me, .ref sa, .ref pa, .ref za, .ref ca, .int (bI kp), .ref ta, .ref na])), (me, .inl (cI, 512, .inl (mm2 g h))), (sa, .inl (cI, 2, .inl (p2 ((s0 + 1) &&& 255) s1)))] H := hP
                  have hD : va_D A [(rg, .inl (cI, 6, .inl (rg6 a x d b0 b1 b2))), (pa, .inl (cI, 2, .inl (p2 p0 p1))), (za, .inl (cZ, 2, .inl (p2 (bI z0) (bI z1)))), (ca, .inl (cZ, 2, .inl (p2 (bI c0) (bI c1)))), (o, .inr (5, [.int th, .ref im, .int (bI tr), .ref rc, .ref bg, .int ro, .ref oa, .ref xa, .ref ya, .ref rg, .ref me, .ref sa, .ref pa, .ref za, .ref ca, .int (bI kp), .ref ta, .ref na])), (me, .inl (cI, 512, .inl (mm2 g h))), (sa, .inl (cI, 2, .inl (p2 ((s0 + 1) &&& 255) s1)))] := hD
                  refine lv_istore hx hb d_MO_transfers_129 hl (by decide) rfl (fun ls hl => ?_)
                  have hl : lv_has ls 6 [(5, .int (rd g ((s0 + 1) &&& 255))), (4, .int 0), (3, .int p0), (0, .ref o), (1, .int op), (2, .int n)] := hl
                  refine lv_aload_n hx hb d_MO_transfers_131 rfl (lv_at hl 3 rfl) ?_
                  refine va_get (D := D) (ci := 5) (v := .ref pa) (C := R_MO) (T := T_MO) (N := 18) hx hb hts iw_MO hown hK hP 4 rfl rfl 12 (by decide) (hts _ k_707) (fun _ h9 => h9) rfl d_MO_transfers_132 ?_
                  refine lv_iconst (v := 0) hx hb d_MO_transfers_135 (by decide) ?_
                  refine lv_iload hx hb d_MO_transfers_136 (lv_at hl 0 rfl) ?_
                  refine va_iast hx hb hK hP hD hS 1 0 rfl rfl (vp_in_nI (n := 0) (by decide) (by decide)) d_MO_transfers_138 (fun H locs hP hD hS => ?_)
                  have hP : va_P D vwCl [(rg, .inl (cI, 6, .inl (rg6 a x d b0 b1 b2))), (pa, .inl (cI, 2, .inl (upd (p2 p0 p1) 0 (rd g ((s0 + 1) &&& 255))))), (za, .inl (cZ, 2, .inl (p2 (bI z0) (bI z1)))), (ca, .inl (cZ, 2, .inl (p2 (bI c0) (bI c1)))), (o, .inr (5, [.int th, .ref im, .int (bI tr), .ref rc, .ref bg, .int ro, .ref oa, .ref xa, .ref ya, .ref rg, .ref me, .ref sa, .ref pa, .ref za, .ref ca, .int (bI kp), .ref ta, .ref na])), (me, .inl (cI, 512, .inl (mm2 g h))), (sa, .inl (cI, 2, .inl (p2 ((s0 + 1) &&& 255) s1)))] H := hP
                  have hD : va_D A [(rg, .inl (cI, 6, .inl (rg6 a x d b0 b1 b2))), (pa, .inl (cI, 2, .inl (upd (p2 p0 p1) 0 (rd g ((s0 + 1) &&& 255))))), (za, .inl (cZ, 2, .inl (p2 (bI z0) (bI z1)))), (ca, .inl (cZ, 2, .inl (p2 (bI c0) (bI c1)))), (o, .inr (5, [.int th, .ref im, .int (bI tr), .ref rc, .ref bg, .int ro, .ref oa, .ref xa, .ref ya, .ref rg, .ref me, .ref sa, .ref pa, .ref za, .ref ca, .int (bI kp), .ref ta, .ref na])), (me, .inl (cI, 512, .inl (mm2 g h))), (sa, .inl (cI, 2, .inl (p2 ((s0 + 1) &&& 255) s1)))] := hD
                  rw [show upd (p2 p0 p1) 0 (rd g ((s0 + 1) &&& 255)) = p2 (rd g ((s0 + 1) &&& 255)) p1 from p2_0] at hP hD
                  have hP : va_P D vwCl [(rg, .inl (cI, 6, .inl (rg6 a x d b0 b1 b2))), (pa, .inl (cI, 2, .inl (p2 (rd g ((s0 + 1) &&& 255)) p1))), (za, .inl (cZ, 2, .inl (p2 (bI z0) (bI z1)))), (ca, .inl (cZ, 2, .inl (p2 (bI c0) (bI c1)))), (o, .inr (5, [.int th, .ref im, .int (bI tr), .ref rc, .ref bg, .int ro, .ref oa, .ref xa, .ref ya, .ref rg, .ref me, .ref sa, .ref pa, .ref za, .ref ca, .int (bI kp), .ref ta, .ref na])), (me, .inl (cI, 512, .inl (mm2 g h))), (sa, .inl (cI, 2, .inl (p2 ((s0 + 1) &&& 255) s1)))] H := hP
                  have hD : va_D A [(rg, .inl (cI, 6, .inl (rg6 a x d b0 b1 b2))), (pa, .inl (cI, 2, .inl (p2 (rd g ((s0 + 1) &&& 255)) p1))), (za, .inl (cZ, 2, .inl (p2 (bI z0) (bI z1)))), (ca, .inl (cZ, 2, .inl (p2 (bI c0) (bI c1)))), (o, .inr (5, [.int th, .ref im, .int (bI tr), .ref rc, .ref bg, .int ro, .ref oa, .ref xa, .ref ya, .ref rg, .ref me, .ref sa, .ref pa, .ref za, .ref ca, .int (bI kp), .ref ta, .ref na])), (me, .inl (cI, 512, .inl (mm2 g h))), (sa, .inl (cI, 2, .inl (p2 ((s0 + 1) &&& 255) s1)))] := hD
                  refine lv_goto (tgt := 198) hx hb d_MO_transfers_139 rfl ?_
                  have hP9 : va_P D vwCl [(o, .inr (5, [.int th, .ref im, .int (bI tr), .ref rc, .ref bg, .int ro, .ref oa, .ref xa, .ref ya, .ref rg, .ref me, .ref sa, .ref pa, .ref za, .ref ca, .int (bI kp), .ref ta, .ref na])), (rg, .inl (cI, 6, .inl (rg6 a x d b0 b1 b2))), (me, .inl (cI, 512, .inl (mm2 g h))), (sa, .inl (cI, 2, .inl (p2 ((s0 + 1) &&& 255) s1))), (pa, .inl (cI, 2, .inl (p2 (rd g ((s0 + 1) &&& 255)) p1))), (za, .inl (cZ, 2, .inl (p2 (bI z0) (bI z1)))), (ca, .inl (cZ, 2, .inl (p2 (bI c0) (bI c1))))] H := hP.sub [4, 0, 5, 6, 1, 2, 3] rfl
                  have hD9 : va_D A [(o, .inr (5, [.int th, .ref im, .int (bI tr), .ref rc, .ref bg, .int ro, .ref oa, .ref xa, .ref ya, .ref rg, .ref me, .ref sa, .ref pa, .ref za, .ref ca, .int (bI kp), .ref ta, .ref na])), (rg, .inl (cI, 6, .inl (rg6 a x d b0 b1 b2))), (me, .inl (cI, 512, .inl (mm2 g h))), (sa, .inl (cI, 2, .inl (p2 ((s0 + 1) &&& 255) s1))), (pa, .inl (cI, 2, .inl (p2 (rd g ((s0 + 1) &&& 255)) p1))), (za, .inl (cZ, 2, .inl (p2 (bI z0) (bI z1)))), (ca, .inl (cZ, 2, .inl (p2 (bI c0) (bI c1))))] := hD.sub [4, 0, 5, 6, 1, 2, 3] (by decide) rfl
                  exact W.vret hx hb hr (fun t ht hW => ⟨⟨(g, a, (s0 + 1) &&& 255, rd g ((s0 + 1) &&& 255), z0), rfl, by rw [h121]; rfl, by rw [ht]; exact hP9, va_K.moved hW.alike hK, hD9⟩, hS.F ht⟩) hS.2.2 d_MO_transfers_198
              · refine lv_aload_n hx hb d_MO_transfers_99 rfl (lv_at hl 2 rfl) ?_
                refine va_get (D := D) (ci := 5) (v := .ref pa) (C := R_MO) (T := T_MO) (N := 18) hx hb hts iw_MO hown hK hP 0 rfl rfl 12 (by decide) (hts _ k_707) (fun _ h9 => h9) rfl d_MO_transfers_100 ?_
                refine lv_iconst (v := 0) hx hb d_MO_transfers_103 (by decide) ?_
                refine lv_iload hx hb d_MO_transfers_104 (lv_at hl 0 rfl) ?_
                refine lv_if_eq (tgt := 113) hx hb d_MO_transfers_106 rfl (fun _ => ?_) (fun h9 => absurd (by decide) h9)
                refine lv_iload_n hx hb d_MO_transfers_113 rfl (lv_at hl 1 rfl) ?_
                refine va_iast hx hb hK hP hD hS 4 0 rfl rfl (vp_in_nI (n := 0) (by decide) (by decide)) d_MO_transfers_114 (fun H locs hP hD hS => ?_)
                have hP : va_P D vwCl [(o, .inr (5, [.int th, .ref im, .int (bI tr), .ref rc, .ref bg, .int ro, .ref oa, .ref xa, .ref ya, .ref rg, .ref me, .ref sa, .ref pa, .ref za, .ref ca, .int (bI kp), .ref ta, .ref na])), (rg, .inl (cI, 6, .inl (rg6 a x d b0 b1 b2))), (me, .inl (cI, 512, .inl (mm2 g h))), (sa, .inl (cI, 2, .inl (p2 s0 s1))), (pa, .inl (cI, 2, .inl (upd (p2 p0 p1) 0 p0))), (za, .inl (cZ, 2, .inl (p2 (bI z0) (bI z1)))), (ca, .inl (cZ, 2, .inl (p2 (bI c0) (bI c1))))] H := hP
                have hD : va_D A [(o, .inr (5, [.int th, .ref im, .int (bI tr), .ref rc, .ref bg, .int ro, .ref oa, .ref xa, .ref ya, .ref rg, .ref me, .ref sa, .ref pa, .ref za, .ref ca, .int (bI kp), .ref ta, .ref na])), (rg, .inl (cI, 6, .inl (rg6 a x d b0 b1 b2))), (me, .inl (cI, 512, .inl (mm2 g h))), (sa, .inl (cI, 2, .inl (p2 s0 s1))), (pa, .inl (cI, 2, .inl (upd (p2 p0 p1) 0 p0))), (za, .inl (cZ, 2, .inl (p2 (bI z0) (bI z1)))), (ca, .inl (cZ, 2, .inl (p2 (bI c0) (bI c1))))] := hD
                rw [show upd (p2 p0 p1) 0 p0 = p2 p0 p1 from p2_0] at hP hD
                have hP : va_P D vwCl [(o, .inr (5, [.int th, .ref im, .int (bI tr), .ref rc, .ref bg, .int ro, .ref oa, .ref xa, .ref ya, .ref rg, .ref me, .ref sa, .ref pa, .ref za, .ref ca, .int (bI kp), .ref ta, .ref na])), (rg, .inl (cI, 6, .inl (rg6 a x d b0 b1 b2))), (me, .inl (cI, 512, .inl (mm2 g h))), (sa, .inl (cI, 2, .inl (p2 s0 s1))), (pa, .inl (cI, 2, .inl (p2 p0 p1))), (za, .inl (cZ, 2, .inl (p2 (bI z0) (bI z1)))), (ca, .inl (cZ, 2, .inl (p2 (bI c0) (bI c1))))] H := hP
                have hD : va_D A [(o, .inr (5, [.int th, .ref im, .int (bI tr), .ref rc, .ref bg, .int ro, .ref oa, .ref xa, .ref ya, .ref rg, .ref me, .ref sa, .ref pa, .ref za, .ref ca, .int (bI kp), .ref ta, .ref na])), (rg, .inl (cI, 6, .inl (rg6 a x d b0 b1 b2))), (me, .inl (cI, 512, .inl (mm2 g h))), (sa, .inl (cI, 2, .inl (p2 s0 s1))), (pa, .inl (cI, 2, .inl (p2 p0 p1))), (za, .inl (cZ, 2, .inl (p2 (bI z0) (bI z1)))), (ca, .inl (cZ, 2, .inl (p2 (bI c0) (bI c1))))] := hD
                refine lv_goto (tgt := 198) hx hb d_MO_transfers_115 rfl ?_
                have hP9 : va_P D vwCl [(o, .inr (5, [.int th, .ref im, .int (bI tr), .ref rc, .ref bg, .int ro, .ref oa, .ref xa, .ref ya, .ref rg, .ref me, .ref sa, .ref pa, .ref za, .ref ca, .int (bI kp), .ref ta, .ref na])), (rg, .inl (cI, 6, .inl (rg6 a x d b0 b1 b2))), (me, .inl (cI, 512, .inl (mm2 g h))), (sa, .inl (cI, 2, .inl (p2 s0 s1))), (pa, .inl (cI, 2, .inl (p2 p0 p1))), (za, .inl (cZ, 2, .inl (p2 (bI z0) (bI z1)))), (ca, .inl (cZ, 2, .inl (p2 (bI c0) (bI c1))))] H := hP.sub [0, 1, 2, 3, 4, 5, 6] rfl
                have hD9 : va_D A [(o, .inr (5, [.int th, .ref im, .int (bI tr), .ref rc, .ref bg, .int ro, .ref oa, .ref xa, .ref ya, .ref rg, .ref me, .ref sa, .ref pa, .ref za, .ref ca, .int (bI kp), .ref ta, .ref na])), (rg, .inl (cI, 6, .inl (rg6 a x d b0 b1 b2))), (me, .inl (cI, 512, .inl (mm2 g h))), (sa, .inl (cI, 2, .inl (p2 s0 s1))), (pa, .inl (cI, 2, .inl (p2 p0 p1))), (za, .inl (cZ, 2, .inl (p2 (bI z0) (bI z1)))), (ca, .inl (cZ, 2, .inl (p2 (bI c0) (bI c1))))] := hD.sub [0, 1, 2, 3, 4, 5, 6] (by decide) rfl
                exact W.vret hx hb hr (fun t ht hW => ⟨⟨(g, a, s0, p0, z0), rfl, by rw [mTran, if_neg h16, if_pos (Int32.not_le.mp h96), mYes, if_neg h10, if_neg h16, if_neg h22, if_neg h28, if_neg h63, show c0 = true from bI_t h71]; rfl, by rw [ht]; exact hP9, va_K.moved hW.alike hK, hD9⟩, hS.F ht⟩) hS.2.2 d_MO_transfers_198
            · refine lv_iconst (v := 1) hx hb d_MO_transfers_74 (by decide) ?_
              refine lv_goto (tgt := 79) hx hb d_MO_transfers_75 rfl ?_
              refine lv_istore hx hb d_MO_transfers_79 hl (by decide) rfl (fun ls hl => ?_)
              have hl : lv_has ls 6 [(4, .int 1), (3, .int p0), (0, .ref o), (1, .int op), (2, .int n)] := hl
              refine lv_iload_n hx hb d_MO_transfers_81 rfl (lv_at hl 3 rfl) ?_
              refine lv_bipush (v := 27) hx hb d_MO_transfers_82 (by decide) ?_
              refine lv_icmp_ne (tgt := 93) hx hb d_MO_transfers_84 rfl (fun _ => ?_) (fun h9 => absurd h9 h16)
              refine lv_iload_n hx hb d_MO_transfers_93 rfl (lv_at hl 3 rfl) ?_
              refine lv_bipush (v := 28) hx hb d_MO_transfers_94 (by decide) ?_
              refine lv_icmp_ge (tgt := 118) hx hb d_MO_transfers_96 rfl (fun h96 => ?_) (fun h96 => ?_)
              · refine lv_iload_n hx hb d_MO_transfers_118 rfl (lv_at hl 3 rfl) ?_
                refine lv_bipush (v := 28) hx hb d_MO_transfers_119 (by decide) ?_
                refine lv_icmp_ne (tgt := 142) hx hb d_MO_transfers_121 rfl (fun h121 => ?_) (fun h121 => ?_)
                · refine lv_iload_n hx hb d_MO_transfers_142 rfl (lv_at hl 3 rfl) ?_
                  refine lv_bipush (v := 29) hx hb d_MO_transfers_143 (by decide) ?_
                  refine lv_icmp_ne (tgt := 162) hx hb d_MO_transfers_145 rfl (fun h145 => ?_) (fun h145 => ?_)
                  · refine lv_iload_n hx hb d_MO_transfers_162 rfl (lv_at hl 3 rfl) ?_
                    refine lv_bipush (v := 30) hx hb d_MO_transfers_163 (by decide) ?_
                    refine lv_icmp_ne (tgt := 186) hx hb d_MO_transfers_165 rfl (fun h165 => ?_) (fun h165 => ?_)
                    · refine lv_aload_n hx hb d_MO_transfers_186 rfl (lv_at hl 2 rfl) ?_
                      refine va_get (D := D) (ci := 5) (v := .ref pa) (C := R_MO) (T := T_MO) (N := 18) hx hb hts iw_MO hown hK hP 0 rfl rfl 12 (by decide) (hts _ k_707) (fun _ h9 => h9) rfl d_MO_transfers_187 ?_
                      refine lv_iconst (v := 0) hx hb d_MO_transfers_190 (by decide) ?_
                      refine lv_aload_n hx hb d_MO_transfers_191 rfl (lv_at hl 2 rfl) ?_
                      refine va_get (D := D) (ci := 5) (v := .ref rg) (C := R_MO) (T := T_MO) (N := 18) hx hb hts iw_MO hown hK hP 0 rfl rfl 9 (by decide) (hts _ k_704) (fun _ h9 => h9) rfl d_MO_transfers_192 ?_
                      refine lv_iconst (v := 1) hx hb d_MO_transfers_195 (by decide) ?_
                      refine va_iald hx hb hK hP 1 0 rfl rfl (vp_in_nI (n := 1) (by decide) (by decide)) d_MO_transfers_196 ?_
                      refine va_iast hx hb hK hP hD hS 4 0 rfl rfl (vp_in_nI (n := 0) (by decide) (by decide)) d_MO_transfers_197 (fun H locs hP hD hS => ?_)
                      have hP : va_P D vwCl [(o, .inr (5, [.int th, .ref im, .int (bI tr), .ref rc, .ref bg, .int ro, .ref oa, .ref xa, .ref ya, .ref rg, .ref me, .ref sa, .ref pa, .ref za, .ref ca, .int (bI kp), .ref ta, .ref na])), (rg, .inl (cI, 6, .inl (rg6 a x d b0 b1 b2))), (me, .inl (cI, 512, .inl (mm2 g h))), (sa, .inl (cI, 2, .inl (p2 s0 s1))), (pa, .inl (cI, 2, .inl (upd (p2 p0 p1) 0 x))), (za, .inl (cZ, 2, .inl (p2 (bI z0) (bI z1)))), (ca, .inl (cZ, 2, .inl (p2 (bI c0) (bI c1))))] H := hP
                      have hD : va_D A [(o, .inr (5, [.int th, .ref im, .int (bI tr), .ref rc, .ref bg, .int ro, .ref oa, .ref xa, .ref ya, .ref rg, .ref me, .ref sa, .ref pa, .ref za, .ref ca, .int (bI kp), .ref ta, .ref na])), (rg, .inl (cI, 6, .inl (rg6 a x d b0 b1 b2))), (me, .inl (cI, 512, .inl (mm2 g h))), (sa, .inl (cI, 2, .inl (p2 s0 s1))), (pa, .inl (cI, 2, .inl (upd (p2 p0 p1) 0 x))), (za, .inl (cZ, 2, .inl (p2 (bI z0) (bI z1)))), (ca, .inl (cZ, 2, .inl (p2 (bI c0) (bI c1))))] := hD
                      rw [show upd (p2 p0 p1) 0 x = p2 x p1 from p2_0] at hP hD
                      have hP : va_P D vwCl [(o, .inr (5, [.int th, .ref im, .int (bI tr), .ref rc, .ref bg, .int ro, .ref oa, .ref xa, .ref ya, .ref rg, .ref me, .ref sa, .ref pa, .ref za, .ref ca, .int (bI kp), .ref ta, .ref na])), (rg, .inl (cI, 6, .inl (rg6 a x d b0 b1 b2))), (me, .inl (cI, 512, .inl (mm2 g h))), (sa, .inl (cI, 2, .inl (p2 s0 s1))), (pa, .inl (cI, 2, .inl (p2 x p1))), (za, .inl (cZ, 2, .inl (p2 (bI z0) (bI z1)))), (ca, .inl (cZ, 2, .inl (p2 (bI c0) (bI c1))))] H := hP
                      have hD : va_D A [(o, .inr (5, [.int th, .ref im, .int (bI tr), .ref rc, .ref bg, .int ro, .ref oa, .ref xa, .ref ya, .ref rg, .ref me, .ref sa, .ref pa, .ref za, .ref ca, .int (bI kp), .ref ta, .ref na])), (rg, .inl (cI, 6, .inl (rg6 a x d b0 b1 b2))), (me, .inl (cI, 512, .inl (mm2 g h))), (sa, .inl (cI, 2, .inl (p2 s0 s1))), (pa, .inl (cI, 2, .inl (p2 x p1))), (za, .inl (cZ, 2, .inl (p2 (bI z0) (bI z1)))), (ca, .inl (cZ, 2, .inl (p2 (bI c0) (bI c1))))] := hD
                      have hP9 : va_P D vwCl [(o, .inr (5, [.int th, .ref im, .int (bI tr), .ref rc, .ref bg, .int ro, .ref oa, .ref xa, .ref ya, .ref rg, .ref me, .ref sa, .ref pa, .ref za, .ref ca, .int (bI kp), .ref ta, .ref na])), (rg, .inl (cI, 6, .inl (rg6 a x d b0 b1 b2))), (me, .inl (cI, 512, .inl (mm2 g h))), (sa, .inl (cI, 2, .inl (p2 s0 s1))), (pa, .inl (cI, 2, .inl (p2 x p1))), (za, .inl (cZ, 2, .inl (p2 (bI z0) (bI z1)))), (ca, .inl (cZ, 2, .inl (p2 (bI c0) (bI c1))))] H := hP.sub [0, 1, 2, 3, 4, 5, 6] rfl
                      have hD9 : va_D A [(o, .inr (5, [.int th, .ref im, .int (bI tr), .ref rc, .ref bg, .int ro, .ref oa, .ref xa, .ref ya, .ref rg, .ref me, .ref sa, .ref pa, .ref za, .ref ca, .int (bI kp), .ref ta, .ref na])), (rg, .inl (cI, 6, .inl (rg6 a x d b0 b1 b2))), (me, .inl (cI, 512, .inl (mm2 g h))), (sa, .inl (cI, 2, .inl (p2 s0 s1))), (pa, .inl (cI, 2, .inl (p2 x p1))), (za, .inl (cZ, 2, .inl (p2 (bI z0) (bI z1)))), (ca, .inl (cZ, 2, .inl (p2 (bI c0) (bI c1))))] := hD.sub [0, 1, 2, 3, 4, 5, 6] (by decide) rfl
                      exact W.vret hx hb hr (fun t ht hW => ⟨⟨(g, a, s0, x, z0), rfl, by rw [mTran, if_neg h16, if_neg (Int32.not_lt.mpr h96), if_neg h121, if_neg h145, if_neg h165], by rw [ht]; exact hP9, va_K.moved hW.alike hK, hD9⟩, hS.F ht⟩) hS.2.2 d_MO_transfers_198
                    · refine lv_aload_n hx hb d_MO_transfers_168 rfl (lv_at hl 2 rfl) ?_
                      refine lv_iconst (v := 0) hx hb d_MO_transfers_169 (by decide) ?_
                      have hPc := hP.sub (ws' := [(o, .inr (5, [.int th, .ref im, .int (bI tr), .ref rc, .ref bg, .int ro, .ref oa, .ref xa, .ref ya, .ref rg, .ref me, .ref sa, .ref pa, .ref za, .ref ca, .int (bI kp), .ref ta, .ref na])), (me, .inl (cI, 512, .inl (mm2 g h))), (sa, .inl (cI, 2, .inl (p2 s0 s1)))]) [0, 2, 3] rfl
                      have hDc := hD.sub (ws' := [(o, .inr (5, [.int th, .ref im, .int (bI tr), .ref rc, .ref bg, .int ro, .ref oa, .ref xa, .ref ya, .ref rg, .ref me, .ref sa, .ref pa, .ref za, .ref ca, .int (bI kp), .ref ta, .ref na])), (me, .inl (cI, 512, .inl (mm2 g h))), (sa, .inl (cI, 2, .inl (p2 s0 s1)))]) [0, 2, 3] (by decide) rfl
                      have hFc := va_free (wc := [(o, .inr (5, [.int th, .ref im, .int (bI tr), .ref rc, .ref bg, .int ro, .ref oa, .ref xa, .ref ya, .ref rg, .ref me, .ref sa, .ref pa, .ref za, .ref ca, .int (bI kp), .ref ta, .ref na])), (me, .inl (cI, 512, .inl (mm2 g h))), (sa, .inl (cI, 2, .inl (p2 s0 s1)))]) hD hS hA [0, 2, 3] rfl
                      refine va_calli (va_runV (As := [.int 0]) (rest := []) ⟨hx, hb, hml, hown, hts⟩ (q_pop0 l D cI cZ o th im tr rc bg ro oa xa ya rg me sa pa za ca kp ta na g h s0 s1 H.size) ⟨cB 1 hts k_841 k_62 k_838 hd_MO_pop ⟨Nat.le_of_ble_eq_true rfl, Nat.le_of_ble_eq_true rfl⟩ rfl rfl, hts _ k_840, hts _ k_41⟩ (PcW.preV (va_recv hK hP (q0 := 0) (ci := 5) rfl rfl) hPc hK hDc hN) rfl rfl hl.1 rfl (lv_room (Nat.le_of_ble_eq_true rfl)) d_MO_transfers_170 ⟨Nat.le_of_ble_eq_true rfl, Nat.le_of_ble_eq_true rfl⟩) hS (fun q _ h => hFc q h) hFc (fun r170 u t H1 locs ht hvm e170 hB hz1 hk1 hS => ?_)
                      obtain ⟨s9170, rfl⟩ : ∃ z, z = u := ⟨_, rfl⟩
                      obtain ⟨hP1, hK1, hD1⟩ := hB
                      rw [ht] at hP1
                      obtain ⟨hP, hD⟩ := va_join (wr := [(rg, .inl (cI, 6, .inl (rg6 a x d b0 b1 b2))), (pa, .inl (cI, 2, .inl (p2 p0 p1))), (za, .inl (cZ, 2, .inl (p2 (bI z0) (bI z1)))), (ca, .inl (cZ, 2, .inl (p2 (bI c0) (bI c1))))]) (w1 := [(o, .inr (5, [.int th, .ref im, .int (bI tr), .ref rc, .ref bg, .int ro, .ref oa, .ref xa, .ref ya, .ref rg, .ref me, .ref sa, .ref pa, .ref za, .ref ca, .int (bI kp), .ref ta, .ref na])), (me, .inl (cI, 512, .inl (mm2 g h))), (sa, .inl (cI, 2, .inl (p2 s9170 s1)))]) hP hD [0, 2, 3] [1, 4, 5, 6] rfl rfl (by decide) (by decide) hk1 hFc hP1 hD1
                      generalize H1 = H at hP hS ⊢
                      try dsimp only at e170
                      obtain ⟨e170_0, e170_1⟩ := e170
                      replace e170_0 := e170_0.symm
                      subst e170_0
                      replace e170_1 := e170_1.symm
                      subst e170_1
                      have hP : va_P D vwCl [(rg, .inl (cI, 6, .inl (rg6 a x d b0 b1 b2))), (pa, .inl (cI, 2, .inl (p2 p0 p1))), (za, .inl (cZ, 2, .inl (p2 (bI z0) (bI z1)))), (ca, .inl (cZ, 2, .inl (p2 (bI c0) (bI c1)))), (o, .inr (5, [.int th, .ref im, .int (bI tr), .ref rc, .ref bg, .int ro, .ref oa, .ref xa, .ref ya, .ref rg, .ref me, .ref sa, .ref pa, .ref za, .ref ca, .int (bI kp), .ref ta, .ref na])), (me, .inl (cI, 512, .inl (mm2 g h))), (sa, .inl (cI, 2, .inl (p2 ((s0 + 1) &&& 255) s1)))] H := hP
                      have hD : va_D A [(rg, .inl (cI, 6, .inl (rg6 a x d b0 b1 b2))), (pa, .inl (cI, 2, .inl (p2 p0 p1))), (za, .inl (cZ, 2, .inl (p2 (bI z0) (bI z1)))), (ca, .inl (cZ, 2, .inl (p2 (bI c0) (bI c1)))), (o, .inr (5, [.int th, .ref im, .int (bI tr), .ref rc, .ref bg, .int ro, .ref oa, .ref xa, .ref ya, .ref rg, .ref me, .ref sa, .ref pa, .ref za, .ref ca, .int (bI kp), .ref ta, .ref na])), (me, .inl (cI, 512, .inl (mm2 g h))), (sa, .inl (cI, 2, .inl (p2 ((s0 + 1) &&& 255) s1)))] := hD
                      refine lv_istore hx hb d_MO_transfers_173 hl (by decide) rfl (fun ls hl => ?_)
                      have hl : lv_has ls 6 [(5, .int (rd g ((s0 + 1) &&& 255))), (4, .int 1), (3, .int p0), (0, .ref o), (1, .int op), (2, .int n)] := hl
                      refine lv_aload_n hx hb d_MO_transfers_175 rfl (lv_at hl 3 rfl) ?_
                      refine lv_iconst (v := 0) hx hb d_MO_transfers_176 (by decide) ?_
                      refine lv_iconst (v := 0) hx hb d_MO_transfers_177 (by decide) ?_
                      refine lv_iload hx hb d_MO_transfers_178 (lv_at hl 0 rfl) ?_
                      have hPc := hP.sub (ws' := [(o, .inr (5, [.int th, .ref im, .int (bI tr), .ref rc, .ref bg, .int ro, .ref oa, .ref xa, .ref ya, .ref rg, .ref me, .ref sa, .ref pa, .ref za, .ref ca, .int (bI kp), .ref ta, .ref na])), (rg, .inl (cI, 6, .inl (rg6 a x d b0 b1 b2))), (za, .inl (cZ, 2, .inl (p2 (bI z0) (bI z1))))]) [4, 0, 2] rfl
                      have hDc := hD.sub (ws' := [(o, .inr (5, [.int th, .ref im, .int (bI tr), .ref rc, .ref bg, .int ro, .ref oa, .ref xa, .ref ya, .ref rg, .ref me, .ref sa, .ref pa, .ref za, .ref ca, .int (bI kp), .ref ta, .ref na])), (rg, .inl (cI, 6, .inl (rg6 a x d b0 b1 b2))), (za, .inl (cZ, 2, .inl (p2 (bI z0) (bI z1))))]) [4, 0, 2] (by decide) rfl
                      have hFc := va_free (wc := [(o, .inr (5, [.int th, .ref im, .int (bI tr), .ref rc, .ref bg, .int ro, .ref oa, .ref xa, .ref ya, .ref rg, .ref me, .ref sa, .ref pa, .ref za, .ref ca, .int (bI kp), .ref ta, .ref na])), (rg, .inl (cI, 6, .inl (rg6 a x d b0 b1 b2))), (za, .inl (cZ, 2, .inl (p2 (bI z0) (bI z1))))]) hD hS hA [4, 0, 2] rfl
                      refine va_callv (va_runV (As := [.int 0, .int 0, .int (rd g ((s0 + 1) &&& 255))]) (rest := []) ⟨hx, hb, hml, hown, hts⟩ (q_setZ00 l D cI cZ o th im tr rc bg ro oa xa ya rg me sa pa za ca kp ta na a x d b0 b1 b2 z0 z1 (rd g ((s0 + 1) &&& 255)) H.size) ⟨cB 3 hts k_845 k_62 k_842 hd_MO_setZ ⟨Nat.le_of_ble_eq_true rfl, Nat.le_of_ble_eq_true rfl⟩ rfl rfl, hts _ k_844, hts _ k_42⟩ (PcW.preV (va_recv hK hP (q0 := 4) (ci := 5) rfl rfl) hPc hK hDc hN) rfl rfl hl.1 rfl (lv_room (Nat.le_of_ble_eq_true rfl)) d_MO_transfers_180 ⟨Nat.le_of_ble_eq_true rfl, Nat.le_of_ble_eq_true rfl⟩) hS (fun q _ h => hFc q h) hFc (fun u t H1 locs ht hvm e180 hB hz1 hk1 hS => ?_)
                      obtain ⟨v1180, zz180⟩ := u
                      obtain ⟨hP1, hK1, hD1⟩ := hB
                      rw [ht] at hP1
                      obtain ⟨hP, hD⟩ := va_join (wr := [(pa, .inl (cI, 2, .inl (p2 p0 p1))), (ca, .inl (cZ, 2, .inl (p2 (bI c0) (bI c1)))), (me, .inl (cI, 512, .inl (mm2 g h))), (sa, .inl (cI, 2, .inl (p2 ((s0 + 1) &&& 255) s1)))]) (w1 := [(o, .inr (5, [.int th, .ref im, .int (bI tr), .ref rc, .ref bg, .int ro, .ref oa, .ref xa, .ref ya, .ref rg, .ref me, .ref sa, .ref pa, .ref za, .ref ca, .int (bI kp), .ref ta, .ref na])), (rg, .inl (cI, 6, .inl (rg6 v1180 x d b0 b1 b2))), (za, .inl (cZ, 2, .inl (p2 (bI zz180) (bI z1))))]) hP hD [4, 0, 2] [1, 3, 5, 6] rfl rfl (by decide) (by decide) hk1 hFc hP1 hD1
                      generalize H1 = H at hP hS ⊢
                      try dsimp only at e180
                      obtain ⟨e180_0, e180_1⟩ := e180
                      replace e180_0 := e180_0.symm
                      subst e180_0
                      replace e180_1 := e180_1.symm
                      subst e180_1
                      have hP : va_P D vwCl [(pa, .inl (cI, 2, .inl (p2 p0 p1))), (ca, .inl (cZ, 2, .inl (p2 (bI c0) (bI c1)))), (me, .inl (cI, 512, .inl (mm2 g h))), (sa, .inl (cI, 2, .inl (p2 ((s0 + 1) &&& 255) s1))), (o, .inr (5, [.int th, .ref im, .int (bI tr), .ref rc, .ref bg, .int ro, .ref oa, .ref xa, .ref ya, .ref rg, .ref me, .ref sa, .ref pa, .ref za, .ref ca, .int (bI kp), .ref ta, .ref na])), (rg, .inl (cI, 6, .inl (rg6 ((rd g ((s0 + 1) &&& 255)) &&& 255) x d b0 b1 b2))), (za, .inl (cZ, 2, .inl (p2 (bI (decide ((rd g ((s0 + 1) &&& 255)) &&& 255 = 0))) (bI z1))))] H := hP
                      have hD : va_D A [(pa, .inl (cI, 2, .inl (p2 p0 p1))), (ca, .inl (cZ, 2, .inl (p2 (bI c0) (bI c1)))), (me, .inl (cI, 512, .inl (mm2 g h))), (sa, .inl (cI, 2, .inl (p2 ((s0 + 1) &&& 255) s1))), (o, .inr (5, [.int th, .ref im, .int (bI tr), .ref rc, .ref bg, .int ro, .ref oa, .ref xa, .ref ya, .ref rg, .ref me, .ref sa, .ref pa, .ref za, .ref ca, .int (bI kp), .ref ta, .ref na])), (rg, .inl (cI, 6, .inl (rg6 ((rd g ((s0 + 1) &&& 255)) &&& 255) x d b0 b1 b2))), (za, .inl (cZ, 2, .inl (p2 (bI (decide ((rd g ((s0 + 1) &&& 255)) &&& 255 = 0))) (bI z1))))] := hD
                      refine lv_goto (tgt := 198) hx hb d_MO_transfers_183 rfl ?_
                      have hP9 : va_P D vwCl [(o, .inr (5, [.int th, .ref im, .int (bI tr), .ref rc, .ref bg, .int ro, .ref oa, .ref xa, .ref ya, .ref rg, .ref me, .ref sa, .ref pa, .ref za, .ref ca, .int (bI kp), .ref ta, .ref na])), (rg, .inl (cI, 6, .inl (rg6 ((rd g ((s0 + 1) &&& 255)) &&& 255) x d b0 b1 b2))), (me, .inl (cI, 512, .inl (mm2 g h))), (sa, .inl (cI, 2, .inl (p2 ((s0 + 1) &&& 255) s1))), (pa, .inl (cI, 2, .inl (p2 p0 p1))), (za, .inl (cZ, 2, .inl (p2 (bI (decide ((rd g ((s0 + 1) &&& 255)) &&& 255 = 0))) (bI z1)))), (ca, .inl (cZ, 2, .inl (p2 (bI c0) (bI c1))))] H := hP.sub [4, 5, 2, 3, 0, 6, 1] rfl
                      have hD9 : va_D A [(o, .inr (5, [.int th, .ref im, .int (bI tr), .ref rc, .ref bg, .int ro, .ref oa, .ref xa, .ref ya, .ref rg, .ref me, .ref sa, .ref pa, .ref za, .ref ca, .int (bI kp), .ref ta, .ref na])), (rg, .inl (cI, 6, .inl (rg6 ((rd g ((s0 + 1) &&& 255)) &&& 255) x d b0 b1 b2))), (me, .inl (cI, 512, .inl (mm2 g h))), (sa, .inl (cI, 2, .inl (p2 ((s0 + 1) &&& 255) s1))), (pa, .inl (cI, 2, .inl (p2 p0 p1))), (za, .inl (cZ, 2, .inl (p2 (bI (decide ((rd g ((s0 + 1) &&& 255)) &&& 255 = 0))) (bI z1)))), (ca, .inl (cZ, 2, .inl (p2 (bI c0) (bI c1))))] := hD.sub [4, 5, 2, 3, 0, 6, 1] (by decide) rfl
                      exact W.vret hx hb hr (fun t ht hW => ⟨⟨(g, (rd g ((s0 + 1) &&& 255)) &&& 255, (s0 + 1) &&& 255, p0, decide ((rd g ((s0 + 1) &&& 255)) &&& 255 = 0)), rfl, by rw [h165]; rfl, by rw [ht]; exact hP9, va_K.moved hW.alike hK, hD9⟩, hS.F ht⟩) hS.2.2 d_MO_transfers_198
                  · refine lv_aload_n hx hb d_MO_transfers_148 rfl (lv_at hl 2 rfl) ?_
                    refine lv_iconst (v := 0) hx hb d_MO_transfers_149 (by decide) ?_
                    refine lv_aload_n hx hb d_MO_transfers_150 rfl (lv_at hl 2 rfl) ?_
                    refine va_get (D := D) (ci := 5) (v := .ref rg) (C := R_MO) (T := T_MO) (N := 18) hx hb hts iw_MO hown hK hP 0 rfl rfl 9 (by decide) (hts _ k_704) (fun _ h9 => h9) rfl d_MO_transfers_151 ?_
                    refine lv_iconst (v := 0) hx hb d_MO_transfers_154 (by decide) ?_
                    refine va_iald hx hb hK hP 1 0 rfl rfl (vp_in_nI (n := 0) (by decide) (by decide)) d_MO_transfers_155 ?_
                    have hPc := hP.sub (ws' := [(o, .inr (5, [.int th, .ref im, .int (bI tr), .ref rc, .ref bg, .int ro, .ref oa, .ref xa, .ref ya, .ref rg, .ref me, .ref sa, .ref pa, .ref za, .ref ca, .int (bI kp), .ref ta, .ref na])), (me, .inl (cI, 512, .inl (mm2 g h))), (sa, .inl (cI, 2, .inl (p2 s0 s1)))]) [0, 2, 3] rfl
                    have hDc := hD.sub (ws' := [(o, .inr (5, [.int th, .ref im, .int (bI tr), .ref rc, .ref bg, .int ro, .ref oa, .ref xa, .ref ya, .ref rg, .ref me, .ref sa, .ref pa, .ref za, .ref ca, .int (bI kp), .ref ta, .ref na])), (me, .inl (cI, 512, .inl (mm2 g h))), (sa, .inl (cI, 2, .inl (p2 s0 s1)))]) [0, 2, 3] (by decide) rfl
                    have hFc := va_free (wc := [(o, .inr (5, [.int th, .ref im, .int (bI tr), .ref rc, .ref bg, .int ro, .ref oa, .ref xa, .ref ya, .ref rg, .ref me, .ref sa, .ref pa, .ref za, .ref ca, .int (bI kp), .ref ta, .ref na])), (me, .inl (cI, 512, .inl (mm2 g h))), (sa, .inl (cI, 2, .inl (p2 s0 s1)))]) hD hS hA [0, 2, 3] rfl
                    refine va_callv (va_runV (As := [.int 0, .int a]) (rest := []) ⟨hx, hb, hml, hown, hts⟩ (q_push0 l D cI cZ o th im tr rc bg ro oa xa ya rg me sa pa za ca kp ta na g h s0 s1 a H.size) ⟨cB 2 hts k_833 k_62 k_830 hd_MO_push ⟨Nat.le_of_ble_eq_true rfl, Nat.le_of_ble_eq_true rfl⟩ rfl rfl, hts _ k_832, hts _ k_39⟩ (PcW.preV (va_recv hK hP (q0 := 0) (ci := 5) rfl rfl) hPc hK hDc hN) rfl rfl hl.1 rfl (lv_room (Nat.le_of_ble_eq_true rfl)) d_MO_transfers_156 ⟨Nat.le_of_ble_eq_true rfl, Nat.le_of_ble_eq_true rfl⟩) hS (fun q _ h => hFc q h) hFc (fun u t H1 locs ht hvm e156 hB hz1 hk1 hS => ?_)
                    obtain ⟨g1156, s9156⟩ := u
                    obtain ⟨hP1, hK1, hD1⟩ := hB
                    rw [ht] at hP1
                    obtain ⟨hP, hD⟩ := va_join (wr := [(rg, .inl (cI, 6, .inl (rg6 a x d b0 b1 b2))), (pa, .inl (cI, 2, .inl (p2 p0 p1))), (za, .inl (cZ, 2, .inl (p2 (bI z0) (bI z1)))), (ca, .inl (cZ, 2, .inl (p2 (bI c0) (bI c1))))]) (w1 := [(o, .inr (5, [.int th, .ref im, .int (bI tr), .ref rc, .ref bg, .int ro, .ref oa, .ref xa, .ref ya, .ref rg, .ref me, .ref sa, .ref pa, .ref za, .ref ca, .int (bI kp), .ref ta, .ref na])), (me, .inl (cI, 512, .inl (mm2 g1156 h))), (sa, .inl (cI, 2, .inl (p2 s9156 s1)))]) hP hD [0, 2, 3] [1, 4, 5, 6] rfl rfl (by decide) (by decide) hk1 hFc hP1 hD1
                    generalize H1 = H at hP hS ⊢
                    try dsimp only at e156
                    obtain ⟨e156_0, e156_1⟩ := e156
                    replace e156_0 := e156_0.symm
                    subst e156_0
                    replace e156_1 := e156_1.symm
                    subst e156_1
                    have hP : va_P D vwCl [(rg, .inl (cI, 6, .inl (rg6 a x d b0 b1 b2))), (pa, .inl (cI, 2, .inl (p2 p0 p1))), (za, .inl (cZ, 2, .inl (p2 (bI z0) (bI z1)))), (ca, .inl (cZ, 2, .inl (p2 (bI c0) (bI c1)))), (o, .inr (5, [.int th, .ref im, .int (bI tr), .ref rc, .ref bg, .int ro, .ref oa, .ref xa, .ref ya, .ref rg, .ref me, .ref sa, .ref pa, .ref za, .ref ca, .int (bI kp), .ref ta, .ref na])), (me, .inl (cI, 512, .inl (mm2 (wr g s0 a) h))), (sa, .inl (cI, 2, .inl (p2 ((s0 - 1) &&& 255) s1)))] H := hP
                    have hD : va_D A [(rg, .inl (cI, 6, .inl (rg6 a x d b0 b1 b2))), (pa, .inl (cI, 2, .inl (p2 p0 p1))), (za, .inl (cZ, 2, .inl (p2 (bI z0) (bI z1)))), (ca, .inl (cZ, 2, .inl (p2 (bI c0) (bI c1)))), (o, .inr (5, [.int th, .ref im, .int (bI tr), .ref rc, .ref bg, .int ro, .ref oa, .ref xa, .ref ya, .ref rg, .ref me, .ref sa, .ref pa, .ref za, .ref ca, .int (bI kp), .ref ta, .ref na])), (me, .inl (cI, 512, .inl (mm2 (wr g s0 a) h))), (sa, .inl (cI, 2, .inl (p2 ((s0 - 1) &&& 255) s1)))] := hD
                    refine lv_goto (tgt := 198) hx hb d_MO_transfers_159 rfl ?_
                    have hP9 : va_P D vwCl [(o, .inr (5, [.int th, .ref im, .int (bI tr), .ref rc, .ref bg, .int ro, .ref oa, .ref xa, .ref ya, .ref rg, .ref me, .ref sa, .ref pa, .ref za, .ref ca, .int (bI kp), .ref ta, .ref na])), (rg, .inl (cI, 6, .inl (rg6 a x d b0 b1 b2))), (me, .inl (cI, 512, .inl (mm2 (wr g s0 a) h))), (sa, .inl (cI, 2, .inl (p2 ((s0 - 1) &&& 255) s1))), (pa, .inl (cI, 2, .inl (p2 p0 p1))), (za, .inl (cZ, 2, .inl (p2 (bI z0) (bI z1)))), (ca, .inl (cZ, 2, .inl (p2 (bI c0) (bI c1))))] H := hP.sub [4, 0, 5, 6, 1, 2, 3] rfl
                    have hD9 : va_D A [(o, .inr (5, [.int th, .ref im, .int (bI tr), .ref rc, .ref bg, .int ro, .ref oa, .ref xa, .ref ya, .ref rg, .ref me, .ref sa, .ref pa, .ref za, .ref ca, .int (bI kp), .ref ta, .ref na])), (rg, .inl (cI, 6, .inl (rg6 a x d b0 b1 b2))), (me, .inl (cI, 512, .inl (mm2 (wr g s0 a) h))), (sa, .inl (cI, 2, .inl (p2 ((s0 - 1) &&& 255) s1))), (pa, .inl (cI, 2, .inl (p2 p0 p1))), (za, .inl (cZ, 2, .inl (p2 (bI z0) (bI z1)))), (ca, .inl (cZ, 2, .inl (p2 (bI c0) (bI c1))))] := hD.sub [4, 0, 5, 6, 1, 2, 3] (by decide) rfl
                    exact W.vret hx hb hr (fun t ht hW => ⟨⟨(wr g s0 a, a, (s0 - 1) &&& 255, p0, z0), rfl, by rw [h145]; rfl, by rw [ht]; exact hP9, va_K.moved hW.alike hK, hD9⟩, hS.F ht⟩) hS.2.2 d_MO_transfers_198
                · refine lv_aload_n hx hb d_MO_transfers_124 rfl (lv_at hl 2 rfl) ?_
                  refine lv_iconst (v := 0) hx hb d_MO_transfers_125 (by decide) ?_
                  have hPc := hP.sub (ws' := [(o, .inr (5, [.int th, .ref im, .int (bI tr), .ref rc, .ref bg, .int ro, .ref oa, .ref xa, .ref ya, .ref rg, .ref me, .ref sa, .ref pa, .ref za, .ref ca, .int (bI kp), .ref ta, .ref na])), (me, .inl (cI, 512, .inl (mm2 g h))), (sa, .inl (cI, 2, .inl (p2 s0 s1)))]) [0, 2, 3] rfl
                  have hDc := hD.sub (ws' := [(o, .inr (5, [.int th, .ref im, .int (bI tr), .ref rc, .ref bg, .int ro, .ref oa, .ref xa, .ref ya, .ref rg, .ref me, .ref sa, .ref pa, .ref za, .ref ca, .int (bI kp), .ref ta, .ref na])), (me, .inl (cI, 512, .inl (mm2 g h))), (sa, .inl (cI, 2, .inl (p2 s0 s1)))]) [0, 2, 3] (by decide) rfl
                  have hFc := va_free (wc := [(o, .inr (5, [.int th, .ref im, .int (bI tr), .ref rc, .ref bg, .int ro, .ref oa, .ref xa, .ref ya, .ref rg, .ref me, .ref sa, .ref pa, .ref za, .ref ca, .int (bI kp), .ref ta, .ref na])), (me, .inl (cI, 512, .inl (mm2 g h))), (sa, .inl (cI, 2, .inl (p2 s0 s1)))]) hD hS hA [0, 2, 3] rfl
                  refine va_calli (va_runV (As := [.int 0]) (rest := []) ⟨hx, hb, hml, hown, hts⟩ (q_pop0 l D cI cZ o th im tr rc bg ro oa xa ya rg me sa pa za ca kp ta na g h s0 s1 H.size) ⟨cB 1 hts k_841 k_62 k_838 hd_MO_pop ⟨Nat.le_of_ble_eq_true rfl, Nat.le_of_ble_eq_true rfl⟩ rfl rfl, hts _ k_840, hts _ k_41⟩ (PcW.preV (va_recv hK hP (q0 := 0) (ci := 5) rfl rfl) hPc hK hDc hN) rfl rfl hl.1 rfl (lv_room (Nat.le_of_ble_eq_true rfl)) d_MO_transfers_126 ⟨Nat.le_of_ble_eq_true rfl, Nat.le_of_ble_eq_true rfl⟩) hS (fun q _ h => hFc q h) hFc (fun r126 u t H1 locs ht hvm e126 hB hz1 hk1 hS => ?_)
                  obtain ⟨s9126, rfl⟩ : ∃ z, z = u := ⟨_, rfl⟩
                  obtain ⟨hP1, hK1, hD1⟩ := hB
                  rw [ht] at hP1
                  obtain ⟨hP, hD⟩ := va_join (wr := [(rg, .inl (cI, 6, .inl (rg6 a x d b0 b1 b2))), (pa, .inl (cI, 2, .inl (p2 p0 p1))), (za, .inl (cZ, 2, .inl (p2 (bI z0) (bI z1)))), (ca, .inl (cZ, 2, .inl (p2 (bI c0) (bI c1))))]) (w1 := [(o, .inr (5, [.int th, .ref im, .int (bI tr), .ref rc, .ref bg, .int ro, .ref oa, .ref xa, .ref ya, .ref rg, .ref me, .ref sa, .ref pa, .ref za, .ref ca, .int (bI kp), .ref ta, .ref na])), (me, .inl (cI, 512, .inl (mm2 g h))), (sa, .inl (cI, 2, .inl (p2 s9126 s1)))]) hP hD [0, 2, 3] [1, 4, 5, 6] rfl rfl (by decide) (by decide) hk1 hFc hP1 hD1
                  generalize H1 = H at hP hS ⊢
                  try dsimp only at e126
                  obtain ⟨e126_0, e126_1⟩ := e126
                  replace e126_0 := e126_0.symm
                  subst e126_0
                  replace e126_1 := e126_1.symm
                  subst e126_1
                  have hP : va_P D vwCl [(rg, .inl (cI, 6, .inl (rg6 a x d b0 b1 b2))), (pa, .inl (cI, 2, .inl (p2 p0 p1))), (za, .inl (cZ, 2, .inl (p2 (bI z0) (bI z1)))), (ca, .inl (cZ, 2, .inl (p2 (bI c0) (bI c1)))), (o, .inr (5, [.int th, .ref im, .int (bI tr), .ref rc, .ref bg, .int ro, .ref oa, .ref xa, .ref ya, .ref rg, .ref me, .ref sa, .ref pa, .ref za, .ref ca, .int (bI kp), .ref ta, .ref na])), (me, .inl (cI, 512, .inl (mm2 g h))), (sa, .inl (cI, 2, .inl (p2 ((s0 + 1) &&& 255) s1)))] H := hP
                  have hD : va_D A [(rg, .inl (cI, 6, .inl (rg6 a x d b0 b1 b2))), (pa, .inl (cI, 2, .inl (p2 p0 p1))), (za, .inl (cZ, 2, .inl (p2 (bI z0) (bI z1)))), (ca, .inl (cZ, 2, .inl (p2 (bI c0) (bI c1)))), (o, .inr (5, [.int th, .ref im, .int (bI tr), .ref rc, .ref bg, .int ro, .ref oa, .ref xa, .ref ya, .ref rg, .ref me, .ref sa, .ref pa, .ref za, .ref ca, .int (bI kp), .ref ta, .ref na])), (me, .inl (cI, 512, .inl (mm2 g h))), (sa, .inl (cI, 2, .inl (p2 ((s0 + 1) &&& 255) s1)))] := hD
                  refine lv_istore hx hb d_MO_transfers_129 hl (by decide) rfl (fun ls hl => ?_)
                  have hl : lv_has ls 6 [(5, .int (rd g ((s0 + 1) &&& 255))), (4, .int 1), (3, .int p0), (0, .ref o), (1, .int op), (2, .int n)] := hl
                  refine lv_aload_n hx hb d_MO_transfers_131 rfl (lv_at hl 3 rfl) ?_
                  refine va_get (D := D) (ci := 5) (v := .ref pa) (C := R_MO) (T := T_MO) (N := 18) hx hb hts iw_MO hown hK hP 4 rfl rfl 12 (by decide) (hts _ k_707) (fun _ h9 => h9) rfl d_MO_transfers_132 ?_
                  refine lv_iconst (v := 0) hx hb d_MO_transfers_135 (by decide) ?_
                  refine lv_iload hx hb d_MO_transfers_136 (lv_at hl 0 rfl) ?_
                  refine va_iast hx hb hK hP hD hS 1 0 rfl rfl (vp_in_nI (n := 0) (by decide) (by decide)) d_MO_transfers_138 (fun H locs hP hD hS => ?_)
                  have hP : va_P D vwCl [(rg, .inl (cI, 6, .inl (rg6 a x d b0 b1 b2))), (pa, .inl (cI, 2, .inl (upd (p2 p0 p1) 0 (rd g ((s0 + 1) &&& 255))))), (za, .inl (cZ, 2, .inl (p2 (bI z0) (bI z1)))), (ca, .inl (cZ, 2, .inl (p2 (bI c0) (bI c1)))), (o, .inr (5, [.int th, .ref im, .int (bI tr), .ref rc, .ref bg, .int ro, .ref oa, .ref xa, .ref ya, .ref rg, .ref me, .ref sa, .ref pa, .ref za, .ref ca, .int (bI kp), .ref ta, .ref na])), (me, .inl (cI, 512, .inl (mm2 g h))), (sa, .inl (cI, 2, .inl (p2 ((s0 + 1) &&& 255) s1)))] H := hP
                  have hD : va_D A [(rg, .inl (cI, 6, .inl (rg6 a x d b0 b1 b2))), (pa, .inl (cI, 2, .inl (upd (p2 p0 p1) 0 (rd g ((s0 + 1) &&& 255))))), (za, .inl (cZ, 2, .inl (p2 (bI z0) (bI z1)))), (ca, .inl (cZ, 2, .inl (p2 (bI c0) (bI c1)))), (o, .inr (5, [.int th, .ref im, .int (bI tr), .ref rc, .ref bg, .int ro, .ref oa, .ref xa, .ref ya, .ref rg, .ref me, .ref sa, .ref pa, .ref za, .ref ca, .int (bI kp), .ref ta, .ref na])), (me, .inl (cI, 512, .inl (mm2 g h))), (sa, .inl (cI, 2, .inl (p2 ((s0 + 1) &&& 255) s1)))] := hD
                  rw [show upd (p2 p0 p1) 0 (rd g ((s0 + 1) &&& 255)) = p2 (rd g ((s0 + 1) &&& 255)) p1 from p2_0] at hP hD
                  have hP : va_P D vwCl [(rg, .inl (cI, 6, .inl (rg6 a x d b0 b1 b2))), (pa, .inl (cI, 2, .inl (p2 (rd g ((s0 + 1) &&& 255)) p1))), (za, .inl (cZ, 2, .inl (p2 (bI z0) (bI z1)))), (ca, .inl (cZ, 2, .inl (p2 (bI c0) (bI c1)))), (o, .inr (5, [.int th, .ref im, .int (bI tr), .ref rc, .ref bg, .int ro, .ref oa, .ref xa, .ref ya, .ref rg, .ref me, .ref sa, .ref pa, .ref za, .ref ca, .int (bI kp), .ref ta, .ref na])), (me, .inl (cI, 512, .inl (mm2 g h))), (sa, .inl (cI, 2, .inl (p2 ((s0 + 1) &&& 255) s1)))] H := hP
                  have hD : va_D A [(rg, .inl (cI, 6, .inl (rg6 a x d b0 b1 b2))), (pa, .inl (cI, 2, .inl (p2 (rd g ((s0 + 1) &&& 255)) p1))), (za, .inl (cZ, 2, .inl (p2 (bI z0) (bI z1)))), (ca, .inl (cZ, 2, .inl (p2 (bI c0) (bI c1)))), (o, .inr (5, [.int th, .ref im, .int (bI tr), .ref rc, .ref bg, .int ro, .ref oa, .ref xa, .ref ya, .ref rg, .ref me, .ref sa, .ref pa, .ref za, .ref ca, .int (bI kp), .ref ta, .ref na])), (me, .inl (cI, 512, .inl (mm2 g h))), (sa, .inl (cI, 2, .inl (p2 ((s0 + 1) &&& 255) s1)))] := hD
                  refine lv_goto (tgt := 198) hx hb d_MO_transfers_139 rfl ?_
                  have hP9 : va_P D vwCl [(o, .inr (5, [.int th, .ref im, .int (bI tr), .ref rc, .ref bg, .int ro, .ref oa, .ref xa, .ref ya, .ref rg, .ref me, .ref sa, .ref pa, .ref za, .ref ca, .int (bI kp), .ref ta, .ref na])), (rg, .inl (cI, 6, .inl (rg6 a x d b0 b1 b2))), (me, .inl (cI, 512, .inl (mm2 g h))), (sa, .inl (cI, 2, .inl (p2 ((s0 + 1) &&& 255) s1))), (pa, .inl (cI, 2, .inl (p2 (rd g ((s0 + 1) &&& 255)) p1))), (za, .inl (cZ, 2, .inl (p2 (bI z0) (bI z1)))), (ca, .inl (cZ, 2, .inl (p2 (bI c0) (bI c1))))] H := hP.sub [4, 0, 5, 6, 1, 2, 3] rfl
                  have hD9 : va_D A [(o, .inr (5, [.int th, .ref im, .int (bI tr), .ref rc, .ref bg, .int ro, .ref oa, .ref xa, .ref ya, .ref rg, .ref me, .ref sa, .ref pa, .ref za, .ref ca, .int (bI kp), .ref ta, .ref na])), (rg, .inl (cI, 6, .inl (rg6 a x d b0 b1 b2))), (me, .inl (cI, 512, .inl (mm2 g h))), (sa, .inl (cI, 2, .inl (p2 ((s0 + 1) &&& 255) s1))), (pa, .inl (cI, 2, .inl (p2 (rd g ((s0 + 1) &&& 255)) p1))), (za, .inl (cZ, 2, .inl (p2 (bI z0) (bI z1)))), (ca, .inl (cZ, 2, .inl (p2 (bI c0) (bI c1))))] := hD.sub [4, 0, 5, 6, 1, 2, 3] (by decide) rfl
                  exact W.vret hx hb hr (fun t ht hW => ⟨⟨(g, a, (s0 + 1) &&& 255, rd g ((s0 + 1) &&& 255), z0), rfl, by rw [h121]; rfl, by rw [ht]; exact hP9, va_K.moved hW.alike hK, hD9⟩, hS.F ht⟩) hS.2.2 d_MO_transfers_198
              · refine lv_aload_n hx hb d_MO_transfers_99 rfl (lv_at hl 2 rfl) ?_
                refine va_get (D := D) (ci := 5) (v := .ref pa) (C := R_MO) (T := T_MO) (N := 18) hx hb hts iw_MO hown hK hP 0 rfl rfl 12 (by decide) (hts _ k_707) (fun _ h9 => h9) rfl d_MO_transfers_100 ?_
                refine lv_iconst (v := 0) hx hb d_MO_transfers_103 (by decide) ?_
                refine lv_iload hx hb d_MO_transfers_104 (lv_at hl 0 rfl) ?_
                refine lv_if_eq (tgt := 113) hx hb d_MO_transfers_106 rfl (fun h9 => absurd h9 (by decide)) (fun _ => ?_)
                refine lv_iload_n hx hb d_MO_transfers_109 rfl (lv_at hl 4 rfl) ?_
                refine lv_goto (tgt := 114) hx hb d_MO_transfers_110 rfl ?_
                refine va_iast hx hb hK hP hD hS 4 0 rfl rfl (vp_in_nI (n := 0) (by decide) (by decide)) d_MO_transfers_114 (fun H locs hP hD hS => ?_)
                have hP : va_P D vwCl [(o, .inr (5, [.int th, .ref im, .int (bI tr), .ref rc, .ref bg, .int ro, .ref oa, .ref xa, .ref ya, .ref rg, .ref me, .ref sa, .ref pa, .ref za, .ref ca, .int (bI kp), .ref ta, .ref na])), (rg, .inl (cI, 6, .inl (rg6 a x d b0 b1 b2))), (me, .inl (cI, 512, .inl (mm2 g h))), (sa, .inl (cI, 2, .inl (p2 s0 s1))), (pa, .inl (cI, 2, .inl (upd (p2 p0 p1) 0 n))), (za, .inl (cZ, 2, .inl (p2 (bI z0) (bI z1)))), (ca, .inl (cZ, 2, .inl (p2 (bI c0) (bI c1))))] H := hP
                have hD : va_D A [(o, .inr (5, [.int th, .ref im, .int (bI tr), .ref rc, .ref bg, .int ro, .ref oa, .ref xa, .ref ya, .ref rg, .ref me, .ref sa, .ref pa, .ref za, .ref ca, .int (bI kp), .ref ta, .ref na])), (rg, .inl (cI, 6, .inl (rg6 a x d b0 b1 b2))), (me, .inl (cI, 512, .inl (mm2 g h))), (sa, .inl (cI, 2, .inl (p2 s0 s1))), (pa, .inl (cI, 2, .inl (upd (p2 p0 p1) 0 n))), (za, .inl (cZ, 2, .inl (p2 (bI z0) (bI z1)))), (ca, .inl (cZ, 2, .inl (p2 (bI c0) (bI c1))))] := hD
                rw [show upd (p2 p0 p1) 0 n = p2 n p1 from p2_0] at hP hD
                have hP : va_P D vwCl [(o, .inr (5, [.int th, .ref im, .int (bI tr), .ref rc, .ref bg, .int ro, .ref oa, .ref xa, .ref ya, .ref rg, .ref me, .ref sa, .ref pa, .ref za, .ref ca, .int (bI kp), .ref ta, .ref na])), (rg, .inl (cI, 6, .inl (rg6 a x d b0 b1 b2))), (me, .inl (cI, 512, .inl (mm2 g h))), (sa, .inl (cI, 2, .inl (p2 s0 s1))), (pa, .inl (cI, 2, .inl (p2 n p1))), (za, .inl (cZ, 2, .inl (p2 (bI z0) (bI z1)))), (ca, .inl (cZ, 2, .inl (p2 (bI c0) (bI c1))))] H := hP
                have hD : va_D A [(o, .inr (5, [.int th, .ref im, .int (bI tr), .ref rc, .ref bg, .int ro, .ref oa, .ref xa, .ref ya, .ref rg, .ref me, .ref sa, .ref pa, .ref za, .ref ca, .int (bI kp), .ref ta, .ref na])), (rg, .inl (cI, 6, .inl (rg6 a x d b0 b1 b2))), (me, .inl (cI, 512, .inl (mm2 g h))), (sa, .inl (cI, 2, .inl (p2 s0 s1))), (pa, .inl (cI, 2, .inl (p2 n p1))), (za, .inl (cZ, 2, .inl (p2 (bI z0) (bI z1)))), (ca, .inl (cZ, 2, .inl (p2 (bI c0) (bI c1))))] := hD
                refine lv_goto (tgt := 198) hx hb d_MO_transfers_115 rfl ?_
                have hP9 : va_P D vwCl [(o, .inr (5, [.int th, .ref im, .int (bI tr), .ref rc, .ref bg, .int ro, .ref oa, .ref xa, .ref ya, .ref rg, .ref me, .ref sa, .ref pa, .ref za, .ref ca, .int (bI kp), .ref ta, .ref na])), (rg, .inl (cI, 6, .inl (rg6 a x d b0 b1 b2))), (me, .inl (cI, 512, .inl (mm2 g h))), (sa, .inl (cI, 2, .inl (p2 s0 s1))), (pa, .inl (cI, 2, .inl (p2 n p1))), (za, .inl (cZ, 2, .inl (p2 (bI z0) (bI z1)))), (ca, .inl (cZ, 2, .inl (p2 (bI c0) (bI c1))))] H := hP.sub [0, 1, 2, 3, 4, 5, 6] rfl
                have hD9 : va_D A [(o, .inr (5, [.int th, .ref im, .int (bI tr), .ref rc, .ref bg, .int ro, .ref oa, .ref xa, .ref ya, .ref rg, .ref me, .ref sa, .ref pa, .ref za, .ref ca, .int (bI kp), .ref ta, .ref na])), (rg, .inl (cI, 6, .inl (rg6 a x d b0 b1 b2))), (me, .inl (cI, 512, .inl (mm2 g h))), (sa, .inl (cI, 2, .inl (p2 s0 s1))), (pa, .inl (cI, 2, .inl (p2 n p1))), (za, .inl (cZ, 2, .inl (p2 (bI z0) (bI z1)))), (ca, .inl (cZ, 2, .inl (p2 (bI c0) (bI c1))))] := hD.sub [0, 1, 2, 3, 4, 5, 6] (by decide) rfl
                exact W.vret hx hb hr (fun t ht hW => ⟨⟨(g, a, s0, n, z0), rfl, by rw [mTran, if_neg h16, if_pos (Int32.not_le.mp h96), mYes, if_neg h10, if_neg h16, if_neg h22, if_neg h28, if_neg h63, show c0 = false from bI_f h71]; rfl, by rw [ht]; exact hP9, va_K.moved hW.alike hK, hD9⟩, hS.F ht⟩) hS.2.2 d_MO_transfers_198
          · refine lv_iconst (v := 1) hx hb d_MO_transfers_66 (by decide) ?_
            refine lv_goto (tgt := 71) hx hb d_MO_transfers_67 rfl ?_
            refine lv_icmp_ne (tgt := 78) hx hb d_MO_transfers_71 rfl (fun h71 => ?_) (fun h71 => ?_)
            · refine lv_iconst (v := 0) hx hb d_MO_transfers_78 (by decide) ?_
              refine lv_istore hx hb d_MO_transfers_79 hl (by decide) rfl (fun ls hl => ?_)
              have hl : lv_has ls 6 [(4, .int 0), (3, .int p0), (0, .ref o), (1, .int op), (2, .int n)] := hl
              refine lv_iload_n hx hb d_MO_transfers_81 rfl (lv_at hl 3 rfl) ?_
              refine lv_bipush (v := 27) hx hb d_MO_transfers_82 (by decide) ?_
              refine lv_icmp_ne (tgt := 93) hx hb d_MO_transfers_84 rfl (fun _ => ?_) (fun h9 => absurd h9 (by rw [h63]; first | done | decide))
              refine lv_iload_n hx hb d_MO_transfers_93 rfl (lv_at hl 3 rfl) ?_
              refine lv_bipush (v := 28) hx hb d_MO_transfers_94 (by decide) ?_
              refine lv_icmp_ge (tgt := 118) hx hb d_MO_transfers_96 rfl (fun h9 => absurd h9 (by rw [h63]; first | done | decide)) (fun _ => ?_)
              refine lv_aload_n hx hb d_MO_transfers_99 rfl (lv_at hl 2 rfl) ?_
              refine va_get (D := D) (ci := 5) (v := .ref pa) (C := R_MO) (T := T_MO) (N := 18) hx hb hts iw_MO hown hK hP 0 rfl rfl 12 (by decide) (hts _ k_707) (fun _ h9 => h9) rfl d_MO_transfers_100 ?_
              refine lv_iconst (v := 0) hx hb d_MO_transfers_103 (by decide) ?_
              refine lv_iload hx hb d_MO_transfers_104 (lv_at hl 0 rfl) ?_
              refine lv_if_eq (tgt := 113) hx hb d_MO_transfers_106 rfl (fun _ => ?_) (fun h9 => absurd (by decide) h9)
              refine lv_iload_n hx hb d_MO_transfers_113 rfl (lv_at hl 1 rfl) ?_
              refine va_iast hx hb hK hP hD hS 4 0 rfl rfl (vp_in_nI (n := 0) (by decide) (by decide)) d_MO_transfers_114 (fun H locs hP hD hS => ?_)
              have hP : va_P D vwCl [(o, .inr (5, [.int th, .ref im, .int (bI tr), .ref rc, .ref bg, .int ro, .ref oa, .ref xa, .ref ya, .ref rg, .ref me, .ref sa, .ref pa, .ref za, .ref ca, .int (bI kp), .ref ta, .ref na])), (rg, .inl (cI, 6, .inl (rg6 a x d b0 b1 b2))), (me, .inl (cI, 512, .inl (mm2 g h))), (sa, .inl (cI, 2, .inl (p2 s0 s1))), (pa, .inl (cI, 2, .inl (upd (p2 p0 p1) 0 p0))), (za, .inl (cZ, 2, .inl (p2 (bI z0) (bI z1)))), (ca, .inl (cZ, 2, .inl (p2 (bI c0) (bI c1))))] H := hP
              have hD : va_D A [(o, .inr (5, [.int th, .ref im, .int (bI tr), .ref rc, .ref bg, .int ro, .ref oa, .ref xa, .ref ya, .ref rg, .ref me, .ref sa, .ref pa, .ref za, .ref ca, .int (bI kp), .ref ta, .ref na])), (rg, .inl (cI, 6, .inl (rg6 a x d b0 b1 b2))), (me, .inl (cI, 512, .inl (mm2 g h))), (sa, .inl (cI, 2, .inl (p2 s0 s1))), (pa, .inl (cI, 2, .inl (upd (p2 p0 p1) 0 p0))), (za, .inl (cZ, 2, .inl (p2 (bI z0) (bI z1)))), (ca, .inl (cZ, 2, .inl (p2 (bI c0) (bI c1))))] := hD
              rw [show upd (p2 p0 p1) 0 p0 = p2 p0 p1 from p2_0] at hP hD
              have hP : va_P D vwCl [(o, .inr (5, [.int th, .ref im, .int (bI tr), .ref rc, .ref bg, .int ro, .ref oa, .ref xa, .ref ya, .ref rg, .ref me, .ref sa, .ref pa, .ref za, .ref ca, .int (bI kp), .ref ta, .ref na])), (rg, .inl (cI, 6, .inl (rg6 a x d b0 b1 b2))), (me, .inl (cI, 512, .inl (mm2 g h))), (sa, .inl (cI, 2, .inl (p2 s0 s1))), (pa, .inl (cI, 2, .inl (p2 p0 p1))), (za, .inl (cZ, 2, .inl (p2 (bI z0) (bI z1)))), (ca, .inl (cZ, 2, .inl (p2 (bI c0) (bI c1))))] H := hP
              have hD : va_D A [(o, .inr (5, [.int th, .ref im, .int (bI tr), .ref rc, .ref bg, .int ro, .ref oa, .ref xa, .ref ya, .ref rg, .ref me, .ref sa, .ref pa, .ref za, .ref ca, .int (bI kp), .ref ta, .ref na])), (rg, .inl (cI, 6, .inl (rg6 a x d b0 b1 b2))), (me, .inl (cI, 512, .inl (mm2 g h))), (sa, .inl (cI, 2, .inl (p2 s0 s1))), (pa, .inl (cI, 2, .inl (p2 p0 p1))), (za, .inl (cZ, 2, .inl (p2 (bI z0) (bI z1)))), (ca, .inl (cZ, 2, .inl (p2 (bI c0) (bI c1))))] := hD
              refine lv_goto (tgt := 198) hx hb d_MO_transfers_115 rfl ?_
              have hP9 : va_P D vwCl [(o, .inr (5, [.int th, .ref im, .int (bI tr), .ref rc, .ref bg, .int ro, .ref oa, .ref xa, .ref ya, .ref rg, .ref me, .ref sa, .ref pa, .ref za, .ref ca, .int (bI kp), .ref ta, .ref na])), (rg, .inl (cI, 6, .inl (rg6 a x d b0 b1 b2))), (me, .inl (cI, 512, .inl (mm2 g h))), (sa, .inl (cI, 2, .inl (p2 s0 s1))), (pa, .inl (cI, 2, .inl (p2 p0 p1))), (za, .inl (cZ, 2, .inl (p2 (bI z0) (bI z1)))), (ca, .inl (cZ, 2, .inl (p2 (bI c0) (bI c1))))] H := hP.sub [0, 1, 2, 3, 4, 5, 6] rfl
              have hD9 : va_D A [(o, .inr (5, [.int th, .ref im, .int (bI tr), .ref rc, .ref bg, .int ro, .ref oa, .ref xa, .ref ya, .ref rg, .ref me, .ref sa, .ref pa, .ref za, .ref ca, .int (bI kp), .ref ta, .ref na])), (rg, .inl (cI, 6, .inl (rg6 a x d b0 b1 b2))), (me, .inl (cI, 512, .inl (mm2 g h))), (sa, .inl (cI, 2, .inl (p2 s0 s1))), (pa, .inl (cI, 2, .inl (p2 p0 p1))), (za, .inl (cZ, 2, .inl (p2 (bI z0) (bI z1)))), (ca, .inl (cZ, 2, .inl (p2 (bI c0) (bI c1))))] := hD.sub [0, 1, 2, 3, 4, 5, 6] (by decide) rfl
              exact W.vret hx hb hr (fun t ht hW => ⟨⟨(g, a, s0, p0, z0), rfl, by rw [h63, show c0 = false from bI_n1 h71]; rfl, by rw [ht]; exact hP9, va_K.moved hW.alike hK, hD9⟩, hS.F ht⟩) hS.2.2 d_MO_transfers_198
            · refine lv_iconst (v := 1) hx hb d_MO_transfers_74 (by decide) ?_
              refine lv_goto (tgt := 79) hx hb d_MO_transfers_75 rfl ?_
              refine lv_istore hx hb d_MO_transfers_79 hl (by decide) rfl (fun ls hl => ?_)
              have hl : lv_has ls 6 [(4, .int 1), (3, .int p0), (0, .ref o), (1, .int op), (2, .int n)] := hl
              refine lv_iload_n hx hb d_MO_transfers_81 rfl (lv_at hl 3 rfl) ?_
              refine lv_bipush (v := 27) hx hb d_MO_transfers_82 (by decide) ?_
              refine lv_icmp_ne (tgt := 93) hx hb d_MO_transfers_84 rfl (fun _ => ?_) (fun h9 => absurd h9 (by rw [h63]; first | done | decide))
              refine lv_iload_n hx hb d_MO_transfers_93 rfl (lv_at hl 3 rfl) ?_
              refine lv_bipush (v := 28) hx hb d_MO_transfers_94 (by decide) ?_
              refine lv_icmp_ge (tgt := 118) hx hb d_MO_transfers_96 rfl (fun h9 => absurd h9 (by rw [h63]; first | done | decide)) (fun _ => ?_)
              refine lv_aload_n hx hb d_MO_transfers_99 rfl (lv_at hl 2 rfl) ?_
              refine va_get (D := D) (ci := 5) (v := .ref pa) (C := R_MO) (T := T_MO) (N := 18) hx hb hts iw_MO hown hK hP 0 rfl rfl 12 (by decide) (hts _ k_707) (fun _ h9 => h9) rfl d_MO_transfers_100 ?_
              refine lv_iconst (v := 0) hx hb d_MO_transfers_103 (by decide) ?_
              refine lv_iload hx hb d_MO_transfers_104 (lv_at hl 0 rfl) ?_
              refine lv_if_eq (tgt := 113) hx hb d_MO_transfers_106 rfl (fun h9 => absurd h9 (by decide)) (fun _ => ?_)
              refine lv_iload_n hx hb d_MO_transfers_109 rfl (lv_at hl 4 rfl) ?_
              refine lv_goto (tgt := 114) hx hb d_MO_transfers_110 rfl ?_
              refine va_iast hx hb hK hP hD hS 4 0 rfl rfl (vp_in_nI (n := 0) (by decide) (by decide)) d_MO_transfers_114 (fun H locs hP hD hS => ?_)
              have hP : va_P D vwCl [(o, .inr (5, [.int th, .ref im, .int (bI tr), .ref rc, .ref bg, .int ro, .ref oa, .ref xa, .ref ya, .ref rg, .ref me, .ref sa, .ref pa, .ref za, .ref ca, .int (bI kp), .ref ta, .ref na])), (rg, .inl (cI, 6, .inl (rg6 a x d b0 b1 b2))), (me, .inl (cI, 512, .inl (mm2 g h))), (sa, .inl (cI, 2, .inl (p2 s0 s1))), (pa, .inl (cI, 2, .inl (upd (p2 p0 p1) 0 n))), (za, .inl (cZ, 2, .inl (p2 (bI z0) (bI z1)))), (ca, .inl (cZ, 2, .inl (p2 (bI c0) (bI c1))))] H := hP
              have hD : va_D A [(o, .inr (5, [.int th, .ref im, .int (bI tr), .ref rc, .ref bg, .int ro, .ref oa, .ref xa, .ref ya, .ref rg, .ref me, .ref sa, .ref pa, .ref za, .ref ca, .int (bI kp), .ref ta, .ref na])), (rg, .inl (cI, 6, .inl (rg6 a x d b0 b1 b2))), (me, .inl (cI, 512, .inl (mm2 g h))), (sa, .inl (cI, 2, .inl (p2 s0 s1))), (pa, .inl (cI, 2, .inl (upd (p2 p0 p1) 0 n))), (za, .inl (cZ, 2, .inl (p2 (bI z0) (bI z1)))), (ca, .inl (cZ, 2, .inl (p2 (bI c0) (bI c1))))] := hD
              rw [show upd (p2 p0 p1) 0 n = p2 n p1 from p2_0] at hP hD
              have hP : va_P D vwCl [(o, .inr (5, [.int th, .ref im, .int (bI tr), .ref rc, .ref bg, .int ro, .ref oa, .ref xa, .ref ya, .ref rg, .ref me, .ref sa, .ref pa, .ref za, .ref ca, .int (bI kp), .ref ta, .ref na])), (rg, .inl (cI, 6, .inl (rg6 a x d b0 b1 b2))), (me, .inl (cI, 512, .inl (mm2 g h))), (sa, .inl (cI, 2, .inl (p2 s0 s1))), (pa, .inl (cI, 2, .inl (p2 n p1))), (za, .inl (cZ, 2, .inl (p2 (bI z0) (bI z1)))), (ca, .inl (cZ, 2, .inl (p2 (bI c0) (bI c1))))] H := hP
              have hD : va_D A [(o, .inr (5, [.int th, .ref im, .int (bI tr), .ref rc, .ref bg, .int ro, .ref oa, .ref xa, .ref ya, .ref rg, .ref me, .ref sa, .ref pa, .ref za, .ref ca, .int (bI kp), .ref ta, .ref na])), (rg, .inl (cI, 6, .inl (rg6 a x d b0 b1 b2))), (me, .inl (cI, 512, .inl (mm2 g h))), (sa, .inl (cI, 2, .inl (p2 s0 s1))), (pa, .inl (cI, 2, .inl (p2 n p1))), (za, .inl (cZ, 2, .inl (p2 (bI z0) (bI z1)))), (ca, .inl (cZ, 2, .inl (p2 (bI c0) (bI c1))))] := hD
              refine lv_goto (tgt := 198) hx hb d_MO_transfers_115 rfl ?_
              have hP9 : va_P D vwCl [(o, .inr (5, [.int th, .ref im, .int (bI tr), .ref rc, .ref bg, .int ro, .ref oa, .ref xa, .ref ya, .ref rg, .ref me, .ref sa, .ref pa, .ref za, .ref ca, .int (bI kp), .ref ta, .ref na])), (rg, .inl (cI, 6, .inl (rg6 a x d b0 b1 b2))), (me, .inl (cI, 512, .inl (mm2 g h))), (sa, .inl (cI, 2, .inl (p2 s0 s1))), (pa, .inl (cI, 2, .inl (p2 n p1))), (za, .inl (cZ, 2, .inl (p2 (bI z0) (bI z1)))), (ca, .inl (cZ, 2, .inl (p2 (bI c0) (bI c1))))] H := hP.sub [0, 1, 2, 3, 4, 5, 6] rfl
              have hD9 : va_D A [(o, .inr (5, [.int th, .ref im, .int (bI tr), .ref rc, .ref bg, .int ro, .ref oa, .ref xa, .ref ya, .ref rg, .ref me, .ref sa, .ref pa, .ref za, .ref ca, .int (bI kp), .ref ta, .ref na])), (rg, .inl (cI, 6, .inl (rg6 a x d b0 b1 b2))), (me, .inl (cI, 512, .inl (mm2 g h))), (sa, .inl (cI, 2, .inl (p2 s0 s1))), (pa, .inl (cI, 2, .inl (p2 n p1))), (za, .inl (cZ, 2, .inl (p2 (bI z0) (bI z1)))), (ca, .inl (cZ, 2, .inl (p2 (bI c0) (bI c1))))] := hD.sub [0, 1, 2, 3, 4, 5, 6] (by decide) rfl
              exact W.vret hx hb hr (fun t ht hW => ⟨⟨(g, a, s0, n, z0), rfl, by rw [h63, show c0 = true from bI_e1 h71]; rfl, by rw [ht]; exact hP9, va_K.moved hW.alike hK, hD9⟩, hS.F ht⟩) hS.2.2 d_MO_transfers_198
        · refine lv_aload_n hx hb d_MO_transfers_31 rfl (lv_at hl 1 rfl) ?_
          refine va_get (D := D) (ci := 5) (v := .ref za) (C := R_MO) (T := T_MO) (N := 18) hx hb hts iw_MO hown hK hP 0 rfl rfl 13 (by decide) (hts _ k_708) (fun _ h9 => h9) rfl d_MO_transfers_32 ?_
          refine lv_iconst (v := 0) hx hb d_MO_transfers_35 (by decide) ?_
          refine va_zald hx hb hK hP 5 1 rfl rfl (vp_in_nI (n := 0) (by decide) (by decide)) d_MO_transfers_36 ?_
          refine lv_iload_n hx hb d_MO_transfers_37 rfl (lv_at hl 2 rfl) ?_
          refine lv_bipush (v := 23) hx hb d_MO_transfers_38 (by decide) ?_
          refine lv_icmp_ne (tgt := 47) hx hb d_MO_transfers_40 rfl (fun _ => ?_) (fun h9 => absurd h9 (by rw [h28]; first | done | decide))
          refine lv_iconst (v := 0) hx hb d_MO_transfers_47 (by decide) ?_
          refine lv_icmp_ne (tgt := 78) hx hb d_MO_transfers_48 rfl (fun h48 => ?_) (fun h48 => ?_)
          · refine lv_iconst (v := 0) hx hb d_MO_transfers_78 (by decide) ?_
            refine lv_istore hx hb d_MO_transfers_79 hl (by decide) rfl (fun ls hl => ?_)
            have hl : lv_has ls 6 [(4, .int 0), (3, .int p0), (0, .ref o), (1, .int op), (2, .int n)] := hl
            refine lv_iload_n hx hb d_MO_transfers_81 rfl (lv_at hl 3 rfl) ?_
            refine lv_bipush (v := 27) hx hb d_MO_transfers_82 (by decide) ?_
            refine lv_icmp_ne (tgt := 93) hx hb d_MO_transfers_84 rfl (fun _ => ?_) (fun h9 => absurd h9 (by rw [h28]; first | done | decide))
            refine lv_iload_n hx hb d_MO_transfers_93 rfl (lv_at hl 3 rfl) ?_
            refine lv_bipush (v := 28) hx hb d_MO_transfers_94 (by decide) ?_
            refine lv_icmp_ge (tgt := 118) hx hb d_MO_transfers_96 rfl (fun h9 => absurd h9 (by rw [h28]; first | done | decide)) (fun _ => ?_)
            refine lv_aload_n hx hb d_MO_transfers_99 rfl (lv_at hl 2 rfl) ?_
            refine va_get (D := D) (ci := 5) (v := .ref pa) (C := R_MO) (T := T_MO) (N := 18) hx hb hts iw_MO hown hK hP 0 rfl rfl 12 (by decide) (hts _ k_707) (fun _ h9 => h9) rfl d_MO_transfers_100 ?_
            refine lv_iconst (v := 0) hx hb d_MO_transfers_103 (by decide) ?_
            refine lv_iload hx hb d_MO_transfers_104 (lv_at hl 0 rfl) ?_
            refine lv_if_eq (tgt := 113) hx hb d_MO_transfers_106 rfl (fun _ => ?_) (fun h9 => absurd (by decide) h9)
            refine lv_iload_n hx hb d_MO_transfers_113 rfl (lv_at hl 1 rfl) ?_
            refine va_iast hx hb hK hP hD hS 4 0 rfl rfl (vp_in_nI (n := 0) (by decide) (by decide)) d_MO_transfers_114 (fun H locs hP hD hS => ?_)
            have hP : va_P D vwCl [(o, .inr (5, [.int th, .ref im, .int (bI tr), .ref rc, .ref bg, .int ro, .ref oa, .ref xa, .ref ya, .ref rg, .ref me, .ref sa, .ref pa, .ref za, .ref ca, .int (bI kp), .ref ta, .ref na])), (rg, .inl (cI, 6, .inl (rg6 a x d b0 b1 b2))), (me, .inl (cI, 512, .inl (mm2 g h))), (sa, .inl (cI, 2, .inl (p2 s0 s1))), (pa, .inl (cI, 2, .inl (upd (p2 p0 p1) 0 p0))), (za, .inl (cZ, 2, .inl (p2 (bI z0) (bI z1)))), (ca, .inl (cZ, 2, .inl (p2 (bI c0) (bI c1))))] H := hP
            have hD : va_D A [(o, .inr (5, [.int th, .ref im, .int (bI tr), .ref rc, .ref bg, .int ro, .ref oa, .ref xa, .ref ya, .ref rg, .ref me, .ref sa, .ref pa, .ref za, .ref ca, .int (bI kp), .ref ta, .ref na])), (rg, .inl (cI, 6, .inl (rg6 a x d b0 b1 b2))), (me, .inl (cI, 512, .inl (mm2 g h))), (sa, .inl (cI, 2, .inl (p2 s0 s1))), (pa, .inl (cI, 2, .inl (upd (p2 p0 p1) 0 p0))), (za, .inl (cZ, 2, .inl (p2 (bI z0) (bI z1)))), (ca, .inl (cZ, 2, .inl (p2 (bI c0) (bI c1))))] := hD
            rw [show upd (p2 p0 p1) 0 p0 = p2 p0 p1 from p2_0] at hP hD
            have hP : va_P D vwCl [(o, .inr (5, [.int th, .ref im, .int (bI tr), .ref rc, .ref bg, .int ro, .ref oa, .ref xa, .ref ya, .ref rg, .ref me, .ref sa, .ref pa, .ref za, .ref ca, .int (bI kp), .ref ta, .ref na])), (rg, .inl (cI, 6, .inl (rg6 a x d b0 b1 b2))), (me, .inl (cI, 512, .inl (mm2 g h))), (sa, .inl (cI, 2, .inl (p2 s0 s1))), (pa, .inl (cI, 2, .inl (p2 p0 p1))), (za, .inl (cZ, 2, .inl (p2 (bI z0) (bI z1)))), (ca, .inl (cZ, 2, .inl (p2 (bI c0) (bI c1))))] H := hP
            have hD : va_D A [(o, .inr (5, [.int th, .ref im, .int (bI tr), .ref rc, .ref bg, .int ro, .ref oa, .ref xa, .ref ya, .ref rg, .ref me, .ref sa, .ref pa, .ref za, .ref ca, .int (bI kp), .ref ta, .ref na])), (rg, .inl (cI, 6, .inl (rg6 a x d b0 b1 b2))), (me, .inl (cI, 512, .inl (mm2 g h))), (sa, .inl (cI, 2, .inl (p2 s0 s1))), (pa, .inl (cI, 2, .inl (p2 p0 p1))), (za, .inl (cZ, 2, .inl (p2 (bI z0) (bI z1)))), (ca, .inl (cZ, 2, .inl (p2 (bI c0) (bI c1))))] := hD
            refine lv_goto (tgt := 198) hx hb d_MO_transfers_115 rfl ?_
            have hP9 : va_P D vwCl [(o, .inr (5, [.int th, .ref im, .int (bI tr), .ref rc, .ref bg, .int ro, .ref oa, .ref xa, .ref ya, .ref rg, .ref me, .ref sa, .ref pa, .ref za, .ref ca, .int (bI kp), .ref ta, .ref na])), (rg, .inl (cI, 6, .inl (rg6 a x d b0 b1 b2))), (me, .inl (cI, 512, .inl (mm2 g h))), (sa, .inl (cI, 2, .inl (p2 s0 s1))), (pa, .inl (cI, 2, .inl (p2 p0 p1))), (za, .inl (cZ, 2, .inl (p2 (bI z0) (bI z1)))), (ca, .inl (cZ, 2, .inl (p2 (bI c0) (bI c1))))] H := hP.sub [0, 1, 2, 3, 4, 5, 6] rfl
            have hD9 : va_D A [(o, .inr (5, [.int th, .ref im, .int (bI tr), .ref rc, .ref bg, .int ro, .ref oa, .ref xa, .ref ya, .ref rg, .ref me, .ref sa, .ref pa, .ref za, .ref ca, .int (bI kp), .ref ta, .ref na])), (rg, .inl (cI, 6, .inl (rg6 a x d b0 b1 b2))), (me, .inl (cI, 512, .inl (mm2 g h))), (sa, .inl (cI, 2, .inl (p2 s0 s1))), (pa, .inl (cI, 2, .inl (p2 p0 p1))), (za, .inl (cZ, 2, .inl (p2 (bI z0) (bI z1)))), (ca, .inl (cZ, 2, .inl (p2 (bI c0) (bI c1))))] := hD.sub [0, 1, 2, 3, 4, 5, 6] (by decide) rfl
            exact W.vret hx hb hr (fun t ht hW => ⟨⟨(g, a, s0, p0, z0), rfl, by rw [h28, show z0 = true from bI_t h48]; rfl, by rw [ht]; exact hP9, va_K.moved hW.alike hK, hD9⟩, hS.F ht⟩) hS.2.2 d_MO_transfers_198
          · refine lv_goto (tgt := 74) hx hb d_MO_transfers_51 rfl ?_
            refine lv_iconst (v := 1) hx hb d_MO_transfers_74 (by decide) ?_
            refine lv_goto (tgt := 79) hx hb d_MO_transfers_75 rfl ?_
            refine lv_istore hx hb d_MO_transfers_79 hl (by decide) rfl (fun ls hl => ?_)
            have hl : lv_has ls 6 [(4, .int 1), (3, .int p0), (0, .ref o), (1, .int op), (2, .int n)] := hl
            refine lv_iload_n hx hb d_MO_transfers_81 rfl (lv_at hl 3 rfl) ?_
            refine lv_bipush (v := 27) hx hb d_MO_transfers_82 (by decide) ?_
            refine lv_icmp_ne (tgt := 93) hx hb d_MO_transfers_84 rfl (fun _ => ?_) (fun h9 => absurd h9 (by rw [h28]; first | done | decide))
            refine lv_iload_n hx hb d_MO_transfers_93 rfl (lv_at hl 3 rfl) ?_
            refine lv_bipush (v := 28) hx hb d_MO_transfers_94 (by decide) ?_
            refine lv_icmp_ge (tgt := 118) hx hb d_MO_transfers_96 rfl (fun h9 => absurd h9 (by rw [h28]; first | done | decide)) (fun _ => ?_)
            refine lv_aload_n hx hb d_MO_transfers_99 rfl (lv_at hl 2 rfl) ?_
            refine va_get (D := D) (ci := 5) (v := .ref pa) (C := R_MO) (T := T_MO) (N := 18) hx hb hts iw_MO hown hK hP 0 rfl rfl 12 (by decide) (hts _ k_707) (fun _ h9 => h9) rfl d_MO_transfers_100 ?_
            refine lv_iconst (v := 0) hx hb d_MO_transfers_103 (by decide) ?_
            refine lv_iload hx hb d_MO_transfers_104 (lv_at hl 0 rfl) ?_
            refine lv_if_eq (tgt := 113) hx hb d_MO_transfers_106 rfl (fun h9 => absurd h9 (by decide)) (fun _ => ?_)
            refine lv_iload_n hx hb d_MO_transfers_109 rfl (lv_at hl 4 rfl) ?_
            refine lv_goto (tgt := 114) hx hb d_MO_transfers_110 rfl ?_
            refine va_iast hx hb hK hP hD hS 4 0 rfl rfl (vp_in_nI (n := 0) (by decide) (by decide)) d_MO_transfers_114 (fun H locs hP hD hS => ?_)
            have hP : va_P D vwCl [(o, .inr (5, [.int th, .ref im, .int (bI tr), .ref rc, .ref bg, .int ro, .ref oa, .ref xa, .ref ya, .ref rg, .ref me, .ref sa, .ref pa, .ref za, .ref ca, .int (bI kp), .ref ta, .ref na])), (rg, .inl (cI, 6, .inl (rg6 a x d b0 b1 b2))), (me, .inl (cI, 512, .inl (mm2 g h))), (sa, .inl (cI, 2, .inl (p2 s0 s1))), (pa, .inl (cI, 2, .inl (upd (p2 p0 p1) 0 n))), (za, .inl (cZ, 2, .inl (p2 (bI z0) (bI z1)))), (ca, .inl (cZ, 2, .inl (p2 (bI c0) (bI c1))))] H := hP
            have hD : va_D A [(o, .inr (5, [.int th, .ref im, .int (bI tr), .ref rc, .ref bg, .int ro, .ref oa, .ref xa, .ref ya, .ref rg, .ref me, .ref sa, .ref pa, .ref za, .ref ca, .int (bI kp), .ref ta, .ref na])), (rg, .inl (cI, 6, .inl (rg6 a x d b0 b1 b2))), (me, .inl (cI, 512, .inl (mm2 g h))), (sa, .inl (cI, 2, .inl (p2 s0 s1))), (pa, .inl (cI, 2, .inl (upd (p2 p0 p1) 0 n))), (za, .inl (cZ, 2, .inl (p2 (bI z0) (bI z1)))), (ca, .inl (cZ, 2, .inl (p2 (bI c0) (bI c1))))] := hD
            rw [show upd (p2 p0 p1) 0 n = p2 n p1 from p2_0] at hP hD
            have hP : va_P D vwCl [(o, .inr (5, [.int th, .ref im, .int (bI tr), .ref rc, .ref bg, .int ro, .ref oa, .ref xa, .ref ya, .ref rg, .ref me, .ref sa, .ref pa, .ref za, .ref ca, .int (bI kp), .ref ta, .ref na])), (rg, .inl (cI, 6, .inl (rg6 a x d b0 b1 b2))), (me, .inl (cI, 512, .inl (mm2 g h))), (sa, .inl (cI, 2, .inl (p2 s0 s1))), (pa, .inl (cI, 2, .inl (p2 n p1))), (za, .inl (cZ, 2, .inl (p2 (bI z0) (bI z1)))), (ca, .inl (cZ, 2, .inl (p2 (bI c0) (bI c1))))] H := hP
            have hD : va_D A [(o, .inr (5, [.int th, .ref im, .int (bI tr), .ref rc, .ref bg, .int ro, .ref oa, .ref xa, .ref ya, .ref rg, .ref me, .ref sa, .ref pa, .ref za, .ref ca, .int (bI kp), .ref ta, .ref na])), (rg, .inl (cI, 6, .inl (rg6 a x d b0 b1 b2))), (me, .inl (cI, 512, .inl (mm2 g h))), (sa, .inl (cI, 2, .inl (p2 s0 s1))), (pa, .inl (cI, 2, .inl (p2 n p1))), (za, .inl (cZ, 2, .inl (p2 (bI z0) (bI z1)))), (ca, .inl (cZ, 2, .inl (p2 (bI c0) (bI c1))))] := hD
            refine lv_goto (tgt := 198) hx hb d_MO_transfers_115 rfl ?_
            have hP9 : va_P D vwCl [(o, .inr (5, [.int th, .ref im, .int (bI tr), .ref rc, .ref bg, .int ro, .ref oa, .ref xa, .ref ya, .ref rg, .ref me, .ref sa, .ref pa, .ref za, .ref ca, .int (bI kp), .ref ta, .ref na])), (rg, .inl (cI, 6, .inl (rg6 a x d b0 b1 b2))), (me, .inl (cI, 512, .inl (mm2 g h))), (sa, .inl (cI, 2, .inl (p2 s0 s1))), (pa, .inl (cI, 2, .inl (p2 n p1))), (za, .inl (cZ, 2, .inl (p2 (bI z0) (bI z1)))), (ca, .inl (cZ, 2, .inl (p2 (bI c0) (bI c1))))] H := hP.sub [0, 1, 2, 3, 4, 5, 6] rfl
            have hD9 : va_D A [(o, .inr (5, [.int th, .ref im, .int (bI tr), .ref rc, .ref bg, .int ro, .ref oa, .ref xa, .ref ya, .ref rg, .ref me, .ref sa, .ref pa, .ref za, .ref ca, .int (bI kp), .ref ta, .ref na])), (rg, .inl (cI, 6, .inl (rg6 a x d b0 b1 b2))), (me, .inl (cI, 512, .inl (mm2 g h))), (sa, .inl (cI, 2, .inl (p2 s0 s1))), (pa, .inl (cI, 2, .inl (p2 n p1))), (za, .inl (cZ, 2, .inl (p2 (bI z0) (bI z1)))), (ca, .inl (cZ, 2, .inl (p2 (bI c0) (bI c1))))] := hD.sub [0, 1, 2, 3, 4, 5, 6] (by decide) rfl
            exact W.vret hx hb hr (fun t ht hW => ⟨⟨(g, a, s0, n, z0), rfl, by rw [h28, show z0 = false from bI_f h48]; rfl, by rw [ht]; exact hP9, va_K.moved hW.alike hK, hD9⟩, hS.F ht⟩) hS.2.2 d_MO_transfers_198
