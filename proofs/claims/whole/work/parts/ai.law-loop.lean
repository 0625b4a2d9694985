theorem lp_T {i L : Nat} (h : L < i + 3) (hL : L ≤ 1536) (hi : i ≤ 1536) : Int32.ofNat L - 3 < nI i := by
  by_cases h3 : 3 ≤ L
  · rw [show Int32.ofNat L - 3 = nI (L - 3) from pk_sub (a := L) (b := 3) h3]
    exact nI_lt (by omega) (by omega)
  · rw [Int32.lt_iff_toInt_lt, nI_toInt (by omega)]
    have key : ∀ L : Nat, L < 3 → (Int32.ofNat L - 3).toInt < 0 := by decide
    have := key L (by omega)
    omega
theorem lp_F {i L : Nat} (h : i + 3 ≤ L) (hL : L ≤ 1536) : ¬ Int32.ofNat L - 3 < nI i := by
  rw [show Int32.ofNat L - 3 = nI (L - 3) from pk_sub (a := L) (b := 3) (by omega)]
  exact nI_nlt (by omega) (by omega)
set_option maxHeartbeats 4000000 in
set_option maxRecDepth 100000 in
theorem law_loop (l : Launch) (D : va_G) (cI cZ cJ : ClassId) {p : Program} {e : Env} {s : State} {m : MethodId} {below : List Frame} {meth : Method} {c : Code} {b L : Nat} {sc : Nat → Int32} {A : Nat → Prop} (o sr re pr fm sm rc pe nu xs ys be wh m1 m2 oM im rM bg oa xa ya rg me sa pa za ca ta na out : Nat) (hx : p.tables.exec = Jvm.exec) (hb : c.code = c_LA_law) (hml : c.maxLocals = 7) (hown : s.vm.findClass R_LA = some m.cls) (hts : ∀ w ∈ tb, w.before #[Value.ref b] s = true) (hKJ : va_K D vwCl (tyJ cI cZ cJ) s) (hN : NW s) (hXs : va_X b L sc s s.heap) (hbl : b < s.heap.size) (hZ0 : XZ s s.heap) (htr : ∀ e : Env, l.admits e → e.platform.stackTraces = false) (hAe : A = fun q => s.heap.size ≤ q) (hL : L ≤ 1536) (hr : meth.sig.returnType = ret) (hlocks : meth.locks = false) : ∀ (k j : Nat), L < 3 * (j + k) + 3 → 3 * (j + k) ≤ L → ∀ (fs : Nat → Int32) (fr : Nat → Int32) (fp : Nat → Int32) (f0 : Int32) (nn : Nat) (fn : Nat → Int32) (fx : Nat → Int32) (fy : Nat → Int32) (fw : Nat → Int32) (fb : Nat → Int32) (g : Nat → Int32) (a : Int32) (x : Int32) (sp : Int32) (pc : Int32) (zf : Bool) (cf : Bool) (st : Int32) (dn : Int32) (h : Nat → Int32) (b0 : Int32) (b1 : Int32) (sq : Int32) (pq : Int32) (zg : Bool) (cg : Bool) (su : Int32) (dm : Int32) (b2 : Int32) (kp : Bool) (th : Int32) (tr : Bool) (frM : Nat → Int32) (d : Int32) (ow : Nat → Int64), JJ fs fn fx fy fw fb nn tr (g, a, x, sp, pc, zf, cf, st) (h, b0, b1, sq, pq, zg, cg, su, b2, kp) → ∀ (H : Heap) (locs : List Loc) (ls : Array Slot), lv_has ls 7 [(0, .ref b), (1, .ref o), (2, .ref oM), (3, .ref out), (4, .int (nI (3 * j)))] → va_P D vwCl [(o, .inr (0, [.ref sr, .ref re, .ref pr, .ref fm, .ref sm])), (re, .inr (1, [.ref sr, .ref rc, .ref pe, .int f0])), (sr, .inl (cI, 256, .inl fs)), (rc, .inl (cZ, 256, .inl fr)), (pe, .inl (cI, 256, .inl fp)), (pr, .inr (2, [.ref nu, .ref xs, .ref ys, .ref be, .ref wh, .int (nI nn)])), (nu, .inl (cI, 1024, .inl fn)), (xs, .inl (cI, 1024, .inl fx)), (ys, .inl (cI, 1024, .inl fy)), (wh, .inl (cI, 256, .inl fw)), (be, .inl (cZ, 1024, .inl fb)), (fm, .inr (3, [.ref m1, .int a, .int x, .int sp, .int pc, .int (bI zf), .int (bI cf), .int st, .int dn])), (m1, .inl (cI, 256, .inl g)), (sm, .inr (4, [.ref m2, .int b0, .int b1, .int sq, .int pq, .int (bI zg), .int (bI cg), .int su, .int dm, .ref pr, .int b2, .int (bI kp)])), (m2, .inl (cI, 256, .inl h)), (oM, .inr (5, [.int th, .ref im, .int (bI tr), .ref rM, .ref bg, .int (nI nn), .ref oa, .ref xa, .ref ya, .ref rg, .ref me, .ref sa, .ref pa, .ref za, .ref ca, .int (bI kp), .ref ta, .ref na])), (im, .inl (cI, 256, .inl fs)), (rM, .inl (cZ, 256, .inl frM)), (bg, .inl (cI, 256, .inl fw)), (oa, .inl (cI, 1024, .inl fn)), (xa, .inl (cI, 1024, .inl fx)), (ya, .inl (cI, 1024, .inl fy)), (rg, .inl (cI, 6, .inl (rg6 a x d b0 b1 b2))), (me, .inl (cI, 512, .inl (mm2 g h))), (sa, .inl (cI, 2, .inl (p2 sp sq))), (pa, .inl (cI, 2, .inl (p2 pc pq))), (za, .inl (cZ, 2, .inl (p2 (bI zf) (bI zg)))), (ca, .inl (cZ, 2, .inl (p2 (bI cf) (bI cg)))), (ta, .inl (cI, 2, .inl (p2 st su))), (na, .inl (cI, 2, .inl (p2 dn dm))), (out, .inl (cJ, 1, .inr (.inl ow)))] H → va_D A [(o, .inr (0, [.ref sr, .ref re, .ref pr, .ref fm, .ref sm])), (re, .inr (1, [.ref sr, .ref rc, .ref pe, .int f0])), (sr, .inl (cI, 256, .inl fs)), (rc, .inl (cZ, 256, .inl fr)), (pe, .inl (cI, 256, .inl fp)), (pr, .inr (2, [.ref nu, .ref xs, .ref ys, .ref be, .ref wh, .int (nI nn)])), (nu, .inl (cI, 1024, .inl fn)), (xs, .inl (cI, 1024, .inl fx)), (ys, .inl (cI, 1024, .inl fy)), (wh, .inl (cI, 256, .inl fw)), (be, .inl (cZ, 1024, .inl fb)), (fm, .inr (3, [.ref m1, .int a, .int x, .int sp, .int pc, .int (bI zf), .int (bI cf), .int st, .int dn])), (m1, .inl (cI, 256, .inl g)), (sm, .inr (4, [.ref m2, .int b0, .int b1, .int sq, .int pq, .int (bI zg), .int (bI cg), .int su, .int dm, .ref pr, .int b2, .int (bI kp)])), (m2, .inl (cI, 256, .inl h)), (oM, .inr (5, [.int th, .ref im, .int (bI tr), .ref rM, .ref bg, .int (nI nn), .ref oa, .ref xa, .ref ya, .ref rg, .ref me, .ref sa, .ref pa, .ref za, .ref ca, .int (bI kp), .ref ta, .ref na])), (im, .inl (cI, 256, .inl fs)), (rM, .inl (cZ, 256, .inl frM)), (bg, .inl (cI, 256, .inl fw)), (oa, .inl (cI, 1024, .inl fn)), (xa, .inl (cI, 1024, .inl fx)), (ya, .inl (cI, 1024, .inl fy)), (rg, .inl (cI, 6, .inl (rg6 a x d b0 b1 b2))), (me, .inl (cI, 512, .inl (mm2 g h))), (sa, .inl (cI, 2, .inl (p2 sp sq))), (pa, .inl (cI, 2, .inl (p2 pc pq))), (za, .inl (cZ, 2, .inl (p2 (bI zf) (bI zg)))), (ca, .inl (cZ, 2, .inl (p2 (bI cf) (bI cg)))), (ta, .inl (cI, 2, .inl (p2 st su))), (na, .inl (cI, 2, .inl (p2 dn dm))), (out, .inl (cJ, 1, .inr (.inl ow)))] → va_S A s.heap H locs → W p l e room_1 s m #[Value.ref b] below meth c H locs (31 + j) (10057 + 6 * j) (lw_Z below #[Value.ref b] s) (F0 m 23 ls []) := by
  have hbA : ¬ A b := by rw [hAe]; exact Nat.not_le.mpr hbl
  intro k
  induction k with
  | zero =>
    intro j h1 h2 fs fr fp f0 nn fn fx fy fw fb g a x sp pc zf cf st dn h b0 b1 sq pq zg cg su dm b2 kp th tr frM d ow hJ H locs ls hl hP hD hS
    refine lv_iload hx hb d_LA_law_23 (lv_at hl 4 rfl) ?_
    refine lv_aload_n hx hb d_LA_law_25 rfl (lv_at hl 0 rfl) ?_
    refine va_slen hx hb hXs hbl hbA hS d_LA_law_26 ?_
    refine lv_iconst (v := 3) hx hb d_LA_law_27 (by decide) ?_
    refine lv_isub hx hb d_LA_law_28 ?_
    refine lv_icmp_gt (tgt := 534) hx hb d_LA_law_29 rfl (fun _ => ?_) (fun hq9 => absurd (lp_T (i := 3 * j) (L := L) (by omega) hL (by omega)) hq9)
    refine lv_iconst (v := 1) hx hb d_LA_law_534 (by decide) ?_
    refine va_forget (fun q hq => by have h9 := hS.2.2 q hq; rw [hAe] at h9; exact h9) ?_
    refine W.widen (k := 1058) (n := 18267) (by omega) (by omega) ?_
    exact lw_ret hx hb hr hlocks d_LA_law_535
  | succ k ih =>
    intro j h1 h2 fs fr fp f0 nn fn fx fy fw fb g a x sp pc zf cf st dn h b0 b1 sq pq zg cg su dm b2 kp th tr frM d ow hJ H locs ls hl hP hD hS
    refine lv_iload hx hb d_LA_law_23 (lv_at hl 4 rfl) ?_
    refine lv_aload_n hx hb d_LA_law_25 rfl (lv_at hl 0 rfl) ?_
    refine va_slen hx hb hXs hbl hbA hS d_LA_law_26 ?_
    refine lv_iconst (v := 3) hx hb d_LA_law_27 (by decide) ?_
    refine lv_isub hx hb d_LA_law_28 ?_
    refine lv_icmp_gt (tgt := 534) hx hb d_LA_law_29 rfl (fun hq9 => absurd hq9 (lp_F (i := 3 * j) (L := L) (by omega) hL)) (fun _ => ?_)
    refine lv_aload_n hx hb d_LA_law_32 rfl (lv_at hl 0 rfl) ?_
    refine lv_iload hx hb d_LA_law_33 (lv_at hl 4 rfl) ?_
    refine va_sld hx hb hXs hbl hbA hS (vp_in_nI (n := 3 * j) (by omega) (by omega)) d_LA_law_35 ?_
    refine lv_bipush (v := 15) hx hb d_LA_law_36 (by decide) ?_
    refine lv_iand hx hb d_LA_law_38 ?_
    have kk : ∀ (fs : Nat → Int32) (fr : Nat → Int32) (fp : Nat → Int32) (f0 : Int32) (nn : Nat) (fn : Nat → Int32) (fx : Nat → Int32) (fy : Nat → Int32) (fw : Nat → Int32) (fb : Nat → Int32) (g : Nat → Int32) (a : Int32) (x : Int32) (sp : Int32) (pc : Int32) (zf : Bool) (cf : Bool) (st : Int32) (dn : Int32) (h : Nat → Int32) (b0 : Int32) (b1 : Int32) (sq : Int32) (pq : Int32) (zg : Bool) (cg : Bool) (su : Int32) (dm : Int32) (b2 : Int32) (kp : Bool) (th : Int32) (tr : Bool) (frM : Nat → Int32) (d : Int32) (ow : Nat → Int64), JJ fs fn fx fy fw fb nn tr (g, a, x, sp, pc, zf, cf, st) (h, b0, b1, sq, pq, zg, cg, su, b2, kp) → ∀ (H : Heap) (locs : List Loc) (ls : Array Slot), lv_has ls 7 [(0, .ref b), (1, .ref o), (2, .ref oM), (3, .ref out), (4, .int (nI (3 * j)))] → va_P D vwCl [(o, .inr (0, [.ref sr, .ref re, .ref pr, .ref fm, .ref sm])), (re, .inr (1, [.ref sr, .ref rc, .ref pe, .int f0])), (sr, .inl (cI, 256, .inl fs)), (rc, .inl (cZ, 256, .inl fr)), (pe, .inl (cI, 256, .inl fp)), (pr, .inr (2, [.ref nu, .ref xs, .ref ys, .ref be, .ref wh, .int (nI nn)])), (nu, .inl (cI, 1024, .inl fn)), (xs, .inl (cI, 1024, .inl fx)), (ys, .inl (cI, 1024, .inl fy)), (wh, .inl (cI, 256, .inl fw)), (be, .inl (cZ, 1024, .inl fb)), (fm, .inr (3, [.ref m1, .int a, .int x, .int sp, .int pc, .int (bI zf), .int (bI cf), .int st, .int dn])), (m1, .inl (cI, 256, .inl g)), (sm, .inr (4, [.ref m2, .int b0, .int b1, .int sq, .int pq, .int (bI zg), .int (bI cg), .int su, .int dm, .ref pr, .int b2, .int (bI kp)])), (m2, .inl (cI, 256, .inl h)), (oM, .inr (5, [.int th, .ref im, .int (bI tr), .ref rM, .ref bg, .int (nI nn), .ref oa, .ref xa, .ref ya, .ref rg, .ref me, .ref sa, .ref pa, .ref za, .ref ca, .int (bI kp), .ref ta, .ref na])), (im, .inl (cI, 256, .inl fs)), (rM, .inl (cZ, 256, .inl frM)), (bg, .inl (cI, 256, .inl fw)), (oa, .inl (cI, 1024, .inl fn)), (xa, .inl (cI, 1024, .inl fx)), (ya, .inl (cI, 1024, .inl fy)), (rg, .inl (cI, 6, .inl (rg6 a x d b0 b1 b2))), (me, .inl (cI, 512, .inl (mm2 g h))), (sa, .inl (cI, 2, .inl (p2 sp sq))), (pa, .inl (cI, 2, .inl (p2 pc pq))), (za, .inl (cZ, 2, .inl (p2 (bI zf) (bI zg)))), (ca, .inl (cZ, 2, .inl (p2 (bI cf) (bI cg)))), (ta, .inl (cI, 2, .inl (p2 st su))), (na, .inl (cI, 2, .inl (p2 dn dm))), (out, .inl (cJ, 1, .inr (.inl ow)))] H → va_D A [(o, .inr (0, [.ref sr, .ref re, .ref pr, .ref fm, .ref sm])), (re, .inr (1, [.ref sr, .ref rc, .ref pe, .int f0])), (sr, .inl (cI, 256, .inl fs)), (rc, .inl (cZ, 256, .inl fr)), (pe, .inl (cI, 256, .inl fp)), (pr, .inr (2, [.ref nu, .ref xs, .ref ys, .ref be, .ref wh, .int (nI nn)])), (nu, .inl (cI, 1024, .inl fn)), (xs, .inl (cI, 1024, .inl fx)), (ys, .inl (cI, 1024, .inl fy)), (wh, .inl (cI, 256, .inl fw)), (be, .inl (cZ, 1024, .inl fb)), (fm, .inr (3, [.ref m1, .int a, .int x, .int sp, .int pc, .int (bI zf), .int (bI cf), .int st, .int dn])), (m1, .inl (cI, 256, .inl g)), (sm, .inr (4, [.ref m2, .int b0, .int b1, .int sq, .int pq, .int (bI zg), .int (bI cg), .int su, .int dm, .ref pr, .int b2, .int (bI kp)])), (m2, .inl (cI, 256, .inl h)), (oM, .inr (5, [.int th, .ref im, .int (bI tr), .ref rM, .ref bg, .int (nI nn), .ref oa, .ref xa, .ref ya, .ref rg, .ref me, .ref sa, .ref pa, .ref za, .ref ca, .int (bI kp), .ref ta, .ref na])), (im, .inl (cI, 256, .inl fs)), (rM, .inl (cZ, 256, .inl frM)), (bg, .inl (cI, 256, .inl fw)), (oa, .inl (cI, 1024, .inl fn)), (xa, .inl (cI, 1024, .inl fx)), (ya, .inl (cI, 1024, .inl fy)), (rg, .inl (cI, 6, .inl (rg6 a x d b0 b1 b2))), (me, .inl (cI, 512, .inl (mm2 g h))), (sa, .inl (cI, 2, .inl (p2 sp sq))), (pa, .inl (cI, 2, .inl (p2 pc pq))), (za, .inl (cZ, 2, .inl (p2 (bI zf) (bI zg)))), (ca, .inl (cZ, 2, .inl (p2 (bI cf) (bI cg)))), (ta, .inl (cI, 2, .inl (p2 st su))), (na, .inl (cI, 2, .inl (p2 dn dm))), (out, .inl (cJ, 1, .inr (.inl ow)))] → va_S A s.heap H locs → W p l e room_1 s m #[Value.ref b] below meth c H locs (31 + j + 1) (10057 + 6 * j + 6) (lw_Z below #[Value.ref b] s) (F0 m 528 ls []) := by
      intro fs fr fp f0 nn fn fx fy fw fb g a x sp pc zf cf st dn h b0 b1 sq pq zg cg su dm b2 kp th tr frM d ow hJ H locs ls hl hP hD hS
      refine lv_iinc (k := 4) (v := nI (3 * (j + 1))) hx hb d_LA_law_528 hl rfl (show nI (3 * j) + Int32.ofInt 3 = nI (3 * (j + 1)) from nI_add (3 * j) 3) (by decide) rfl (fun ls hl => ?_)
      refine lv_goto (tgt := 23) hx hb d_LA_law_531 rfl ?_
      refine W.widen (k := 31 + (j + 1)) (n := 10057 + 6 * (j + 1)) (by omega) (by omega) ?_
      exact ih (j + 1) (by omega) (by omega) fs fr fp f0 nn fn fx fy fw fb g a x sp pc zf cf st dn h b0 b1 sq pq zg cg su dm b2 kp th tr frM d ow hJ H locs ls (lv_sub hl [1, 2, 3, 4, 0] rfl) hP hD hS
    obtain ⟨z9, hz9⟩ : ∃ z, z = sc (nI (3 * j)).toNatClampNeg &&& 15 := ⟨_, rfl⟩
    rw [← hz9]
    rcases sw_cases z9 0 10 with h9 | ⟨q9, hq9, h9⟩
    · refine lv_tableOut (tgt := 528) hx hb d_LA_law_39 h9 rfl ?_
      refine W.widen (k := 31 + j + 1) (n := 10057 + 6 * j + 6) (by omega) (by omega) ?_
      exact kk fs fr fp f0 nn fn fx fy fw fb g a x sp pc zf cf st dn h b0 b1 sq pq zg cg su dm b2 kp th tr frM d ow hJ H locs ls hl hP hD hS
    · match q9, hq9, h9 with
      | 0, _, h9 =>
        have h9 : z9 = 0 := h9
        refine lv_tableIn (off := 53) (tgt := 92) hx hb d_LA_law_39 (by rw [h9]; decide) (by rw [h9]; decide) (by rw [h9]; rfl) rfl ?_
        exact law_0 l D cI cZ cJ o sr re pr fm sm rc pe nu xs ys be wh m1 m2 oM im rM bg oa xa ya rg me sa pa za ca ta na out hx hb hml hown hts hKJ hN hXs hbl hZ0 htr hAe hL (31 + j) (10057 + 6 * j) (3 * j) (by omega) (by omega) (by omega) kk fs fr fp f0 nn fn fx fy fw fb g a x sp pc zf cf st dn h b0 b1 sq pq zg cg su dm b2 kp th tr frM d ow hJ H locs ls hl hP hD hS
      | 1, _, h9 =>
        have h9 : z9 = 1 := h9
        refine lv_tableIn (off := 128) (tgt := 167) hx hb d_LA_law_39 (by rw [h9]; decide) (by rw [h9]; decide) (by rw [h9]; rfl) rfl ?_
        exact law_1 l D cI cZ cJ o sr re pr fm sm rc pe nu xs ys be wh m1 m2 oM im rM bg oa xa ya rg me sa pa za ca ta na out hx hb hml hown hts hKJ hN hXs hbl hZ0 htr hAe hL (31 + j) (10057 + 6 * j) (3 * j) (by omega) (by omega) (by omega) kk fs fr fp f0 nn fn fx fy fw fb g a x sp pc zf cf st dn h b0 b1 sq pq zg cg su dm b2 kp th tr frM d ow hJ H locs ls hl hP hD hS
      | 2, _, h9 =>
        have h9 : z9 = 2 := h9
        refine lv_tableIn (off := 184) (tgt := 223) hx hb d_LA_law_39 (by rw [h9]; decide) (by rw [h9]; decide) (by rw [h9]; rfl) rfl ?_
        exact law_2 l D cI cZ cJ o sr re pr fm sm rc pe nu xs ys be wh m1 m2 oM im rM bg oa xa ya rg me sa pa za ca ta na out hx hb hml hown hts hKJ hN hXs hbl hZ0 htr hAe hL (31 + j) (10057 + 6 * j) (3 * j) (by omega) (by omega) (by omega) kk fs fr fp f0 nn fn fx fy fw fb g a x sp pc zf cf st dn h b0 b1 sq pq zg cg su dm b2 kp th tr frM d ow hJ H locs ls hl hP hD hS
      | 3, _, h9 =>
        have h9 : z9 = 3 := h9
        refine lv_tableIn (off := 240) (tgt := 279) hx hb d_LA_law_39 (by rw [h9]; decide) (by rw [h9]; decide) (by rw [h9]; rfl) rfl ?_
        exact law_3 l D cI cZ cJ o sr re pr fm sm rc pe nu xs ys be wh m1 m2 oM im rM bg oa xa ya rg me sa pa za ca ta na out hx hb hml hown hts hKJ hN hXs hbl hZ0 htr hAe hL (31 + j) (10057 + 6 * j) (3 * j) (by omega) (by omega) (by omega) kk fs fr fp f0 nn fn fx fy fw fb g a x sp pc zf cf st dn h b0 b1 sq pq zg cg su dm b2 kp th tr frM d ow hJ H locs ls hl hP hD hS
      | 4, _, h9 =>
        have h9 : z9 = 4 := h9
        refine lv_tableIn (off := 296) (tgt := 335) hx hb d_LA_law_39 (by rw [h9]; decide) (by rw [h9]; decide) (by rw [h9]; rfl) rfl ?_
        exact law_4 l D cI cZ cJ o sr re pr fm sm rc pe nu xs ys be wh m1 m2 oM im rM bg oa xa ya rg me sa pa za ca ta na out hx hb hml hown hts hKJ hN hXs hbl hZ0 htr hAe hL (31 + j) (10057 + 6 * j) (3 * j) (by omega) (by omega) (by omega) kk fs fr fp f0 nn fn fx fy fw fb g a x sp pc zf cf st dn h b0 b1 sq pq zg cg su dm b2 kp th tr frM d ow hJ H locs ls hl hP hD hS
      | 5, _, h9 =>
        have h9 : z9 = 5 := h9
        refine lv_tableIn (off := 340) (tgt := 379) hx hb d_LA_law_39 (by rw [h9]; decide) (by rw [h9]; decide) (by rw [h9]; rfl) rfl ?_
        exact law_5 l D cI cZ cJ o sr re pr fm sm rc pe nu xs ys be wh m1 m2 oM im rM bg oa xa ya rg me sa pa za ca ta na out hx hb hml hown hts hKJ hN hXs hbl hZ0 htr hAe hL (31 + j) (10057 + 6 * j) (3 * j) (by omega) (by omega) (by omega) kk fs fr fp f0 nn fn fx fy fw fb g a x sp pc zf cf st dn h b0 b1 sq pq zg cg su dm b2 kp th tr frM d ow hJ H locs ls hl hP hD hS
      | 6, _, h9 =>
        have h9 : z9 = 6 := h9
        refine lv_tableIn (off := 353) (tgt := 392) hx hb d_LA_law_39 (by rw [h9]; decide) (by rw [h9]; decide) (by rw [h9]; rfl) rfl ?_
        exact law_6 l D cI cZ cJ o sr re pr fm sm rc pe nu xs ys be wh m1 m2 oM im rM bg oa xa ya rg me sa pa za ca ta na out hx hb hml hown hts hKJ hN hXs hbl hZ0 htr hAe hL (31 + j) (10057 + 6 * j) (3 * j) (by omega) (by omega) (by omega) kk fs fr fp f0 nn fn fx fy fw fb g a x sp pc zf cf st dn h b0 b1 sq pq zg cg su dm b2 kp th tr frM d ow hJ H locs ls hl hP hD hS
      | 7, _, h9 =>
        have h9 : z9 = 7 := h9
        refine lv_tableIn (off := 390) (tgt := 429) hx hb d_LA_law_39 (by rw [h9]; decide) (by rw [h9]; decide) (by rw [h9]; rfl) rfl ?_
        exact law_7 l D cI cZ cJ o sr re pr fm sm rc pe nu xs ys be wh m1 m2 oM im rM bg oa xa ya rg me sa pa za ca ta na out hx hb hml hown hts hKJ hN hXs hbl hZ0 htr hAe hL (31 + j) (10057 + 6 * j) (3 * j) (by omega) (by omega) (by omega) kk fs fr fp f0 nn fn fx fy fw fb g a x sp pc zf cf st dn h b0 b1 sq pq zg cg su dm b2 kp th tr frM d ow hJ H locs ls hl hP hD hS
      | 8, _, h9 =>
        have h9 : z9 = 8 := h9
        refine lv_tableIn (off := 415) (tgt := 454) hx hb d_LA_law_39 (by rw [h9]; decide) (by rw [h9]; decide) (by rw [h9]; rfl) rfl ?_
        exact law_8 l D cI cZ cJ o sr re pr fm sm rc pe nu xs ys be wh m1 m2 oM im rM bg oa xa ya rg me sa pa za ca ta na out hx hb hml hown hts hKJ hN hXs hbl hZ0 htr hAe hL (31 + j) (10057 + 6 * j) (3 * j) (by omega) (by omega) (by omega) kk fs fr fp f0 nn fn fx fy fw fb g a x sp pc zf cf st dn h b0 b1 sq pq zg cg su dm b2 kp th tr frM d ow hJ H locs ls hl hP hD hS
      | 9, _, h9 =>
        have h9 : z9 = 9 := h9
        refine lv_tableIn (off := 452) (tgt := 491) hx hb d_LA_law_39 (by rw [h9]; decide) (by rw [h9]; decide) (by rw [h9]; rfl) rfl ?_
        exact law_9 l D cI cZ cJ o sr re pr fm sm rc pe nu xs ys be wh m1 m2 oM im rM bg oa xa ya rg me sa pa za ca ta na out hx hb hml hown hts hKJ hN hXs hbl hZ0 htr hAe hL (31 + j) (10057 + 6 * j) (3 * j) (by omega) (by omega) (by omega) kk fs fr fp f0 nn fn fx fy fw fb g a x sp pc zf cf st dn h b0 b1 sq pq zg cg su dm b2 kp th tr frM d ow hJ H locs ls hl hP hD hS
      | n9 + 10, h9, _ => exact absurd h9 (by omega)
