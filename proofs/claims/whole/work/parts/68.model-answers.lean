set_option maxHeartbeats 4000000 in
set_option maxRecDepth 100000 in
theorem q_thrown (l : Launch) (D : va_G) (cI cZ : ClassId) (o : Nat) (th : Int32) (im : Nat) (tr : Bool) (rc : Nat) (bg : Nat) (ro : Int32) (oa : Nat) (xa : Nat) (ya : Nat) (rg : Nat) (me : Nat) (sa : Nat) (pa : Nat) (za : Nat) (ca : Nat) (kp : Bool) (ta : Nat) (na : Nat) : MetR l y_MO_thrown w_MO_thrown { frames := 0, cells := 0, slots := 0, locals := 0 } D cI cZ [.ref o] [(o, .inr (5, [.int th, .ref im, .int (bI tr), .ref rc, .ref bg, .int ro, .ref oa, .ref xa, .ref ya, .ref rg, .ref me, .ref sa, .ref pa, .ref za, .ref ca, .int (bI kp), .ref ta, .ref na]))] (fun r => r = th) := by
  refine ofR (cc := c_MO_thrown) (maxL := 1) (ret := (some .int)) (by decide) rfl (Nat.le_of_ble_eq_true rfl) ?_
  intro p e s m args below meth c H hH0 hx hb hr hlocks hts hown hml ls hl hP hK hN
  have hown : s.vm.findClass R_MO = some m.cls := hown
  have hl : lv_has ls 1 [(0, .ref o)] := hl
  refine lv_aload_n hx hb d_MO_thrown_0 rfl (lv_at hl 0 rfl) ?_
  refine va_get (D := D) (ci := 5) (v := .int th) (C := R_MO) (T := T_MO) (N := 18) hx hb hts iw_MO hown hK hP 0 rfl rfl 0 (by decide) (hts _ k_695) (fun _ h9 => h9) rfl d_MO_thrown_1 ?_
  exact W.iret (v := th) hx hb hr (fun t ht hW => ⟨th, rfl, rfl, ht.trans hH0.symm⟩) (fun _ h9 => absurd h9 List.not_mem_nil) d_MO_thrown_4
set_option maxHeartbeats 4000000 in
set_option maxRecDepth 100000 in
theorem q_isByte (l : Launch) (D : va_G) (cI cZ : ClassId) (v : Int32) : MetR l y_MO_isByte w_MO_isByte { frames := 0, cells := 0, slots := 0, locals := 0 } D cI cZ [.int v] [] (fun r => r = bI (isByteB v)) := by
  refine ofR (cc := c_MO_isByte) (maxL := 1) (ret := (some .boolean)) (by decide) rfl (Nat.le_of_ble_eq_true rfl) ?_
  intro p e s m args below meth c H hH0 hx hb hr hlocks hts hown hml ls hl hP hK hN
  have hown : s.vm.findClass R_MO = some m.cls := hown
  have hl : lv_has ls 1 [(0, .int v)] := hl
  refine lv_iload_n hx hb d_MO_isByte_0 rfl (lv_at hl 0 rfl) ?_
  refine lv_if_lt (tgt := 15) hx hb d_MO_isByte_1 rfl (fun h1 => ?_) (fun h1 => ?_)
  · refine lv_iconst (v := 0) hx hb d_MO_isByte_15 (by decide) ?_
    exact W.zret (v := (bI false)) hx hb hr (nb_n _) (fun t ht hW => ⟨(bI false), rfl, by first | (simp only [isByteB, h1, ↓reduceIte, not_true_eq_false, not_false_eq_true, and_true, true_and, and_false, false_and, and_self, or_true, true_or, or_false, false_or, decide_true, decide_false, Bool.false_eq_true, reduceCtorEq]; done) | (simp_all [isByteB]; done), ht.trans hH0.symm⟩) (fun _ h9 => absurd h9 List.not_mem_nil) d_MO_isByte_16
  · refine lv_iload_n hx hb d_MO_isByte_4 rfl (lv_at hl 0 rfl) ?_
    refine lv_sipush (v := 255) hx hb d_MO_isByte_5 (by decide) ?_
    refine lv_icmp_gt (tgt := 15) hx hb d_MO_isByte_8 rfl (fun h8 => ?_) (fun h8 => ?_)
    · refine lv_iconst (v := 0) hx hb d_MO_isByte_15 (by decide) ?_
      exact W.zret (v := (bI false)) hx hb hr (nb_n _) (fun t ht hW => ⟨(bI false), rfl, by first | (simp only [isByteB, h1, h8, ↓reduceIte, not_true_eq_false, not_false_eq_true, and_true, true_and, and_false, false_and, and_self, or_true, true_or, or_false, false_or, decide_true, decide_false, Bool.false_eq_true, reduceCtorEq]; done) | (simp_all [isByteB]; done), ht.trans hH0.symm⟩) (fun _ h9 => absurd h9 List.not_mem_nil) d_MO_isByte_16
    · refine lv_iconst (v := 1) hx hb d_MO_isByte_11 (by decide) ?_
      refine lv_goto (tgt := 16) hx hb d_MO_isByte_12 rfl ?_
      exact W.zret (v := (bI true)) hx hb hr (nb_n _) (fun t ht hW => ⟨(bI true), rfl, by first | (simp only [isByteB, h1, h8, ↓reduceIte, not_true_eq_false, not_false_eq_true, and_true, true_and, and_false, false_and, and_self, or_true, true_or, or_false, false_or, decide_true, decide_false, Bool.false_eq_true, reduceCtorEq]; done) | (simp_all [isByteB]; done), ht.trans hH0.symm⟩) (fun _ h9 => absurd h9 List.not_mem_nil) d_MO_isByte_16
set_option maxHeartbeats 4000000 in
set_option maxRecDepth 100000 in
theorem q_goesOn (l : Launch) (D : va_G) (cI cZ : ClassId) (w : Int32) : MetR l y_MO_goesOn w_MO_goesOn { frames := 0, cells := 0, slots := 0, locals := 0 } D cI cZ [.int w] [] (fun r => r = bI (behB w)) := by
  refine ofR (cc := c_MO_goesOn) (maxL := 1) (ret := (some .boolean)) (by decide) rfl (Nat.le_of_ble_eq_true rfl) ?_
  intro p e s m args below meth c H hH0 hx hb hr hlocks hts hown hml ls hl hP hK hN
  have hown : s.vm.findClass R_MO = some m.cls := hown
  have hl : lv_has ls 1 [(0, .int w)] := hl
  refine lv_iload_n hx hb d_MO_goesOn_0 rfl (lv_at hl 0 rfl) ?_
  refine lv_iconst (v := 1) hx hb d_MO_goesOn_1 (by decide) ?_
  refine lv_icmp_eq (tgt := 27) hx hb d_MO_goesOn_2 rfl (fun h2 => ?_) (fun h2 => ?_)
  · refine lv_iconst (v := 0) hx hb d_MO_goesOn_27 (by decide) ?_
    exact W.zret (v := (bI false)) hx hb hr (nb_n _) (fun t ht hW => ⟨(bI false), rfl, by first | (simp only [behB, h2, ↓reduceIte, not_true_eq_false, not_false_eq_true, and_true, true_and, and_false, false_and, and_self, or_true, true_or, or_false, false_or, decide_true, decide_false, Bool.false_eq_true, reduceCtorEq]; done) | (simp_all [behB]; done), ht.trans hH0.symm⟩) (fun _ h9 => absurd h9 List.not_mem_nil) d_MO_goesOn_28
  · refine lv_iload_n hx hb d_MO_goesOn_5 rfl (lv_at hl 0 rfl) ?_
    refine lv_bipush (v := 22) hx hb d_MO_goesOn_6 (by decide) ?_
    refine lv_icmp_eq (tgt := 27) hx hb d_MO_goesOn_8 rfl (fun h8 => ?_) (fun h8 => ?_)
    · refine lv_iconst (v := 0) hx hb d_MO_goesOn_27 (by decide) ?_
      exact W.zret (v := (bI false)) hx hb hr (nb_n _) (fun t ht hW => ⟨(bI false), rfl, by first | (simp only [behB, h2, h8, ↓reduceIte, not_true_eq_false, not_false_eq_true, and_true, true_and, and_false, false_and, and_self, or_true, true_or, or_false, false_or, decide_true, decide_false, Bool.false_eq_true, reduceCtorEq]; done) | (simp_all [behB]; done), ht.trans hH0.symm⟩) (fun _ h9 => absurd h9 List.not_mem_nil) d_MO_goesOn_28
    · refine lv_iload_n hx hb d_MO_goesOn_11 rfl (lv_at hl 0 rfl) ?_
      refine lv_bipush (v := 28) hx hb d_MO_goesOn_12 (by decide) ?_
      refine lv_icmp_eq (tgt := 27) hx hb d_MO_goesOn_14 rfl (fun h14 => ?_) (fun h14 => ?_)
      · refine lv_iconst (v := 0) hx hb d_MO_goesOn_27 (by decide) ?_
        exact W.zret (v := (bI false)) hx hb hr (nb_n _) (fun t ht hW => ⟨(bI false), rfl, by first | (simp only [behB, h2, h8, h14, ↓reduceIte, not_true_eq_false, not_false_eq_true, and_true, true_and, and_false, false_and, and_self, or_true, true_or, or_false, false_or, decide_true, decide_false, Bool.false_eq_true, reduceCtorEq]; done) | (simp_all [behB]; done), ht.trans hH0.symm⟩) (fun _ h9 => absurd h9 List.not_mem_nil) d_MO_goesOn_28
      · refine lv_iload_n hx hb d_MO_goesOn_17 rfl (lv_at hl 0 rfl) ?_
        refine lv_bipush (v := 31) hx hb d_MO_goesOn_18 (by decide) ?_
        refine lv_icmp_eq (tgt := 27) hx hb d_MO_goesOn_20 rfl (fun h20 => ?_) (fun h20 => ?_)
        · refine lv_iconst (v := 0) hx hb d_MO_goesOn_27 (by decide) ?_
          exact W.zret (v := (bI false)) hx hb hr (nb_n _) (fun t ht hW => ⟨(bI false), rfl, by first | (simp only [behB, h2, h8, h14, h20, ↓reduceIte, not_true_eq_false, not_false_eq_true, and_true, true_and, and_false, false_and, and_self, or_true, true_or, or_false, false_or, decide_true, decide_false, Bool.false_eq_true, reduceCtorEq]; done) | (simp_all [behB]; done), ht.trans hH0.symm⟩) (fun _ h9 => absurd h9 List.not_mem_nil) d_MO_goesOn_28
        · refine lv_iconst (v := 1) hx hb d_MO_goesOn_23 (by decide) ?_
          refine lv_goto (tgt := 28) hx hb d_MO_goesOn_24 rfl ?_
          exact W.zret (v := (bI true)) hx hb hr (nb_n _) (fun t ht hW => ⟨(bI true), rfl, by first | (simp only [behB, h2, h8, h14, h20, ↓reduceIte, not_true_eq_false, not_false_eq_true, and_true, true_and, and_false, false_and, and_self, or_true, true_or, or_false, false_or, decide_true, decide_false, Bool.false_eq_true, reduceCtorEq]; done) | (simp_all [behB]; done), ht.trans hH0.symm⟩) (fun _ h9 => absurd h9 List.not_mem_nil) d_MO_goesOn_28
set_option maxHeartbeats 4000000 in
set_option maxRecDepth 100000 in
theorem q_leads (l : Launch) (D : va_G) (cI cZ : ClassId) (w : Int32) : MetR l y_MO_leads w_MO_leads { frames := 0, cells := 0, slots := 0, locals := 0 } D cI cZ [.int w] [] (fun r => r = bI (hasTB w)) := by
  refine ofR (cc := c_MO_leads) (maxL := 1) (ret := (some .boolean)) (by decide) rfl (Nat.le_of_ble_eq_true rfl) ?_
  intro p e s m args below meth c H hH0 hx hb hr hlocks hts hown hml ls hl hP hK hN
  have hown : s.vm.findClass R_MO = some m.cls := hown
  have hl : lv_has ls 1 [(0, .int w)] := hl
  refine lv_iload_n hx hb d_MO_leads_0 rfl (lv_at hl 0 rfl) ?_
  refine lv_bipush (v := 22) hx hb d_MO_leads_1 (by decide) ?_
  refine lv_icmp_lt (tgt := 16) hx hb d_MO_leads_3 rfl (fun h3 => ?_) (fun h3 => ?_)
  · refine lv_iconst (v := 0) hx hb d_MO_leads_16 (by decide) ?_
    exact W.zret (v := (bI false)) hx hb hr (nb_n _) (fun t ht hW => ⟨(bI false), rfl, by first | (simp only [hasTB, h3, ↓reduceIte, not_true_eq_false, not_false_eq_true, and_true, true_and, and_false, false_and, and_self, or_true, true_or, or_false, false_or, decide_true, decide_false, Bool.false_eq_true, reduceCtorEq]; done) | (simp_all [hasTB]; done), ht.trans hH0.symm⟩) (fun _ h9 => absurd h9 List.not_mem_nil) d_MO_leads_17
  · refine lv_iload_n hx hb d_MO_leads_6 rfl (lv_at hl 0 rfl) ?_
    refine lv_bipush (v := 27) hx hb d_MO_leads_7 (by decide) ?_
    refine lv_icmp_gt (tgt := 16) hx hb d_MO_leads_9 rfl (fun h9 => ?_) (fun h9 => ?_)
    · refine lv_iconst (v := 0) hx hb d_MO_leads_16 (by decide) ?_
      exact W.zret (v := (bI false)) hx hb hr (nb_n _) (fun t ht hW => ⟨(bI false), rfl, by first | (simp only [hasTB, h3, h9, ↓reduceIte, not_true_eq_false, not_false_eq_true, and_true, true_and, and_false, false_and, and_self, or_true, true_or, or_false, false_or, decide_true, decide_false, Bool.false_eq_true, reduceCtorEq]; done) | (simp_all [hasTB]; done), ht.trans hH0.symm⟩) (fun _ h9 => absurd h9 List.not_mem_nil) d_MO_leads_17
    · refine lv_iconst (v := 1) hx hb d_MO_leads_12 (by decide) ?_
      refine lv_goto (tgt := 17) hx hb d_MO_leads_13 rfl ?_
      exact W.zret (v := (bI true)) hx hb hr (nb_n _) (fun t ht hW => ⟨(bI true), rfl, by first | (simp only [hasTB, h3, h9, ↓reduceIte, not_true_eq_false, not_false_eq_true, and_true, true_and, and_false, false_and, and_self, or_true, true_or, or_false, false_or, decide_true, decide_false, Bool.false_eq_true, reduceCtorEq]; done) | (simp_all [hasTB]; done), ht.trans hH0.symm⟩) (fun _ h9 => absurd h9 List.not_mem_nil) d_MO_leads_17
set_option maxHeartbeats 4000000 in
set_option maxRecDepth 100000 in
theorem q_limits (l : Launch) (D : va_G) (cI cZ : ClassId) (o : Nat) (th : Int32) (im : Nat) (tr : Bool) (rc : Nat) (bg : Nat) (ro : Int32) (oa : Nat) (xa : Nat) (ya : Nat) (rg : Nat) (me : Nat) (sa : Nat) (pa : Nat) (za : Nat) (ca : Nat) (kp : Bool) (ta : Nat) (na : Nat) (w : Int32) : MetR l y_MO_limits w_MO_limits { frames := 0, cells := 0, slots := 0, locals := 0 } D cI cZ [.ref o, .int w] [(o, .inr (5, [.int th, .ref im, .int (bI tr), .ref rc, .ref bg, .int ro, .ref oa, .ref xa, .ref ya, .ref rg, .ref me, .ref sa, .ref pa, .ref za, .ref ca, .int (bI kp), .ref ta, .ref na]))] (fun r => r = limM w tr) := by
  refine ofR (cc := c_MO_limits) (maxL := 2) (ret := (some .int)) (by decide) rfl (Nat.le_of_ble_eq_true rfl) ?_
  intro p e s m args below meth c H hH0 hx hb hr hlocks hts hown hml ls hl hP hK hN
  have hown : s.vm.findClass R_MO = some m.cls := hown
  have hl : lv_has ls 2 [(0, .ref o), (1, .int w)] := hl
  refine lv_iload_n hx hb d_MO_limits_0 rfl (lv_at hl 1 rfl) ?_
  refine lv_iconst (v := 1) hx hb d_MO_limits_1 (by decide) ?_
  refine lv_icmp_lt (tgt := 12) hx hb d_MO_limits_2 rfl (fun h2 => ?_) (fun h2 => ?_)
  · refine lv_iconst (v := 1) hx hb d_MO_limits_12 (by decide) ?_
    refine lv_goto (tgt := 28) hx hb d_MO_limits_13 rfl ?_
    exact W.iret (v := 1) hx hb hr (fun t ht hW => ⟨1, rfl, by rw [limM, if_pos h2], ht.trans hH0.symm⟩) (fun _ h9 => absurd h9 List.not_mem_nil) d_MO_limits_28
  · refine lv_iload_n hx hb d_MO_limits_5 rfl (lv_at hl 1 rfl) ?_
    refine lv_sipush (v := 300) hx hb d_MO_limits_6 (by decide) ?_
    refine lv_icmp_le (tgt := 16) hx hb d_MO_limits_9 rfl (fun h9 => ?_) (fun h9 => ?_)
    · refine lv_aload_n hx hb d_MO_limits_16 rfl (lv_at hl 0 rfl) ?_
      refine va_get (D := D) (ci := 5) (v := .int (bI tr)) (C := R_MO) (T := T_MO) (N := 18) hx hb hts iw_MO hown hK hP 0 rfl rfl 2 (by decide) (hts _ k_697) (fun _ h9 => h9) rfl d_MO_limits_17 ?_
      refine lv_if_ne (tgt := 27) hx hb d_MO_limits_20 rfl (fun h20 => ?_) (fun h20 => ?_)
      · have h20 : tr = true := bI_t h20
        refine lv_iconst (v := 0) hx hb d_MO_limits_27 (by decide) ?_
        exact W.iret (v := 0) hx hb hr (fun t ht hW => ⟨0, rfl, by rw [limM, if_neg h2, if_pos h9, if_pos h20], ht.trans hH0.symm⟩) (fun _ h9 => absurd h9 List.not_mem_nil) d_MO_limits_28
      · have h20 : tr = false := bI_f h20
        refine lv_iconst (v := 2) hx hb d_MO_limits_23 (by decide) ?_
        refine lv_goto (tgt := 28) hx hb d_MO_limits_24 rfl ?_
        exact W.iret (v := 2) hx hb hr (fun t ht hW => ⟨2, rfl, by rw [limM, if_neg h2, if_pos h9, if_neg (by rw [h20]; decide)], ht.trans hH0.symm⟩) (fun _ h9 => absurd h9 List.not_mem_nil) d_MO_limits_28
    · refine lv_iconst (v := 1) hx hb d_MO_limits_12 (by decide) ?_
      refine lv_goto (tgt := 28) hx hb d_MO_limits_13 rfl ?_
      exact W.iret (v := 1) hx hb hr (fun t ht hW => ⟨1, rfl, by rw [limM, if_neg h2, if_neg h9], ht.trans hH0.symm⟩) (fun _ h9 => absurd h9 List.not_mem_nil) d_MO_limits_28
set_option maxHeartbeats 4000000 in
set_option maxRecDepth 100000 in
theorem q_image (l : Launch) (D : va_G) (cI cZ : ClassId) (o : Nat) (th : Int32) (im : Nat) (tr : Bool) (rc : Nat) (bg : Nat) (ro : Int32) (oa : Nat) (xa : Nat) (ya : Nat) (rg : Nat) (me : Nat) (sa : Nat) (pa : Nat) (za : Nat) (ca : Nat) (kp : Bool) (ta : Nat) (na : Nat) (fi : Nat → Int32) (ad : Int32) (v : Int32) (sz : Nat) : MetI l y_MO_image w_MO_image { frames := 1, cells := 0, slots := 0, locals := 20 } D cI cZ [.ref o, .int ad, .int v] [(o, .inr (5, [.int th, .ref im, .int (bI tr), .ref rc, .ref bg, .int ro, .ref oa, .ref xa, .ref ya, .ref rg, .ref me, .ref sa, .ref pa, .ref za, .ref ca, .int (bI kp), .ref ta, .ref na])), (im, .inl (cI, 256, .inl fi))] sz (fun r (u : Int32 × (Nat → Int32)) => match u with | (th1, fi1) => r = bI (isByteB ad && isByteB v) ∧ th1 = bI (!(isByteB ad && isByteB v)) ∧ fi1 = (if isByteB ad = true ∧ isByteB v = true then upd fi ad.toNatClampNeg v else fi)) (fun (u : Int32 × (Nat → Int32)) => match u with | (th1, fi1) => [(o, .inr (5, [.int th1, .ref im, .int (bI tr), .ref rc, .ref bg, .int ro, .ref oa, .ref xa, .ref ya, .ref rg, .ref me, .ref sa, .ref pa, .ref za, .ref ca, .int (bI kp), .ref ta, .ref na])), (im, .inl (cI, 256, .inl fi1))]) 0 0 := by
  refine ofI (cc := c_MO_image) (maxL := 3) (ret := (some .boolean)) (by decide) rfl (Nat.le_of_ble_eq_true rfl) ?_
  intro p e s m args below meth c A H hH0 hx hb hr hlocks hts hown hnm hml ls hl hP hK hD hA hS hN
  have hown : s.vm.findClass R_MO = some m.cls := hown
  have hl : lv_has ls 3 [(0, .ref o), (1, .int ad), (2, .int v)] := hl
  refine lv_aload_n hx hb d_MO_image_0 rfl (lv_at hl 0 rfl) ?_
  refine lv_iload_n hx hb d_MO_image_1 rfl (lv_at hl 1 rfl) ?_
  have hPc := hP.sub (ws' := []) [] rfl
  refine vp_callSi (va_runS (As := [.int ad]) (rest := [.ref o]) ⟨hx, hb, hml, hown, hts⟩ (q_isByte l D cI cZ ad) ⟨cB 1 hts k_760 k_62 k_758 hd_MO_isByte ⟨Nat.le_of_ble_eq_true rfl, Nat.le_of_ble_eq_true rfl⟩ rfl rfl, hts _ k_759⟩ (PcR.preS hPc hK hN) rfl rfl hl.1 rfl (lv_room (Nat.le_of_ble_eq_true rfl)) d_MO_image_2 ⟨Nat.le_of_ble_eq_true rfl, Nat.le_of_ble_eq_true rfl⟩).run (fun r2 e2 => ?_)
  replace e2 := e2.symm
  subst e2
  refine lv_if_eq (tgt := 19) hx hb d_MO_image_5 rfl (fun h5 => ?_) (fun h5 => ?_)
  · have h5 : isByteB ad = false := bI_f h5
    refine lv_iconst (v := 1) hx hb d_MO_image_19 (by decide) ?_
    refine va_put (D := D) (ci := 5) (v := .int 1) (ty := .int) (C := R_MO) (T := T_MO) (N := 18) hx hb hts iw_MO ty_MO ty_MO_ok nm_MO hown hK hP hD hS 0 rfl rfl 0 (by decide) (hts _ k_695) (fun _ h9 => h9) rfl (by decide +kernel) rfl rfl (Nat.le_of_ble_eq_true rfl) d_MO_image_20 (fun H locs hP hD hS => ?_)
    have hP : va_P D vwCl [(o, .inr (5, [.int 1, .ref im, .int (bI tr), .ref rc, .ref bg, .int ro, .ref oa, .ref xa, .ref ya, .ref rg, .ref me, .ref sa, .ref pa, .ref za, .ref ca, .int (bI kp), .ref ta, .ref na])), (im, .inl (cI, 256, .inl fi))] H := hP
    have hD : va_D A [(o, .inr (5, [.int 1, .ref im, .int (bI tr), .ref rc, .ref bg, .int ro, .ref oa, .ref xa, .ref ya, .ref rg, .ref me, .ref sa, .ref pa, .ref za, .ref ca, .int (bI kp), .ref ta, .ref na])), (im, .inl (cI, 256, .inl fi))] := hD
    refine lv_aload_n hx hb d_MO_image_23 rfl (lv_at hl 0 rfl) ?_
    refine va_get (D := D) (ci := 5) (v := .int 1) (C := R_MO) (T := T_MO) (N := 18) hx hb hts iw_MO hown hK hP 0 rfl rfl 0 (by decide) (hts _ k_695) (fun _ h9 => h9) rfl d_MO_image_24 ?_
    refine lv_if_le (tgt := 32) hx hb d_MO_image_27 rfl (fun hq9 => absurd hq9 (by decide)) (fun _ => ?_)
    refine lv_iconst (v := 0) hx hb d_MO_image_30 (by decide) ?_
    have hP9 : va_P D vwCl [(o, .inr (5, [.int 1, .ref im, .int (bI tr), .ref rc, .ref bg, .int ro, .ref oa, .ref xa, .ref ya, .ref rg, .ref me, .ref sa, .ref pa, .ref za, .ref ca, .int (bI kp), .ref ta, .ref na])), (im, .inl (cI, 256, .inl fi))] H := hP.sub [0, 1] rfl
    have hD9 : va_D A [(o, .inr (5, [.int 1, .ref im, .int (bI tr), .ref rc, .ref bg, .int ro, .ref oa, .ref xa, .ref ya, .ref rg, .ref me, .ref sa, .ref pa, .ref za, .ref ca, .int (bI kp), .ref ta, .ref na])), (im, .inl (cI, 256, .inl fi))] := hD.sub [0, 1] (by decide) rfl
    exact W.zret (v := (bI false)) hx hb hr (nb_n _) (fun t ht hW => ⟨⟨(bI false), (1, fi), rfl, by rw [h5]; exact ⟨rfl, rfl, rfl⟩, by rw [ht]; exact hP9, va_K.moved hW.alike hK, hD9⟩, hS.F ht⟩) hS.2.2 d_MO_image_31
  · have h5 : isByteB ad = true := bI_t h5
    refine lv_iload_n hx hb d_MO_image_8 rfl (lv_at hl 2 rfl) ?_
    have hPc := hP.sub (ws' := []) [] rfl
    refine vp_callSi (va_runS (As := [.int v]) (rest := [.ref o]) ⟨hx, hb, hml, hown, hts⟩ (q_isByte l D cI cZ v) ⟨cB 1 hts k_760 k_62 k_758 hd_MO_isByte ⟨Nat.le_of_ble_eq_true rfl, Nat.le_of_ble_eq_true rfl⟩ rfl rfl, hts _ k_759⟩ (PcR.preS hPc hK hN) rfl rfl hl.1 rfl (lv_room (Nat.le_of_ble_eq_true rfl)) d_MO_image_9 ⟨Nat.le_of_ble_eq_true rfl, Nat.le_of_ble_eq_true rfl⟩).run (fun r9 e9 => ?_)
    replace e9 := e9.symm
    subst e9
    refine lv_if_eq (tgt := 19) hx hb d_MO_image_12 rfl (fun h12 => ?_) (fun h12 => ?_)
    · have h12 : isByteB v = false := bI_f h12
      refine lv_iconst (v := 1) hx hb d_MO_image_19 (by decide) ?_
      refine va_put (D := D) (ci := 5) (v := .int 1) (ty := .int) (C := R_MO) (T := T_MO) (N := 18) hx hb hts iw_MO ty_MO ty_MO_ok nm_MO hown hK hP hD hS 0 rfl rfl 0 (by decide) (hts _ k_695) (fun _ h9 => h9) rfl (by decide +kernel) rfl rfl (Nat.le_of_ble_eq_true rfl) d_MO_image_20 (fun H locs hP hD hS => ?_)
      have hP : va_P D vwCl [(o, .inr (5, [.int 1, .ref im, .int (bI tr), .ref rc, .ref bg, .int ro, .ref oa, .ref xa, .ref ya, .ref rg, .ref me, .ref sa, .ref pa, .ref za, .ref ca, .int (bI kp), .ref ta, .ref na])), (im, .inl (cI, 256, .inl fi))] H := hP
      have hD : va_D A [(o, .inr (5, [.int 1, .ref im, .int (bI tr), .ref rc, .ref bg, .int ro, .ref oa, .ref xa, .ref ya, .ref rg, .ref me, .ref sa, .ref pa, .ref za, .ref ca, .int (bI kp), .ref ta, .ref na])), (im, .inl (cI, 256, .inl fi))] := hD
      refine lv_aload_n hx hb d_MO_image_23 rfl (lv_at hl 0 rfl) ?_
      refine va_get (D := D) (ci := 5) (v := .int 1) (C := R_MO) (T := T_MO) (N := 18) hx hb hts iw_MO hown hK hP 0 rfl rfl 0 (by decide) (hts _ k_695) (fun _ h9 => h9) rfl d_MO_image_24 ?_
      refine lv_if_le (tgt := 32) hx hb d_MO_image_27 rfl (fun hq9 => absurd hq9 (by decide)) (fun _ => ?_)
      refine lv_iconst (v := 0) hx hb d_MO_image_30 (by decide) ?_
      have hP9 : va_P D vwCl [(o, .inr (5, [.int 1, .ref im, .int (bI tr), .ref rc, .ref bg, .int ro, .ref oa, .ref xa, .ref ya, .ref rg, .ref me, .ref sa, .ref pa, .ref za, .ref ca, .int (bI kp), .ref ta, .ref na])), (im, .inl (cI, 256, .inl fi))] H := hP.sub [0, 1] rfl
      have hD9 : va_D A [(o, .inr (5, [.int 1, .ref im, .int (bI tr), .ref rc, .ref bg, .int ro, .ref oa, .ref xa, .ref ya, .ref rg, .ref me, .ref sa, .ref pa, .ref za, .ref ca, .int (bI kp), .ref ta, .ref na])), (im, .inl (cI, 256, .inl fi))] := hD.sub [0, 1] (by decide) rfl
      exact W.zret (v := (bI false)) hx hb hr (nb_n _) (fun t ht hW => ⟨⟨(bI false), (1, fi), rfl, by rw [h5, h12]; exact ⟨rfl, rfl, rfl⟩, by rw [ht]; exact hP9, va_K.moved hW.alike hK, hD9⟩, hS.F ht⟩) hS.2.2 d_MO_image_31
    · have h12 : isByteB v = true := bI_t h12
      refine lv_iconst (v := 0) hx hb d_MO_image_15 (by decide) ?_
      refine lv_goto (tgt := 20) hx hb d_MO_image_16 rfl ?_
      refine va_put (D := D) (ci := 5) (v := .int 0) (ty := .int) (C := R_MO) (T := T_MO) (N := 18) hx hb hts iw_MO ty_MO ty_MO_ok nm_MO hown hK hP hD hS 0 rfl rfl 0 (by decide) (hts _ k_695) (fun _ h9 => h9) rfl (by decide +kernel) rfl rfl (Nat.le_of_ble_eq_true rfl) d_MO_image_20 (fun H locs hP hD hS => ?_)
      have hP : va_P D vwCl [(o, .inr (5, [.int 0, .ref im, .int (bI tr), .ref rc, .ref bg, .int ro, .ref oa, .ref xa, .ref ya, .ref rg, .ref me, .ref sa, .ref pa, .ref za, .ref ca, .int (bI kp), .ref ta, .ref na])), (im, .inl (cI, 256, .inl fi))] H := hP
      have hD : va_D A [(o, .inr (5, [.int 0, .ref im, .int (bI tr), .ref rc, .ref bg, .int ro, .ref oa, .ref xa, .ref ya, .ref rg, .ref me, .ref sa, .ref pa, .ref za, .ref ca, .int (bI kp), .ref ta, .ref na])), (im, .inl (cI, 256, .inl fi))] := hD
      refine lv_aload_n hx hb d_MO_image_23 rfl (lv_at hl 0 rfl) ?_
      refine va_get (D := D) (ci := 5) (v := .int 0) (C := R_MO) (T := T_MO) (N := 18) hx hb hts iw_MO hown hK hP 0 rfl rfl 0 (by decide) (hts _ k_695) (fun _ h9 => h9) rfl d_MO_image_24 ?_
      refine lv_if_le (tgt := 32) hx hb d_MO_image_27 rfl (fun _ => ?_) (fun hq9 => absurd (by decide) hq9)
      refine lv_aload_n hx hb d_MO_image_32 rfl (lv_at hl 0 rfl) ?_
      refine va_get (D := D) (ci := 5) (v := .ref im) (C := R_MO) (T := T_MO) (N := 18) hx hb hts iw_MO hown hK hP 0 rfl rfl 1 (by decide) (hts _ k_696) (fun _ h9 => h9) rfl d_MO_image_33 ?_
      refine lv_iload_n hx hb d_MO_image_36 rfl (lv_at hl 1 rfl) ?_
      refine lv_iload_n hx hb d_MO_image_37 rfl (lv_at hl 2 rfl) ?_
      refine va_iast hx hb hK hP hD hS 1 0 rfl rfl (isByte_in h5) d_MO_image_38 (fun H locs hP hD hS => ?_)
      have hP : va_P D vwCl [(o, .inr (5, [.int 0, .ref im, .int (bI tr), .ref rc, .ref bg, .int ro, .ref oa, .ref xa, .ref ya, .ref rg, .ref me, .ref sa, .ref pa, .ref za, .ref ca, .int (bI kp), .ref ta, .ref na])), (im, .inl (cI, 256, .inl (upd fi ad.toNatClampNeg v)))] H := hP
      have hD : va_D A [(o, .inr (5, [.int 0, .ref im, .int (bI tr), .ref rc, .ref bg, .int ro, .ref oa, .ref xa, .ref ya, .ref rg, .ref me, .ref sa, .ref pa, .ref za, .ref ca, .int (bI kp), .ref ta, .ref na])), (im, .inl (cI, 256, .inl (upd fi ad.toNatClampNeg v)))] := hD
      refine lv_iconst (v := 1) hx hb d_MO_image_39 (by decide) ?_
      have hP9 : va_P D vwCl [(o, .inr (5, [.int 0, .ref im, .int (bI tr), .ref rc, .ref bg, .int ro, .ref oa, .ref xa, .ref ya, .ref rg, .ref me, .ref sa, .ref pa, .ref za, .ref ca, .int (bI kp), .ref ta, .ref na])), (im, .inl (cI, 256, .inl (upd fi ad.toNatClampNeg v)))] H := hP.sub [0, 1] rfl
      have hD9 : va_D A [(o, .inr (5, [.int 0, .ref im, .int (bI tr), .ref rc, .ref bg, .int ro, .ref oa, .ref xa, .ref ya, .ref rg, .ref me, .ref sa, .ref pa, .ref za, .ref ca, .int (bI kp), .ref ta, .ref na])), (im, .inl (cI, 256, .inl (upd fi ad.toNatClampNeg v)))] := hD.sub [0, 1] (by decide) rfl
      exact W.zret (v := (bI true)) hx hb hr (nb_n _) (fun t ht hW => ⟨⟨(bI true), (0, upd fi ad.toNatClampNeg v), rfl, by rw [h5, h12]; exact ⟨rfl, rfl, rfl⟩, by rw [ht]; exact hP9, va_K.moved hW.alike hK, hD9⟩, hS.F ht⟩) hS.2.2 d_MO_image_40
set_option maxHeartbeats 4000000 in
set_option maxRecDepth 100000 in
theorem q_code (l : Launch) (D : va_G) (cI cZ : ClassId) (o : Nat) (th : Int32) (im : Nat) (tr : Bool) (rc : Nat) (bg : Nat) (ro : Int32) (oa : Nat) (xa : Nat) (ya : Nat) (rg : Nat) (me : Nat) (sa : Nat) (pa : Nat) (za : Nat) (ca : Nat) (kp : Bool) (ta : Nat) (na : Nat) (fo : Nat → Int32) (fx : Nat → Int32) (fy : Nat → Int32) (k : Int32) (w : Int32) (sz : Nat) (hn : ro ≤ 1024) : MetI l y_MO_code w_MO_code { frames := 0, cells := 0, slots := 0, locals := 0 } D cI cZ [.ref o, .int k, .int w] [(o, .inr (5, [.int th, .ref im, .int (bI tr), .ref rc, .ref bg, .int ro, .ref oa, .ref xa, .ref ya, .ref rg, .ref me, .ref sa, .ref pa, .ref za, .ref ca, .int (bI kp), .ref ta, .ref na])), (oa, .inl (cI, 1024, .inl fo)), (xa, .inl (cI, 1024, .inl fx)), (ya, .inl (cI, 1024, .inl fy))] sz (fun r (_ : Unit) => r = partI k w ro fo fx fy) (fun (_ : Unit) => [(o, .inr (5, [.int 0, .ref im, .int (bI tr), .ref rc, .ref bg, .int ro, .ref oa, .ref xa, .ref ya, .ref rg, .ref me, .ref sa, .ref pa, .ref za, .ref ca, .int (bI kp), .ref ta, .ref na])), (oa, .inl (cI, 1024, .inl fo)), (xa, .inl (cI, 1024, .inl fx)), (ya, .inl (cI, 1024, .inl fy))]) 0 0 := by
  refine ofI (cc := c_MO_code) (maxL := 3) (ret := (some .int)) (by decide) rfl (Nat.le_of_ble_eq_true rfl) ?_
  intro p e s m args below meth c A H hH0 hx hb hr hlocks hts hown hnm hml ls hl hP hK hD hA hS hN
  have hown : s.vm.findClass R_MO = some m.cls := hown
  have hl : lv_has ls 3 [(0, .ref o), (1, .int k), (2, .int w)] := hl
  refine lv_aload_n hx hb d_MO_code_0 rfl (lv_at hl 0 rfl) ?_
  refine lv_iconst (v := 0) hx hb d_MO_code_1 (by decide) ?_
  refine va_put (D := D) (ci := 5) (v := .int 0) (ty := .int) (C := R_MO) (T := T_MO) (N := 18) hx hb hts iw_MO ty_MO ty_MO_ok nm_MO hown hK hP hD hS 0 rfl rfl 0 (by decide) (hts _ k_695) (fun _ h9 => h9) rfl (by decide +kernel) rfl rfl (Nat.le_of_ble_eq_true rfl) d_MO_code_2 (fun H locs hP hD hS => ?_)
  have hP : va_P D vwCl [(o, .inr (5, [.int 0, .ref im, .int (bI tr), .ref rc, .ref bg, .int ro, .ref oa, .ref xa, .ref ya, .ref rg, .ref me, .ref sa, .ref pa, .ref za, .ref ca, .int (bI kp), .ref ta, .ref na])), (oa, .inl (cI, 1024, .inl fo)), (xa, .inl (cI, 1024, .inl fx)), (ya, .inl (cI, 1024, .inl fy))] H := hP
  have hD : va_D A [(o, .inr (5, [.int 0, .ref im, .int (bI tr), .ref rc, .ref bg, .int ro, .ref oa, .ref xa, .ref ya, .ref rg, .ref me, .ref sa, .ref pa, .ref za, .ref ca, .int (bI kp), .ref ta, .ref na])), (oa, .inl (cI, 1024, .inl fo)), (xa, .inl (cI, 1024, .inl fx)), (ya, .inl (cI, 1024, .inl fy))] := hD
  refine lv_iload_n hx hb d_MO_code_5 rfl (lv_at hl 1 rfl) ?_
  refine lv_if_lt (tgt := 17) hx hb d_MO_code_6 rfl (fun h6 => ?_) (fun h6 => ?_)
  · refine lv_iconst (v := (-1)) hx hb d_MO_code_17 (by decide) ?_
    have hP9 : va_P D vwCl [(o, .inr (5, [.int 0, .ref im, .int (bI tr), .ref rc, .ref bg, .int ro, .ref oa, .ref xa, .ref ya, .ref rg, .ref me, .ref sa, .ref pa, .ref za, .ref ca, .int (bI kp), .ref ta, .ref na])), (oa, .inl (cI, 1024, .inl fo)), (xa, .inl (cI, 1024, .inl fx)), (ya, .inl (cI, 1024, .inl fy))] H := hP.sub [0, 1, 2, 3] rfl
    have hD9 : va_D A [(o, .inr (5, [.int 0, .ref im, .int (bI tr), .ref rc, .ref bg, .int ro, .ref oa, .ref xa, .ref ya, .ref rg, .ref me, .ref sa, .ref pa, .ref za, .ref ca, .int (bI kp), .ref ta, .ref na])), (oa, .inl (cI, 1024, .inl fo)), (xa, .inl (cI, 1024, .inl fx)), (ya, .inl (cI, 1024, .inl fy))] := hD.sub [0, 1, 2, 3] (by decide) rfl
    exact W.iret (v := (-1)) hx hb hr (fun t ht hW => ⟨⟨(-1), (), rfl, by rw [partI, if_pos h6], by rw [ht]; exact hP9, va_K.moved hW.alike hK, hD9⟩, hS.F ht⟩) hS.2.2 d_MO_code_18
  · refine lv_iload_n hx hb d_MO_code_9 rfl (lv_at hl 1 rfl) ?_
    refine lv_aload_n hx hb d_MO_code_10 rfl (lv_at hl 0 rfl) ?_
    refine va_get (D := D) (ci := 5) (v := .int ro) (C := R_MO) (T := T_MO) (N := 18) hx hb hts iw_MO hown hK hP 0 rfl rfl 5 (by decide) (hts _ k_700) (fun _ h9 => h9) rfl d_MO_code_11 ?_
    refine lv_icmp_lt (tgt := 19) hx hb d_MO_code_14 rfl (fun h14 => ?_) (fun h14 => ?_)
    · refine lv_iload_n hx hb d_MO_code_19 rfl (lv_at hl 2 rfl) ?_
      refine lv_if_ne (tgt := 32) hx hb d_MO_code_20 rfl (fun h20 => ?_) (fun h20 => ?_)
      · refine lv_iload_n hx hb d_MO_code_32 rfl (lv_at hl 2 rfl) ?_
        refine lv_iconst (v := 1) hx hb d_MO_code_33 (by decide) ?_
        refine lv_icmp_ne (tgt := 46) hx hb d_MO_code_34 rfl (fun h34 => ?_) (fun h34 => ?_)
        · refine lv_iload_n hx hb d_MO_code_46 rfl (lv_at hl 2 rfl) ?_
          refine lv_iconst (v := 2) hx hb d_MO_code_47 (by decide) ?_
          refine lv_icmp_ne (tgt := 60) hx hb d_MO_code_48 rfl (fun h48 => ?_) (fun h48 => ?_)
          · refine lv_iconst (v := (-1)) hx hb d_MO_code_60 (by decide) ?_
            have hP9 : va_P D vwCl [(o, .inr (5, [.int 0, .ref im, .int (bI tr), .ref rc, .ref bg, .int ro, .ref oa, .ref xa, .ref ya, .ref rg, .ref me, .ref sa, .ref pa, .ref za, .ref ca, .int (bI kp), .ref ta, .ref na])), (oa, .inl (cI, 1024, .inl fo)), (xa, .inl (cI, 1024, .inl fx)), (ya, .inl (cI, 1024, .inl fy))] H := hP.sub [0, 1, 2, 3] rfl
            have hD9 : va_D A [(o, .inr (5, [.int 0, .ref im, .int (bI tr), .ref rc, .ref bg, .int ro, .ref oa, .ref xa, .ref ya, .ref rg, .ref me, .ref sa, .ref pa, .ref za, .ref ca, .int (bI kp), .ref ta, .ref na])), (oa, .inl (cI, 1024, .inl fo)), (xa, .inl (cI, 1024, .inl fx)), (ya, .inl (cI, 1024, .inl fy))] := hD.sub [0, 1, 2, 3] (by decide) rfl
            exact W.iret (v := (-1)) hx hb hr (fun t ht hW => ⟨⟨(-1), (), rfl, by rw [partI, if_neg h6, if_pos h14, if_neg h20, if_neg h34, if_neg h48], by rw [ht]; exact hP9, va_K.moved hW.alike hK, hD9⟩, hS.F ht⟩) hS.2.2 d_MO_code_61
          · refine lv_aload_n hx hb d_MO_code_51 rfl (lv_at hl 0 rfl) ?_
            refine va_get (D := D) (ci := 5) (v := .ref ya) (C := R_MO) (T := T_MO) (N := 18) hx hb hts iw_MO hown hK hP 0 rfl rfl 8 (by decide) (hts _ k_703) (fun _ h9 => h9) rfl d_MO_code_52 ?_
            refine lv_iload_n hx hb d_MO_code_55 rfl (lv_at hl 1 rfl) ?_
            refine va_iald hx hb hK hP 3 0 rfl rfl (idx_in h6 h14 hn) d_MO_code_56 ?_
            refine lv_goto (tgt := 61) hx hb d_MO_code_57 rfl ?_
            have hP9 : va_P D vwCl [(o, .inr (5, [.int 0, .ref im, .int (bI tr), .ref rc, .ref bg, .int ro, .ref oa, .ref xa, .ref ya, .ref rg, .ref me, .ref sa, .ref pa, .ref za, .ref ca, .int (bI kp), .ref ta, .ref na])), (oa, .inl (cI, 1024, .inl fo)), (xa, .inl (cI, 1024, .inl fx)), (ya, .inl (cI, 1024, .inl fy))] H := hP.sub [0, 1, 2, 3] rfl
            have hD9 : va_D A [(o, .inr (5, [.int 0, .ref im, .int (bI tr), .ref rc, .ref bg, .int ro, .ref oa, .ref xa, .ref ya, .ref rg, .ref me, .ref sa, .ref pa, .ref za, .ref ca, .int (bI kp), .ref ta, .ref na])), (oa, .inl (cI, 1024, .inl fo)), (xa, .inl (cI, 1024, .inl fx)), (ya, .inl (cI, 1024, .inl fy))] := hD.sub [0, 1, 2, 3] (by decide) rfl
            exact W.iret (v := (fy k.toNatClampNeg)) hx hb hr (fun t ht hW => ⟨⟨(fy k.toNatClampNeg), (), rfl, by rw [partI, if_neg h6, if_pos h14, if_neg h20, if_neg h34, if_pos h48], by rw [ht]; exact hP9, va_K.moved hW.alike hK, hD9⟩, hS.F ht⟩) hS.2.2 d_MO_code_61
        · refine lv_aload_n hx hb d_MO_code_37 rfl (lv_at hl 0 rfl) ?_
          refine va_get (D := D) (ci := 5) (v := .ref xa) (C := R_MO) (T := T_MO) (N := 18) hx hb hts iw_MO hown hK hP 0 rfl rfl 7 (by decide) (hts _ k_702) (fun _ h9 => h9) rfl d_MO_code_38 ?_
          refine lv_iload_n hx hb d_MO_code_41 rfl (lv_at hl 1 rfl) ?_
          refine va_iald hx hb hK hP 2 0 rfl rfl (idx_in h6 h14 hn) d_MO_code_42 ?_
          refine lv_goto (tgt := 61) hx hb d_MO_code_43 rfl ?_
          have hP9 : va_P D vwCl [(o, .inr (5, [.int 0, .ref im, .int (bI tr), .ref rc, .ref bg, .int ro, .ref oa, .ref xa, .ref ya, .ref rg, .ref me, .ref sa, .ref pa, .ref za, .ref ca, .int (bI kp), .ref ta, .ref na])), (oa, .inl (cI, 1024, .inl fo)), (xa, .inl (cI, 1024, .inl fx)), (ya, .inl (cI, 1024, .inl fy))] H := hP.sub [0, 1, 2, 3] rfl
          have hD9 : va_D A [(o, .inr (5, [.int 0, .ref im, .int (bI tr), .ref rc, .ref bg, .int ro, .ref oa, .ref xa, .ref ya, .ref rg, .ref me, .ref sa, .ref pa, .ref za, .ref ca, .int (bI kp), .ref ta, .ref na])), (oa, .inl (cI, 1024, .inl fo)), (xa, .inl (cI, 1024, .inl fx)), (ya, .inl (cI, 1024, .inl fy))] := hD.sub [0, 1, 2, 3] (by decide) rfl
          exact W.iret (v := (fx k.toNatClampNeg)) hx hb hr (fun t ht hW => ⟨⟨(fx k.toNatClampNeg), (), rfl, by rw [partI, if_neg h6, if_pos h14, if_neg h20, if_pos h34], by rw [ht]; exact hP9, va_K.moved hW.alike hK, hD9⟩, hS.F ht⟩) hS.2.2 d_MO_code_61
      · refine lv_aload_n hx hb d_MO_code_23 rfl (lv_at hl 0 rfl) ?_
        refine va_get (D := D) (ci := 5) (v := .ref oa) (C := R_MO) (T := T_MO) (N := 18) hx hb hts iw_MO hown hK hP 0 rfl rfl 6 (by decide) (hts _ k_701) (fun _ h9 => h9) rfl d_MO_code_24 ?_
        refine lv_iload_n hx hb d_MO_code_27 rfl (lv_at hl 1 rfl) ?_
        refine va_iald hx hb hK hP 1 0 rfl rfl (idx_in h6 h14 hn) d_MO_code_28 ?_
        refine lv_goto (tgt := 61) hx hb d_MO_code_29 rfl ?_
        have hP9 : va_P D vwCl [(o, .inr (5, [.int 0, .ref im, .int (bI tr), .ref rc, .ref bg, .int ro, .ref oa, .ref xa, .ref ya, .ref rg, .ref me, .ref sa, .ref pa, .ref za, .ref ca, .int (bI kp), .ref ta, .ref na])), (oa, .inl (cI, 1024, .inl fo)), (xa, .inl (cI, 1024, .inl fx)), (ya, .inl (cI, 1024, .inl fy))] H := hP.sub [0, 1, 2, 3] rfl
        have hD9 : va_D A [(o, .inr (5, [.int 0, .ref im, .int (bI tr), .ref rc, .ref bg, .int ro, .ref oa, .ref xa, .ref ya, .ref rg, .ref me, .ref sa, .ref pa, .ref za, .ref ca, .int (bI kp), .ref ta, .ref na])), (oa, .inl (cI, 1024, .inl fo)), (xa, .inl (cI, 1024, .inl fx)), (ya, .inl (cI, 1024, .inl fy))] := hD.sub [0, 1, 2, 3] (by decide) rfl
        exact W.iret (v := (fo k.toNatClampNeg)) hx hb hr (fun t ht hW => ⟨⟨(fo k.toNatClampNeg), (), rfl, by rw [partI, if_neg h6, if_pos h14, if_pos h20], by rw [ht]; exact hP9, va_K.moved hW.alike hK, hD9⟩, hS.F ht⟩) hS.2.2 d_MO_code_61
    · refine lv_iconst (v := (-1)) hx hb d_MO_code_17 (by decide) ?_
      have hP9 : va_P D vwCl [(o, .inr (5, [.int 0, .ref im, .int (bI tr), .ref rc, .ref bg, .int ro, .ref oa, .ref xa, .ref ya, .ref rg, .ref me, .ref sa, .ref pa, .ref za, .ref ca, .int (bI kp), .ref ta, .ref na])), (oa, .inl (cI, 1024, .inl fo)), (xa, .inl (cI, 1024, .inl fx)), (ya, .inl (cI, 1024, .inl fy))] H := hP.sub [0, 1, 2, 3] rfl
      have hD9 : va_D A [(o, .inr (5, [.int 0, .ref im, .int (bI tr), .ref rc, .ref bg, .int ro, .ref oa, .ref xa, .ref ya, .ref rg, .ref me, .ref sa, .ref pa, .ref za, .ref ca, .int (bI kp), .ref ta, .ref na])), (oa, .inl (cI, 1024, .inl fo)), (xa, .inl (cI, 1024, .inl fx)), (ya, .inl (cI, 1024, .inl fy))] := hD.sub [0, 1, 2, 3] (by decide) rfl
      exact W.iret (v := (-1)) hx hb hr (fun t ht hW => ⟨⟨(-1), (), rfl, by rw [partI, if_neg h6, if_neg h14], by rw [ht]; exact hP9, va_K.moved hW.alike hK, hD9⟩, hS.F ht⟩) hS.2.2 d_MO_code_18
set_option maxHeartbeats 4000000 in
set_option maxRecDepth 100000 in
theorem q_mapped (l : Launch) (D : va_G) (cI cZ : ClassId) (o : Nat) (th : Int32) (im : Nat) (tr : Bool) (rc : Nat) (bg : Nat) (ro : Int32) (oa : Nat) (xa : Nat) (ya : Nat) (rg : Nat) (me : Nat) (sa : Nat) (pa : Nat) (za : Nat) (ca : Nat) (kp : Bool) (ta : Nat) (na : Nat) (fw : Nat → Int32) (ad : Int32) (sz : Nat) : MetI l y_MO_mapped w_MO_mapped { frames := 1, cells := 0, slots := 0, locals := 20 } D cI cZ [.ref o, .int ad] [(o, .inr (5, [.int th, .ref im, .int (bI tr), .ref rc, .ref bg, .int ro, .ref oa, .ref xa, .ref ya, .ref rg, .ref me, .ref sa, .ref pa, .ref za, .ref ca, .int (bI kp), .ref ta, .ref na])), (bg, .inl (cI, 256, .inl fw))] sz (fun r (_ : Unit) => r = begI fw ad) (fun (_ : Unit) => [(o, .inr (5, [.int 0, .ref im, .int (bI tr), .ref rc, .ref bg, .int ro, .ref oa, .ref xa, .ref ya, .ref rg, .ref me, .ref sa, .ref pa, .ref za, .ref ca, .int (bI kp), .ref ta, .ref na])), (bg, .inl (cI, 256, .inl fw))]) 0 0 := by
  refine ofI (cc := c_MO_mapped) (maxL := 2) (ret := (some .int)) (by decide) rfl (Nat.le_of_ble_eq_true rfl) ?_
  intro p e s m args below meth c A H hH0 hx hb hr hlocks hts hown hnm hml ls hl hP hK hD hA hS hN
  have hown : s.vm.findClass R_MO = some m.cls := hown
  have hl : lv_has ls 2 [(0, .ref o), (1, .int ad)] := hl
  refine lv_aload_n hx hb d_MO_mapped_0 rfl (lv_at hl 0 rfl) ?_
  refine lv_iconst (v := 0) hx hb d_MO_mapped_1 (by decide) ?_
  refine va_put (D := D) (ci := 5) (v := .int 0) (ty := .int) (C := R_MO) (T := T_MO) (N := 18) hx hb hts iw_MO ty_MO ty_MO_ok nm_MO hown hK hP hD hS 0 rfl rfl 0 (by decide) (hts _ k_695) (fun _ h9 => h9) rfl (by decide +kernel) rfl rfl (Nat.le_of_ble_eq_true rfl) d_MO_mapped_2 (fun H locs hP hD hS => ?_)
  have hP : va_P D vwCl [(o, .inr (5, [.int 0, .ref im, .int (bI tr), .ref rc, .ref bg, .int ro, .ref oa, .ref xa, .ref ya, .ref rg, .ref me, .ref sa, .ref pa, .ref za, .ref ca, .int (bI kp), .ref ta, .ref na])), (bg, .inl (cI, 256, .inl fw))] H := hP
  have hD : va_D A [(o, .inr (5, [.int 0, .ref im, .int (bI tr), .ref rc, .ref bg, .int ro, .ref oa, .ref xa, .ref ya, .ref rg, .ref me, .ref sa, .ref pa, .ref za, .ref ca, .int (bI kp), .ref ta, .ref na])), (bg, .inl (cI, 256, .inl fw))] := hD
  refine lv_iload_n hx hb d_MO_mapped_5 rfl (lv_at hl 1 rfl) ?_
  have hPc := hP.sub (ws' := []) [] rfl
  refine vp_callSi (va_runS (As := [.int ad]) (rest := []) ⟨hx, hb, hml, hown, hts⟩ (q_isByte l D cI cZ ad) ⟨cB 1 hts k_760 k_62 k_758 hd_MO_isByte ⟨Nat.le_of_ble_eq_true rfl, Nat.le_of_ble_eq_true rfl⟩ rfl rfl, hts _ k_759⟩ (PcR.preS hPc hK hN) rfl rfl hl.1 rfl (lv_room (Nat.le_of_ble_eq_true rfl)) d_MO_mapped_6 ⟨Nat.le_of_ble_eq_true rfl, Nat.le_of_ble_eq_true rfl⟩).run (fun r6 e6 => ?_)
  replace e6 := e6.symm
  subst e6
  refine lv_if_eq (tgt := 21) hx hb d_MO_mapped_9 rfl (fun h9 => ?_) (fun h9 => ?_)
  · have h9 : isByteB ad = false := bI_f h9
    refine lv_iconst (v := (-1)) hx hb d_MO_mapped_21 (by decide) ?_
    have hP9 : va_P D vwCl [(o, .inr (5, [.int 0, .ref im, .int (bI tr), .ref rc, .ref bg, .int ro, .ref oa, .ref xa, .ref ya, .ref rg, .ref me, .ref sa, .ref pa, .ref za, .ref ca, .int (bI kp), .ref ta, .ref na])), (bg, .inl (cI, 256, .inl fw))] H := hP.sub [0, 1] rfl
    have hD9 : va_D A [(o, .inr (5, [.int 0, .ref im, .int (bI tr), .ref rc, .ref bg, .int ro, .ref oa, .ref xa, .ref ya, .ref rg, .ref me, .ref sa, .ref pa, .ref za, .ref ca, .int (bI kp), .ref ta, .ref na])), (bg, .inl (cI, 256, .inl fw))] := hD.sub [0, 1] (by decide) rfl
    exact W.iret (v := (-1)) hx hb hr (fun t ht hW => ⟨⟨(-1), (), rfl, by rw [begI, if_neg (by rw [h9]; decide)], by rw [ht]; exact hP9, va_K.moved hW.alike hK, hD9⟩, hS.F ht⟩) hS.2.2 d_MO_mapped_22
  · have h9 : isByteB ad = true := bI_t h9
    refine lv_aload_n hx hb d_MO_mapped_12 rfl (lv_at hl 0 rfl) ?_
    refine va_get (D := D) (ci := 5) (v := .ref bg) (C := R_MO) (T := T_MO) (N := 18) hx hb hts iw_MO hown hK hP 0 rfl rfl 4 (by decide) (hts _ k_699) (fun _ h9 => h9) rfl d_MO_mapped_13 ?_
    refine lv_iload_n hx hb d_MO_mapped_16 rfl (lv_at hl 1 rfl) ?_
    refine va_iald hx hb hK hP 1 0 rfl rfl (isByte_in h9) d_MO_mapped_17 ?_
    refine lv_goto (tgt := 22) hx hb d_MO_mapped_18 rfl ?_
    have hP9 : va_P D vwCl [(o, .inr (5, [.int 0, .ref im, .int (bI tr), .ref rc, .ref bg, .int ro, .ref oa, .ref xa, .ref ya, .ref rg, .ref me, .ref sa, .ref pa, .ref za, .ref ca, .int (bI kp), .ref ta, .ref na])), (bg, .inl (cI, 256, .inl fw))] H := hP.sub [0, 1] rfl
    have hD9 : va_D A [(o, .inr (5, [.int 0, .ref im, .int (bI tr), .ref rc, .ref bg, .int ro, .ref oa, .ref xa, .ref ya, .ref rg, .ref me, .ref sa, .ref pa, .ref za, .ref ca, .int (bI kp), .ref ta, .ref na])), (bg, .inl (cI, 256, .inl fw))] := hD.sub [0, 1] (by decide) rfl
    exact W.iret (v := (fw ad.toNatClampNeg)) hx hb hr (fun t ht hW => ⟨⟨(fw ad.toNatClampNeg), (), rfl, by rw [begI, if_pos h9], by rw [ht]; exact hP9, va_K.moved hW.alike hK, hD9⟩, hS.F ht⟩) hS.2.2 d_MO_mapped_22
set_option maxHeartbeats 4000000 in
set_option maxRecDepth 100000 in
theorem q_look0 (l : Launch) (D : va_G) (cI cZ : ClassId) (o : Nat) (th : Int32) (im : Nat) (tr : Bool) (rc : Nat) (bg : Nat) (ro : Int32) (oa : Nat) (xa : Nat) (ya : Nat) (rg : Nat) (me : Nat) (sa : Nat) (pa : Nat) (za : Nat) (ca : Nat) (kp : Bool) (ta : Nat) (na : Nat) (a : Int32) (x : Int32) (d : Int32) (b0 : Int32) (b1 : Int32) (b2 : Int32) (s0 : Int32) (s1 : Int32) (p0 : Int32) (p1 : Int32) (z0 : Bool) (z1 : Bool) (c0 : Bool) (c1 : Bool) (t0 : Int32) (t1 : Int32) (n0 : Int32) (n1 : Int32) (w : Int32) (sz : Nat) : MetI l y_MO_look w_MO_look { frames := 0, cells := 0, slots := 0, locals := 0 } D cI cZ [.ref o, .int 0, .int w] [(o, .inr (5, [.int th, .ref im, .int (bI tr), .ref rc, .ref bg, .int ro, .ref oa, .ref xa, .ref ya, .ref rg, .ref me, .ref sa, .ref pa, .ref za, .ref ca, .int (bI kp), .ref ta, .ref na])), (rg, .inl (cI, 6, .inl (rg6 a x d b0 b1 b2))), (sa, .inl (cI, 2, .inl (p2 s0 s1))), (pa, .inl (cI, 2, .inl (p2 p0 p1))), (za, .inl (cZ, 2, .inl (p2 (bI z0) (bI z1)))), (ca, .inl (cZ, 2, .inl (p2 (bI c0) (bI c1)))), (ta, .inl (cI, 2, .inl (p2 t0 t1))), (na, .inl (cI, 2, .inl (p2 n0 n1)))] sz (fun r (_ : Unit) => r = vwI w a x s0 p0 z0 c0 t0 n0) (fun (_ : Unit) => [(o, .inr (5, [.int 0, .ref im, .int (bI tr), .ref rc, .ref bg, .int ro, .ref oa, .ref xa, .ref ya, .ref rg, .ref me, .ref sa, .ref pa, .ref za, .ref ca, .int (bI kp), .ref ta, .ref na])), (rg, .inl (cI, 6, .inl (rg6 a x d b0 b1 b2))), (sa, .inl (cI, 2, .inl (p2 s0 s1))), (pa, .inl (cI, 2, .inl (p2 p0 p1))), (za, .inl (cZ, 2, .inl (p2 (bI z0) (bI z1)))), (ca, .inl (cZ, 2, .inl (p2 (bI c0) (bI c1)))), (ta, .inl (cI, 2, .inl (p2 t0 t1))), (na, .inl (cI, 2, .inl (p2 n0 n1)))]) 0 0 := by
  refine ofI (cc := c_MO_look) (maxL := 3) (ret := (some .int)) (by decide) rfl (Nat.le_of_ble_eq_true rfl) ?_
  intro p e s m args below meth c A H hH0 hx hb hr hlocks hts hown hnm hml ls hl hP hK hD hA hS hN
  have hown : s.vm.findClass R_MO = some m.cls := hown
  have hl : lv_has ls 3 [(0, .ref o), (1, .int 0), (2, .int w)] := hl
  refine lv_aload_n hx hb d_MO_look_0 rfl (lv_at hl 0 rfl) ?_
  refine lv_iconst (v := 0) hx hb d_MO_look_1 (by decide) ?_
  refine va_put (D := D) (ci := 5) (v := .int 0) (ty := .int) (C := R_MO) (T := T_MO) (N := 18) hx hb hts iw_MO ty_MO ty_MO_ok nm_MO hown hK hP hD hS 0 rfl rfl 0 (by decide) (hts _ k_695) (fun _ h9 => h9) rfl (by decide +kernel) rfl rfl (Nat.le_of_ble_eq_true rfl) d_MO_look_2 (fun H locs hP hD hS => ?_)
  have hP : va_P D vwCl [(o, .inr (5, [.int 0, .ref im, .int (bI tr), .ref rc, .ref bg, .int ro, .ref oa, .ref xa, .ref ya, .ref rg, .ref me, .ref sa, .ref pa, .ref za, .ref ca, .int (bI kp), .ref ta, .ref na])), (rg, .inl (cI, 6, .inl (rg6 a x d b0 b1 b2))), (sa, .inl (cI, 2, .inl (p2 s0 s1))), (pa, .inl (cI, 2, .inl (p2 p0 p1))), (za, .inl (cZ, 2, .inl (p2 (bI z0) (bI z1)))), (ca, .inl (cZ, 2, .inl (p2 (bI c0) (bI c1)))), (ta, .inl (cI, 2, .inl (p2 t0 t1))), (na, .inl (cI, 2, .inl (p2 n0 n1)))] H := hP
  have hD : va_D A [(o, .inr (5, [.int 0, .ref im, .int (bI tr), .ref rc, .ref bg, .int ro, .ref oa, .ref xa, .ref ya, .ref rg, .ref me, .ref sa, .ref pa, .ref za, .ref ca, .int (bI kp), .ref ta, .ref na])), (rg, .inl (cI, 6, .inl (rg6 a x d b0 b1 b2))), (sa, .inl (cI, 2, .inl (p2 s0 s1))), (pa, .inl (cI, 2, .inl (p2 p0 p1))), (za, .inl (cZ, 2, .inl (p2 (bI z0) (bI z1)))), (ca, .inl (cZ, 2, .inl (p2 (bI c0) (bI c1)))), (ta, .inl (cI, 2, .inl (p2 t0 t1))), (na, .inl (cI, 2, .inl (p2 n0 n1)))] := hD
  refine lv_iload_n hx hb d_MO_look_5 rfl (lv_at hl 1 rfl) ?_
  refine lv_if_lt (tgt := 14) hx hb d_MO_look_6 rfl (fun hq9 => absurd hq9 (by decide)) (fun _ => ?_)
  refine lv_iload_n hx hb d_MO_look_9 rfl (lv_at hl 1 rfl) ?_
  refine lv_iconst (v := 1) hx hb d_MO_look_10 (by decide) ?_
  refine lv_icmp_le (tgt := 16) hx hb d_MO_look_11 rfl (fun _ => ?_) (fun hq9 => absurd (by decide) hq9)
  refine lv_iload_n hx hb d_MO_look_16 rfl (lv_at hl 2 rfl) ?_
  rcases sw_cases w 0 10 with h17 | ⟨j17, hj17, h17⟩
  · refine lv_tableOut (tgt := 183) hx hb d_MO_look_17 h17 rfl ?_
    have n17_0 : ¬ w = 0 := fun h9 => by rw [h9] at h17; revert h17; decide
    have n17_1 : ¬ w = 1 := fun h9 => by rw [h9] at h17; revert h17; decide
    have n17_2 : ¬ w = 2 := fun h9 => by rw [h9] at h17; revert h17; decide
    have n17_3 : ¬ w = 3 := fun h9 => by rw [h9] at h17; revert h17; decide
    have n17_4 : ¬ w = 4 := fun h9 => by rw [h9] at h17; revert h17; decide
    have n17_5 : ¬ w = 5 := fun h9 => by rw [h9] at h17; revert h17; decide
    have n17_6 : ¬ w = 6 := fun h9 => by rw [h9] at h17; revert h17; decide
    have n17_7 : ¬ w = 7 := fun h9 => by rw [h9] at h17; revert h17; decide
    have n17_8 : ¬ w = 8 := fun h9 => by rw [h9] at h17; revert h17; decide
    have n17_9 : ¬ w = 9 := fun h9 => by rw [h9] at h17; revert h17; decide
    refine lv_iconst (v := (-1)) hx hb d_MO_look_183 (by decide) ?_
    have hP9 : va_P D vwCl [(o, .inr (5, [.int 0, .ref im, .int (bI tr), .ref rc, .ref bg, .int ro, .ref oa, .ref xa, .ref ya, .ref rg, .ref me, .ref sa, .ref pa, .ref za, .ref ca, .int (bI kp), .ref ta, .ref na])), (rg, .inl (cI, 6, .inl (rg6 a x d b0 b1 b2))), (sa, .inl (cI, 2, .inl (p2 s0 s1))), (pa, .inl (cI, 2, .inl (p2 p0 p1))), (za, .inl (cZ, 2, .inl (p2 (bI z0) (bI z1)))), (ca, .inl (cZ, 2, .inl (p2 (bI c0) (bI c1)))), (ta, .inl (cI, 2, .inl (p2 t0 t1))), (na, .inl (cI, 2, .inl (p2 n0 n1)))] H := hP.sub [0, 1, 2, 3, 4, 5, 6, 7] rfl
    have hD9 : va_D A [(o, .inr (5, [.int 0, .ref im, .int (bI tr), .ref rc, .ref bg, .int ro, .ref oa, .ref xa, .ref ya, .ref rg, .ref me, .ref sa, .ref pa, .ref za, .ref ca, .int (bI kp), .ref ta, .ref na])), (rg, .inl (cI, 6, .inl (rg6 a x d b0 b1 b2))), (sa, .inl (cI, 2, .inl (p2 s0 s1))), (pa, .inl (cI, 2, .inl (p2 p0 p1))), (za, .inl (cZ, 2, .inl (p2 (bI z0) (bI z1)))), (ca, .inl (cZ, 2, .inl (p2 (bI c0) (bI c1)))), (ta, .inl (cI, 2, .inl (p2 t0 t1))), (na, .inl (cI, 2, .inl (p2 n0 n1)))] := hD.sub [0, 1, 2, 3, 4, 5, 6, 7] (by decide) rfl
    exact W.iret (v := (-1)) hx hb hr (fun t ht hW => ⟨⟨(-1), (), rfl, by rw [vwI, if_neg n17_0, if_neg n17_1, if_neg n17_2, if_neg n17_3, if_neg n17_4, if_neg n17_5, if_neg n17_6, if_neg n17_7, if_neg n17_8, if_neg n17_9], by rw [ht]; exact hP9, va_K.moved hW.alike hK, hD9⟩, hS.F ht⟩) hS.2.2 d_MO_look_184
  · match j17, hj17, h17 with
    | 0, _, h17 =>
      have h17 : w = 0 := h17
      refine lv_tableIn (off := 55) (tgt := 72) hx hb d_MO_look_17 (by rw [h17]; decide) (by rw [h17]; decide) (by rw [h17]; rfl) rfl ?_
      refine lv_aload_n hx hb d_MO_look_72 rfl (lv_at hl 0 rfl) ?_
      refine va_get (D := D) (ci := 5) (v := .ref rg) (C := R_MO) (T := T_MO) (N := 18) hx hb hts iw_MO hown hK hP 0 rfl rfl 9 (by decide) (hts _ k_704) (fun _ h9 => h9) rfl d_MO_look_73 ?_
      refine lv_iconst (v := 3) hx hb d_MO_look_76 (by decide) ?_
      refine lv_iload_n hx hb d_MO_look_77 rfl (lv_at hl 1 rfl) ?_
      refine lv_imul hx hb d_MO_look_78 ?_
      refine va_iald hx hb hK hP 1 0 rfl rfl (vp_in_nI (n := 0) (by decide) (by decide)) d_MO_look_79 ?_
      have hP9 : va_P D vwCl [(o, .inr (5, [.int 0, .ref im, .int (bI tr), .ref rc, .ref bg, .int ro, .ref oa, .ref xa, .ref ya, .ref rg, .ref me, .ref sa, .ref pa, .ref za, .ref ca, .int (bI kp), .ref ta, .ref na])), (rg, .inl (cI, 6, .inl (rg6 a x d b0 b1 b2))), (sa, .inl (cI, 2, .inl (p2 s0 s1))), (pa, .inl (cI, 2, .inl (p2 p0 p1))), (za, .inl (cZ, 2, .inl (p2 (bI z0) (bI z1)))), (ca, .inl (cZ, 2, .inl (p2 (bI c0) (bI c1)))), (ta, .inl (cI, 2, .inl (p2 t0 t1))), (na, .inl (cI, 2, .inl (p2 n0 n1)))] H := hP.sub [0, 1, 2, 3, 4, 5, 6, 7] rfl
      have hD9 : va_D A [(o, .inr (5, [.int 0, .ref im, .int (bI tr), .ref rc, .ref bg, .int ro, .ref oa, .ref xa, .ref ya, .ref rg, .ref me, .ref sa, .ref pa, .ref za, .ref ca, .int (bI kp), .ref ta, .ref na])), (rg, .inl (cI, 6, .inl (rg6 a x d b0 b1 b2))), (sa, .inl (cI, 2, .inl (p2 s0 s1))), (pa, .inl (cI, 2, .inl (p2 p0 p1))), (za, .inl (cZ, 2, .inl (p2 (bI z0) (bI z1)))), (ca, .inl (cZ, 2, .inl (p2 (bI c0) (bI c1)))), (ta, .inl (cI, 2, .inl (p2 t0 t1))), (na, .inl (cI, 2, .inl (p2 n0 n1)))] := hD.sub [0, 1, 2, 3, 4, 5, 6, 7] (by decide) rfl
      exact W.iret (v := a) hx hb hr (fun t ht hW => ⟨⟨a, (), rfl, by rw [h17]; rfl, by rw [ht]; exact hP9, va_K.moved hW.alike hK, hD9⟩, hS.F ht⟩) hS.2.2 d_MO_look_80
    | 1, _, h17 =>
      have h17 : w = 1 := h17
      refine lv_tableIn (off := 64) (tgt := 81) hx hb d_MO_look_17 (by rw [h17]; decide) (by rw [h17]; decide) (by rw [h17]; rfl) rfl ?_
      refine lv_aload_n hx hb d_MO_look_81 rfl (lv_at hl 0 rfl) ?_
      refine va_get (D := D) (ci := 5) (v := .ref rg) (C := R_MO) (T := T_MO) (N := 18) hx hb hts iw_MO hown hK hP 0 rfl rfl 9 (by decide) (hts _ k_704) (fun _ h9 => h9) rfl d_MO_look_82 ?_
      refine lv_iconst (v := 3) hx hb d_MO_look_85 (by decide) ?_
      refine lv_iload_n hx hb d_MO_look_86 rfl (lv_at hl 1 rfl) ?_
      refine lv_imul hx hb d_MO_look_87 ?_
      refine lv_iconst (v := 1) hx hb d_MO_look_88 (by decide) ?_
      refine lv_iadd hx hb d_MO_look_89 ?_
      refine va_iald hx hb hK hP 1 0 rfl rfl (vp_in_nI (n := 1) (by decide) (by decide)) d_MO_look_90 ?_
      have hP9 : va_P D vwCl [(o, .inr (5, [.int 0, .ref im, .int (bI tr), .ref rc, .ref bg, .int ro, .ref oa, .ref xa, .ref ya, .ref rg, .ref me, .ref sa, .ref pa, .ref za, .ref ca, .int (bI kp), .ref ta, .ref na])), (rg, .inl (cI, 6, .inl (rg6 a x d b0 b1 b2))), (sa, .inl (cI, 2, .inl (p2 s0 s1))), (pa, .inl (cI, 2, .inl (p2 p0 p1))), (za, .inl (cZ, 2, .inl (p2 (bI z0) (bI z1)))), (ca, .inl (cZ, 2, .inl (p2 (bI c0) (bI c1)))), (ta, .inl (cI, 2, .inl (p2 t0 t1))), (na, .inl (cI, 2, .inl (p2 n0 n1)))] H := hP.sub [0, 1, 2, 3, 4, 5, 6, 7] rfl
      have hD9 : va_D A [(o, .inr (5, [.int 0, .ref im, .int (bI tr), .ref rc, .ref bg, .int ro, .ref oa, .ref xa, .ref ya, .ref rg, .ref me, .ref sa, .ref pa, .ref za, .ref ca, .int (bI kp), .ref ta, .ref na])), (rg, .inl (cI, 6, .inl (rg6 a x d b0 b1 b2))), (sa, .inl (cI, 2, .inl (p2 s0 s1))), (pa, .inl (cI, 2, .inl (p2 p0 p1))), (za, .inl (cZ, 2, .inl (p2 (bI z0) (bI z1)))), (ca, .inl (cZ, 2, .inl (p2 (bI c0) (bI c1)))), (ta, .inl (cI, 2, .inl (p2 t0 t1))), (na, .inl (cI, 2, .inl (p2 n0 n1)))] := hD.sub [0, 1, 2, 3, 4, 5, 6, 7] (by decide) rfl
      exact W.iret (v := x) hx hb hr (fun t ht hW => ⟨⟨x, (), rfl, by rw [h17]; rfl, by rw [ht]; exact hP9, va_K.moved hW.alike hK, hD9⟩, hS.F ht⟩) hS.2.2 d_MO_look_91
    | 2, _, h17 =>
      have h17 : w = 2 := h17
      refine lv_tableIn (off := 75) (tgt := 92) hx hb d_MO_look_17 (by rw [h17]; decide) (by rw [h17]; decide) (by rw [h17]; rfl) rfl ?_
      refine lv_aload_n hx hb d_MO_look_92 rfl (lv_at hl 0 rfl) ?_
      refine va_get (D := D) (ci := 5) (v := .ref sa) (C := R_MO) (T := T_MO) (N := 18) hx hb hts iw_MO hown hK hP 0 rfl rfl 11 (by decide) (hts _ k_706) (fun _ h9 => h9) rfl d_MO_look_93 ?_
      refine lv_iload_n hx hb d_MO_look_96 rfl (lv_at hl 1 rfl) ?_
      refine va_iald hx hb hK hP 2 0 rfl rfl (vp_in_nI (n := 0) (by decide) (by decide)) d_MO_look_97 ?_
      have hP9 : va_P D vwCl [(o, .inr (5, [.int 0, .ref im, .int (bI tr), .ref rc, .ref bg, .int ro, .ref oa, .ref xa, .ref ya, .ref rg, .ref me, .ref sa, .ref pa, .ref za, .ref ca, .int (bI kp), .ref ta, .ref na])), (rg, .inl (cI, 6, .inl (rg6 a x d b0 b1 b2))), (sa, .inl (cI, 2, .inl (p2 s0 s1))), (pa, .inl (cI, 2, .inl (p2 p0 p1))), (za, .inl (cZ, 2, .inl (p2 (bI z0) (bI z1)))), (ca, .inl (cZ, 2, .inl (p2 (bI c0) (bI c1)))), (ta, .inl (cI, 2, .inl (p2 t0 t1))), (na, .inl (cI, 2, .inl (p2 n0 n1)))] H := hP.sub [0, 1, 2, 3, 4, 5, 6, 7] rfl
      have hD9 : va_D A [(o, .inr (5, [.int 0, .ref im, .int (bI tr), .ref rc, .ref bg, .int ro, .ref oa, .ref xa, .ref ya, .ref rg, .ref me, .ref sa, .ref pa, .ref za, .ref ca, .int (bI kp), .ref ta, .ref na])), (rg, .inl (cI, 6, .inl (rg6 a x d b0 b1 b2))), (sa, .inl (cI, 2, .inl (p2 s0 s1))), (pa, .inl (cI, 2, .inl (p2 p0 p1))), (za, .inl (cZ, 2, .inl (p2 (bI z0) (bI z1)))), (ca, .inl (cZ, 2, .inl (p2 (bI c0) (bI c1)))), (ta, .inl (cI, 2, .inl (p2 t0 t1))), (na, .inl (cI, 2, .inl (p2 n0 n1)))] := hD.sub [0, 1, 2, 3, 4, 5, 6, 7] (by decide) rfl
      exact W.iret (v := s0) hx hb hr (fun t ht hW => ⟨⟨s0, (), rfl, by rw [h17]; rfl, by rw [ht]; exact hP9, va_K.moved hW.alike hK, hD9⟩, hS.F ht⟩) hS.2.2 d_MO_look_98
    | 3, _, h17 =>
      have h17 : w = 3 := h17
      refine lv_tableIn (off := 82) (tgt := 99) hx hb d_MO_look_17 (by rw [h17]; decide) (by rw [h17]; decide) (by rw [h17]; rfl) rfl ?_
      refine lv_aload_n hx hb d_MO_look_99 rfl (lv_at hl 0 rfl) ?_
      refine va_get (D := D) (ci := 5) (v := .ref pa) (C := R_MO) (T := T_MO) (N := 18) hx hb hts iw_MO hown hK hP 0 rfl rfl 12 (by decide) (hts _ k_707) (fun _ h9 => h9) rfl d_MO_look_100 ?_
      refine lv_iload_n hx hb d_MO_look_103 rfl (lv_at hl 1 rfl) ?_
      refine va_iald hx hb hK hP 3 0 rfl rfl (vp_in_nI (n := 0) (by decide) (by decide)) d_MO_look_104 ?_
      have hP9 : va_P D vwCl [(o, .inr (5, [.int 0, .ref im, .int (bI tr), .ref rc, .ref bg, .int ro, .ref oa, .ref xa, .ref ya, .ref rg, .ref me, .ref sa, .ref pa, .ref za, .ref ca, .int (bI kp), .ref ta, .ref na])), (rg, .inl (cI, 6, .inl (rg6 a x d b0 b1 b2))), (sa, .inl (cI, 2, .inl (p2 s0 s1))), (pa, .inl (cI, 2, .inl (p2 p0 p1))), (za, .inl (cZ, 2, .inl (p2 (bI z0) (bI z1)))), (ca, .inl (cZ, 2, .inl (p2 (bI c0) (bI c1)))), (ta, .inl (cI, 2, .inl (p2 t0 t1))), (na, .inl (cI, 2, .inl (p2 n0 n1)))] H := hP.sub [0, 1, 2, 3, 4, 5, 6, 7] rfl
      have hD9 : va_D A [(o, .inr (5, [.int 0, .ref im, .int (bI tr), .ref rc, .ref bg, .int ro, .ref oa, .ref xa, .ref ya, .ref rg, .ref me, .ref sa, .ref pa, .ref za, .ref ca, .int (bI kp), .ref ta, .ref na])), (rg, .inl (cI, 6, .inl (rg6 a x d b0 b1 b2))), (sa, .inl (cI, 2, .inl (p2 s0 s1))), (pa, .inl (cI, 2, .inl (p2 p0 p1))), (za, .inl (cZ, 2, .inl (p2 (bI z0) (bI z1)))), (ca, .inl (cZ, 2, .inl (p2 (bI c0) (bI c1)))), (ta, .inl (cI, 2, .inl (p2 t0 t1))), (na, .inl (cI, 2, .inl (p2 n0 n1)))] := hD.sub [0, 1, 2, 3, 4, 5, 6, 7] (by decide) rfl
      exact W.iret (v := p0) hx hb hr (fun t ht hW => ⟨⟨p0, (), rfl, by rw [h17]; rfl, by rw [ht]; exact hP9, va_K.moved hW.alike hK, hD9⟩, hS.F ht⟩) hS.2.2 d_MO_look_105
    | 4, _, h17 =>
      have h17 : w = 4 := h17
      refine lv_tableIn (off := 89) (tgt := 106) hx hb d_MO_look_17 (by rw [h17]; decide) (by rw [h17]; decide) (by rw [h17]; rfl) rfl ?_
      refine lv_aload_n hx hb d_MO_look_106 rfl (lv_at hl 0 rfl) ?_
      refine va_get (D := D) (ci := 5) (v := .ref za) (C := R_MO) (T := T_MO) (N := 18) hx hb hts iw_MO hown hK hP 0 rfl rfl 13 (by decide) (hts _ k_708) (fun _ h9 => h9) rfl d_MO_look_107 ?_
      refine lv_iload_n hx hb d_MO_look_110 rfl (lv_at hl 1 rfl) ?_
      refine va_zald hx hb hK hP 4 1 rfl rfl (vp_in_nI (n := 0) (by decide) (by decide)) d_MO_look_111 ?_
      refine lv_if_eq (tgt := 119) hx hb d_MO_look_112 rfl (fun h112 => ?_) (fun h112 => ?_)
      · have h112 : z0 = false := bI_f h112
        refine lv_iconst (v := 0) hx hb d_MO_look_119 (by decide) ?_
        have hP9 : va_P D vwCl [(o, .inr (5, [.int 0, .ref im, .int (bI tr), .ref rc, .ref bg, .int ro, .ref oa, .ref xa, .ref ya, .ref rg, .ref me, .ref sa, .ref pa, .ref za, .ref ca, .int (bI kp), .ref ta, .ref na])), (rg, .inl (cI, 6, .inl (rg6 a x d b0 b1 b2))), (sa, .inl (cI, 2, .inl (p2 s0 s1))), (pa, .inl (cI, 2, .inl (p2 p0 p1))), (za, .inl (cZ, 2, .inl (p2 (bI z0) (bI z1)))), (ca, .inl (cZ, 2, .inl (p2 (bI c0) (bI c1)))), (ta, .inl (cI, 2, .inl (p2 t0 t1))), (na, .inl (cI, 2, .inl (p2 n0 n1)))] H := hP.sub [0, 1, 2, 3, 4, 5, 6, 7] rfl
        have hD9 : va_D A [(o, .inr (5, [.int 0, .ref im, .int (bI tr), .ref rc, .ref bg, .int ro, .ref oa, .ref xa, .ref ya, .ref rg, .ref me, .ref sa, .ref pa, .ref za, .ref ca, .int (bI kp), .ref ta, .ref na])), (rg, .inl (cI, 6, .inl (rg6 a x d b0 b1 b2))), (sa, .inl (cI, 2, .inl (p2 s0 s1))), (pa, .inl (cI, 2, .inl (p2 p0 p1))), (za, .inl (cZ, 2, .inl (p2 (bI z0) (bI z1)))), (ca, .inl (cZ, 2, .inl (p2 (bI c0) (bI c1)))), (ta, .inl (cI, 2, .inl (p2 t0 t1))), (na, .inl (cI, 2, .inl (p2 n0 n1)))] := hD.sub [0, 1, 2, 3, 4, 5, 6, 7] (by decide) rfl
        exact W.iret (v := 0) hx hb hr (fun t ht hW => ⟨⟨0, (), rfl, by rw [h17, h112]; rfl, by rw [ht]; exact hP9, va_K.moved hW.alike hK, hD9⟩, hS.F ht⟩) hS.2.2 d_MO_look_120
      · have h112 : z0 = true := bI_t h112
        refine lv_iconst (v := 1) hx hb d_MO_look_115 (by decide) ?_
        refine lv_goto (tgt := 120) hx hb d_MO_look_116 rfl ?_
        have hP9 : va_P D vwCl [(o, .inr (5, [.int 0, .ref im, .int (bI tr), .ref rc, .ref bg, .int ro, .ref oa, .ref xa, .ref ya, .ref rg, .ref me, .ref sa, .ref pa, .ref za, .ref ca, .int (bI kp), .ref ta, .ref na])), (rg, .inl (cI, 6, .inl (rg6 a x d b0 b1 b2))), (sa, .inl (cI, 2, .inl (p2 s0 s1))), (pa, .inl (cI, 2, .inl (p2 p0 p1))), (za, .inl (cZ, 2, .inl (p2 (bI z0) (bI z1)))), (ca, .inl (cZ, 2, .inl (p2 (bI c0) (bI c1)))), (ta, .inl (cI, 2, .inl (p2 t0 t1))), (na, .inl (cI, 2, .inl (p2 n0 n1)))] H := hP.sub [0, 1, 2, 3, 4, 5, 6, 7] rfl
        have hD9 : va_D A [(o, .inr (5, [.int 0, .ref im, .int (bI tr), .ref rc, .ref bg, .int ro, .ref oa, .ref xa, .ref ya, .ref rg, .ref me, .ref sa, .ref pa, .ref za, .ref ca, .int (bI kp), .ref ta, .ref na])), (rg, .inl (cI, 6, .inl (rg6 a x d b0 b1 b2))), (sa, .inl (cI, 2, .inl (p2 s0 s1))), (pa, .inl (cI, 2, .inl (p2 p0 p1))), (za, .inl (cZ, 2, .inl (p2 (bI z0) (bI z1)))), (ca, .inl (cZ, 2, .inl (p2 (bI c0) (bI c1)))), (ta, .inl (cI, 2, .inl (p2 t0 t1))), (na, .inl (cI, 2, .inl (p2 n0 n1)))] := hD.sub [0, 1, 2, 3, 4, 5, 6, 7] (by decide) rfl
        exact W.iret (v := 1) hx hb hr (fun t ht hW => ⟨⟨1, (), rfl, by rw [h17, h112]; rfl, by rw [ht]; exact hP9, va_K.moved hW.alike hK, hD9⟩, hS.F ht⟩) hS.2.2 d_MO_look_120
    | 5, _, h17 =>
      have h17 : w = 5 := h17
      refine lv_tableIn (off := 104) (tgt := 121) hx hb d_MO_look_17 (by rw [h17]; decide) (by rw [h17]; decide) (by rw [h17]; rfl) rfl ?_
      refine lv_aload_n hx hb d_MO_look_121 rfl (lv_at hl 0 rfl) ?_
      refine va_get (D := D) (ci := 5) (v := .ref ca) (C := R_MO) (T := T_MO) (N := 18) hx hb hts iw_MO hown hK hP 0 rfl rfl 14 (by decide) (hts _ k_709) (fun _ h9 => h9) rfl d_MO_look_122 ?_
      refine lv_iload_n hx hb d_MO_look_125 rfl (lv_at hl 1 rfl) ?_
      refine va_zald hx hb hK hP 5 1 rfl rfl (vp_in_nI (n := 0) (by decide) (by decide)) d_MO_look_126 ?_
      refine lv_if_eq (tgt := 134) hx hb d_MO_look_127 rfl (fun h127 => ?_) (fun h127 => ?_)
      · have h127 : c0 = false := bI_f h127
        refine lv_iconst (v := 0) hx hb d_MO_look_134 (by decide) ?_
        have hP9 : va_P D vwCl [(o, .inr (5, [.int 0, .ref im, .int (bI tr), .ref rc, .ref bg, .int ro, .ref oa, .ref xa, .ref ya, .ref rg, .ref me, .ref sa, .ref pa, .ref za, .ref ca, .int (bI kp), .ref ta, .ref na])), (rg, .inl (cI, 6, .inl (rg6 a x d b0 b1 b2))), (sa, .inl (cI, 2, .inl (p2 s0 s1))), (pa, .inl (cI, 2, .inl (p2 p0 p1))), (za, .inl (cZ, 2, .inl (p2 (bI z0) (bI z1)))), (ca, .inl (cZ, 2, .inl (p2 (bI c0) (bI c1)))), (ta, .inl (cI, 2, .inl (p2 t0 t1))), (na, .inl (cI, 2, .inl (p2 n0 n1)))] H := hP.sub [0, 1, 2, 3, 4, 5, 6, 7] rfl
        have hD9 : va_D A [(o, .inr (5, [.int 0, .ref im, .int (bI tr), .ref rc, .ref bg, .int ro, .ref oa, .ref xa, .ref ya, .ref rg, .ref me, .ref sa, .ref pa, .ref za, .ref ca, .int (bI kp), .ref ta, .ref na])), (rg, .inl (cI, 6, .inl (rg6 a x d b0 b1 b2))), (sa, .inl (cI, 2, .inl (p2 s0 s1))), (pa, .inl (cI, 2, .inl (p2 p0 p1))), (za, .inl (cZ, 2, .inl (p2 (bI z0) (bI z1)))), (ca, .inl (cZ, 2, .inl (p2 (bI c0) (bI c1)))), (ta, .inl (cI, 2, .inl (p2 t0 t1))), (na, .inl (cI, 2, .inl (p2 n0 n1)))] := hD.sub [0, 1, 2, 3, 4, 5, 6, 7] (by decide) rfl
        exact W.iret (v := 0) hx hb hr (fun t ht hW => ⟨⟨0, (), rfl, by rw [h17, h127]; rfl, by rw [ht]; exact hP9, va_K.moved hW.alike hK, hD9⟩, hS.F ht⟩) hS.2.2 d_MO_look_135
      · have h127 : c0 = true := bI_t h127
        refine lv_iconst (v := 1) hx hb d_MO_look_130 (by decide) ?_
        refine lv_goto (tgt := 135) hx hb d_MO_look_131 rfl ?_
        have hP9 : va_P D vwCl [(o, .inr (5, [.int 0, .ref im, .int (bI tr), .ref rc, .ref bg, .int ro, .ref oa, .ref xa, .ref ya, .ref rg, .ref me, .ref sa, .ref pa, .ref za, .ref ca, .int (bI kp), .ref ta, .ref na])), (rg, .inl (cI, 6, .inl (rg6 a x d b0 b1 b2))), (sa, .inl (cI, 2, .inl (p2 s0 s1))), (pa, .inl (cI, 2, .inl (p2 p0 p1))), (za, .inl (cZ, 2, .inl (p2 (bI z0) (bI z1)))), (ca, .inl (cZ, 2, .inl (p2 (bI c0) (bI c1)))), (ta, .inl (cI, 2, .inl (p2 t0 t1))), (na, .inl (cI, 2, .inl (p2 n0 n1)))] H := hP.sub [0, 1, 2, 3, 4, 5, 6, 7] rfl
        have hD9 : va_D A [(o, .inr (5, [.int 0, .ref im, .int (bI tr), .ref rc, .ref bg, .int ro, .ref oa, .ref xa, .ref ya, .ref rg, .ref me, .ref sa, .ref pa, .ref za, .ref ca, .int (bI kp), .ref ta, .ref na])), (rg, .inl (cI, 6, .inl (rg6 a x d b0 b1 b2))), (sa, .inl (cI, 2, .inl (p2 s0 s1))), (pa, .inl (cI, 2, .inl (p2 p0 p1))), (za, .inl (cZ, 2, .inl (p2 (bI z0) (bI z1)))), (ca, .inl (cZ, 2, .inl (p2 (bI c0) (bI c1)))), (ta, .inl (cI, 2, .inl (p2 t0 t1))), (na, .inl (cI, 2, .inl (p2 n0 n1)))] := hD.sub [0, 1, 2, 3, 4, 5, 6, 7] (by decide) rfl
        exact W.iret (v := 1) hx hb hr (fun t ht hW => ⟨⟨1, (), rfl, by rw [h17, h127]; rfl, by rw [ht]; exact hP9, va_K.moved hW.alike hK, hD9⟩, hS.F ht⟩) hS.2.2 d_MO_look_135
    | 6, _, h17 =>
      have h17 : w = 6 := h17
      refine lv_tableIn (off := 119) (tgt := 136) hx hb d_MO_look_17 (by rw [h17]; decide) (by rw [h17]; decide) (by rw [h17]; rfl) rfl ?_
      refine lv_aload_n hx hb d_MO_look_136 rfl (lv_at hl 0 rfl) ?_
      refine va_get (D := D) (ci := 5) (v := .ref ta) (C := R_MO) (T := T_MO) (N := 18) hx hb hts iw_MO hown hK hP 0 rfl rfl 16 (by decide) (hts _ k_711) (fun _ h9 => h9) rfl d_MO_look_137 ?_
      refine lv_iload_n hx hb d_MO_look_140 rfl (lv_at hl 1 rfl) ?_
      refine va_iald hx hb hK hP 6 0 rfl rfl (vp_in_nI (n := 0) (by decide) (by decide)) d_MO_look_141 ?_
      have hP9 : va_P D vwCl [(o, .inr (5, [.int 0, .ref im, .int (bI tr), .ref rc, .ref bg, .int ro, .ref oa, .ref xa, .ref ya, .ref rg, .ref me, .ref sa, .ref pa, .ref za, .ref ca, .int (bI kp), .ref ta, .ref na])), (rg, .inl (cI, 6, .inl (rg6 a x d b0 b1 b2))), (sa, .inl (cI, 2, .inl (p2 s0 s1))), (pa, .inl (cI, 2, .inl (p2 p0 p1))), (za, .inl (cZ, 2, .inl (p2 (bI z0) (bI z1)))), (ca, .inl (cZ, 2, .inl (p2 (bI c0) (bI c1)))), (ta, .inl (cI, 2, .inl (p2 t0 t1))), (na, .inl (cI, 2, .inl (p2 n0 n1)))] H := hP.sub [0, 1, 2, 3, 4, 5, 6, 7] rfl
      have hD9 : va_D A [(o, .inr (5, [.int 0, .ref im, .int (bI tr), .ref rc, .ref bg, .int ro, .ref oa, .ref xa, .ref ya, .ref rg, .ref me, .ref sa, .ref pa, .ref za, .ref ca, .int (bI kp), .ref ta, .ref na])), (rg, .inl (cI, 6, .inl (rg6 a x d b0 b1 b2))), (sa, .inl (cI, 2, .inl (p2 s0 s1))), (pa, .inl (cI, 2, .inl (p2 p0 p1))), (za, .inl (cZ, 2, .inl (p2 (bI z0) (bI z1)))), (ca, .inl (cZ, 2, .inl (p2 (bI c0) (bI c1)))), (ta, .inl (cI, 2, .inl (p2 t0 t1))), (na, .inl (cI, 2, .inl (p2 n0 n1)))] := hD.sub [0, 1, 2, 3, 4, 5, 6, 7] (by decide) rfl
      exact W.iret (v := t0) hx hb hr (fun t ht hW => ⟨⟨t0, (), rfl, by rw [h17]; rfl, by rw [ht]; exact hP9, va_K.moved hW.alike hK, hD9⟩, hS.F ht⟩) hS.2.2 d_MO_look_142
    | 7, _, h17 =>
      have h17 : w = 7 := h17
      refine lv_tableIn (off := 126) (tgt := 143) hx hb d_MO_look_17 (by rw [h17]; decide) (by rw [h17]; decide) (by rw [h17]; rfl) rfl ?_
      refine lv_aload_n hx hb d_MO_look_143 rfl (lv_at hl 0 rfl) ?_
      refine va_get (D := D) (ci := 5) (v := .ref na) (C := R_MO) (T := T_MO) (N := 18) hx hb hts iw_MO hown hK hP 0 rfl rfl 17 (by decide) (hts _ k_712) (fun _ h9 => h9) rfl d_MO_look_144 ?_
      refine lv_iload_n hx hb d_MO_look_147 rfl (lv_at hl 1 rfl) ?_
      refine va_iald hx hb hK hP 7 0 rfl rfl (vp_in_nI (n := 0) (by decide) (by decide)) d_MO_look_148 ?_
      have hP9 : va_P D vwCl [(o, .inr (5, [.int 0, .ref im, .int (bI tr), .ref rc, .ref bg, .int ro, .ref oa, .ref xa, .ref ya, .ref rg, .ref me, .ref sa, .ref pa, .ref za, .ref ca, .int (bI kp), .ref ta, .ref na])), (rg, .inl (cI, 6, .inl (rg6 a x d b0 b1 b2))), (sa, .inl (cI, 2, .inl (p2 s0 s1))), (pa, .inl (cI, 2, .inl (p2 p0 p1))), (za, .inl (cZ, 2, .inl (p2 (bI z0) (bI z1)))), (ca, .inl (cZ, 2, .inl (p2 (bI c0) (bI c1)))), (ta, .inl (cI, 2, .inl (p2 t0 t1))), (na, .inl (cI, 2, .inl (p2 n0 n1)))] H := hP.sub [0, 1, 2, 3, 4, 5, 6, 7] rfl
      have hD9 : va_D A [(o, .inr (5, [.int 0, .ref im, .int (bI tr), .ref rc, .ref bg, .int ro, .ref oa, .ref xa, .ref ya, .ref rg, .ref me, .ref sa, .ref pa, .ref za, .ref ca, .int (bI kp), .ref ta, .ref na])), (rg, .inl (cI, 6, .inl (rg6 a x d b0 b1 b2))), (sa, .inl (cI, 2, .inl (p2 s0 s1))), (pa, .inl (cI, 2, .inl (p2 p0 p1))), (za, .inl (cZ, 2, .inl (p2 (bI z0) (bI z1)))), (ca, .inl (cZ, 2, .inl (p2 (bI c0) (bI c1)))), (ta, .inl (cI, 2, .inl (p2 t0 t1))), (na, .inl (cI, 2, .inl (p2 n0 n1)))] := hD.sub [0, 1, 2, 3, 4, 5, 6, 7] (by decide) rfl
      exact W.iret (v := n0) hx hb hr (fun t ht hW => ⟨⟨n0, (), rfl, by rw [h17]; rfl, by rw [ht]; exact hP9, va_K.moved hW.alike hK, hD9⟩, hS.F ht⟩) hS.2.2 d_MO_look_149
    | 8, _, h17 =>
      have h17 : w = 8 := h17
      refine lv_tableIn (off := 133) (tgt := 150) hx hb d_MO_look_17 (by rw [h17]; decide) (by rw [h17]; decide) (by rw [h17]; rfl) rfl ?_
      refine lv_iload_n hx hb d_MO_look_150 rfl (lv_at hl 1 rfl) ?_
      refine lv_if_ne (tgt := 158) hx hb d_MO_look_151 rfl (fun hq9 => absurd (by decide) hq9) (fun _ => ?_)
      refine lv_iconst (v := 0) hx hb d_MO_look_154 (by decide) ?_
      refine lv_goto (tgt := 164) hx hb d_MO_look_155 rfl ?_
      have hP9 : va_P D vwCl [(o, .inr (5, [.int 0, .ref im, .int (bI tr), .ref rc, .ref bg, .int ro, .ref oa, .ref xa, .ref ya, .ref rg, .ref me, .ref sa, .ref pa, .ref za, .ref ca, .int (bI kp), .ref ta, .ref na])), (rg, .inl (cI, 6, .inl (rg6 a x d b0 b1 b2))), (sa, .inl (cI, 2, .inl (p2 s0 s1))), (pa, .inl (cI, 2, .inl (p2 p0 p1))), (za, .inl (cZ, 2, .inl (p2 (bI z0) (bI z1)))), (ca, .inl (cZ, 2, .inl (p2 (bI c0) (bI c1)))), (ta, .inl (cI, 2, .inl (p2 t0 t1))), (na, .inl (cI, 2, .inl (p2 n0 n1)))] H := hP.sub [0, 1, 2, 3, 4, 5, 6, 7] rfl
      have hD9 : va_D A [(o, .inr (5, [.int 0, .ref im, .int (bI tr), .ref rc, .ref bg, .int ro, .ref oa, .ref xa, .ref ya, .ref rg, .ref me, .ref sa, .ref pa, .ref za, .ref ca, .int (bI kp), .ref ta, .ref na])), (rg, .inl (cI, 6, .inl (rg6 a x d b0 b1 b2))), (sa, .inl (cI, 2, .inl (p2 s0 s1))), (pa, .inl (cI, 2, .inl (p2 p0 p1))), (za, .inl (cZ, 2, .inl (p2 (bI z0) (bI z1)))), (ca, .inl (cZ, 2, .inl (p2 (bI c0) (bI c1)))), (ta, .inl (cI, 2, .inl (p2 t0 t1))), (na, .inl (cI, 2, .inl (p2 n0 n1)))] := hD.sub [0, 1, 2, 3, 4, 5, 6, 7] (by decide) rfl
      exact W.iret (v := 0) hx hb hr (fun t ht hW => ⟨⟨0, (), rfl, by rw [h17]; rfl, by rw [ht]; exact hP9, va_K.moved hW.alike hK, hD9⟩, hS.F ht⟩) hS.2.2 d_MO_look_164
    | 9, _, h17 =>
      have h17 : w = 9 := h17
      refine lv_tableIn (off := 148) (tgt := 165) hx hb d_MO_look_17 (by rw [h17]; decide) (by rw [h17]; decide) (by rw [h17]; rfl) rfl ?_
      refine lv_iload_n hx hb d_MO_look_165 rfl (lv_at hl 1 rfl) ?_
      refine lv_iconst (v := 1) hx hb d_MO_look_166 (by decide) ?_
      refine lv_icmp_ne (tgt := 181) hx hb d_MO_look_167 rfl (fun _ => ?_) (fun hq9 => absurd hq9 (by decide))
      refine lv_iconst (v := 0) hx hb d_MO_look_181 (by decide) ?_
      have hP9 : va_P D vwCl [(o, .inr (5, [.int 0, .ref im, .int (bI tr), .ref rc, .ref bg, .int ro, .ref oa, .ref xa, .ref ya, .ref rg, .ref me, .ref sa, .ref pa, .ref za, .ref ca, .int (bI kp), .ref ta, .ref na])), (rg, .inl (cI, 6, .inl (rg6 a x d b0 b1 b2))), (sa, .inl (cI, 2, .inl (p2 s0 s1))), (pa, .inl (cI, 2, .inl (p2 p0 p1))), (za, .inl (cZ, 2, .inl (p2 (bI z0) (bI z1)))), (ca, .inl (cZ, 2, .inl (p2 (bI c0) (bI c1)))), (ta, .inl (cI, 2, .inl (p2 t0 t1))), (na, .inl (cI, 2, .inl (p2 n0 n1)))] H := hP.sub [0, 1, 2, 3, 4, 5, 6, 7] rfl
      have hD9 : va_D A [(o, .inr (5, [.int 0, .ref im, .int (bI tr), .ref rc, .ref bg, .int ro, .ref oa, .ref xa, .ref ya, .ref rg, .ref me, .ref sa, .ref pa, .ref za, .ref ca, .int (bI kp), .ref ta, .ref na])), (rg, .inl (cI, 6, .inl (rg6 a x d b0 b1 b2))), (sa, .inl (cI, 2, .inl (p2 s0 s1))), (pa, .inl (cI, 2, .inl (p2 p0 p1))), (za, .inl (cZ, 2, .inl (p2 (bI z0) (bI z1)))), (ca, .inl (cZ, 2, .inl (p2 (bI c0) (bI c1)))), (ta, .inl (cI, 2, .inl (p2 t0 t1))), (na, .inl (cI, 2, .inl (p2 n0 n1)))] := hD.sub [0, 1, 2, 3, 4, 5, 6, 7] (by decide) rfl
      exact W.iret (v := 0) hx hb hr (fun t ht hW => ⟨⟨0, (), rfl, by rw [h17]; rfl, by rw [ht]; exact hP9, va_K.moved hW.alike hK, hD9⟩, hS.F ht⟩) hS.2.2 d_MO_look_182
    | n + 10, h9, _ => exact absurd h9 (by omega)
set_option maxHeartbeats 4000000 in
set_option maxRecDepth 100000 in
theorem q_look1 (l : Launch) (D : va_G) (cI cZ : ClassId) (o : Nat) (th : Int32) (im : Nat) (tr : Bool) (rc : Nat) (bg : Nat) (ro : Int32) (oa : Nat) (xa : Nat) (ya : Nat) (rg : Nat) (me : Nat) (sa : Nat) (pa : Nat) (za : Nat) (ca : Nat) (kp : Bool) (ta : Nat) (na : Nat) (a : Int32) (x : Int32) (d : Int32) (b0 : Int32) (b1 : Int32) (b2 : Int32) (s0 : Int32) (s1 : Int32) (p0 : Int32) (p1 : Int32) (z0 : Bool) (z1 : Bool) (c0 : Bool) (c1 : Bool) (t0 : Int32) (t1 : Int32) (n0 : Int32) (n1 : Int32) (w : Int32) (sz : Nat) : MetI l y_MO_look w_MO_look { frames := 0, cells := 0, slots := 0, locals := 0 } D cI cZ [.ref o, .int 1, .int w] [(o, .inr (5, [.int th, .ref im, .int (bI tr), .ref rc, .ref bg, .int ro, .ref oa, .ref xa, .ref ya, .ref rg, .ref me, .ref sa, .ref pa, .ref za, .ref ca, .int (bI kp), .ref ta, .ref na])), (rg, .inl (cI, 6, .inl (rg6 a x d b0 b1 b2))), (sa, .inl (cI, 2, .inl (p2 s0 s1))), (pa, .inl (cI, 2, .inl (p2 p0 p1))), (za, .inl (cZ, 2, .inl (p2 (bI z0) (bI z1)))), (ca, .inl (cZ, 2, .inl (p2 (bI c0) (bI c1)))), (ta, .inl (cI, 2, .inl (p2 t0 t1))), (na, .inl (cI, 2, .inl (p2 n0 n1)))] sz (fun r (_ : Unit) => r = vwS w b0 b1 s1 p1 z1 c1 t1 n1 b2 kp) (fun (_ : Unit) => [(o, .inr (5, [.int 0, .ref im, .int (bI tr), .ref rc, .ref bg, .int ro, .ref oa, .ref xa, .ref ya, .ref rg, .ref me, .ref sa, .ref pa, .ref za, .ref ca, .int (bI kp), .ref ta, .ref na])), (rg, .inl (cI, 6, .inl (rg6 a x d b0 b1 b2))), (sa, .inl (cI, 2, .inl (p2 s0 s1))), (pa, .inl (cI, 2, .inl (p2 p0 p1))), (za, .inl (cZ, 2, .inl (p2 (bI z0) (bI z1)))), (ca, .inl (cZ, 2, .inl (p2 (bI c0) (bI c1)))), (ta, .inl (cI, 2, .inl (p2 t0 t1))), (na, .inl (cI, 2, .inl (p2 n0 n1)))]) 0 0 := by
  refine ofI (cc := c_MO_look) (maxL := 3) (ret := (some .int)) (by decide) rfl (Nat.le_of_ble_eq_true rfl) ?_
  intro p e s m args below meth c A H hH0 hx hb hr hlocks hts hown hnm hml ls hl hP hK hD hA hS hN
  have hown : s.vm.findClass R_MO = some m.cls := hown
  have hl : lv_has ls 3 [(0, .ref o), (1, .int 1), (2, .int w)] := hl
  refine lv_aload_n hx hb d_MO_look_0 rfl (lv_at hl 0 rfl) ?_
  refine lv_iconst (v := 0) hx hb d_MO_look_1 (by decide) ?_
  refine va_put (D := D) (ci := 5) (v := .int 0) (ty := .int) (C := R_MO) (T := T_MO) (N := 18) hx hb hts iw_MO ty_MO ty_MO_ok nm_MO hown hK hP hD hS 0 rfl rfl 0 (by decide) (hts _ k_695) (fun _ h9 => h9) rfl (by decide +kernel) rfl rfl (Nat.le_of_ble_eq_true rfl) d_MO_look_2 (fun H locs hP hD hS => ?_)
  have hP : va_P D vwCl [(o, .inr (5, [.int 0, .ref im, .int (bI tr), .ref rc, .ref bg, .int ro, .ref oa, .ref xa, .ref ya, .ref rg, .ref me, .ref sa, .ref pa, .ref za, .ref ca, .int (bI kp), .ref ta, .ref na])), (rg, .inl (cI, 6, .inl (rg6 a x d b0 b1 b2))), (sa, .inl (cI, 2, .inl (p2 s0 s1))), (pa, .inl (cI, 2, .inl (p2 p0 p1))), (za, .inl (cZ, 2, .inl (p2 (bI z0) (bI z1)))), (ca, .inl (cZ, 2, .inl (p2 (bI c0) (bI c1)))), (ta, .inl (cI, 2, .inl (p2 t0 t1))), (na, .inl (cI, 2, .inl (p2 n0 n1)))] H := hP
  have hD : va_D A [(o, .inr (5, [.int 0, .ref im, .int (bI tr), .ref rc, .ref bg, .int ro, .ref oa, .ref xa, .ref ya, .ref rg, .ref me, .ref sa, .ref pa, .ref za, .ref ca, .int (bI kp), .ref ta, .ref na])), (rg, .inl (cI, 6, .inl (rg6 a x d b0 b1 b2))), (sa, .inl (cI, 2, .inl (p2 s0 s1))), (pa, .inl (cI, 2, .inl (p2 p0 p1))), (za, .inl (cZ, 2, .inl (p2 (bI z0) (bI z1)))), (ca, .inl (cZ, 2, .inl (p2 (bI c0) (bI c1)))), (ta, .inl (cI, 2, .inl (p2 t0 t1))), (na, .inl (cI, 2, .inl (p2 n0 n1)))] := hD
  refine lv_iload_n hx hb d_MO_look_5 rfl (lv_at hl 1 rfl) ?_
  refine lv_if_lt (tgt := 14) hx hb d_MO_look_6 rfl (fun hq9 => absurd hq9 (by decide)) (fun _ => ?_)
  refine lv_iload_n hx hb d_MO_look_9 rfl (lv_at hl 1 rfl) ?_
  refine lv_iconst (v := 1) hx hb d_MO_look_10 (by decide) ?_
  refine lv_icmp_le (tgt := 16) hx hb d_MO_look_11 rfl (fun _ => ?_) (fun hq9 => absurd (by decide) hq9)
  refine lv_iload_n hx hb d_MO_look_16 rfl (lv_at hl 2 rfl) ?_
  rcases sw_cases w 0 10 with h17 | ⟨j17, hj17, h17⟩
  · refine lv_tableOut (tgt := 183) hx hb d_MO_look_17 h17 rfl ?_
    have n17_0 : ¬ w = 0 := fun h9 => by rw [h9] at h17; revert h17; decide
    have n17_1 : ¬ w = 1 := fun h9 => by rw [h9] at h17; revert h17; decide
    have n17_2 : ¬ w = 2 := fun h9 => by rw [h9] at h17; revert h17; decide
    have n17_3 : ¬ w = 3 := fun h9 => by rw [h9] at h17; revert h17; decide
    have n17_4 : ¬ w = 4 := fun h9 => by rw [h9] at h17; revert h17; decide
    have n17_5 : ¬ w = 5 := fun h9 => by rw [h9] at h17; revert h17; decide
    have n17_6 : ¬ w = 6 := fun h9 => by rw [h9] at h17; revert h17; decide
    have n17_7 : ¬ w = 7 := fun h9 => by rw [h9] at h17; revert h17; decide
    have n17_8 : ¬ w = 8 := fun h9 => by rw [h9] at h17; revert h17; decide
    have n17_9 : ¬ w = 9 := fun h9 => by rw [h9] at h17; revert h17; decide
    refine lv_iconst (v := (-1)) hx hb d_MO_look_183 (by decide) ?_
    have hP9 : va_P D vwCl [(o, .inr (5, [.int 0, .ref im, .int (bI tr), .ref rc, .ref bg, .int ro, .ref oa, .ref xa, .ref ya, .ref rg, .ref me, .ref sa, .ref pa, .ref za, .ref ca, .int (bI kp), .ref ta, .ref na])), (rg, .inl (cI, 6, .inl (rg6 a x d b0 b1 b2))), (sa, .inl (cI, 2, .inl (p2 s0 s1))), (pa, .inl (cI, 2, .inl (p2 p0 p1))), (za, .inl (cZ, 2, .inl (p2 (bI z0) (bI z1)))), (ca, .inl (cZ, 2, .inl (p2 (bI c0) (bI c1)))), (ta, .inl (cI, 2, .inl (p2 t0 t1))), (na, .inl (cI, 2, .inl (p2 n0 n1)))] H := hP.sub [0, 1, 2, 3, 4, 5, 6, 7] rfl
    have hD9 : va_D A [(o, .inr (5, [.int 0, .ref im, .int (bI tr), .ref rc, .ref bg, .int ro, .ref oa, .ref xa, .ref ya, .ref rg, .ref me, .ref sa, .ref pa, .ref za, .ref ca, .int (bI kp), .ref ta, .ref na])), (rg, .inl (cI, 6, .inl (rg6 a x d b0 b1 b2))), (sa, .inl (cI, 2, .inl (p2 s0 s1))), (pa, .inl (cI, 2, .inl (p2 p0 p1))), (za, .inl (cZ, 2, .inl (p2 (bI z0) (bI z1)))), (ca, .inl (cZ, 2, .inl (p2 (bI c0) (bI c1)))), (ta, .inl (cI, 2, .inl (p2 t0 t1))), (na, .inl (cI, 2, .inl (p2 n0 n1)))] := hD.sub [0, 1, 2, 3, 4, 5, 6, 7] (by decide) rfl
    exact W.iret (v := (-1)) hx hb hr (fun t ht hW => ⟨⟨(-1), (), rfl, by rw [vwS, if_neg n17_8, if_neg n17_9, vwI, if_neg n17_0, if_neg n17_1, if_neg n17_2, if_neg n17_3, if_neg n17_4, if_neg n17_5, if_neg n17_6, if_neg n17_7, if_neg n17_8, if_neg n17_9], by rw [ht]; exact hP9, va_K.moved hW.alike hK, hD9⟩, hS.F ht⟩) hS.2.2 d_MO_look_184
  · match j17, hj17, h17 with
    | 0, _, h17 =>
      have h17 : w = 0 := h17
      refine lv_tableIn (off := 55) (tgt := 72) hx hb d_MO_look_17 (by rw [h17]; decide) (by rw [h17]; decide) (by rw [h17]; rfl) rfl ?_
      refine lv_aload_n hx hb d_MO_look_72 rfl (lv_at hl 0 rfl) ?_
      refine va_get (D := D) (ci := 5) (v := .ref rg) (C := R_MO) (T := T_MO) (N := 18) hx hb hts iw_MO hown hK hP 0 rfl rfl 9 (by decide) (hts _ k_704) (fun _ h9 => h9) rfl d_MO_look_73 ?_
      refine lv_iconst (v := 3) hx hb d_MO_look_76 (by decide) ?_
      refine lv_iload_n hx hb d_MO_look_77 rfl (lv_at hl 1 rfl) ?_
      refine lv_imul hx hb d_MO_look_78 ?_
      refine va_iald hx hb hK hP 1 0 rfl rfl (vp_in_nI (n := 3) (by decide) (by decide)) d_MO_look_79 ?_
      have hP9 : va_P D vwCl [(o, .inr (5, [.int 0, .ref im, .int (bI tr), .ref rc, .ref bg, .int ro, .ref oa, .ref xa, .ref ya, .ref rg, .ref me, .ref sa, .ref pa, .ref za, .ref ca, .int (bI kp), .ref ta, .ref na])), (rg, .inl (cI, 6, .inl (rg6 a x d b0 b1 b2))), (sa, .inl (cI, 2, .inl (p2 s0 s1))), (pa, .inl (cI, 2, .inl (p2 p0 p1))), (za, .inl (cZ, 2, .inl (p2 (bI z0) (bI z1)))), (ca, .inl (cZ, 2, .inl (p2 (bI c0) (bI c1)))), (ta, .inl (cI, 2, .inl (p2 t0 t1))), (na, .inl (cI, 2, .inl (p2 n0 n1)))] H := hP.sub [0, 1, 2, 3, 4, 5, 6, 7] rfl
      have hD9 : va_D A [(o, .inr (5, [.int 0, .ref im, .int (bI tr), .ref rc, .ref bg, .int ro, .ref oa, .ref xa, .ref ya, .ref rg, .ref me, .ref sa, .ref pa, .ref za, .ref ca, .int (bI kp), .ref ta, .ref na])), (rg, .inl (cI, 6, .inl (rg6 a x d b0 b1 b2))), (sa, .inl (cI, 2, .inl (p2 s0 s1))), (pa, .inl (cI, 2, .inl (p2 p0 p1))), (za, .inl (cZ, 2, .inl (p2 (bI z0) (bI z1)))), (ca, .inl (cZ, 2, .inl (p2 (bI c0) (bI c1)))), (ta, .inl (cI, 2, .inl (p2 t0 t1))), (na, .inl (cI, 2, .inl (p2 n0 n1)))] := hD.sub [0, 1, 2, 3, 4, 5, 6, 7] (by decide) rfl
      exact W.iret (v := b0) hx hb hr (fun t ht hW => ⟨⟨b0, (), rfl, by rw [h17]; rfl, by rw [ht]; exact hP9, va_K.moved hW.alike hK, hD9⟩, hS.F ht⟩) hS.2.2 d_MO_look_80
    | 1, _, h17 =>
      have h17 : w = 1 := h17
      refine lv_tableIn (off := 64) (tgt := 81) hx hb d_MO_look_17 (by rw [h17]; decide) (by rw [h17]; decide) (by rw [h17]; rfl) rfl ?_
      refine lv_aload_n hx hb d_MO_look_81 rfl (lv_at hl 0 rfl) ?_
      refine va_get (D := D) (ci := 5) (v := .ref rg) (C := R_MO) (T := T_MO) (N := 18) hx hb hts iw_MO hown hK hP 0 rfl rfl 9 (by decide) (hts _ k_704) (fun _ h9 => h9) rfl d_MO_look_82 ?_
      refine lv_iconst (v := 3) hx hb d_MO_look_85 (by decide) ?_
      refine lv_iload_n hx hb d_MO_look_86 rfl (lv_at hl 1 rfl) ?_
      refine lv_imul hx hb d_MO_look_87 ?_
      refine lv_iconst (v := 1) hx hb d_MO_look_88 (by decide) ?_
      refine lv_iadd hx hb d_MO_look_89 ?_
      refine va_iald hx hb hK hP 1 0 rfl rfl (vp_in_nI (n := 4) (by decide) (by decide)) d_MO_look_90 ?_
      have hP9 : va_P D vwCl [(o, .inr (5, [.int 0, .ref im, .int (bI tr), .ref rc, .ref bg, .int ro, .ref oa, .ref xa, .ref ya, .ref rg, .ref me, .ref sa, .ref pa, .ref za, .ref ca, .int (bI kp), .ref ta, .ref na])), (rg, .inl (cI, 6, .inl (rg6 a x d b0 b1 b2))), (sa, .inl (cI, 2, .inl (p2 s0 s1))), (pa, .inl (cI, 2, .inl (p2 p0 p1))), (za, .inl (cZ, 2, .inl (p2 (bI z0) (bI z1)))), (ca, .inl (cZ, 2, .inl (p2 (bI c0) (bI c1)))), (ta, .inl (cI, 2, .inl (p2 t0 t1))), (na, .inl (cI, 2, .inl (p2 n0 n1)))] H := hP.sub [0, 1, 2, 3, 4, 5, 6, 7] rfl
      have hD9 : va_D A [(o, .inr (5, [.int 0, .ref im, .int (bI tr), .ref rc, .ref bg, .int ro, .ref oa, .ref xa, .ref ya, .ref rg, .ref me, .ref sa, .ref pa, .ref za, .ref ca, .int (bI kp), .ref ta, .ref na])), (rg, .inl (cI, 6, .inl (rg6 a x d b0 b1 b2))), (sa, .inl (cI, 2, .inl (p2 s0 s1))), (pa, .inl (cI, 2, .inl (p2 p0 p1))), (za, .inl (cZ, 2, .inl (p2 (bI z0) (bI z1)))), (ca, .inl (cZ, 2, .inl (p2 (bI c0) (bI c1)))), (ta, .inl (cI, 2, .inl (p2 t0 t1))), (na, .inl (cI, 2, .inl (p2 n0 n1)))] := hD.sub [0, 1, 2, 3, 4, 5, 6, 7] (by decide) rfl
      exact W.iret (v := b1) hx hb hr (fun t ht hW => ⟨⟨b1, (), rfl, by rw [h17]; rfl, by rw [ht]; exact hP9, va_K.moved hW.alike hK, hD9⟩, hS.F ht⟩) hS.2.2 d_MO_look_91
    | 2, _, h17 =>
      have h17 : w = 2 := h17
      refine lv_tableIn (off := 75) (tgt := 92) hx hb d_MO_look_17 (by rw [h17]; decide) (by rw [h17]; decide) (by rw [h17]; rfl) rfl ?_
      refine lv_aload_n hx hb d_MO_look_92 rfl (lv_at hl 0 rfl) ?_
      refine va_get (D := D) (ci := 5) (v := .ref sa) (C := R_MO) (T := T_MO) (N := 18) hx hb hts iw_MO hown hK hP 0 rfl rfl 11 (by decide) (hts _ k_706) (fun _ h9 => h9) rfl d_MO_look_93 ?_
      refine lv_iload_n hx hb d_MO_look_96 rfl (lv_at hl 1 rfl) ?_
      refine va_iald hx hb hK hP 2 0 rfl rfl (vp_in_nI (n := 1) (by decide) (by decide)) d_MO_look_97 ?_
      have hP9 : va_P D vwCl [(o, .inr (5, [.int 0, .ref im, .int (bI tr), .ref rc, .ref bg, .int ro, .ref oa, .ref xa, .ref ya, .ref rg, .ref me, .ref sa, .ref pa, .ref za, .ref ca, .int (bI kp), .ref ta, .ref na])), (rg, .inl (cI, 6, .inl (rg6 a x d b0 b1 b2))), (sa, .inl (cI, 2, .inl (p2 s0 s1))), (pa, .inl (cI, 2, .inl (p2 p0 p1))), (za, .inl (cZ, 2, .inl (p2 (bI z0) (bI z1)))), (ca, .inl (cZ, 2, .inl (p2 (bI c0) (bI c1)))), (ta, .inl (cI, 2, .inl (p2 t0 t1))), (na, .inl (cI, 2, .inl (p2 n0 n1)))] H := hP.sub [0, 1, 2, 3, 4, 5, 6, 7] rfl
      have hD9 : va_D A [(o, .inr (5, [.int 0, .ref im, .int (bI tr), .ref rc, .ref bg, .int ro, .ref oa, .ref xa, .ref ya, .ref rg, .ref me, .ref sa, .ref pa, .ref za, .ref ca, .int (bI kp), .ref ta, .ref na])), (rg, .inl (cI, 6, .inl (rg6 a x d b0 b1 b2))), (sa, .inl (cI, 2, .inl (p2 s0 s1))), (pa, .inl (cI, 2, .inl (p2 p0 p1))), (za, .inl (cZ, 2, .inl (p2 (bI z0) (bI z1)))), (ca, .inl (cZ, 2, .inl (p2 (bI c0) (bI c1)))), (ta, .inl (cI, 2, .inl (p2 t0 t1))), (na, .inl (cI, 2, .inl (p2 n0 n1)))] := hD.sub [0, 1, 2, 3, 4, 5, 6, 7] (by decide) rfl
      exact W.iret (v := s1) hx hb hr (fun t ht hW => ⟨⟨s1, (), rfl, by rw [h17]; rfl, by rw [ht]; exact hP9, va_K.moved hW.alike hK, hD9⟩, hS.F ht⟩) hS.2.2 d_MO_look_98
    | 3, _, h17 =>
      have h17 : w = 3 := h17
      refine lv_tableIn (off := 82) (tgt := 99) hx hb d_MO_look_17 (by rw [h17]; decide) (by rw [h17]; decide) (by rw [h17]; rfl) rfl ?_
      refine lv_aload_n hx hb d_MO_look_99 rfl (lv_at hl 0 rfl) ?_
      refine va_get (D := D) (ci := 5) (v := .ref pa) (C := R_MO) (T := T_MO) (N := 18) hx hb hts iw_MO hown hK hP 0 rfl rfl 12 (by decide) (hts _ k_707) (fun _ h9 => h9) rfl d_MO_look_100 ?_
      refine lv_iload_n hx hb d_MO_look_103 rfl (lv_at hl 1 rfl) ?_
      refine va_iald hx hb hK hP 3 0 rfl rfl (vp_in_nI (n := 1) (by decide) (by decide)) d_MO_look_104 ?_
      have hP9 : va_P D vwCl [(o, .inr (5, [.int 0, .ref im, .int (bI tr), .ref rc, .ref bg, .int ro, .ref oa, .ref xa, .ref ya, .ref rg, .ref me, .ref sa, .ref pa, .ref za, .ref ca, .int (bI kp), .ref ta, .ref na])), (rg, .inl (cI, 6, .inl (rg6 a x d b0 b1 b2))), (sa, .inl (cI, 2, .inl (p2 s0 s1))), (pa, .inl (cI, 2, .inl (p2 p0 p1))), (za, .inl (cZ, 2, .inl (p2 (bI z0) (bI z1)))), (ca, .inl (cZ, 2, .inl (p2 (bI c0) (bI c1)))), (ta, .inl (cI, 2, .inl (p2 t0 t1))), (na, .inl (cI, 2, .inl (p2 n0 n1)))] H := hP.sub [0, 1, 2, 3, 4, 5, 6, 7] rfl
      have hD9 : va_D A [(o, .inr (5, [.int 0, .ref im, .int (bI tr), .ref rc, .ref bg, .int ro, .ref oa, .ref xa, .ref ya, .ref rg, .ref me, .ref sa, .ref pa, .ref za, .ref ca, .int (bI kp), .ref ta, .ref na])), (rg, .inl (cI, 6, .inl (rg6 a x d b0 b1 b2))), (sa, .inl (cI, 2, .inl (p2 s0 s1))), (pa, .inl (cI, 2, .inl (p2 p0 p1))), (za, .inl (cZ, 2, .inl (p2 (bI z0) (bI z1)))), (ca, .inl (cZ, 2, .inl (p2 (bI c0) (bI c1)))), (ta, .inl (cI, 2, .inl (p2 t0 t1))), (na, .inl (cI, 2, .inl (p2 n0 n1)))] := hD.sub [0, 1, 2, 3, 4, 5, 6, 7] (by decide) rfl
      exact W.iret (v := p1) hx hb hr (fun t ht hW => ⟨⟨p1, (), rfl, by rw [h17]; rfl, by rw [ht]; exact hP9, va_K.moved hW.alike hK, hD9⟩, hS.F ht⟩) hS.2.2 d_MO_look_105
    | 4, _, h17 =>
      have h17 : w = 4 := h17
      refine lv_tableIn (off := 89) (tgt := 106) hx hb d_MO_look_17 (by rw [h17]; decide) (by rw [h17]; decide) (by rw [h17]; rfl) rfl ?_
      refine lv_aload_n hx hb d_MO_look_106 rfl (lv_at hl 0 rfl) ?_
      refine va_get (D := D) (ci := 5) (v := .ref za) (C := R_MO) (T := T_MO) (N := 18) hx hb hts iw_MO hown hK hP 0 rfl rfl 13 (by decide) (hts _ k_708) (fun _ h9 => h9) rfl d_MO_look_107 ?_
      refine lv_iload_n hx hb d_MO_look_110 rfl (lv_at hl 1 rfl) ?_
      refine va_zald hx hb hK hP 4 1 rfl rfl (vp_in_nI (n := 1) (by decide) (by decide)) d_MO_look_111 ?_
      refine lv_if_eq (tgt := 119) hx hb d_MO_look_112 rfl (fun h112 => ?_) (fun h112 => ?_)
      · have h112 : z1 = false := bI_f h112
        refine lv_iconst (v := 0) hx hb d_MO_look_119 (by decide) ?_
        have hP9 : va_P D vwCl [(o, .inr (5, [.int 0, .ref im, .int (bI tr), .ref rc, .ref bg, .int ro, .ref oa, .ref xa, .ref ya, .ref rg, .ref me, .ref sa, .ref pa, .ref za, .ref ca, .int (bI kp), .ref ta, .ref na])), (rg, .inl (cI, 6, .inl (rg6 a x d b0 b1 b2))), (sa, .inl (cI, 2, .inl (p2 s0 s1))), (pa, .inl (cI, 2, .inl (p2 p0 p1))), (za, .inl (cZ, 2, .inl (p2 (bI z0) (bI z1)))), (ca, .inl (cZ, 2, .inl (p2 (bI c0) (bI c1)))), (ta, .inl (cI, 2, .inl (p2 t0 t1))), (na, .inl (cI, 2, .inl (p2 n0 n1)))] H := hP.sub [0, 1, 2, 3, 4, 5, 6, 7] rfl
        have hD9 : va_D A [(o, .inr (5, [.int 0, .ref im, .int (bI tr), .ref rc, .ref bg, .int ro, .ref oa, .ref xa, .ref ya, .ref rg, .ref me, .ref sa, .ref pa, .ref za, .ref ca, .int (bI kp), .ref ta, .ref na])), (rg, .inl (cI, 6, .inl (rg6 a x d b0 b1 b2))), (sa, .inl (cI, 2, .inl (p2 s0 s1))), (pa, .inl (cI, 2, .inl (p2 p0 p1))), (za, .inl (cZ, 2, .inl (p2 (bI z0) (bI z1)))), (ca, .inl (cZ, 2, .inl (p2 (bI c0) (bI c1)))), (ta, .inl (cI, 2, .inl (p2 t0 t1))), (na, .inl (cI, 2, .inl (p2 n0 n1)))] := hD.sub [0, 1, 2, 3, 4, 5, 6, 7] (by decide) rfl
        exact W.iret (v := 0) hx hb hr (fun t ht hW => ⟨⟨0, (), rfl, by rw [h17, h112]; rfl, by rw [ht]; exact hP9, va_K.moved hW.alike hK, hD9⟩, hS.F ht⟩) hS.2.2 d_MO_look_120
      · have h112 : z1 = true := bI_t h112
        refine lv_iconst (v := 1) hx hb d_MO_look_115 (by decide) ?_
        refine lv_goto (tgt := 120) hx hb d_MO_look_116 rfl ?_
        have hP9 : va_P D vwCl [(o, .inr (5, [.int 0, .ref im, .int (bI tr), .ref rc, .ref bg, .int ro, .ref oa, .ref xa, .ref ya, .ref rg, .ref me, .ref sa, .ref pa, .ref za, .ref ca, .int (bI kp), .ref ta, .ref na])), (rg, .inl (cI, 6, .inl (rg6 a x d b0 b1 b2))), (sa, .inl (cI, 2, .inl (p2 s0 s1))), (pa, .inl (cI, 2, .inl (p2 p0 p1))), (za, .inl (cZ, 2, .inl (p2 (bI z0) (bI z1)))), (ca, .inl (cZ, 2, .inl (p2 (bI c0) (bI c1)))), (ta, .inl (cI, 2, .inl (p2 t0 t1))), (na, .inl (cI, 2, .inl (p2 n0 n1)))] H := hP.sub [0, 1, 2, 3, 4, 5, 6, 7] rfl
        have hD9 : va_D A [(o, .inr (5, [.int 0, .ref im, .int (bI tr), .ref rc, .ref bg, .int ro, .ref oa, .ref xa, .ref ya, .ref rg, .ref me, .ref sa, .ref pa, .ref za, .ref ca, .int (bI kp), .ref ta, .ref na])), (rg, .inl (cI, 6, .inl (rg6 a x d b0 b1 b2))), (sa, .inl (cI, 2, .inl (p2 s0 s1))), (pa, .inl (cI, 2, .inl (p2 p0 p1))), (za, .inl (cZ, 2, .inl (p2 (bI z0) (bI z1)))), (ca, .inl (cZ, 2, .inl (p2 (bI c0) (bI c1)))), (ta, .inl (cI, 2, .inl (p2 t0 t1))), (na, .inl (cI, 2, .inl (p2 n0 n1)))] := hD.sub [0, 1, 2, 3, 4, 5, 6, 7] (by decide) rfl
        exact W.iret (v := 1) hx hb hr (fun t ht hW => ⟨⟨1, (), rfl, by rw [h17, h112]; rfl, by rw [ht]; exact hP9, va_K.moved hW.alike hK, hD9⟩, hS.F ht⟩) hS.2.2 d_MO_look_120
    | 5, _, h17 =>
      have h17 : w = 5 := h17
      refine lv_tableIn (off := 104) (tgt := 121) hx hb d_MO_look_17 (by rw [h17]; decide) (by rw [h17]; decide) (by rw [h17]; rfl) rfl ?_
      refine lv_aload_n hx hb d_MO_look_121 rfl (lv_at hl 0 rfl) ?_
      refine va_get (D := D) (ci := 5) (v := .ref ca) (C := R_MO) (T := T_MO) (N := 18) hx hb hts iw_MO hown hK hP 0 rfl rfl 14 (by decide) (hts _ k_709) (fun _ h9 => h9) rfl d_MO_look_122 ?_
      refine lv_iload_n hx hb d_MO_look_125 rfl (lv_at hl 1 rfl) ?_
      refine va_zald hx hb hK hP 5 1 rfl rfl (vp_in_nI (n := 1) (by decide) (by decide)) d_MO_look_126 ?_
      refine lv_if_eq (tgt := 134) hx hb d_MO_look_127 rfl (fun h127 => ?_) (fun h127 => ?_)
      · have h127 : c1 = false := bI_f h127
        refine lv_iconst (v := 0) hx hb d_MO_look_134 (by decide) ?_
        have hP9 : va_P D vwCl [(o, .inr (5, [.int 0, .ref im, .int (bI tr), .ref rc, .ref bg, .int ro, .ref oa, .ref xa, .ref ya, .ref rg, .ref me, .ref sa, .ref pa, .ref za, .ref ca, .int (bI kp), .ref ta, .ref na])), (rg, .inl (cI, 6, .inl (rg6 a x d b0 b1 b2))), (sa, .inl (cI, 2, .inl (p2 s0 s1))), (pa, .inl (cI, 2, .inl (p2 p0 p1))), (za, .inl (cZ, 2, .inl (p2 (bI z0) (bI z1)))), (ca, .inl (cZ, 2, .inl (p2 (bI c0) (bI c1)))), (ta, .inl (cI, 2, .inl (p2 t0 t1))), (na, .inl (cI, 2, .inl (p2 n0 n1)))] H := hP.sub [0, 1, 2, 3, 4, 5, 6, 7] rfl
        have hD9 : va_D A [(o, .inr (5, [.int 0, .ref im, .int (bI tr), .ref rc, .ref bg, .int ro, .ref oa, .ref xa, .ref ya, .ref rg, .ref me, .ref sa, .ref pa, .ref za, .ref ca, .int (bI kp), .ref ta, .ref na])), (rg, .inl (cI, 6, .inl (rg6 a x d b0 b1 b2))), (sa, .inl (cI, 2, .inl (p2 s0 s1))), (pa, .inl (cI, 2, .inl (p2 p0 p1))), (za, .inl (cZ, 2, .inl (p2 (bI z0) (bI z1)))), (ca, .inl (cZ, 2, .inl (p2 (bI c0) (bI c1)))), (ta, .inl (cI, 2, .inl (p2 t0 t1))), (na, .inl (cI, 2, .inl (p2 n0 n1)))] := hD.sub [0, 1, 2, 3, 4, 5, 6, 7] (by decide) rfl
        exact W.iret (v := 0) hx hb hr (fun t ht hW => ⟨⟨0, (), rfl, by rw [h17, h127]; rfl, by rw [ht]; exact hP9, va_K.moved hW.alike hK, hD9⟩, hS.F ht⟩) hS.2.2 d_MO_look_135
      · have h127 : c1 = true := bI_t h127
        refine lv_iconst (v := 1) hx hb d_MO_look_130 (by decide) ?_
        refine lv_goto (tgt := 135) hx hb d_MO_look_131 rfl ?_
        have hP9 : va_P D vwCl [(o, .inr (5, [.int 0, .ref im, .int (bI tr), .ref rc, .ref bg, .int ro, .ref oa, .ref xa, .ref ya, .ref rg, .ref me, .ref sa, .ref pa, .ref za, .ref ca, .int (bI kp), .ref ta, .ref na])), (rg, .inl (cI, 6, .inl (rg6 a x d b0 b1 b2))), (sa, .inl (cI, 2, .inl (p2 s0 s1))), (pa, .inl (cI, 2, .inl (p2 p0 p1))), (za, .inl (cZ, 2, .inl (p2 (bI z0) (bI z1)))), (ca, .inl (cZ, 2, .inl (p2 (bI c0) (bI c1)))), (ta, .inl (cI, 2, .inl (p2 t0 t1))), (na, .inl (cI, 2, .inl (p2 n0 n1)))] H := hP.sub [0, 1, 2, 3, 4, 5, 6, 7] rfl
        have hD9 : va_D A [(o, .inr (5, [.int 0, .ref im, .int (bI tr), .ref rc, .ref bg, .int ro, .ref oa, .ref xa, .ref ya, .ref rg, .ref me, .ref sa, .ref pa, .ref za, .ref ca, .int (bI kp), .ref ta, .ref na])), (rg, .inl (cI, 6, .inl (rg6 a x d b0 b1 b2))), (sa, .inl (cI, 2, .inl (p2 s0 s1))), (pa, .inl (cI, 2, .inl (p2 p0 p1))), (za, .inl (cZ, 2, .inl (p2 (bI z0) (bI z1)))), (ca, .inl (cZ, 2, .inl (p2 (bI c0) (bI c1)))), (ta, .inl (cI, 2, .inl (p2 t0 t1))), (na, .inl (cI, 2, .inl (p2 n0 n1)))] := hD.sub [0, 1, 2, 3, 4, 5, 6, 7] (by decide) rfl
        exact W.iret (v := 1) hx hb hr (fun t ht hW => ⟨⟨1, (), rfl, by rw [h17, h127]; rfl, by rw [ht]; exact hP9, va_K.moved hW.alike hK, hD9⟩, hS.F ht⟩) hS.2.2 d_MO_look_135
    | 6, _, h17 =>
      have h17 : w = 6 := h17
      refine lv_tableIn (off := 119) (tgt := 136) hx hb d_MO_look_17 (by rw [h17]; decide) (by rw [h17]; decide) (by rw [h17]; rfl) rfl ?_
      refine lv_aload_n hx hb d_MO_look_136 rfl (lv_at hl 0 rfl) ?_
      refine va_get (D := D) (ci := 5) (v := .ref ta) (C := R_MO) (T := T_MO) (N := 18) hx hb hts iw_MO hown hK hP 0 rfl rfl 16 (by decide) (hts _ k_711) (fun _ h9 => h9) rfl d_MO_look_137 ?_
      refine lv_iload_n hx hb d_MO_look_140 rfl (lv_at hl 1 rfl) ?_
      refine va_iald hx hb hK hP 6 0 rfl rfl (vp_in_nI (n := 1) (by decide) (by decide)) d_MO_look_141 ?_
      have hP9 : va_P D vwCl [(o, .inr (5, [.int 0, .ref im, .int (bI tr), .ref rc, .ref bg, .int ro, .ref oa, .ref xa, .ref ya, .ref rg, .ref me, .ref sa, .ref pa, .ref za, .ref ca, .int (bI kp), .ref ta, .ref na])), (rg, .inl (cI, 6, .inl (rg6 a x d b0 b1 b2))), (sa, .inl (cI, 2, .inl (p2 s0 s1))), (pa, .inl (cI, 2, .inl (p2 p0 p1))), (za, .inl (cZ, 2, .inl (p2 (bI z0) (bI z1)))), (ca, .inl (cZ, 2, .inl (p2 (bI c0) (bI c1)))), (ta, .inl (cI, 2, .inl (p2 t0 t1))), (na, .inl (cI, 2, .inl (p2 n0 n1)))] H := hP.sub [0, 1, 2, 3, 4, 5, 6, 7] rfl
      have hD9 : va_D A [(o, .inr (5, [.int 0, .ref im, .int (bI tr), .ref rc, .ref bg, .int ro, .ref oa, .ref xa, .ref ya, .ref rg, .ref me, .ref sa, .ref pa, .ref za, .ref ca, .int (bI kp), .ref ta, .ref na])), (rg, .inl (cI, 6, .inl (rg6 a x d b0 b1 b2))), (sa, .inl (cI, 2, .inl (p2 s0 s1))), (pa, .inl (cI, 2, .inl (p2 p0 p1))), (za, .inl (cZ, 2, .inl (p2 (bI z0) (bI z1)))), (ca, .inl (cZ, 2, .inl (p2 (bI c0) (bI c1)))), (ta, .inl (cI, 2, .inl (p2 t0 t1))), (na, .inl (cI, 2, .inl (p2 n0 n1)))] := hD.sub [0, 1, 2, 3, 4, 5, 6, 7] (by decide) rfl
      exact W.iret (v := t1) hx hb hr (fun t ht hW => ⟨⟨t1, (), rfl, by rw [h17]; rfl, by rw [ht]; exact hP9, va_K.moved hW.alike hK, hD9⟩, hS.F ht⟩) hS.2.2 d_MO_look_142
    | 7, _, h17 =>
      have h17 : w = 7 := h17
      refine lv_tableIn (off := 126) (tgt := 143) hx hb d_MO_look_17 (by rw [h17]; decide) (by rw [h17]; decide) (by rw [h17]; rfl) rfl ?_
      refine lv_aload_n hx hb d_MO_look_143 rfl (lv_at hl 0 rfl) ?_
      refine va_get (D := D) (ci := 5) (v := .ref na) (C := R_MO) (T := T_MO) (N := 18) hx hb hts iw_MO hown hK hP 0 rfl rfl 17 (by decide) (hts _ k_712) (fun _ h9 => h9) rfl d_MO_look_144 ?_
      refine lv_iload_n hx hb d_MO_look_147 rfl (lv_at hl 1 rfl) ?_
      refine va_iald hx hb hK hP 7 0 rfl rfl (vp_in_nI (n := 1) (by decide) (by decide)) d_MO_look_148 ?_
      have hP9 : va_P D vwCl [(o, .inr (5, [.int 0, .ref im, .int (bI tr), .ref rc, .ref bg, .int ro, .ref oa, .ref xa, .ref ya, .ref rg, .ref me, .ref sa, .ref pa, .ref za, .ref ca, .int (bI kp), .ref ta, .ref na])), (rg, .inl (cI, 6, .inl (rg6 a x d b0 b1 b2))), (sa, .inl (cI, 2, .inl (p2 s0 s1))), (pa, .inl (cI, 2, .inl (p2 p0 p1))), (za, .inl (cZ, 2, .inl (p2 (bI z0) (bI z1)))), (ca, .inl (cZ, 2, .inl (p2 (bI c0) (bI c1)))), (ta, .inl (cI, 2, .inl (p2 t0 t1))), (na, .inl (cI, 2, .inl (p2 n0 n1)))] H := hP.sub [0, 1, 2, 3, 4, 5, 6, 7] rfl
      have hD9 : va_D A [(o, .inr (5, [.int 0, .ref im, .int (bI tr), .ref rc, .ref bg, .int ro, .ref oa, .ref xa, .ref ya, .ref rg, .ref me, .ref sa, .ref pa, .ref za, .ref ca, .int (bI kp), .ref ta, .ref na])), (rg, .inl (cI, 6, .inl (rg6 a x d b0 b1 b2))), (sa, .inl (cI, 2, .inl (p2 s0 s1))), (pa, .inl (cI, 2, .inl (p2 p0 p1))), (za, .inl (cZ, 2, .inl (p2 (bI z0) (bI z1)))), (ca, .inl (cZ, 2, .inl (p2 (bI c0) (bI c1)))), (ta, .inl (cI, 2, .inl (p2 t0 t1))), (na, .inl (cI, 2, .inl (p2 n0 n1)))] := hD.sub [0, 1, 2, 3, 4, 5, 6, 7] (by decide) rfl
      exact W.iret (v := n1) hx hb hr (fun t ht hW => ⟨⟨n1, (), rfl, by rw [h17]; rfl, by rw [ht]; exact hP9, va_K.moved hW.alike hK, hD9⟩, hS.F ht⟩) hS.2.2 d_MO_look_149
    | 8, _, h17 =>
      have h17 : w = 8 := h17
      refine lv_tableIn (off := 133) (tgt := 150) hx hb d_MO_look_17 (by rw [h17]; decide) (by rw [h17]; decide) (by rw [h17]; rfl) rfl ?_
      refine lv_iload_n hx hb d_MO_look_150 rfl (lv_at hl 1 rfl) ?_
      refine lv_if_ne (tgt := 158) hx hb d_MO_look_151 rfl (fun _ => ?_) (fun hq9 => absurd hq9 (by decide))
      refine lv_aload_n hx hb d_MO_look_158 rfl (lv_at hl 0 rfl) ?_
      refine va_get (D := D) (ci := 5) (v := .ref rg) (C := R_MO) (T := T_MO) (N := 18) hx hb hts iw_MO hown hK hP 0 rfl rfl 9 (by decide) (hts _ k_704) (fun _ h9 => h9) rfl d_MO_look_159 ?_
      refine lv_iconst (v := 5) hx hb d_MO_look_162 (by decide) ?_
      refine va_iald hx hb hK hP 1 0 rfl rfl (vp_in_nI (n := 5) (by decide) (by decide)) d_MO_look_163 ?_
      have hP9 : va_P D vwCl [(o, .inr (5, [.int 0, .ref im, .int (bI tr), .ref rc, .ref bg, .int ro, .ref oa, .ref xa, .ref ya, .ref rg, .ref me, .ref sa, .ref pa, .ref za, .ref ca, .int (bI kp), .ref ta, .ref na])), (rg, .inl (cI, 6, .inl (rg6 a x d b0 b1 b2))), (sa, .inl (cI, 2, .inl (p2 s0 s1))), (pa, .inl (cI, 2, .inl (p2 p0 p1))), (za, .inl (cZ, 2, .inl (p2 (bI z0) (bI z1)))), (ca, .inl (cZ, 2, .inl (p2 (bI c0) (bI c1)))), (ta, .inl (cI, 2, .inl (p2 t0 t1))), (na, .inl (cI, 2, .inl (p2 n0 n1)))] H := hP.sub [0, 1, 2, 3, 4, 5, 6, 7] rfl
      have hD9 : va_D A [(o, .inr (5, [.int 0, .ref im, .int (bI tr), .ref rc, .ref bg, .int ro, .ref oa, .ref xa, .ref ya, .ref rg, .ref me, .ref sa, .ref pa, .ref za, .ref ca, .int (bI kp), .ref ta, .ref na])), (rg, .inl (cI, 6, .inl (rg6 a x d b0 b1 b2))), (sa, .inl (cI, 2, .inl (p2 s0 s1))), (pa, .inl (cI, 2, .inl (p2 p0 p1))), (za, .inl (cZ, 2, .inl (p2 (bI z0) (bI z1)))), (ca, .inl (cZ, 2, .inl (p2 (bI c0) (bI c1)))), (ta, .inl (cI, 2, .inl (p2 t0 t1))), (na, .inl (cI, 2, .inl (p2 n0 n1)))] := hD.sub [0, 1, 2, 3, 4, 5, 6, 7] (by decide) rfl
      exact W.iret (v := b2) hx hb hr (fun t ht hW => ⟨⟨b2, (), rfl, by rw [h17]; rfl, by rw [ht]; exact hP9, va_K.moved hW.alike hK, hD9⟩, hS.F ht⟩) hS.2.2 d_MO_look_164
    | 9, _, h17 =>
      have h17 : w = 9 := h17
      refine lv_tableIn (off := 148) (tgt := 165) hx hb d_MO_look_17 (by rw [h17]; decide) (by rw [h17]; decide) (by rw [h17]; rfl) rfl ?_
      refine lv_iload_n hx hb d_MO_look_165 rfl (lv_at hl 1 rfl) ?_
      refine lv_iconst (v := 1) hx hb d_MO_look_166 (by decide) ?_
      refine lv_icmp_ne (tgt := 181) hx hb d_MO_look_167 rfl (fun hq9 => absurd (by decide) hq9) (fun _ => ?_)
      refine lv_aload_n hx hb d_MO_look_170 rfl (lv_at hl 0 rfl) ?_
      refine va_get (D := D) (ci := 5) (v := .int (bI kp)) (C := R_MO) (T := T_MO) (N := 18) hx hb hts iw_MO hown hK hP 0 rfl rfl 15 (by decide) (hts _ k_710) (fun _ h9 => h9) rfl d_MO_look_171 ?_
      refine lv_if_eq (tgt := 181) hx hb d_MO_look_174 rfl (fun h174 => ?_) (fun h174 => ?_)
      · have h174 : kp = false := bI_f h174
        refine lv_iconst (v := 0) hx hb d_MO_look_181 (by decide) ?_
        have hP9 : va_P D vwCl [(o, .inr (5, [.int 0, .ref im, .int (bI tr), .ref rc, .ref bg, .int ro, .ref oa, .ref xa, .ref ya, .ref rg, .ref me, .ref sa, .ref pa, .ref za, .ref ca, .int (bI kp), .ref ta, .ref na])), (rg, .inl (cI, 6, .inl (rg6 a x d b0 b1 b2))), (sa, .inl (cI, 2, .inl (p2 s0 s1))), (pa, .inl (cI, 2, .inl (p2 p0 p1))), (za, .inl (cZ, 2, .inl (p2 (bI z0) (bI z1)))), (ca, .inl (cZ, 2, .inl (p2 (bI c0) (bI c1)))), (ta, .inl (cI, 2, .inl (p2 t0 t1))), (na, .inl (cI, 2, .inl (p2 n0 n1)))] H := hP.sub [0, 1, 2, 3, 4, 5, 6, 7] rfl
        have hD9 : va_D A [(o, .inr (5, [.int 0, .ref im, .int (bI tr), .ref rc, .ref bg, .int ro, .ref oa, .ref xa, .ref ya, .ref rg, .ref me, .ref sa, .ref pa, .ref za, .ref ca, .int (bI kp), .ref ta, .ref na])), (rg, .inl (cI, 6, .inl (rg6 a x d b0 b1 b2))), (sa, .inl (cI, 2, .inl (p2 s0 s1))), (pa, .inl (cI, 2, .inl (p2 p0 p1))), (za, .inl (cZ, 2, .inl (p2 (bI z0) (bI z1)))), (ca, .inl (cZ, 2, .inl (p2 (bI c0) (bI c1)))), (ta, .inl (cI, 2, .inl (p2 t0 t1))), (na, .inl (cI, 2, .inl (p2 n0 n1)))] := hD.sub [0, 1, 2, 3, 4, 5, 6, 7] (by decide) rfl
        exact W.iret (v := 0) hx hb hr (fun t ht hW => ⟨⟨0, (), rfl, by rw [h17, h174]; rfl, by rw [ht]; exact hP9, va_K.moved hW.alike hK, hD9⟩, hS.F ht⟩) hS.2.2 d_MO_look_182
      · have h174 : kp = true := bI_t h174
        refine lv_iconst (v := 1) hx hb d_MO_look_177 (by decide) ?_
        refine lv_goto (tgt := 182) hx hb d_MO_look_178 rfl ?_
        have hP9 : va_P D vwCl [(o, .inr (5, [.int 0, .ref im, .int (bI tr), .ref rc, .ref bg, .int ro, .ref oa, .ref xa, .ref ya, .ref rg, .ref me, .ref sa, .ref pa, .ref za, .ref ca, .int (bI kp), .ref ta, .ref na])), (rg, .inl (cI, 6, .inl (rg6 a x d b0 b1 b2))), (sa, .inl (cI, 2, .inl (p2 s0 s1))), (pa, .inl (cI, 2, .inl (p2 p0 p1))), (za, .inl (cZ, 2, .inl (p2 (bI z0) (bI z1)))), (ca, .inl (cZ, 2, .inl (p2 (bI c0) (bI c1)))), (ta, .inl (cI, 2, .inl (p2 t0 t1))), (na, .inl (cI, 2, .inl (p2 n0 n1)))] H := hP.sub [0, 1, 2, 3, 4, 5, 6, 7] rfl
        have hD9 : va_D A [(o, .inr (5, [.int 0, .ref im, .int (bI tr), .ref rc, .ref bg, .int ro, .ref oa, .ref xa, .ref ya, .ref rg, .ref me, .ref sa, .ref pa, .ref za, .ref ca, .int (bI kp), .ref ta, .ref na])), (rg, .inl (cI, 6, .inl (rg6 a x d b0 b1 b2))), (sa, .inl (cI, 2, .inl (p2 s0 s1))), (pa, .inl (cI, 2, .inl (p2 p0 p1))), (za, .inl (cZ, 2, .inl (p2 (bI z0) (bI z1)))), (ca, .inl (cZ, 2, .inl (p2 (bI c0) (bI c1)))), (ta, .inl (cI, 2, .inl (p2 t0 t1))), (na, .inl (cI, 2, .inl (p2 n0 n1)))] := hD.sub [0, 1, 2, 3, 4, 5, 6, 7] (by decide) rfl
        exact W.iret (v := 1) hx hb hr (fun t ht hW => ⟨⟨1, (), rfl, by rw [h17, h174]; rfl, by rw [ht]; exact hP9, va_K.moved hW.alike hK, hD9⟩, hS.F ht⟩) hS.2.2 d_MO_look_182
    | n + 10, h9, _ => exact absurd h9 (by omega)
set_option maxHeartbeats 4000000 in
set_option maxRecDepth 100000 in
theorem q_lookN (l : Launch) (D : va_G) (cI cZ : ClassId) (o : Nat) (th : Int32) (im : Nat) (tr : Bool) (rc : Nat) (bg : Nat) (ro : Int32) (oa : Nat) (xa : Nat) (ya : Nat) (rg : Nat) (me : Nat) (sa : Nat) (pa : Nat) (za : Nat) (ca : Nat) (kp : Bool) (ta : Nat) (na : Nat) (m9 : Int32) (w : Int32) (sz : Nat) (hm0 : ¬ m9 = 0) (hm1 : ¬ m9 = 1) : MetI l y_MO_look w_MO_look { frames := 0, cells := 0, slots := 0, locals := 0 } D cI cZ [.ref o, .int m9, .int w] [(o, .inr (5, [.int th, .ref im, .int (bI tr), .ref rc, .ref bg, .int ro, .ref oa, .ref xa, .ref ya, .ref rg, .ref me, .ref sa, .ref pa, .ref za, .ref ca, .int (bI kp), .ref ta, .ref na]))] sz (fun r (_ : Unit) => r = (-1)) (fun (_ : Unit) => [(o, .inr (5, [.int 0, .ref im, .int (bI tr), .ref rc, .ref bg, .int ro, .ref oa, .ref xa, .ref ya, .ref rg, .ref me, .ref sa, .ref pa, .ref za, .ref ca, .int (bI kp), .ref ta, .ref na]))]) 0 0 := by
  refine ofI (cc := c_MO_look) (maxL := 3) (ret := (some .int)) (by decide) rfl (Nat.le_of_ble_eq_true rfl) ?_
  intro p e s m args below meth c A H hH0 hx hb hr hlocks hts hown hnm hml ls hl hP hK hD hA hS hN
  have hown : s.vm.findClass R_MO = some m.cls := hown
  have hl : lv_has ls 3 [(0, .ref o), (1, .int m9), (2, .int w)] := hl
  refine lv_aload_n hx hb d_MO_look_0 rfl (lv_at hl 0 rfl) ?_
  refine lv_iconst (v := 0) hx hb d_MO_look_1 (by decide) ?_
  refine va_put (D := D) (ci := 5) (v := .int 0) (ty := .int) (C := R_MO) (T := T_MO) (N := 18) hx hb hts iw_MO ty_MO ty_MO_ok nm_MO hown hK hP hD hS 0 rfl rfl 0 (by decide) (hts _ k_695) (fun _ h9 => h9) rfl (by decide +kernel) rfl rfl (Nat.le_of_ble_eq_true rfl) d_MO_look_2 (fun H locs hP hD hS => ?_)
  have hP : va_P D vwCl [(o, .inr (5, [.int 0, .ref im, .int (bI tr), .ref rc, .ref bg, .int ro, .ref oa, .ref xa, .ref ya, .ref rg, .ref me, .ref sa, .ref pa, .ref za, .ref ca, .int (bI kp), .ref ta, .ref na]))] H := hP
  have hD : va_D A [(o, .inr (5, [.int 0, .ref im, .int (bI tr), .ref rc, .ref bg, .int ro, .ref oa, .ref xa, .ref ya, .ref rg, .ref me, .ref sa, .ref pa, .ref za, .ref ca, .int (bI kp), .ref ta, .ref na]))] := hD
  refine lv_iload_n hx hb d_MO_look_5 rfl (lv_at hl 1 rfl) ?_
  refine lv_if_lt (tgt := 14) hx hb d_MO_look_6 rfl (fun h6 => ?_) (fun h6 => ?_)
  · refine lv_iconst (v := (-1)) hx hb d_MO_look_14 (by decide) ?_
    have hP9 : va_P D vwCl [(o, .inr (5, [.int 0, .ref im, .int (bI tr), .ref rc, .ref bg, .int ro, .ref oa, .ref xa, .ref ya, .ref rg, .ref me, .ref sa, .ref pa, .ref za, .ref ca, .int (bI kp), .ref ta, .ref na]))] H := hP.sub [0] rfl
    have hD9 : va_D A [(o, .inr (5, [.int 0, .ref im, .int (bI tr), .ref rc, .ref bg, .int ro, .ref oa, .ref xa, .ref ya, .ref rg, .ref me, .ref sa, .ref pa, .ref za, .ref ca, .int (bI kp), .ref ta, .ref na]))] := hD.sub [0] (by decide) rfl
    exact W.iret (v := (-1)) hx hb hr (fun t ht hW => ⟨⟨(-1), (), rfl, rfl, by rw [ht]; exact hP9, va_K.moved hW.alike hK, hD9⟩, hS.F ht⟩) hS.2.2 d_MO_look_15
  · refine lv_iload_n hx hb d_MO_look_9 rfl (lv_at hl 1 rfl) ?_
    refine lv_iconst (v := 1) hx hb d_MO_look_10 (by decide) ?_
    refine lv_icmp_le (tgt := 16) hx hb d_MO_look_11 rfl (fun hq9 => absurd hq9 (no01 h6 hm0 hm1)) (fun _ => ?_)
    refine lv_iconst (v := (-1)) hx hb d_MO_look_14 (by decide) ?_
    have hP9 : va_P D vwCl [(o, .inr (5, [.int 0, .ref im, .int (bI tr), .ref rc, .ref bg, .int ro, .ref oa, .ref xa, .ref ya, .ref rg, .ref me, .ref sa, .ref pa, .ref za, .ref ca, .int (bI kp), .ref ta, .ref na]))] H := hP.sub [0] rfl
    have hD9 : va_D A [(o, .inr (5, [.int 0, .ref im, .int (bI tr), .ref rc, .ref bg, .int ro, .ref oa, .ref xa, .ref ya, .ref rg, .ref me, .ref sa, .ref pa, .ref za, .ref ca, .int (bI kp), .ref ta, .ref na]))] := hD.sub [0] (by decide) rfl
    exact W.iret (v := (-1)) hx hb hr (fun t ht hW => ⟨⟨(-1), (), rfl, rfl, by rw [ht]; exact hP9, va_K.moved hW.alike hK, hD9⟩, hS.F ht⟩) hS.2.2 d_MO_look_15
set_option maxHeartbeats 4000000 in
set_option maxRecDepth 100000 in
theorem q_byteAt0 (l : Launch) (D : va_G) (cI cZ : ClassId) (o : Nat) (th : Int32) (im : Nat) (tr : Bool) (rc : Nat) (bg : Nat) (ro : Int32) (oa : Nat) (xa : Nat) (ya : Nat) (rg : Nat) (me : Nat) (sa : Nat) (pa : Nat) (za : Nat) (ca : Nat) (kp : Bool) (ta : Nat) (na : Nat) (g : Nat → Int32) (h : Nat → Int32) (ad : Int32) (sz : Nat) : MetI l y_MO_byteAt w_MO_byteAt { frames := 1, cells := 0, slots := 0, locals := 20 } D cI cZ [.ref o, .int 0, .int ad] [(o, .inr (5, [.int th, .ref im, .int (bI tr), .ref rc, .ref bg, .int ro, .ref oa, .ref xa, .ref ya, .ref rg, .ref me, .ref sa, .ref pa, .ref za, .ref ca, .int (bI kp), .ref ta, .ref na])), (me, .inl (cI, 512, .inl (mm2 g h)))] sz (fun r (_ : Unit) => r = begI g ad) (fun (_ : Unit) => [(o, .inr (5, [.int 0, .ref im, .int (bI tr), .ref rc, .ref bg, .int ro, .ref oa, .ref xa, .ref ya, .ref rg, .ref me, .ref sa, .ref pa, .ref za, .ref ca, .int (bI kp), .ref ta, .ref na])), (me, .inl (cI, 512, .inl (mm2 g h)))]) 0 0 := by
  refine ofI (cc := c_MO_byteAt) (maxL := 3) (ret := (some .int)) (by decide) rfl (Nat.le_of_ble_eq_true rfl) ?_
  intro p e s m args below meth c A H hH0 hx hb hr hlocks hts hown hnm hml ls hl hP hK hD hA hS hN
  have hown : s.vm.findClass R_MO = some m.cls := hown
  have hl : lv_has ls 3 [(0, .ref o), (1, .int 0), (2, .int ad)] := hl
  refine lv_aload_n hx hb d_MO_byteAt_0 rfl (lv_at hl 0 rfl) ?_
  refine lv_iconst (v := 0) hx hb d_MO_byteAt_1 (by decide) ?_
  refine va_put (D := D) (ci := 5) (v := .int 0) (ty := .int) (C := R_MO) (T := T_MO) (N := 18) hx hb hts iw_MO ty_MO ty_MO_ok nm_MO hown hK hP hD hS 0 rfl rfl 0 (by decide) (hts _ k_695) (fun _ h9 => h9) rfl (by decide +kernel) rfl rfl (Nat.le_of_ble_eq_true rfl) d_MO_byteAt_2 (fun H locs hP hD hS => ?_)
  have hP : va_P D vwCl [(o, .inr (5, [.int 0, .ref im, .int (bI tr), .ref rc, .ref bg, .int ro, .ref oa, .ref xa, .ref ya, .ref rg, .ref me, .ref sa, .ref pa, .ref za, .ref ca, .int (bI kp), .ref ta, .ref na])), (me, .inl (cI, 512, .inl (mm2 g h)))] H := hP
  have hD : va_D A [(o, .inr (5, [.int 0, .ref im, .int (bI tr), .ref rc, .ref bg, .int ro, .ref oa, .ref xa, .ref ya, .ref rg, .ref me, .ref sa, .ref pa, .ref za, .ref ca, .int (bI kp), .ref ta, .ref na])), (me, .inl (cI, 512, .inl (mm2 g h)))] := hD
  refine lv_iload_n hx hb d_MO_byteAt_5 rfl (lv_at hl 1 rfl) ?_
  refine lv_if_lt (tgt := 21) hx hb d_MO_byteAt_6 rfl (fun hq9 => absurd hq9 (by decide)) (fun _ => ?_)
  refine lv_iload_n hx hb d_MO_byteAt_9 rfl (lv_at hl 1 rfl) ?_
  refine lv_iconst (v := 1) hx hb d_MO_byteAt_10 (by decide) ?_
  refine lv_icmp_gt (tgt := 21) hx hb d_MO_byteAt_11 rfl (fun hq9 => absurd hq9 (by decide)) (fun _ => ?_)
  refine lv_iload_n hx hb d_MO_byteAt_14 rfl (lv_at hl 2 rfl) ?_
  have hPc := hP.sub (ws' := []) [] rfl
  refine vp_callSi (va_runS (As := [.int ad]) (rest := []) ⟨hx, hb, hml, hown, hts⟩ (q_isByte l D cI cZ ad) ⟨cB 1 hts k_760 k_62 k_758 hd_MO_isByte ⟨Nat.le_of_ble_eq_true rfl, Nat.le_of_ble_eq_true rfl⟩ rfl rfl, hts _ k_759⟩ (PcR.preS hPc hK hN) rfl rfl hl.1 rfl (lv_room (Nat.le_of_ble_eq_true rfl)) d_MO_byteAt_15 ⟨Nat.le_of_ble_eq_true rfl, Nat.le_of_ble_eq_true rfl⟩).run (fun r15 e15 => ?_)
  replace e15 := e15.symm
  subst e15
  refine lv_if_ne (tgt := 25) hx hb d_MO_byteAt_18 rfl (fun h18 => ?_) (fun h18 => ?_)
  · have h18 : isByteB ad = true := bI_t h18
    refine lv_aload_n hx hb d_MO_byteAt_25 rfl (lv_at hl 0 rfl) ?_
    refine va_get (D := D) (ci := 5) (v := .ref me) (C := R_MO) (T := T_MO) (N := 18) hx hb hts iw_MO hown hK hP 0 rfl rfl 10 (by decide) (hts _ k_705) (fun _ h9 => h9) rfl d_MO_byteAt_26 ?_
    refine lv_sipush (v := 256) hx hb d_MO_byteAt_29 (by decide) ?_
    refine lv_iload_n hx hb d_MO_byteAt_32 rfl (lv_at hl 1 rfl) ?_
    refine lv_imul hx hb d_MO_byteAt_33 ?_
    refine lv_iload_n hx hb d_MO_byteAt_34 rfl (lv_at hl 2 rfl) ?_
    refine lv_iadd hx hb d_MO_byteAt_35 ?_
    refine va_iald hx hb hK hP 1 0 rfl rfl (inb_0 h18) d_MO_byteAt_36 ?_
    refine lv_topi (fun y9 e9 => ?_)
    have e9 : y9 = g ad.toNatClampNeg := e9.trans (mmb_0 _ _ h18)
    subst e9
    have hP9 : va_P D vwCl [(o, .inr (5, [.int 0, .ref im, .int (bI tr), .ref rc, .ref bg, .int ro, .ref oa, .ref xa, .ref ya, .ref rg, .ref me, .ref sa, .ref pa, .ref za, .ref ca, .int (bI kp), .ref ta, .ref na])), (me, .inl (cI, 512, .inl (mm2 g h)))] H := hP.sub [0, 1] rfl
    have hD9 : va_D A [(o, .inr (5, [.int 0, .ref im, .int (bI tr), .ref rc, .ref bg, .int ro, .ref oa, .ref xa, .ref ya, .ref rg, .ref me, .ref sa, .ref pa, .ref za, .ref ca, .int (bI kp), .ref ta, .ref na])), (me, .inl (cI, 512, .inl (mm2 g h)))] := hD.sub [0, 1] (by decide) rfl
    exact W.iret (v := (g ad.toNatClampNeg)) hx hb hr (fun t ht hW => ⟨⟨(g ad.toNatClampNeg), (), rfl, by rw [begI, if_pos h18], by rw [ht]; exact hP9, va_K.moved hW.alike hK, hD9⟩, hS.F ht⟩) hS.2.2 d_MO_byteAt_37
  · have h18 : isByteB ad = false := bI_f h18
    refine lv_iconst (v := (-1)) hx hb d_MO_byteAt_21 (by decide) ?_
    refine lv_goto (tgt := 37) hx hb d_MO_byteAt_22 rfl ?_
    have hP9 : va_P D vwCl [(o, .inr (5, [.int 0, .ref im, .int (bI tr), .ref rc, .ref bg, .int ro, .ref oa, .ref xa, .ref ya, .ref rg, .ref me, .ref sa, .ref pa, .ref za, .ref ca, .int (bI kp), .ref ta, .ref na])), (me, .inl (cI, 512, .inl (mm2 g h)))] H := hP.sub [0, 1] rfl
    have hD9 : va_D A [(o, .inr (5, [.int 0, .ref im, .int (bI tr), .ref rc, .ref bg, .int ro, .ref oa, .ref xa, .ref ya, .ref rg, .ref me, .ref sa, .ref pa, .ref za, .ref ca, .int (bI kp), .ref ta, .ref na])), (me, .inl (cI, 512, .inl (mm2 g h)))] := hD.sub [0, 1] (by decide) rfl
    exact W.iret (v := (-1)) hx hb hr (fun t ht hW => ⟨⟨(-1), (), rfl, by rw [begI, if_neg (by rw [h18]; decide)], by rw [ht]; exact hP9, va_K.moved hW.alike hK, hD9⟩, hS.F ht⟩) hS.2.2 d_MO_byteAt_37
set_option maxHeartbeats 4000000 in
set_option maxRecDepth 100000 in
theorem q_byteAt1 (l : Launch) (D : va_G) (cI cZ : ClassId) (o : Nat) (th : Int32) (im : Nat) (tr : Bool) (rc : Nat) (bg : Nat) (ro : Int32) (oa : Nat) (xa : Nat) (ya : Nat) (rg : Nat) (me : Nat) (sa : Nat) (pa : Nat) (za : Nat) (ca : Nat) (kp : Bool) (ta : Nat) (na : Nat) (g : Nat → Int32) (h : Nat → Int32) (ad : Int32) (sz : Nat) : MetI l y_MO_byteAt w_MO_byteAt { frames := 1, cells := 0, slots := 0, locals := 20 } D cI cZ [.ref o, .int 1, .int ad] [(o, .inr (5, [.int th, .ref im, .int (bI tr), .ref rc, .ref bg, .int ro, .ref oa, .ref xa, .ref ya, .ref rg, .ref me, .ref sa, .ref pa, .ref za, .ref ca, .int (bI kp), .ref ta, .ref na])), (me, .inl (cI, 512, .inl (mm2 g h)))] sz (fun r (_ : Unit) => r = begI h ad) (fun (_ : Unit) => [(o, .inr (5, [.int 0, .ref im, .int (bI tr), .ref rc, .ref bg, .int ro, .ref oa, .ref xa, .ref ya, .ref rg, .ref me, .ref sa, .ref pa, .ref za, .ref ca, .int (bI kp), .ref ta, .ref na])), (me, .inl (cI, 512, .inl (mm2 g h)))]) 0 0 := by
  refine ofI (cc := c_MO_byteAt) (maxL := 3) (ret := (some .int)) (by decide) rfl (Nat.le_of_ble_eq_true rfl) ?_
  intro p e s m args below meth c A H hH0 hx hb hr hlocks hts hown hnm hml ls hl hP hK hD hA hS hN
  have hown : s.vm.findClass R_MO = some m.cls := hown
  have hl : lv_has ls 3 [(0, .ref o), (1, .int 1), (2, .int ad)] := hl
  refine lv_aload_n hx hb d_MO_byteAt_0 rfl (lv_at hl 0 rfl) ?_
  refine lv_iconst (v := 0) hx hb d_MO_byteAt_1 (by decide) ?_
  refine va_put (D := D) (ci := 5) (v := .int 0) (ty := .int) (C := R_MO) (T := T_MO) (N := 18) hx hb hts iw_MO ty_MO ty_MO_ok nm_MO hown hK hP hD hS 0 rfl rfl 0 (by decide) (hts _ k_695) (fun _ h9 => h9) rfl (by decide +kernel) rfl rfl (Nat.le_of_ble_eq_true rfl) d_MO_byteAt_2 (fun H locs hP hD hS => ?_)
  have hP : va_P D vwCl [(o, .inr (5, [.int 0, .ref im, .int (bI tr), .ref rc, .ref bg, .int ro, .ref oa, .ref xa, .ref ya, .ref rg, .ref me, .ref sa, .ref pa, .ref za, .ref ca, .int (bI kp), .ref ta, .ref na])), (me, .inl (cI, 512, .inl (mm2 g h)))] H := hP
  have hD : va_D A [(o, .inr (5, [.int 0, .ref im, .int (bI tr), .ref rc, .ref bg, .int ro, .ref oa, .ref xa, .ref ya, .ref rg, .ref me, .ref sa, .ref pa, .ref za, .ref ca, .int (bI kp), .ref ta, .ref na])), (me, .inl (cI, 512, .inl (mm2 g h)))] := hD
  refine lv_iload_n hx hb d_MO_byteAt_5 rfl (lv_at hl 1 rfl) ?_
  refine lv_if_lt (tgt := 21) hx hb d_MO_byteAt_6 rfl (fun hq9 => absurd hq9 (by decide)) (fun _ => ?_)
  refine lv_iload_n hx hb d_MO_byteAt_9 rfl (lv_at hl 1 rfl) ?_
  refine lv_iconst (v := 1) hx hb d_MO_byteAt_10 (by decide) ?_
  refine lv_icmp_gt (tgt := 21) hx hb d_MO_byteAt_11 rfl (fun hq9 => absurd hq9 (by decide)) (fun _ => ?_)
  refine lv_iload_n hx hb d_MO_byteAt_14 rfl (lv_at hl 2 rfl) ?_
  have hPc := hP.sub (ws' := []) [] rfl
  refine vp_callSi (va_runS (As := [.int ad]) (rest := []) ⟨hx, hb, hml, hown, hts⟩ (q_isByte l D cI cZ ad) ⟨cB 1 hts k_760 k_62 k_758 hd_MO_isByte ⟨Nat.le_of_ble_eq_true rfl, Nat.le_of_ble_eq_true rfl⟩ rfl rfl, hts _ k_759⟩ (PcR.preS hPc hK hN) rfl rfl hl.1 rfl (lv_room (Nat.le_of_ble_eq_true rfl)) d_MO_byteAt_15 ⟨Nat.le_of_ble_eq_true rfl, Nat.le_of_ble_eq_true rfl⟩).run (fun r15 e15 => ?_)
  replace e15 := e15.symm
  subst e15
  refine lv_if_ne (tgt := 25) hx hb d_MO_byteAt_18 rfl (fun h18 => ?_) (fun h18 => ?_)
  · have h18 : isByteB ad = true := bI_t h18
    refine lv_aload_n hx hb d_MO_byteAt_25 rfl (lv_at hl 0 rfl) ?_
    refine va_get (D := D) (ci := 5) (v := .ref me) (C := R_MO) (T := T_MO) (N := 18) hx hb hts iw_MO hown hK hP 0 rfl rfl 10 (by decide) (hts _ k_705) (fun _ h9 => h9) rfl d_MO_byteAt_26 ?_
    refine lv_sipush (v := 256) hx hb d_MO_byteAt_29 (by decide) ?_
    refine lv_iload_n hx hb d_MO_byteAt_32 rfl (lv_at hl 1 rfl) ?_
    refine lv_imul hx hb d_MO_byteAt_33 ?_
    refine lv_iload_n hx hb d_MO_byteAt_34 rfl (lv_at hl 2 rfl) ?_
    refine lv_iadd hx hb d_MO_byteAt_35 ?_
    refine va_iald hx hb hK hP 1 0 rfl rfl (inb_1 h18) d_MO_byteAt_36 ?_
    refine lv_topi (fun y9 e9 => ?_)
    have e9 : y9 = h ad.toNatClampNeg := e9.trans (mmb_1 _ _ h18)
    subst e9
    have hP9 : va_P D vwCl [(o, .inr (5, [.int 0, .ref im, .int (bI tr), .ref rc, .ref bg, .int ro, .ref oa, .ref xa, .ref ya, .ref rg, .ref me, .ref sa, .ref pa, .ref za, .ref ca, .int (bI kp), .ref ta, .ref na])), (me, .inl (cI, 512, .inl (mm2 g h)))] H := hP.sub [0, 1] rfl
    have hD9 : va_D A [(o, .inr (5, [.int 0, .ref im, .int (bI tr), .ref rc, .ref bg, .int ro, .ref oa, .ref xa, .ref ya, .ref rg, .ref me, .ref sa, .ref pa, .ref za, .ref ca, .int (bI kp), .ref ta, .ref na])), (me, .inl (cI, 512, .inl (mm2 g h)))] := hD.sub [0, 1] (by decide) rfl
    exact W.iret (v := (h ad.toNatClampNeg)) hx hb hr (fun t ht hW => ⟨⟨(h ad.toNatClampNeg), (), rfl, by rw [begI, if_pos h18], by rw [ht]; exact hP9, va_K.moved hW.alike hK, hD9⟩, hS.F ht⟩) hS.2.2 d_MO_byteAt_37
  · have h18 : isByteB ad = false := bI_f h18
    refine lv_iconst (v := (-1)) hx hb d_MO_byteAt_21 (by decide) ?_
    refine lv_goto (tgt := 37) hx hb d_MO_byteAt_22 rfl ?_
    have hP9 : va_P D vwCl [(o, .inr (5, [.int 0, .ref im, .int (bI tr), .ref rc, .ref bg, .int ro, .ref oa, .ref xa, .ref ya, .ref rg, .ref me, .ref sa, .ref pa, .ref za, .ref ca, .int (bI kp), .ref ta, .ref na])), (me, .inl (cI, 512, .inl (mm2 g h)))] H := hP.sub [0, 1] rfl
    have hD9 : va_D A [(o, .inr (5, [.int 0, .ref im, .int (bI tr), .ref rc, .ref bg, .int ro, .ref oa, .ref xa, .ref ya, .ref rg, .ref me, .ref sa, .ref pa, .ref za, .ref ca, .int (bI kp), .ref ta, .ref na])), (me, .inl (cI, 512, .inl (mm2 g h)))] := hD.sub [0, 1] (by decide) rfl
    exact W.iret (v := (-1)) hx hb hr (fun t ht hW => ⟨⟨(-1), (), rfl, by rw [begI, if_neg (by rw [h18]; decide)], by rw [ht]; exact hP9, va_K.moved hW.alike hK, hD9⟩, hS.F ht⟩) hS.2.2 d_MO_byteAt_37
set_option maxHeartbeats 4000000 in
set_option maxRecDepth 100000 in
theorem q_byteAtN (l : Launch) (D : va_G) (cI cZ : ClassId) (o : Nat) (th : Int32) (im : Nat) (tr : Bool) (rc : Nat) (bg : Nat) (ro : Int32) (oa : Nat) (xa : Nat) (ya : Nat) (rg : Nat) (me : Nat) (sa : Nat) (pa : Nat) (za : Nat) (ca : Nat) (kp : Bool) (ta : Nat) (na : Nat) (m9 : Int32) (ad : Int32) (sz : Nat) (hm0 : ¬ m9 = 0) (hm1 : ¬ m9 = 1) : MetI l y_MO_byteAt w_MO_byteAt { frames := 0, cells := 0, slots := 0, locals := 0 } D cI cZ [.ref o, .int m9, .int ad] [(o, .inr (5, [.int th, .ref im, .int (bI tr), .ref rc, .ref bg, .int ro, .ref oa, .ref xa, .ref ya, .ref rg, .ref me, .ref sa, .ref pa, .ref za, .ref ca, .int (bI kp), .ref ta, .ref na]))] sz (fun r (_ : Unit) => r = (-1)) (fun (_ : Unit) => [(o, .inr (5, [.int 0, .ref im, .int (bI tr), .ref rc, .ref bg, .int ro, .ref oa, .ref xa, .ref ya, .ref rg, .ref me, .ref sa, .ref pa, .ref za, .ref ca, .int (bI kp), .ref ta, .ref na]))]) 0 0 := by
  refine ofI (cc := c_MO_byteAt) (maxL := 3) (ret := (some .int)) (by decide) rfl (Nat.le_of_ble_eq_true rfl) ?_
  intro p e s m args below meth c A H hH0 hx hb hr hlocks hts hown hnm hml ls hl hP hK hD hA hS hN
  have hown : s.vm.findClass R_MO = some m.cls := hown
  have hl : lv_has ls 3 [(0, .ref o), (1, .int m9), (2, .int ad)] := hl
  refine lv_aload_n hx hb d_MO_byteAt_0 rfl (lv_at hl 0 rfl) ?_
  refine lv_iconst (v := 0) hx hb d_MO_byteAt_1 (by decide) ?_
  refine va_put (D := D) (ci := 5) (v := .int 0) (ty := .int) (C := R_MO) (T := T_MO) (N := 18) hx hb hts iw_MO ty_MO ty_MO_ok nm_MO hown hK hP hD hS 0 rfl rfl 0 (by decide) (hts _ k_695) (fun _ h9 => h9) rfl (by decide +kernel) rfl rfl (Nat.le_of_ble_eq_true rfl) d_MO_byteAt_2 (fun H locs hP hD hS => ?_)
  have hP : va_P D vwCl [(o, .inr (5, [.int 0, .ref im, .int (bI tr), .ref rc, .ref bg, .int ro, .ref oa, .ref xa, .ref ya, .ref rg, .ref me, .ref sa, .ref pa, .ref za, .ref ca, .int (bI kp), .ref ta, .ref na]))] H := hP
  have hD : va_D A [(o, .inr (5, [.int 0, .ref im, .int (bI tr), .ref rc, .ref bg, .int ro, .ref oa, .ref xa, .ref ya, .ref rg, .ref me, .ref sa, .ref pa, .ref za, .ref ca, .int (bI kp), .ref ta, .ref na]))] := hD
  refine lv_iload_n hx hb d_MO_byteAt_5 rfl (lv_at hl 1 rfl) ?_
  refine lv_if_lt (tgt := 21) hx hb d_MO_byteAt_6 rfl (fun h6 => ?_) (fun h6 => ?_)
  · refine lv_iconst (v := (-1)) hx hb d_MO_byteAt_21 (by decide) ?_
    refine lv_goto (tgt := 37) hx hb d_MO_byteAt_22 rfl ?_
    have hP9 : va_P D vwCl [(o, .inr (5, [.int 0, .ref im, .int (bI tr), .ref rc, .ref bg, .int ro, .ref oa, .ref xa, .ref ya, .ref rg, .ref me, .ref sa, .ref pa, .ref za, .ref ca, .int (bI kp), .ref ta, .ref na]))] H := hP.sub [0] rfl
    have hD9 : va_D A [(o, .inr (5, [.int 0, .ref im, .int (bI tr), .ref rc, .ref bg, .int ro, .ref oa, .ref xa, .ref ya, .ref rg, .ref me, .ref sa, .ref pa, .ref za, .ref ca, .int (bI kp), .ref ta, .ref na]))] := hD.sub [0] (by decide) rfl
    exact W.iret (v := (-1)) hx hb hr (fun t ht hW => ⟨⟨(-1), (), rfl, rfl, by rw [ht]; exact hP9, va_K.moved hW.alike hK, hD9⟩, hS.F ht⟩) hS.2.2 d_MO_byteAt_37
  · refine lv_iload_n hx hb d_MO_byteAt_9 rfl (lv_at hl 1 rfl) ?_
    refine lv_iconst (v := 1) hx hb d_MO_byteAt_10 (by decide) ?_
    refine lv_icmp_gt (tgt := 21) hx hb d_MO_byteAt_11 rfl (fun _ => ?_) (fun hq9 => absurd (Int32.not_le.mp (no01 h6 hm0 hm1)) hq9)
    refine lv_iconst (v := (-1)) hx hb d_MO_byteAt_21 (by decide) ?_
    refine lv_goto (tgt := 37) hx hb d_MO_byteAt_22 rfl ?_
    have hP9 : va_P D vwCl [(o, .inr (5, [.int 0, .ref im, .int (bI tr), .ref rc, .ref bg, .int ro, .ref oa, .ref xa, .ref ya, .ref rg, .ref me, .ref sa, .ref pa, .ref za, .ref ca, .int (bI kp), .ref ta, .ref na]))] H := hP.sub [0] rfl
    have hD9 : va_D A [(o, .inr (5, [.int 0, .ref im, .int (bI tr), .ref rc, .ref bg, .int ro, .ref oa, .ref xa, .ref ya, .ref rg, .ref me, .ref sa, .ref pa, .ref za, .ref ca, .int (bI kp), .ref ta, .ref na]))] := hD.sub [0] (by decide) rfl
    exact W.iret (v := (-1)) hx hb hr (fun t ht hW => ⟨⟨(-1), (), rfl, rfl, by rw [ht]; exact hP9, va_K.moved hW.alike hK, hD9⟩, hS.F ht⟩) hS.2.2 d_MO_byteAt_37
