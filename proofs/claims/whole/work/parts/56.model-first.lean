set_option maxHeartbeats 4000000 in
set_option maxRecDepth 100000 in
theorem q_len (l : Launch) (D : va_G) (cI cZ : ClassId) (w : Int32) : MetR l y_MO_length w_MO_length { frames := 0, cells := 0, slots := 0, locals := 0 } D cI cZ [.int w] [] (fun r => r = lenI w) := by
  refine ofR (cc := c_MO_length) (maxL := 1) (ret := (some .int)) (by decide) rfl (Nat.le_of_ble_eq_true rfl) ?_
  intro p e s m args below meth c H hH0 hx hb hr hlocks hts hown hml ls hl hP hK hN
  have hown : s.vm.findClass R_MO = some m.cls := hown
  have hl : lv_has ls 1 [(0, .int w)] := hl
  refine lv_iload_n hx hb d_MO_length_0 rfl (lv_at hl 0 rfl) ?_
  refine lv_iconst (v := 2) hx hb d_MO_length_1 (by decide) ?_
  refine lv_icmp_lt (tgt := 11) hx hb d_MO_length_2 rfl (fun h2 => ?_) (fun h2 => ?_)
  · refine lv_iload_n hx hb d_MO_length_11 rfl (lv_at hl 0 rfl) ?_
    refine lv_bipush (v := 12) hx hb d_MO_length_12 (by decide) ?_
    refine lv_icmp_lt (tgt := 23) hx hb d_MO_length_14 rfl (fun h14 => ?_) (fun h14 => ?_)
    · refine lv_iload_n hx hb d_MO_length_23 rfl (lv_at hl 0 rfl) ?_
      refine lv_bipush (v := 22) hx hb d_MO_length_24 (by decide) ?_
      refine lv_icmp_lt (tgt := 39) hx hb d_MO_length_26 rfl (fun h26 => ?_) (fun h26 => ?_)
      · refine lv_iconst (v := 1) hx hb d_MO_length_39 (by decide) ?_
        exact W.iret (v := 1) hx hb hr (fun t ht hW => ⟨1, rfl, by first | (simp only [lenI, hasTB, h2, h14, h26, ↓reduceIte, not_true_eq_false, not_false_eq_true, and_true, true_and, and_false, false_and, and_self, or_true, true_or, or_false, false_or, decide_true, decide_false, Bool.false_eq_true, reduceCtorEq]; done) | (simp_all [lenI, hasTB]; done), ht.trans hH0.symm⟩) (fun _ h9 => absurd h9 List.not_mem_nil) d_MO_length_40
      · refine lv_iload_n hx hb d_MO_length_29 rfl (lv_at hl 0 rfl) ?_
        refine lv_bipush (v := 27) hx hb d_MO_length_30 (by decide) ?_
        refine lv_icmp_gt (tgt := 39) hx hb d_MO_length_32 rfl (fun h32 => ?_) (fun h32 => ?_)
        · refine lv_iconst (v := 1) hx hb d_MO_length_39 (by decide) ?_
          exact W.iret (v := 1) hx hb hr (fun t ht hW => ⟨1, rfl, by first | (simp only [lenI, hasTB, h2, h14, h26, h32, ↓reduceIte, not_true_eq_false, not_false_eq_true, and_true, true_and, and_false, false_and, and_self, or_true, true_or, or_false, false_or, decide_true, decide_false, Bool.false_eq_true, reduceCtorEq]; done) | (simp_all [lenI, hasTB]; done), ht.trans hH0.symm⟩) (fun _ h9 => absurd h9 List.not_mem_nil) d_MO_length_40
        · refine lv_iconst (v := 2) hx hb d_MO_length_35 (by decide) ?_
          refine lv_goto (tgt := 40) hx hb d_MO_length_36 rfl ?_
          exact W.iret (v := 2) hx hb hr (fun t ht hW => ⟨2, rfl, by first | (simp only [lenI, hasTB, h2, h14, h26, h32, ↓reduceIte, not_true_eq_false, not_false_eq_true, and_true, true_and, and_false, false_and, and_self, or_true, true_or, or_false, false_or, decide_true, decide_false, Bool.false_eq_true, reduceCtorEq]; done) | (simp_all [lenI, hasTB]; done), ht.trans hH0.symm⟩) (fun _ h9 => absurd h9 List.not_mem_nil) d_MO_length_40
    · refine lv_iload_n hx hb d_MO_length_17 rfl (lv_at hl 0 rfl) ?_
      refine lv_bipush (v := 19) hx hb d_MO_length_18 (by decide) ?_
      refine lv_icmp_le (tgt := 35) hx hb d_MO_length_20 rfl (fun h20 => ?_) (fun h20 => ?_)
      · refine lv_iconst (v := 2) hx hb d_MO_length_35 (by decide) ?_
        refine lv_goto (tgt := 40) hx hb d_MO_length_36 rfl ?_
        exact W.iret (v := 2) hx hb hr (fun t ht hW => ⟨2, rfl, by first | (simp only [lenI, hasTB, h2, h14, h20, ↓reduceIte, not_true_eq_false, not_false_eq_true, and_true, true_and, and_false, false_and, and_self, or_true, true_or, or_false, false_or, decide_true, decide_false, Bool.false_eq_true, reduceCtorEq]; done) | (simp_all [lenI, hasTB]; done), ht.trans hH0.symm⟩) (fun _ h9 => absurd h9 List.not_mem_nil) d_MO_length_40
      · refine lv_iload_n hx hb d_MO_length_23 rfl (lv_at hl 0 rfl) ?_
        refine lv_bipush (v := 22) hx hb d_MO_length_24 (by decide) ?_
        refine lv_icmp_lt (tgt := 39) hx hb d_MO_length_26 rfl (fun h26 => ?_) (fun h26 => ?_)
        · refine lv_iconst (v := 1) hx hb d_MO_length_39 (by decide) ?_
          exact W.iret (v := 1) hx hb hr (fun t ht hW => ⟨1, rfl, by first | (simp only [lenI, hasTB, h2, h14, h20, h26, ↓reduceIte, not_true_eq_false, not_false_eq_true, and_true, true_and, and_false, false_and, and_self, or_true, true_or, or_false, false_or, decide_true, decide_false, Bool.false_eq_true, reduceCtorEq]; done) | (simp_all [lenI, hasTB]; done), ht.trans hH0.symm⟩) (fun _ h9 => absurd h9 List.not_mem_nil) d_MO_length_40
        · refine lv_iload_n hx hb d_MO_length_29 rfl (lv_at hl 0 rfl) ?_
          refine lv_bipush (v := 27) hx hb d_MO_length_30 (by decide) ?_
          refine lv_icmp_gt (tgt := 39) hx hb d_MO_length_32 rfl (fun h32 => ?_) (fun h32 => ?_)
          · refine lv_iconst (v := 1) hx hb d_MO_length_39 (by decide) ?_
            exact W.iret (v := 1) hx hb hr (fun t ht hW => ⟨1, rfl, by first | (simp only [lenI, hasTB, h2, h14, h20, h26, h32, ↓reduceIte, not_true_eq_false, not_false_eq_true, and_true, true_and, and_false, false_and, and_self, or_true, true_or, or_false, false_or, decide_true, decide_false, Bool.false_eq_true, reduceCtorEq]; done) | (simp_all [lenI, hasTB]; done), ht.trans hH0.symm⟩) (fun _ h9 => absurd h9 List.not_mem_nil) d_MO_length_40
          · refine lv_iconst (v := 2) hx hb d_MO_length_35 (by decide) ?_
            refine lv_goto (tgt := 40) hx hb d_MO_length_36 rfl ?_
            exact W.iret (v := 2) hx hb hr (fun t ht hW => ⟨2, rfl, by first | (simp only [lenI, hasTB, h2, h14, h20, h26, h32, ↓reduceIte, not_true_eq_false, not_false_eq_true, and_true, true_and, and_false, false_and, and_self, or_true, true_or, or_false, false_or, decide_true, decide_false, Bool.false_eq_true, reduceCtorEq]; done) | (simp_all [lenI, hasTB]; done), ht.trans hH0.symm⟩) (fun _ h9 => absurd h9 List.not_mem_nil) d_MO_length_40
  · refine lv_iload_n hx hb d_MO_length_5 rfl (lv_at hl 0 rfl) ?_
    refine lv_bipush (v := 7) hx hb d_MO_length_6 (by decide) ?_
    refine lv_icmp_le (tgt := 35) hx hb d_MO_length_8 rfl (fun h8 => ?_) (fun h8 => ?_)
    · refine lv_iconst (v := 2) hx hb d_MO_length_35 (by decide) ?_
      refine lv_goto (tgt := 40) hx hb d_MO_length_36 rfl ?_
      exact W.iret (v := 2) hx hb hr (fun t ht hW => ⟨2, rfl, by first | (simp only [lenI, hasTB, h2, h8, ↓reduceIte, not_true_eq_false, not_false_eq_true, and_true, true_and, and_false, false_and, and_self, or_true, true_or, or_false, false_or, decide_true, decide_false, Bool.false_eq_true, reduceCtorEq]; done) | (simp_all [lenI, hasTB]; done), ht.trans hH0.symm⟩) (fun _ h9 => absurd h9 List.not_mem_nil) d_MO_length_40
    · refine lv_iload_n hx hb d_MO_length_11 rfl (lv_at hl 0 rfl) ?_
      refine lv_bipush (v := 12) hx hb d_MO_length_12 (by decide) ?_
      refine lv_icmp_lt (tgt := 23) hx hb d_MO_length_14 rfl (fun h14 => ?_) (fun h14 => ?_)
      · refine lv_iload_n hx hb d_MO_length_23 rfl (lv_at hl 0 rfl) ?_
        refine lv_bipush (v := 22) hx hb d_MO_length_24 (by decide) ?_
        refine lv_icmp_lt (tgt := 39) hx hb d_MO_length_26 rfl (fun h26 => ?_) (fun h26 => ?_)
        · refine lv_iconst (v := 1) hx hb d_MO_length_39 (by decide) ?_
          exact W.iret (v := 1) hx hb hr (fun t ht hW => ⟨1, rfl, by first | (simp only [lenI, hasTB, h2, h8, h14, h26, ↓reduceIte, not_true_eq_false, not_false_eq_true, and_true, true_and, and_false, false_and, and_self, or_true, true_or, or_false, false_or, decide_true, decide_false, Bool.false_eq_true, reduceCtorEq]; done) | (simp_all [lenI, hasTB]; done), ht.trans hH0.symm⟩) (fun _ h9 => absurd h9 List.not_mem_nil) d_MO_length_40
        · refine lv_iload_n hx hb d_MO_length_29 rfl (lv_at hl 0 rfl) ?_
          refine lv_bipush (v := 27) hx hb d_MO_length_30 (by decide) ?_
          refine lv_icmp_gt (tgt := 39) hx hb d_MO_length_32 rfl (fun h32 => ?_) (fun h32 => ?_)
          · refine lv_iconst (v := 1) hx hb d_MO_length_39 (by decide) ?_
            exact W.iret (v := 1) hx hb hr (fun t ht hW => ⟨1, rfl, by first | (simp only [lenI, hasTB, h2, h8, h14, h26, h32, ↓reduceIte, not_true_eq_false, not_false_eq_true, and_true, true_and, and_false, false_and, and_self, or_true, true_or, or_false, false_or, decide_true, decide_false, Bool.false_eq_true, reduceCtorEq]; done) | (simp_all [lenI, hasTB]; done), ht.trans hH0.symm⟩) (fun _ h9 => absurd h9 List.not_mem_nil) d_MO_length_40
          · refine lv_iconst (v := 2) hx hb d_MO_length_35 (by decide) ?_
            refine lv_goto (tgt := 40) hx hb d_MO_length_36 rfl ?_
            exact W.iret (v := 2) hx hb hr (fun t ht hW => ⟨2, rfl, by first | (simp only [lenI, hasTB, h2, h8, h14, h26, h32, ↓reduceIte, not_true_eq_false, not_false_eq_true, and_true, true_and, and_false, false_and, and_self, or_true, true_or, or_false, false_or, decide_true, decide_false, Bool.false_eq_true, reduceCtorEq]; done) | (simp_all [lenI, hasTB]; done), ht.trans hH0.symm⟩) (fun _ h9 => absurd h9 List.not_mem_nil) d_MO_length_40
      · refine lv_iload_n hx hb d_MO_length_17 rfl (lv_at hl 0 rfl) ?_
        refine lv_bipush (v := 19) hx hb d_MO_length_18 (by decide) ?_
        refine lv_icmp_le (tgt := 35) hx hb d_MO_length_20 rfl (fun h20 => ?_) (fun h20 => ?_)
        · refine lv_iconst (v := 2) hx hb d_MO_length_35 (by decide) ?_
          refine lv_goto (tgt := 40) hx hb d_MO_length_36 rfl ?_
          exact W.iret (v := 2) hx hb hr (fun t ht hW => ⟨2, rfl, by first | (simp only [lenI, hasTB, h2, h8, h14, h20, ↓reduceIte, not_true_eq_false, not_false_eq_true, and_true, true_and, and_false, false_and, and_self, or_true, true_or, or_false, false_or, decide_true, decide_false, Bool.false_eq_true, reduceCtorEq]; done) | (simp_all [lenI, hasTB]; done), ht.trans hH0.symm⟩) (fun _ h9 => absurd h9 List.not_mem_nil) d_MO_length_40
        · refine lv_iload_n hx hb d_MO_length_23 rfl (lv_at hl 0 rfl) ?_
          refine lv_bipush (v := 22) hx hb d_MO_length_24 (by decide) ?_
          refine lv_icmp_lt (tgt := 39) hx hb d_MO_length_26 rfl (fun h26 => ?_) (fun h26 => ?_)
          · refine lv_iconst (v := 1) hx hb d_MO_length_39 (by decide) ?_
            exact W.iret (v := 1) hx hb hr (fun t ht hW => ⟨1, rfl, by first | (simp only [lenI, hasTB, h2, h8, h14, h20, h26, ↓reduceIte, not_true_eq_false, not_false_eq_true, and_true, true_and, and_false, false_and, and_self, or_true, true_or, or_false, false_or, decide_true, decide_false, Bool.false_eq_true, reduceCtorEq]; done) | (simp_all [lenI, hasTB]; done), ht.trans hH0.symm⟩) (fun _ h9 => absurd h9 List.not_mem_nil) d_MO_length_40
          · refine lv_iload_n hx hb d_MO_length_29 rfl (lv_at hl 0 rfl) ?_
            refine lv_bipush (v := 27) hx hb d_MO_length_30 (by decide) ?_
            refine lv_icmp_gt (tgt := 39) hx hb d_MO_length_32 rfl (fun h32 => ?_) (fun h32 => ?_)
            · refine lv_iconst (v := 1) hx hb d_MO_length_39 (by decide) ?_
              exact W.iret (v := 1) hx hb hr (fun t ht hW => ⟨1, rfl, by first | (simp only [lenI, hasTB, h2, h8, h14, h20, h26, h32, ↓reduceIte, not_true_eq_false, not_false_eq_true, and_true, true_and, and_false, false_and, and_self, or_true, true_or, or_false, false_or, decide_true, decide_false, Bool.false_eq_true, reduceCtorEq]; done) | (simp_all [lenI, hasTB]; done), ht.trans hH0.symm⟩) (fun _ h9 => absurd h9 List.not_mem_nil) d_MO_length_40
            · refine lv_iconst (v := 2) hx hb d_MO_length_35 (by decide) ?_
              refine lv_goto (tgt := 40) hx hb d_MO_length_36 rfl ?_
              exact W.iret (v := 2) hx hb hr (fun t ht hW => ⟨2, rfl, by first | (simp only [lenI, hasTB, h2, h8, h14, h20, h26, h32, ↓reduceIte, not_true_eq_false, not_false_eq_true, and_true, true_and, and_false, false_and, and_self, or_true, true_or, or_false, false_or, decide_true, decide_false, Bool.false_eq_true, reduceCtorEq]; done) | (simp_all [lenI, hasTB]; done), ht.trans hH0.symm⟩) (fun _ h9 => absurd h9 List.not_mem_nil) d_MO_length_40
set_option maxHeartbeats 4000000 in
set_option maxRecDepth 100000 in
theorem q_moves (l : Launch) (D : va_G) (cI cZ : ClassId) (o : Nat) (th : Int32) (im : Nat) (tr : Bool) (rc : Nat) (bg : Nat) (ro : Int32) (oa : Nat) (xa : Nat) (ya : Nat) (rg : Nat) (me : Nat) (sa : Nat) (pa : Nat) (za : Nat) (ca : Nat) (kp : Bool) (ta : Nat) (na : Nat) (a : Int32) (x : Int32) (d : Int32) (b0 : Int32) (b1 : Int32) (b2 : Int32) (g : Nat → Int32) (h : Nat → Int32) (z0 : Bool) (z1 : Bool) (op : Int32) (n : Int32) (sz : Nat) : MetV l y_MO_moves w_MO_moves { frames := 2, cells := 0, slots := 0, locals := 46 } D cI cZ [.ref o, .int op, .int n] [(o, .inr (5, [.int th, .ref im, .int (bI tr), .ref rc, .ref bg, .int ro, .ref oa, .ref xa, .ref ya, .ref rg, .ref me, .ref sa, .ref pa, .ref za, .ref ca, .int (bI kp), .ref ta, .ref na])), (rg, .inl (cI, 6, .inl (rg6 a x d b0 b1 b2))), (me, .inl (cI, 512, .inl (mm2 g h))), (za, .inl (cZ, 2, .inl (p2 (bI z0) (bI z1))))] sz (fun (u : (Nat → Int32) × Int32 × Int32 × Bool) => match u with | (g1, a1, x1, zz) => (g1, a1, x1, zz) = mMove op n g a x z0) (fun (u : (Nat → Int32) × Int32 × Int32 × Bool) => match u with | (g1, a1, x1, zz) => [(o, .inr (5, [.int th, .ref im, .int (bI tr), .ref rc, .ref bg, .int ro, .ref oa, .ref xa, .ref ya, .ref rg, .ref me, .ref sa, .ref pa, .ref za, .ref ca, .int (bI kp), .ref ta, .ref na])), (rg, .inl (cI, 6, .inl (rg6 a1 x1 d b0 b1 b2))), (me, .inl (cI, 512, .inl (mm2 g1 h))), (za, .inl (cZ, 2, .inl (p2 (bI zz) (bI z1))))]) 0 0 := by
  refine ofV (cc := c_MO_moves) (maxL := 5) (ret := none) (by decide) rfl (Nat.le_of_ble_eq_true rfl) ?_
  intro p e s m args below meth c A H hH0 hx hb hr hlocks hts hown hnm hml ls hl hP hK hD hA hS hN
  have hown : s.vm.findClass R_MO = some m.cls := hown
  have hl : lv_has ls 5 [(0, .ref o), (1, .int op), (2, .int n)] := hl
  refine lv_aload_n hx hb d_MO_moves_0 rfl (lv_at hl 0 rfl) ?_
  refine va_get (D := D) (ci := 5) (v := .ref rg) (C := R_MO) (T := T_MO) (N := 18) hx hb hts iw_MO hown hK hP 0 rfl rfl 9 (by decide) (hts _ k_704) (fun _ h9 => h9) rfl d_MO_moves_1 ?_
  refine lv_iconst (v := 0) hx hb d_MO_moves_4 (by decide) ?_
  refine va_iald hx hb hK hP 1 0 rfl rfl (vp_in_nI (n := 0) (by decide) (by decide)) d_MO_moves_5 ?_
  refine lv_istore_n hx hb d_MO_moves_6 rfl hl (by decide) rfl (fun ls hl => ?_)
  have hl : lv_has ls 5 [(3, .int a), (0, .ref o), (1, .int op), (2, .int n)] := hl
  refine lv_aload_n hx hb d_MO_moves_7 rfl (lv_at hl 1 rfl) ?_
  refine va_get (D := D) (ci := 5) (v := .ref rg) (C := R_MO) (T := T_MO) (N := 18) hx hb hts iw_MO hown hK hP 0 rfl rfl 9 (by decide) (hts _ k_704) (fun _ h9 => h9) rfl d_MO_moves_8 ?_
  refine lv_iconst (v := 1) hx hb d_MO_moves_11 (by decide) ?_
  refine va_iald hx hb hK hP 1 0 rfl rfl (vp_in_nI (n := 1) (by decide) (by decide)) d_MO_moves_12 ?_
  refine lv_istore hx hb d_MO_moves_13 hl (by decide) rfl (fun ls hl => ?_)
  have hl : lv_has ls 5 [(4, .int x), (3, .int a), (0, .ref o), (1, .int op), (2, .int n)] := hl
  refine lv_iload_n hx hb d_MO_moves_15 rfl (lv_at hl 3 rfl) ?_
  rcases sw_cases op 2 9 with h16 | ⟨j16, hj16, h16⟩
  · refine lv_tableOut (tgt := 178) hx hb d_MO_moves_16 h16 rfl ?_
    have n16_2 : ¬ op = 2 := fun h9 => by rw [h9] at h16; revert h16; decide
    have n16_3 : ¬ op = 3 := fun h9 => by rw [h9] at h16; revert h16; decide
    have n16_4 : ¬ op = 4 := fun h9 => by rw [h9] at h16; revert h16; decide
    have n16_5 : ¬ op = 5 := fun h9 => by rw [h9] at h16; revert h16; decide
    have n16_6 : ¬ op = 6 := fun h9 => by rw [h9] at h16; revert h16; decide
    have n16_7 : ¬ op = 7 := fun h9 => by rw [h9] at h16; revert h16; decide
    have n16_8 : ¬ op = 8 := fun h9 => by rw [h9] at h16; revert h16; decide
    have n16_9 : ¬ op = 9 := fun h9 => by rw [h9] at h16; revert h16; decide
    have n16_10 : ¬ op = 10 := fun h9 => by rw [h9] at h16; revert h16; decide
    refine lv_aload_n hx hb d_MO_moves_178 rfl (lv_at hl 2 rfl) ?_
    refine lv_iconst (v := 0) hx hb d_MO_moves_179 (by decide) ?_
    refine lv_iconst (v := 1) hx hb d_MO_moves_180 (by decide) ?_
    refine lv_iload hx hb d_MO_moves_181 (lv_at hl 0 rfl) ?_
    refine lv_iconst (v := 1) hx hb d_MO_moves_183 (by decide) ?_
    refine lv_isub hx hb d_MO_moves_184 ?_
    have hPc := hP.sub (ws' := [(o, .inr (5, [.int th, .ref im, .int (bI tr), .ref rc, .ref bg, .int ro, .ref oa, .ref xa, .ref ya, .ref rg, .ref me, .ref sa, .ref pa, .ref za, .ref ca, .int (bI kp), .ref ta, .ref na])), (rg, .inl (cI, 6, .inl (rg6 a x d b0 b1 b2))), (za, .inl (cZ, 2, .inl (p2 (bI z0) (bI z1))))]) [0, 1, 3] rfl
    have hDc := hD.sub (ws' := [(o, .inr (5, [.int th, .ref im, .int (bI tr), .ref rc, .ref bg, .int ro, .ref oa, .ref xa, .ref ya, .ref rg, .ref me, .ref sa, .ref pa, .ref za, .ref ca, .int (bI kp), .ref ta, .ref na])), (rg, .inl (cI, 6, .inl (rg6 a x d b0 b1 b2))), (za, .inl (cZ, 2, .inl (p2 (bI z0) (bI z1))))]) [0, 1, 3] (by decide) rfl
    have hFc := va_free (wc := [(o, .inr (5, [.int th, .ref im, .int (bI tr), .ref rc, .ref bg, .int ro, .ref oa, .ref xa, .ref ya, .ref rg, .ref me, .ref sa, .ref pa, .ref za, .ref ca, .int (bI kp), .ref ta, .ref na])), (rg, .inl (cI, 6, .inl (rg6 a x d b0 b1 b2))), (za, .inl (cZ, 2, .inl (p2 (bI z0) (bI z1))))]) hD hS hA [0, 1, 3] rfl
    refine va_callv (va_runV (As := [.int 0, .int 1, .int (x - 1)]) (rest := []) ⟨hx, hb, hml, hown, hts⟩ (q_setZ01 l D cI cZ o th im tr rc bg ro oa xa ya rg me sa pa za ca kp ta na a x d b0 b1 b2 z0 z1 (x - 1) H.size) ⟨cB 3 hts k_845 k_62 k_842 hd_MO_setZ ⟨Nat.le_of_ble_eq_true rfl, Nat.le_of_ble_eq_true rfl⟩ rfl rfl, hts _ k_844, hts _ k_42⟩ (PcW.preV (va_recv hK hP (q0 := 0) (ci := 5) rfl rfl) hPc hK hDc hN) rfl rfl hl.1 rfl (lv_room (Nat.le_of_ble_eq_true rfl)) d_MO_moves_185 ⟨Nat.le_of_ble_eq_true rfl, Nat.le_of_ble_eq_true rfl⟩) hS (fun q _ h => hFc q h) hFc (fun u t H1 locs ht hvm e185 hB hz1 hk1 hS => ?_)
    obtain ⟨v1185, zz185⟩ := u
    obtain ⟨hP1, hK1, hD1⟩ := hB
    rw [ht] at hP1
    obtain ⟨hP, hD⟩ := va_join (wr := [(me, .inl (cI, 512, .inl (mm2 g h)))]) (w1 := [(o, .inr (5, [.int th, .ref im, .int (bI tr), .ref rc, .ref bg, .int ro, .ref oa, .ref xa, .ref ya, .ref rg, .ref me, .ref sa, .ref pa, .ref za, .ref ca, .int (bI kp), .ref ta, .ref na])), (rg, .inl (cI, 6, .inl (rg6 a v1185 d b0 b1 b2))), (za, .inl (cZ, 2, .inl (p2 (bI zz185) (bI z1))))]) hP hD [0, 1, 3] [2] rfl rfl (by decide) (by decide) hk1 hFc hP1 hD1
    generalize H1 = H at hP hS ⊢
    try dsimp only at e185
    obtain ⟨e185_0, e185_1⟩ := e185
    replace e185_0 := e185_0.symm
    subst e185_0
    replace e185_1 := e185_1.symm
    subst e185_1
    have hP : va_P D vwCl [(me, .inl (cI, 512, .inl (mm2 g h))), (o, .inr (5, [.int th, .ref im, .int (bI tr), .ref rc, .ref bg, .int ro, .ref oa, .ref xa, .ref ya, .ref rg, .ref me, .ref sa, .ref pa, .ref za, .ref ca, .int (bI kp), .ref ta, .ref na])), (rg, .inl (cI, 6, .inl (rg6 a ((x - 1) &&& 255) d b0 b1 b2))), (za, .inl (cZ, 2, .inl (p2 (bI (decide ((x - 1) &&& 255 = 0))) (bI z1))))] H := hP
    have hD : va_D A [(me, .inl (cI, 512, .inl (mm2 g h))), (o, .inr (5, [.int th, .ref im, .int (bI tr), .ref rc, .ref bg, .int ro, .ref oa, .ref xa, .ref ya, .ref rg, .ref me, .ref sa, .ref pa, .ref za, .ref ca, .int (bI kp), .ref ta, .ref na])), (rg, .inl (cI, 6, .inl (rg6 a ((x - 1) &&& 255) d b0 b1 b2))), (za, .inl (cZ, 2, .inl (p2 (bI (decide ((x - 1) &&& 255 = 0))) (bI z1))))] := hD
    have hP9 : va_P D vwCl [(o, .inr (5, [.int th, .ref im, .int (bI tr), .ref rc, .ref bg, .int ro, .ref oa, .ref xa, .ref ya, .ref rg, .ref me, .ref sa, .ref pa, .ref za, .ref ca, .int (bI kp), .ref ta, .ref na])), (rg, .inl (cI, 6, .inl (rg6 a ((x - 1) &&& 255) d b0 b1 b2))), (me, .inl (cI, 512, .inl (mm2 g h))), (za, .inl (cZ, 2, .inl (p2 (bI (decide ((x - 1) &&& 255 = 0))) (bI z1))))] H := hP.sub [1, 2, 0, 3] rfl
    have hD9 : va_D A [(o, .inr (5, [.int th, .ref im, .int (bI tr), .ref rc, .ref bg, .int ro, .ref oa, .ref xa, .ref ya, .ref rg, .ref me, .ref sa, .ref pa, .ref za, .ref ca, .int (bI kp), .ref ta, .ref na])), (rg, .inl (cI, 6, .inl (rg6 a ((x - 1) &&& 255) d b0 b1 b2))), (me, .inl (cI, 512, .inl (mm2 g h))), (za, .inl (cZ, 2, .inl (p2 (bI (decide ((x - 1) &&& 255 = 0))) (bI z1))))] := hD.sub [1, 2, 0, 3] (by decide) rfl
    exact W.vret hx hb hr (fun t ht hW => ⟨⟨(g, a, (x - 1) &&& 255, decide ((x - 1) &&& 255 = 0)), rfl, by rw [mMove, if_neg n16_2, if_neg n16_3, if_neg n16_4, if_neg n16_5, if_neg n16_6, if_neg n16_7, if_neg n16_8, if_neg n16_9, if_neg n16_10], by rw [ht]; exact hP9, va_K.moved hW.alike hK, hD9⟩, hS.F ht⟩) hS.2.2 d_MO_moves_188
  · match j16, hj16, h16 with
    | 0, _, h16 =>
      have h16 : op = 2 := h16
      refine lv_tableIn (off := 52) (tgt := 68) hx hb d_MO_moves_16 (by rw [h16]; decide) (by rw [h16]; decide) (by rw [h16]; rfl) rfl ?_
      refine lv_aload_n hx hb d_MO_moves_68 rfl (lv_at hl 2 rfl) ?_
      refine lv_iconst (v := 0) hx hb d_MO_moves_69 (by decide) ?_
      refine lv_iconst (v := 0) hx hb d_MO_moves_70 (by decide) ?_
      refine lv_iload_n hx hb d_MO_moves_71 rfl (lv_at hl 4 rfl) ?_
      have hPc := hP.sub (ws' := [(o, .inr (5, [.int th, .ref im, .int (bI tr), .ref rc, .ref bg, .int ro, .ref oa, .ref xa, .ref ya, .ref rg, .ref me, .ref sa, .ref pa, .ref za, .ref ca, .int (bI kp), .ref ta, .ref na])), (rg, .inl (cI, 6, .inl (rg6 a x d b0 b1 b2))), (za, .inl (cZ, 2, .inl (p2 (bI z0) (bI z1))))]) [0, 1, 3] rfl
      have hDc := hD.sub (ws' := [(o, .inr (5, [.int th, .ref im, .int (bI tr), .ref rc, .ref bg, .int ro, .ref oa, .ref xa, .ref ya, .ref rg, .ref me, .ref sa, .ref pa, .ref za, .ref ca, .int (bI kp), .ref ta, .ref na])), (rg, .inl (cI, 6, .inl (rg6 a x d b0 b1 b2))), (za, .inl (cZ, 2, .inl (p2 (bI z0) (bI z1))))]) [0, 1, 3] (by decide) rfl
      have hFc := va_free (wc := [(o, .inr (5, [.int th, .ref im, .int (bI tr), .ref rc, .ref bg, .int ro, .ref oa, .ref xa, .ref ya, .ref rg, .ref me, .ref sa, .ref pa, .ref za, .ref ca, .int (bI kp), .ref ta, .ref na])), (rg, .inl (cI, 6, .inl (rg6 a x d b0 b1 b2))), (za, .inl (cZ, 2, .inl (p2 (bI z0) (bI z1))))]) hD hS hA [0, 1, 3] rfl
      refine va_callv (va_runV (As := [.int 0, .int 0, .int n]) (rest := []) ⟨hx, hb, hml, hown, hts⟩ (q_setZ00 l D cI cZ o th im tr rc bg ro oa xa ya rg me sa pa za ca kp ta na a x d b0 b1 b2 z0 z1 n H.size) ⟨cB 3 hts k_845 k_62 k_842 hd_MO_setZ ⟨Nat.le_of_ble_eq_true rfl, Nat.le_of_ble_eq_true rfl⟩ rfl rfl, hts _ k_844, hts _ k_42⟩ (PcW.preV (va_recv hK hP (q0 := 0) (ci := 5) rfl rfl) hPc hK hDc hN) rfl rfl hl.1 rfl (lv_room (Nat.le_of_ble_eq_true rfl)) d_MO_moves_72 ⟨Nat.le_of_ble_eq_true rfl, Nat.le_of_ble_eq_true rfl⟩) hS (fun q _ h => hFc q h) hFc (fun u t H1 locs ht hvm e72 hB hz1 hk1 hS => ?_)
      obtain ⟨v172, zz72⟩ := u
      obtain ⟨hP1, hK1, hD1⟩ := hB
      rw [ht] at hP1
      obtain ⟨hP, hD⟩ := va_join (wr := [(me, .inl (cI, 512, .inl (mm2 g h)))]) (w1 := [(o, .inr (5, [.int th, .ref im, .int (bI tr), .ref rc, .ref bg, .int ro, .ref oa, .ref xa, .ref ya, .ref rg, .ref me, .ref sa, .ref pa, .ref za, .ref ca, .int (bI kp), .ref ta, .ref na])), (rg, .inl (cI, 6, .inl (rg6 v172 x d b0 b1 b2))), (za, .inl (cZ, 2, .inl (p2 (bI zz72) (bI z1))))]) hP hD [0, 1, 3] [2] rfl rfl (by decide) (by decide) hk1 hFc hP1 hD1
      generalize H1 = H at hP hS ⊢
      try dsimp only at e72
      obtain ⟨e72_0, e72_1⟩ := e72
      replace e72_0 := e72_0.symm
      subst e72_0
      replace e72_1 := e72_1.symm
      subst e72_1
      have hP : va_P D vwCl [(me, .inl (cI, 512, .inl (mm2 g h))), (o, .inr (5, [.int th, .ref im, .int (bI tr), .ref rc, .ref bg, .int ro, .ref oa, .ref xa, .ref ya, .ref rg, .ref me, .ref sa, .ref pa, .ref za, .ref ca, .int (bI kp), .ref ta, .ref na])), (rg, .inl (cI, 6, .inl (rg6 (n &&& 255) x d b0 b1 b2))), (za, .inl (cZ, 2, .inl (p2 (bI (decide (n &&& 255 = 0))) (bI z1))))] H := hP
      have hD : va_D A [(me, .inl (cI, 512, .inl (mm2 g h))), (o, .inr (5, [.int th, .ref im, .int (bI tr), .ref rc, .ref bg, .int ro, .ref oa, .ref xa, .ref ya, .ref rg, .ref me, .ref sa, .ref pa, .ref za, .ref ca, .int (bI kp), .ref ta, .ref na])), (rg, .inl (cI, 6, .inl (rg6 (n &&& 255) x d b0 b1 b2))), (za, .inl (cZ, 2, .inl (p2 (bI (decide (n &&& 255 = 0))) (bI z1))))] := hD
      refine lv_goto (tgt := 188) hx hb d_MO_moves_75 rfl ?_
      have hP9 : va_P D vwCl [(o, .inr (5, [.int th, .ref im, .int (bI tr), .ref rc, .ref bg, .int ro, .ref oa, .ref xa, .ref ya, .ref rg, .ref me, .ref sa, .ref pa, .ref za, .ref ca, .int (bI kp), .ref ta, .ref na])), (rg, .inl (cI, 6, .inl (rg6 (n &&& 255) x d b0 b1 b2))), (me, .inl (cI, 512, .inl (mm2 g h))), (za, .inl (cZ, 2, .inl (p2 (bI (decide (n &&& 255 = 0))) (bI z1))))] H := hP.sub [1, 2, 0, 3] rfl
      have hD9 : va_D A [(o, .inr (5, [.int th, .ref im, .int (bI tr), .ref rc, .ref bg, .int ro, .ref oa, .ref xa, .ref ya, .ref rg, .ref me, .ref sa, .ref pa, .ref za, .ref ca, .int (bI kp), .ref ta, .ref na])), (rg, .inl (cI, 6, .inl (rg6 (n &&& 255) x d b0 b1 b2))), (me, .inl (cI, 512, .inl (mm2 g h))), (za, .inl (cZ, 2, .inl (p2 (bI (decide (n &&& 255 = 0))) (bI z1))))] := hD.sub [1, 2, 0, 3] (by decide) rfl
      exact W.vret hx hb hr (fun t ht hW => ⟨⟨(g, n &&& 255, x, decide (n &&& 255 = 0)), rfl, by rw [h16]; rfl, by rw [ht]; exact hP9, va_K.moved hW.alike hK, hD9⟩, hS.F ht⟩) hS.2.2 d_MO_moves_188
    | 1, _, h16 =>
      have h16 : op = 3 := h16
      refine lv_tableIn (off := 62) (tgt := 78) hx hb d_MO_moves_16 (by rw [h16]; decide) (by rw [h16]; decide) (by rw [h16]; rfl) rfl ?_
      refine lv_aload_n hx hb d_MO_moves_78 rfl (lv_at hl 2 rfl) ?_
      refine lv_iconst (v := 0) hx hb d_MO_moves_79 (by decide) ?_
      refine lv_iconst (v := 0) hx hb d_MO_moves_80 (by decide) ?_
      refine lv_aload_n hx hb d_MO_moves_81 rfl (lv_at hl 2 rfl) ?_
      refine lv_iconst (v := 0) hx hb d_MO_moves_82 (by decide) ?_
      refine lv_iload_n hx hb d_MO_moves_83 rfl (lv_at hl 4 rfl) ?_
      have hPc := hP.sub (ws' := [(o, .inr (5, [.int th, .ref im, .int (bI tr), .ref rc, .ref bg, .int ro, .ref oa, .ref xa, .ref ya, .ref rg, .ref me, .ref sa, .ref pa, .ref za, .ref ca, .int (bI kp), .ref ta, .ref na])), (me, .inl (cI, 512, .inl (mm2 g h)))]) [0, 2] rfl
      refine vp_callSi (va_runV (As := [.int 0, .int n]) (rest := [.int 0, .int 0, .ref o]) ⟨hx, hb, hml, hown, hts⟩ (q_get0 l D cI cZ o th im tr rc bg ro oa xa ya rg me sa pa za ca kp ta na g h n) ⟨cB 2 hts k_825 k_62 k_822 hd_MO_get ⟨Nat.le_of_ble_eq_true rfl, Nat.le_of_ble_eq_true rfl⟩ rfl rfl, hts _ k_824, hts _ k_37⟩ (PcR.preV (va_recv hK hP (q0 := 0) (ci := 5) rfl rfl) hPc hK hN) rfl rfl hl.1 rfl (lv_room (Nat.le_of_ble_eq_true rfl)) d_MO_moves_84 ⟨Nat.le_of_ble_eq_true rfl, Nat.le_of_ble_eq_true rfl⟩).run (fun r84 e84 => ?_)
      replace e84 := e84.symm
      subst e84
      have hPc := hP.sub (ws' := [(o, .inr (5, [.int th, .ref im, .int (bI tr), .ref rc, .ref bg, .int ro, .ref oa, .ref xa, .ref ya, .ref rg, .ref me, .ref sa, .ref pa, .ref za, .ref ca, .int (bI kp), .ref ta, .ref na])), (rg, .inl (cI, 6, .inl (rg6 a x d b0 b1 b2))), (za, .inl (cZ, 2, .inl (p2 (bI z0) (bI z1))))]) [0, 1, 3] rfl
      have hDc := hD.sub (ws' := [(o, .inr (5, [.int th, .ref im, .int (bI tr), .ref rc, .ref bg, .int ro, .ref oa, .ref xa, .ref ya, .ref rg, .ref me, .ref sa, .ref pa, .ref za, .ref ca, .int (bI kp), .ref ta, .ref na])), (rg, .inl (cI, 6, .inl (rg6 a x d b0 b1 b2))), (za, .inl (cZ, 2, .inl (p2 (bI z0) (bI z1))))]) [0, 1, 3] (by decide) rfl
      have hFc := va_free (wc := [(o, .inr (5, [.int th, .ref im, .int (bI tr), .ref rc, .ref bg, .int ro, .ref oa, .ref xa, .ref ya, .ref rg, .ref me, .ref sa, .ref pa, .ref za, .ref ca, .int (bI kp), .ref ta, .ref na])), (rg, .inl (cI, 6, .inl (rg6 a x d b0 b1 b2))), (za, .inl (cZ, 2, .inl (p2 (bI z0) (bI z1))))]) hD hS hA [0, 1, 3] rfl
      refine va_callv (va_runV (As := [.int 0, .int 0, .int (rd g n)]) (rest := []) ⟨hx, hb, hml, hown, hts⟩ (q_setZ00 l D cI cZ o th im tr rc bg ro oa xa ya rg me sa pa za ca kp ta na a x d b0 b1 b2 z0 z1 (rd g n) H.size) ⟨cB 3 hts k_845 k_62 k_842 hd_MO_setZ ⟨Nat.le_of_ble_eq_true rfl, Nat.le_of_ble_eq_true rfl⟩ rfl rfl, hts _ k_844, hts _ k_42⟩ (PcW.preV (va_recv hK hP (q0 := 0) (ci := 5) rfl rfl) hPc hK hDc hN) rfl rfl hl.1 rfl (lv_room (Nat.le_of_ble_eq_true rfl)) d_MO_moves_87 ⟨Nat.le_of_ble_eq_true rfl, Nat.le_of_ble_eq_true rfl⟩) hS (fun q _ h => hFc q h) hFc (fun u t H1 locs ht hvm e87 hB hz1 hk1 hS => ?_)
      obtain ⟨v187, zz87⟩ := u
      obtain ⟨hP1, hK1, hD1⟩ := hB
      rw [ht] at hP1
      obtain ⟨hP, hD⟩ := va_join (wr := [(me, .inl (cI, 512, .inl (mm2 g h)))]) (w1 := [(o, .inr (5, [.int th, .ref im, .int (bI tr), .ref rc, .ref bg, .int ro, .ref oa, .ref xa, .ref ya, .ref rg, .ref me, .ref sa, .ref pa, .ref za, .ref ca, .int (bI kp), .ref ta, .ref na])), (rg, .inl (cI, 6, .inl (rg6 v187 x d b0 b1 b2))), (za, .inl (cZ, 2, .inl (p2 (bI zz87) (bI z1))))]) hP hD [0, 1, 3] [2] rfl rfl (by decide) (by decide) hk1 hFc hP1 hD1
      generalize H1 = H at hP hS ⊢
      try dsimp only at e87
      obtain ⟨e87_0, e87_1⟩ := e87
      replace e87_0 := e87_0.symm
      subst e87_0
      replace e87_1 := e87_1.symm
      subst e87_1
      have hP : va_P D vwCl [(me, .inl (cI, 512, .inl (mm2 g h))), (o, .inr (5, [.int th, .ref im, .int (bI tr), .ref rc, .ref bg, .int ro, .ref oa, .ref xa, .ref ya, .ref rg, .ref me, .ref sa, .ref pa, .ref za, .ref ca, .int (bI kp), .ref ta, .ref na])), (rg, .inl (cI, 6, .inl (rg6 ((rd g n) &&& 255) x d b0 b1 b2))), (za, .inl (cZ, 2, .inl (p2 (bI (decide ((rd g n) &&& 255 = 0))) (bI z1))))] H := hP
      have hD : va_D A [(me, .inl (cI, 512, .inl (mm2 g h))), (o, .inr (5, [.int th, .ref im, .int (bI tr), .ref rc, .ref bg, .int ro, .ref oa, .ref xa, .ref ya, .ref rg, .ref me, .ref sa, .ref pa, .ref za, .ref ca, .int (bI kp), .ref ta, .ref na])), (rg, .inl (cI, 6, .inl (rg6 ((rd g n) &&& 255) x d b0 b1 b2))), (za, .inl (cZ, 2, .inl (p2 (bI (decide ((rd g n) &&& 255 = 0))) (bI z1))))] := hD
      refine lv_goto (tgt := 188) hx hb d_MO_moves_90 rfl ?_
      have hP9 : va_P D vwCl [(o, .inr (5, [.int th, .ref im, .int (bI tr), .ref rc, .ref bg, .int ro, .ref oa, .ref xa, .ref ya, .ref rg, .ref me, .ref sa, .ref pa, .ref za, .ref ca, .int (bI kp), .ref ta, .ref na])), (rg, .inl (cI, 6, .inl (rg6 ((rd g n) &&& 255) x d b0 b1 b2))), (me, .inl (cI, 512, .inl (mm2 g h))), (za, .inl (cZ, 2, .inl (p2 (bI (decide ((rd g n) &&& 255 = 0))) (bI z1))))] H := hP.sub [1, 2, 0, 3] rfl
      have hD9 : va_D A [(o, .inr (5, [.int th, .ref im, .int (bI tr), .ref rc, .ref bg, .int ro, .ref oa, .ref xa, .ref ya, .ref rg, .ref me, .ref sa, .ref pa, .ref za, .ref ca, .int (bI kp), .ref ta, .ref na])), (rg, .inl (cI, 6, .inl (rg6 ((rd g n) &&& 255) x d b0 b1 b2))), (me, .inl (cI, 512, .inl (mm2 g h))), (za, .inl (cZ, 2, .inl (p2 (bI (decide ((rd g n) &&& 255 = 0))) (bI z1))))] := hD.sub [1, 2, 0, 3] (by decide) rfl
      exact W.vret hx hb hr (fun t ht hW => ⟨⟨(g, (rd g n) &&& 255, x, decide ((rd g n) &&& 255 = 0)), rfl, by rw [h16]; rfl, by rw [ht]; exact hP9, va_K.moved hW.alike hK, hD9⟩, hS.F ht⟩) hS.2.2 d_MO_moves_188
    | 2, _, h16 =>
      have h16 : op = 4 := h16
      refine lv_tableIn (off := 77) (tgt := 93) hx hb d_MO_moves_16 (by rw [h16]; decide) (by rw [h16]; decide) (by rw [h16]; rfl) rfl ?_
      refine lv_aload_n hx hb d_MO_moves_93 rfl (lv_at hl 2 rfl) ?_
      refine lv_iconst (v := 0) hx hb d_MO_moves_94 (by decide) ?_
      refine lv_iconst (v := 0) hx hb d_MO_moves_95 (by decide) ?_
      refine lv_aload_n hx hb d_MO_moves_96 rfl (lv_at hl 2 rfl) ?_
      refine lv_iconst (v := 0) hx hb d_MO_moves_97 (by decide) ?_
      refine lv_iload_n hx hb d_MO_moves_98 rfl (lv_at hl 4 rfl) ?_
      refine lv_iload hx hb d_MO_moves_99 (lv_at hl 0 rfl) ?_
      refine lv_iadd hx hb d_MO_moves_101 ?_
      have hPc := hP.sub (ws' := [(o, .inr (5, [.int th, .ref im, .int (bI tr), .ref rc, .ref bg, .int ro, .ref oa, .ref xa, .ref ya, .ref rg, .ref me, .ref sa, .ref pa, .ref za, .ref ca, .int (bI kp), .ref ta, .ref na])), (me, .inl (cI, 512, .inl (mm2 g h)))]) [0, 2] rfl
      refine vp_callSi (va_runV (As := [.int 0, .int (n + x)]) (rest := [.int 0, .int 0, .ref o]) ⟨hx, hb, hml, hown, hts⟩ (q_get0 l D cI cZ o th im tr rc bg ro oa xa ya rg me sa pa za ca kp ta na g h (n + x)) ⟨cB 2 hts k_825 k_62 k_822 hd_MO_get ⟨Nat.le_of_ble_eq_true rfl, Nat.le_of_ble_eq_true rfl⟩ rfl rfl, hts _ k_824, hts _ k_37⟩ (PcR.preV (va_recv hK hP (q0 := 0) (ci := 5) rfl rfl) hPc hK hN) rfl rfl hl.1 rfl (lv_room (Nat.le_of_ble_eq_true rfl)) d_MO_moves_102 ⟨Nat.le_of_ble_eq_true rfl, Nat.le_of_ble_eq_true rfl⟩).run (fun r102 e102 => ?_)
      replace e102 := e102.symm
      subst e102
      have hPc := hP.sub (ws' := [(o, .inr (5, [.int th, .ref im, .int (bI tr), .ref rc, .ref bg, .int ro, .ref oa, .ref xa, .ref ya, .ref rg, .ref me, .ref sa, .ref pa, .ref za, .ref ca, .int (bI kp), .ref ta, .ref na])), (rg, .inl (cI, 6, .inl (rg6 a x d b0 b1 b2))), (za, .inl (cZ, 2, .inl (p2 (bI z0) (bI z1))))]) [0, 1, 3] rfl
      have hDc := hD.sub (ws' := [(o, .inr (5, [.int th, .ref im, .int (bI tr), .ref rc, .ref bg, .int ro, .ref oa, .ref xa, .ref ya, .ref rg, .ref me, .ref sa, .ref pa, .ref za, .ref ca, .int (bI kp), .ref ta, .ref na])), (rg, .inl (cI, 6, .inl (rg6 a x d b0 b1 b2))), (za, .inl (cZ, 2, .inl (p2 (bI z0) (bI z1))))]) [0, 1, 3] (by decide) rfl
      have hFc := va_free (wc := [(o, .inr (5, [.int th, .ref im, .int (bI tr), .ref rc, .ref bg, .int ro, .ref oa, .ref xa, .ref ya, .ref rg, .ref me, .ref sa, .ref pa, .ref za, .ref ca, .int (bI kp), .ref ta, .ref na])), (rg, .inl (cI, 6, .inl (rg6 a x d b0 b1 b2))), (za, .inl (cZ, 2, .inl (p2 (bI z0) (bI z1))))]) hD hS hA [0, 1, 3] rfl
      refine va_callv (va_runV (As := [.int 0, .int 0, .int (rd g (n + x))]) (rest := []) ⟨hx, hb, hml, hown, hts⟩ (q_setZ00 l D cI cZ o th im tr rc bg ro oa xa ya rg me sa pa za ca kp ta na a x d b0 b1 b2 z0 z1 (rd g (n + x)) H.size) ⟨cB 3 hts k_845 k_62 k_842 hd_MO_setZ ⟨Nat.le_of_ble_eq_true rfl, Nat.le_of_ble_eq_true rfl⟩ rfl rfl, hts _ k_844, hts _ k_42⟩ (PcW.preV (va_recv hK hP (q0 := 0) (ci := 5) rfl rfl) hPc hK hDc hN) rfl rfl hl.1 rfl (lv_room (Nat.le_of_ble_eq_true rfl)) d_MO_moves_105 ⟨Nat.le_of_ble_eq_true rfl, Nat.le_of_ble_eq_true rfl⟩) hS (fun q _ h => hFc q h) hFc (fun u t H1 locs ht hvm e105 hB hz1 hk1 hS => ?_)
      obtain ⟨v1105, zz105⟩ := u
      obtain ⟨hP1, hK1, hD1⟩ := hB
      rw [ht] at hP1
      obtain ⟨hP, hD⟩ := va_join (wr := [(me, .inl (cI, 512, .inl (mm2 g h)))]) (w1 := [(o, .inr (5, [.int th, .ref im, .int (bI tr), .ref rc, .ref bg, .int ro, .ref oa, .ref xa, .ref ya, .ref rg, .ref me, .ref sa, .ref pa, .ref za, .ref ca, .int (bI kp), .ref ta, .ref na])), (rg, .inl (cI, 6, .inl (rg6 v1105 x d b0 b1 b2))), (za, .inl (cZ, 2, .inl (p2 (bI zz105) (bI z1))))]) hP hD [0, 1, 3] [2] rfl rfl (by decide) (by decide) hk1 hFc hP1 hD1
      generalize H1 = H at hP hS ⊢
      try dsimp only at e105
      obtain ⟨e105_0, e105_1⟩ := e105
      replace e105_0 := e105_0.symm
      subst e105_0
      replace e105_1 := e105_1.symm
      subst e105_1
      have hP : va_P D vwCl [(me, .inl (cI, 512, .inl (mm2 g h))), (o, .inr (5, [.int th, .ref im, .int (bI tr), .ref rc, .ref bg, .int ro, .ref oa, .ref xa, .ref ya, .ref rg, .ref me, .ref sa, .ref pa, .ref za, .ref ca, .int (bI kp), .ref ta, .ref na])), (rg, .inl (cI, 6, .inl (rg6 ((rd g (n + x)) &&& 255) x d b0 b1 b2))), (za, .inl (cZ, 2, .inl (p2 (bI (decide ((rd g (n + x)) &&& 255 = 0))) (bI z1))))] H := hP
      have hD : va_D A [(me, .inl (cI, 512, .inl (mm2 g h))), (o, .inr (5, [.int th, .ref im, .int (bI tr), .ref rc, .ref bg, .int ro, .ref oa, .ref xa, .ref ya, .ref rg, .ref me, .ref sa, .ref pa, .ref za, .ref ca, .int (bI kp), .ref ta, .ref na])), (rg, .inl (cI, 6, .inl (rg6 ((rd g (n + x)) &&& 255) x d b0 b1 b2))), (za, .inl (cZ, 2, .inl (p2 (bI (decide ((rd g (n + x)) &&& 255 = 0))) (bI z1))))] := hD
      refine lv_goto (tgt := 188) hx hb d_MO_moves_108 rfl ?_
      have hP9 : va_P D vwCl [(o, .inr (5, [.int th, .ref im, .int (bI tr), .ref rc, .ref bg, .int ro, .ref oa, .ref xa, .ref ya, .ref rg, .ref me, .ref sa, .ref pa, .ref za, .ref ca, .int (bI kp), .ref ta, .ref na])), (rg, .inl (cI, 6, .inl (rg6 ((rd g (n + x)) &&& 255) x d b0 b1 b2))), (me, .inl (cI, 512, .inl (mm2 g h))), (za, .inl (cZ, 2, .inl (p2 (bI (decide ((rd g (n + x)) &&& 255 = 0))) (bI z1))))] H := hP.sub [1, 2, 0, 3] rfl
      have hD9 : va_D A [(o, .inr (5, [.int th, .ref im, .int (bI tr), .ref rc, .ref bg, .int ro, .ref oa, .ref xa, .ref ya, .ref rg, .ref me, .ref sa, .ref pa, .ref za, .ref ca, .int (bI kp), .ref ta, .ref na])), (rg, .inl (cI, 6, .inl (rg6 ((rd g (n + x)) &&& 255) x d b0 b1 b2))), (me, .inl (cI, 512, .inl (mm2 g h))), (za, .inl (cZ, 2, .inl (p2 (bI (decide ((rd g (n + x)) &&& 255 = 0))) (bI z1))))] := hD.sub [1, 2, 0, 3] (by decide) rfl
      exact W.vret hx hb hr (fun t ht hW => ⟨⟨(g, (rd g (n + x)) &&& 255, x, decide ((rd g (n + x)) &&& 255 = 0)), rfl, by rw [h16]; rfl, by rw [ht]; exact hP9, va_K.moved hW.alike hK, hD9⟩, hS.F ht⟩) hS.2.2 d_MO_moves_188
    | 3, _, h16 =>
      have h16 : op = 5 := h16
      refine lv_tableIn (off := 95) (tgt := 111) hx hb d_MO_moves_16 (by rw [h16]; decide) (by rw [h16]; decide) (by rw [h16]; rfl) rfl ?_
      refine lv_aload_n hx hb d_MO_moves_111 rfl (lv_at hl 2 rfl) ?_
      refine lv_iconst (v := 0) hx hb d_MO_moves_112 (by decide) ?_
      refine lv_iload_n hx hb d_MO_moves_113 rfl (lv_at hl 4 rfl) ?_
      refine lv_iload_n hx hb d_MO_moves_114 rfl (lv_at hl 1 rfl) ?_
      have hPc := hP.sub (ws' := [(o, .inr (5, [.int th, .ref im, .int (bI tr), .ref rc, .ref bg, .int ro, .ref oa, .ref xa, .ref ya, .ref rg, .ref me, .ref sa, .ref pa, .ref za, .ref ca, .int (bI kp), .ref ta, .ref na])), (me, .inl (cI, 512, .inl (mm2 g h)))]) [0, 2] rfl
      have hDc := hD.sub (ws' := [(o, .inr (5, [.int th, .ref im, .int (bI tr), .ref rc, .ref bg, .int ro, .ref oa, .ref xa, .ref ya, .ref rg, .ref me, .ref sa, .ref pa, .ref za, .ref ca, .int (bI kp), .ref ta, .ref na])), (me, .inl (cI, 512, .inl (mm2 g h)))]) [0, 2] (by decide) rfl
      have hFc := va_free (wc := [(o, .inr (5, [.int th, .ref im, .int (bI tr), .ref rc, .ref bg, .int ro, .ref oa, .ref xa, .ref ya, .ref rg, .ref me, .ref sa, .ref pa, .ref za, .ref ca, .int (bI kp), .ref ta, .ref na])), (me, .inl (cI, 512, .inl (mm2 g h)))]) hD hS hA [0, 2] rfl
      refine va_callv (va_runV (As := [.int 0, .int n, .int a]) (rest := []) ⟨hx, hb, hml, hown, hts⟩ (q_put0 l D cI cZ o th im tr rc bg ro oa xa ya rg me sa pa za ca kp ta na g h n a H.size) ⟨cB 3 hts k_837 k_62 k_834 hd_MO_put ⟨Nat.le_of_ble_eq_true rfl, Nat.le_of_ble_eq_true rfl⟩ rfl rfl, hts _ k_836, hts _ k_40⟩ (PcW.preV (va_recv hK hP (q0 := 0) (ci := 5) rfl rfl) hPc hK hDc hN) rfl rfl hl.1 rfl (lv_room (Nat.le_of_ble_eq_true rfl)) d_MO_moves_115 ⟨Nat.le_of_ble_eq_true rfl, Nat.le_of_ble_eq_true rfl⟩) hS (fun q _ h => hFc q h) hFc (fun u t H1 locs ht hvm e115 hB hz1 hk1 hS => ?_)
      obtain ⟨f1115, rfl⟩ : ∃ z, z = u := ⟨_, rfl⟩
      obtain ⟨hP1, hK1, hD1⟩ := hB
      rw [ht] at hP1
      obtain ⟨hP, hD⟩ := va_join (wr := [(rg, .inl (cI, 6, .inl (rg6 a x d b0 b1 b2))), (za, .inl (cZ, 2, .inl (p2 (bI z0) (bI z1))))]) (w1 := [(o, .inr (5, [.int th, .ref im, .int (bI tr), .ref rc, .ref bg, .int ro, .ref oa, .ref xa, .ref ya, .ref rg, .ref me, .ref sa, .ref pa, .ref za, .ref ca, .int (bI kp), .ref ta, .ref na])), (me, .inl (cI, 512, .inl f1115))]) hP hD [0, 2] [1, 3] rfl rfl (by decide) (by decide) hk1 hFc hP1 hD1
      generalize H1 = H at hP hS ⊢
      try dsimp only at e115
      have e115_0 := e115
      replace e115_0 := e115_0.symm
      subst e115_0
      have hP : va_P D vwCl [(rg, .inl (cI, 6, .inl (rg6 a x d b0 b1 b2))), (za, .inl (cZ, 2, .inl (p2 (bI z0) (bI z1)))), (o, .inr (5, [.int th, .ref im, .int (bI tr), .ref rc, .ref bg, .int ro, .ref oa, .ref xa, .ref ya, .ref rg, .ref me, .ref sa, .ref pa, .ref za, .ref ca, .int (bI kp), .ref ta, .ref na])), (me, .inl (cI, 512, .inl (mm2 (wr g n a) h)))] H := hP
      have hD : va_D A [(rg, .inl (cI, 6, .inl (rg6 a x d b0 b1 b2))), (za, .inl (cZ, 2, .inl (p2 (bI z0) (bI z1)))), (o, .inr (5, [.int th, .ref im, .int (bI tr), .ref rc, .ref bg, .int ro, .ref oa, .ref xa, .ref ya, .ref rg, .ref me, .ref sa, .ref pa, .ref za, .ref ca, .int (bI kp), .ref ta, .ref na])), (me, .inl (cI, 512, .inl (mm2 (wr g n a) h)))] := hD
      refine lv_goto (tgt := 188) hx hb d_MO_moves_118 rfl ?_
      have hP9 : va_P D vwCl [(o, .inr (5, [.int th, .ref im, .int (bI tr), .ref rc, .ref bg, .int ro, .ref oa, .ref xa, .ref ya, .ref rg, .ref me, .ref sa, .ref pa, .ref za, .ref ca, .int (bI kp), .ref ta, .ref na])), (rg, .inl (cI, 6, .inl (rg6 a x d b0 b1 b2))), (me, .inl (cI, 512, .inl (mm2 (wr g n a) h))), (za, .inl (cZ, 2, .inl (p2 (bI z0) (bI z1))))] H := hP.sub [2, 0, 3, 1] rfl
      have hD9 : va_D A [(o, .inr (5, [.int th, .ref im, .int (bI tr), .ref rc, .ref bg, .int ro, .ref oa, .ref xa, .ref ya, .ref rg, .ref me, .ref sa, .ref pa, .ref za, .ref ca, .int (bI kp), .ref ta, .ref na])), (rg, .inl (cI, 6, .inl (rg6 a x d b0 b1 b2))), (me, .inl (cI, 512, .inl (mm2 (wr g n a) h))), (za, .inl (cZ, 2, .inl (p2 (bI z0) (bI z1))))] := hD.sub [2, 0, 3, 1] (by decide) rfl
      exact W.vret hx hb hr (fun t ht hW => ⟨⟨(wr g n a, a, x, z0), rfl, by rw [h16]; rfl, by rw [ht]; exact hP9, va_K.moved hW.alike hK, hD9⟩, hS.F ht⟩) hS.2.2 d_MO_moves_188
    | 4, _, h16 =>
      have h16 : op = 6 := h16
      refine lv_tableIn (off := 105) (tgt := 121) hx hb d_MO_moves_16 (by rw [h16]; decide) (by rw [h16]; decide) (by rw [h16]; rfl) rfl ?_
      refine lv_aload_n hx hb d_MO_moves_121 rfl (lv_at hl 2 rfl) ?_
      refine lv_iconst (v := 0) hx hb d_MO_moves_122 (by decide) ?_
      refine lv_iload_n hx hb d_MO_moves_123 rfl (lv_at hl 4 rfl) ?_
      refine lv_iload hx hb d_MO_moves_124 (lv_at hl 0 rfl) ?_
      refine lv_iadd hx hb d_MO_moves_126 ?_
      refine lv_iload_n hx hb d_MO_moves_127 rfl (lv_at hl 1 rfl) ?_
      have hPc := hP.sub (ws' := [(o, .inr (5, [.int th, .ref im, .int (bI tr), .ref rc, .ref bg, .int ro, .ref oa, .ref xa, .ref ya, .ref rg, .ref me, .ref sa, .ref pa, .ref za, .ref ca, .int (bI kp), .ref ta, .ref na])), (me, .inl (cI, 512, .inl (mm2 g h)))]) [0, 2] rfl
      have hDc := hD.sub (ws' := [(o, .inr (5, [.int th, .ref im, .int (bI tr), .ref rc, .ref bg, .int ro, .ref oa, .ref xa, .ref ya, .ref rg, .ref me, .ref sa, .ref pa, .ref za, .ref ca, .int (bI kp), .ref ta, .ref na])), (me, .inl (cI, 512, .inl (mm2 g h)))]) [0, 2] (by decide) rfl
      have hFc := va_free (wc := [(o, .inr (5, [.int th, .ref im, .int (bI tr), .ref rc, .ref bg, .int ro, .ref oa, .ref xa, .ref ya, .ref rg, .ref me, .ref sa, .ref pa, .ref za, .ref ca, .int (bI kp), .ref ta, .ref na])), (me, .inl (cI, 512, .inl (mm2 g h)))]) hD hS hA [0, 2] rfl
      refine va_callv (va_runV (As := [.int 0, .int (n + x), .int a]) (rest := []) ⟨hx, hb, hml, hown, hts⟩ (q_put0 l D cI cZ o th im tr rc bg ro oa xa ya rg me sa pa za ca kp ta na g h (n + x) a H.size) ⟨cB 3 hts k_837 k_62 k_834 hd_MO_put ⟨Nat.le_of_ble_eq_true rfl, Nat.le_of_ble_eq_true rfl⟩ rfl rfl, hts _ k_836, hts _ k_40⟩ (PcW.preV (va_recv hK hP (q0 := 0) (ci := 5) rfl rfl) hPc hK hDc hN) rfl rfl hl.1 rfl (lv_room (Nat.le_of_ble_eq_true rfl)) d_MO_moves_128 ⟨Nat.le_of_ble_eq_true rfl, Nat.le_of_ble_eq_true rfl⟩) hS (fun q _ h => hFc q h) hFc (fun u t H1 locs ht hvm e128 hB hz1 hk1 hS => ?_)
      obtain ⟨f1128, rfl⟩ : ∃ z, z = u := ⟨_, rfl⟩
      obtain ⟨hP1, hK1, hD1⟩ := hB
      rw [ht] at hP1
      obtain ⟨hP, hD⟩ := va_join (wr := [(rg, .inl (cI, 6, .inl (rg6 a x d b0 b1 b2))), (za, .inl (cZ, 2, .inl (p2 (bI z0) (bI z1))))]) (w1 := [(o, .inr (5, [.int th, .ref im, .int (bI tr), .ref rc, .ref bg, .int ro, .ref oa, .ref xa, .ref ya, .ref rg, .ref me, .ref sa, .ref pa, .ref za, .ref ca, .int (bI kp), .ref ta, .ref na])), (me, .inl (cI, 512, .inl f1128))]) hP hD [0, 2] [1, 3] rfl rfl (by decide) (by decide) hk1 hFc hP1 hD1
      generalize H1 = H at hP hS ⊢
      try dsimp only at e128
      have e128_0 := e128
      replace e128_0 := e128_0.symm
      subst e128_0
      have hP : va_P D vwCl [(rg, .inl (cI, 6, .inl (rg6 a x d b0 b1 b2))), (za, .inl (cZ, 2, .inl (p2 (bI z0) (bI z1)))), (o, .inr (5, [.int th, .ref im, .int (bI tr), .ref rc, .ref bg, .int ro, .ref oa, .ref xa, .ref ya, .ref rg, .ref me, .ref sa, .ref pa, .ref za, .ref ca, .int (bI kp), .ref ta, .ref na])), (me, .inl (cI, 512, .inl (mm2 (wr g (n + x) a) h)))] H := hP
      have hD : va_D A [(rg, .inl (cI, 6, .inl (rg6 a x d b0 b1 b2))), (za, .inl (cZ, 2, .inl (p2 (bI z0) (bI z1)))), (o, .inr (5, [.int th, .ref im, .int (bI tr), .ref rc, .ref bg, .int ro, .ref oa, .ref xa, .ref ya, .ref rg, .ref me, .ref sa, .ref pa, .ref za, .ref ca, .int (bI kp), .ref ta, .ref na])), (me, .inl (cI, 512, .inl (mm2 (wr g (n + x) a) h)))] := hD
      refine lv_goto (tgt := 188) hx hb d_MO_moves_131 rfl ?_
      have hP9 : va_P D vwCl [(o, .inr (5, [.int th, .ref im, .int (bI tr), .ref rc, .ref bg, .int ro, .ref oa, .ref xa, .ref ya, .ref rg, .ref me, .ref sa, .ref pa, .ref za, .ref ca, .int (bI kp), .ref ta, .ref na])), (rg, .inl (cI, 6, .inl (rg6 a x d b0 b1 b2))), (me, .inl (cI, 512, .inl (mm2 (wr g (n + x) a) h))), (za, .inl (cZ, 2, .inl (p2 (bI z0) (bI z1))))] H := hP.sub [2, 0, 3, 1] rfl
      have hD9 : va_D A [(o, .inr (5, [.int th, .ref im, .int (bI tr), .ref rc, .ref bg, .int ro, .ref oa, .ref xa, .ref ya, .ref rg, .ref me, .ref sa, .ref pa, .ref za, .ref ca, .int (bI kp), .ref ta, .ref na])), (rg, .inl (cI, 6, .inl (rg6 a x d b0 b1 b2))), (me, .inl (cI, 512, .inl (mm2 (wr g (n + x) a) h))), (za, .inl (cZ, 2, .inl (p2 (bI z0) (bI z1))))] := hD.sub [2, 0, 3, 1] (by decide) rfl
      exact W.vret hx hb hr (fun t ht hW => ⟨⟨(wr g (n + x) a, a, x, z0), rfl, by rw [h16]; rfl, by rw [ht]; exact hP9, va_K.moved hW.alike hK, hD9⟩, hS.F ht⟩) hS.2.2 d_MO_moves_188
    | 5, _, h16 =>
      have h16 : op = 7 := h16
      refine lv_tableIn (off := 118) (tgt := 134) hx hb d_MO_moves_16 (by rw [h16]; decide) (by rw [h16]; decide) (by rw [h16]; rfl) rfl ?_
      refine lv_aload_n hx hb d_MO_moves_134 rfl (lv_at hl 2 rfl) ?_
      refine lv_iconst (v := 0) hx hb d_MO_moves_135 (by decide) ?_
      refine lv_iconst (v := 1) hx hb d_MO_moves_136 (by decide) ?_
      refine lv_iload_n hx hb d_MO_moves_137 rfl (lv_at hl 4 rfl) ?_
      have hPc := hP.sub (ws' := [(o, .inr (5, [.int th, .ref im, .int (bI tr), .ref rc, .ref bg, .int ro, .ref oa, .ref xa, .ref ya, .ref rg, .ref me, .ref sa, .ref pa, .ref za, .ref ca, .int (bI kp), .ref ta, .ref na])), (rg, .inl (cI, 6, .inl (rg6 a x d b0 b1 b2)))]) [0, 1] rfl
      have hDc := hD.sub (ws' := [(o, .inr (5, [.int th, .ref im, .int (bI tr), .ref rc, .ref bg, .int ro, .ref oa, .ref xa, .ref ya, .ref rg, .ref me, .ref sa, .ref pa, .ref za, .ref ca, .int (bI kp), .ref ta, .ref na])), (rg, .inl (cI, 6, .inl (rg6 a x d b0 b1 b2)))]) [0, 1] (by decide) rfl
      have hFc := va_free (wc := [(o, .inr (5, [.int th, .ref im, .int (bI tr), .ref rc, .ref bg, .int ro, .ref oa, .ref xa, .ref ya, .ref rg, .ref me, .ref sa, .ref pa, .ref za, .ref ca, .int (bI kp), .ref ta, .ref na])), (rg, .inl (cI, 6, .inl (rg6 a x d b0 b1 b2)))]) hD hS hA [0, 1] rfl
      refine va_callv (va_runV (As := [.int 0, .int 1, .int n]) (rest := []) ⟨hx, hb, hml, hown, hts⟩ (q_set01 l D cI cZ o th im tr rc bg ro oa xa ya rg me sa pa za ca kp ta na a x d b0 b1 b2 n H.size) ⟨cB 3 hts k_849 k_62 k_846 hd_MO_set ⟨Nat.le_of_ble_eq_true rfl, Nat.le_of_ble_eq_true rfl⟩ rfl rfl, hts _ k_848, hts _ k_43⟩ (PcW.preV (va_recv hK hP (q0 := 0) (ci := 5) rfl rfl) hPc hK hDc hN) rfl rfl hl.1 rfl (lv_room (Nat.le_of_ble_eq_true rfl)) d_MO_moves_138 ⟨Nat.le_of_ble_eq_true rfl, Nat.le_of_ble_eq_true rfl⟩) hS (fun q _ h => hFc q h) hFc (fun u t H1 locs ht hvm e138 hB hz1 hk1 hS => ?_)
      obtain ⟨v1138, rfl⟩ : ∃ z, z = u := ⟨_, rfl⟩
      obtain ⟨hP1, hK1, hD1⟩ := hB
      rw [ht] at hP1
      obtain ⟨hP, hD⟩ := va_join (wr := [(me, .inl (cI, 512, .inl (mm2 g h))), (za, .inl (cZ, 2, .inl (p2 (bI z0) (bI z1))))]) (w1 := [(o, .inr (5, [.int th, .ref im, .int (bI tr), .ref rc, .ref bg, .int ro, .ref oa, .ref xa, .ref ya, .ref rg, .ref me, .ref sa, .ref pa, .ref za, .ref ca, .int (bI kp), .ref ta, .ref na])), (rg, .inl (cI, 6, .inl (rg6 a v1138 d b0 b1 b2)))]) hP hD [0, 1] [2, 3] rfl rfl (by decide) (by decide) hk1 hFc hP1 hD1
      generalize H1 = H at hP hS ⊢
      try dsimp only at e138
      have e138_0 := e138
      replace e138_0 := e138_0.symm
      subst e138_0
      have hP : va_P D vwCl [(me, .inl (cI, 512, .inl (mm2 g h))), (za, .inl (cZ, 2, .inl (p2 (bI z0) (bI z1)))), (o, .inr (5, [.int th, .ref im, .int (bI tr), .ref rc, .ref bg, .int ro, .ref oa, .ref xa, .ref ya, .ref rg, .ref me, .ref sa, .ref pa, .ref za, .ref ca, .int (bI kp), .ref ta, .ref na])), (rg, .inl (cI, 6, .inl (rg6 a (n &&& 255) d b0 b1 b2)))] H := hP
      have hD : va_D A [(me, .inl (cI, 512, .inl (mm2 g h))), (za, .inl (cZ, 2, .inl (p2 (bI z0) (bI z1)))), (o, .inr (5, [.int th, .ref im, .int (bI tr), .ref rc, .ref bg, .int ro, .ref oa, .ref xa, .ref ya, .ref rg, .ref me, .ref sa, .ref pa, .ref za, .ref ca, .int (bI kp), .ref ta, .ref na])), (rg, .inl (cI, 6, .inl (rg6 a (n &&& 255) d b0 b1 b2)))] := hD
      refine lv_goto (tgt := 188) hx hb d_MO_moves_141 rfl ?_
      have hP9 : va_P D vwCl [(o, .inr (5, [.int th, .ref im, .int (bI tr), .ref rc, .ref bg, .int ro, .ref oa, .ref xa, .ref ya, .ref rg, .ref me, .ref sa, .ref pa, .ref za, .ref ca, .int (bI kp), .ref ta, .ref na])), (rg, .inl (cI, 6, .inl (rg6 a (n &&& 255) d b0 b1 b2))), (me, .inl (cI, 512, .inl (mm2 g h))), (za, .inl (cZ, 2, .inl (p2 (bI z0) (bI z1))))] H := hP.sub [2, 3, 0, 1] rfl
      have hD9 : va_D A [(o, .inr (5, [.int th, .ref im, .int (bI tr), .ref rc, .ref bg, .int ro, .ref oa, .ref xa, .ref ya, .ref rg, .ref me, .ref sa, .ref pa, .ref za, .ref ca, .int (bI kp), .ref ta, .ref na])), (rg, .inl (cI, 6, .inl (rg6 a (n &&& 255) d b0 b1 b2))), (me, .inl (cI, 512, .inl (mm2 g h))), (za, .inl (cZ, 2, .inl (p2 (bI z0) (bI z1))))] := hD.sub [2, 3, 0, 1] (by decide) rfl
      exact W.vret hx hb hr (fun t ht hW => ⟨⟨(g, a, n &&& 255, z0), rfl, by rw [h16]; rfl, by rw [ht]; exact hP9, va_K.moved hW.alike hK, hD9⟩, hS.F ht⟩) hS.2.2 d_MO_moves_188
    | 6, _, h16 =>
      have h16 : op = 8 := h16
      refine lv_tableIn (off := 128) (tgt := 144) hx hb d_MO_moves_16 (by rw [h16]; decide) (by rw [h16]; decide) (by rw [h16]; rfl) rfl ?_
      refine lv_aload_n hx hb d_MO_moves_144 rfl (lv_at hl 2 rfl) ?_
      refine lv_iconst (v := 0) hx hb d_MO_moves_145 (by decide) ?_
      refine lv_iconst (v := 1) hx hb d_MO_moves_146 (by decide) ?_
      refine lv_iload_n hx hb d_MO_moves_147 rfl (lv_at hl 1 rfl) ?_
      have hPc := hP.sub (ws' := [(o, .inr (5, [.int th, .ref im, .int (bI tr), .ref rc, .ref bg, .int ro, .ref oa, .ref xa, .ref ya, .ref rg, .ref me, .ref sa, .ref pa, .ref za, .ref ca, .int (bI kp), .ref ta, .ref na])), (rg, .inl (cI, 6, .inl (rg6 a x d b0 b1 b2)))]) [0, 1] rfl
      have hDc := hD.sub (ws' := [(o, .inr (5, [.int th, .ref im, .int (bI tr), .ref rc, .ref bg, .int ro, .ref oa, .ref xa, .ref ya, .ref rg, .ref me, .ref sa, .ref pa, .ref za, .ref ca, .int (bI kp), .ref ta, .ref na])), (rg, .inl (cI, 6, .inl (rg6 a x d b0 b1 b2)))]) [0, 1] (by decide) rfl
      have hFc := va_free (wc := [(o, .inr (5, [.int th, .ref im, .int (bI tr), .ref rc, .ref bg, .int ro, .ref oa, .ref xa, .ref ya, .ref rg, .ref me, .ref sa, .ref pa, .ref za, .ref ca, .int (bI kp), .ref ta, .ref na])), (rg, .inl (cI, 6, .inl (rg6 a x d b0 b1 b2)))]) hD hS hA [0, 1] rfl
      refine va_callv (va_runV (As := [.int 0, .int 1, .int a]) (rest := []) ⟨hx, hb, hml, hown, hts⟩ (q_set01 l D cI cZ o th im tr rc bg ro oa xa ya rg me sa pa za ca kp ta na a x d b0 b1 b2 a H.size) ⟨cB 3 hts k_849 k_62 k_846 hd_MO_set ⟨Nat.le_of_ble_eq_true rfl, Nat.le_of_ble_eq_true rfl⟩ rfl rfl, hts _ k_848, hts _ k_43⟩ (PcW.preV (va_recv hK hP (q0 := 0) (ci := 5) rfl rfl) hPc hK hDc hN) rfl rfl hl.1 rfl (lv_room (Nat.le_of_ble_eq_true rfl)) d_MO_moves_148 ⟨Nat.le_of_ble_eq_true rfl, Nat.le_of_ble_eq_true rfl⟩) hS (fun q _ h => hFc q h) hFc (fun u t H1 locs ht hvm e148 hB hz1 hk1 hS => ?_)
      obtain ⟨v1148, rfl⟩ : ∃ z, z = u := ⟨_, rfl⟩
      obtain ⟨hP1, hK1, hD1⟩ := hB
      rw [ht] at hP1
      obtain ⟨hP, hD⟩ := va_join (wr := [(me, .inl (cI, 512, .inl (mm2 g h))), (za, .inl (cZ, 2, .inl (p2 (bI z0) (bI z1))))]) (w1 := [(o, .inr (5, [.int th, .ref im, .int (bI tr), .ref rc, .ref bg, .int ro, .ref oa, .ref xa, .ref ya, .ref rg, .ref me, .ref sa, .ref pa, .ref za, .ref ca, .int (bI kp), .ref ta, .ref na])), (rg, .inl (cI, 6, .inl (rg6 a v1148 d b0 b1 b2)))]) hP hD [0, 1] [2, 3] rfl rfl (by decide) (by decide) hk1 hFc hP1 hD1
      generalize H1 = H at hP hS ⊢
      try dsimp only at e148
      have e148_0 := e148
      replace e148_0 := e148_0.symm
      subst e148_0
      have hP : va_P D vwCl [(me, .inl (cI, 512, .inl (mm2 g h))), (za, .inl (cZ, 2, .inl (p2 (bI z0) (bI z1)))), (o, .inr (5, [.int th, .ref im, .int (bI tr), .ref rc, .ref bg, .int ro, .ref oa, .ref xa, .ref ya, .ref rg, .ref me, .ref sa, .ref pa, .ref za, .ref ca, .int (bI kp), .ref ta, .ref na])), (rg, .inl (cI, 6, .inl (rg6 a (a &&& 255) d b0 b1 b2)))] H := hP
      have hD : va_D A [(me, .inl (cI, 512, .inl (mm2 g h))), (za, .inl (cZ, 2, .inl (p2 (bI z0) (bI z1)))), (o, .inr (5, [.int th, .ref im, .int (bI tr), .ref rc, .ref bg, .int ro, .ref oa, .ref xa, .ref ya, .ref rg, .ref me, .ref sa, .ref pa, .ref za, .ref ca, .int (bI kp), .ref ta, .ref na])), (rg, .inl (cI, 6, .inl (rg6 a (a &&& 255) d b0 b1 b2)))] := hD
      refine lv_goto (tgt := 188) hx hb d_MO_moves_151 rfl ?_
      have hP9 : va_P D vwCl [(o, .inr (5, [.int th, .ref im, .int (bI tr), .ref rc, .ref bg, .int ro, .ref oa, .ref xa, .ref ya, .ref rg, .ref me, .ref sa, .ref pa, .ref za, .ref ca, .int (bI kp), .ref ta, .ref na])), (rg, .inl (cI, 6, .inl (rg6 a (a &&& 255) d b0 b1 b2))), (me, .inl (cI, 512, .inl (mm2 g h))), (za, .inl (cZ, 2, .inl (p2 (bI z0) (bI z1))))] H := hP.sub [2, 3, 0, 1] rfl
      have hD9 : va_D A [(o, .inr (5, [.int th, .ref im, .int (bI tr), .ref rc, .ref bg, .int ro, .ref oa, .ref xa, .ref ya, .ref rg, .ref me, .ref sa, .ref pa, .ref za, .ref ca, .int (bI kp), .ref ta, .ref na])), (rg, .inl (cI, 6, .inl (rg6 a (a &&& 255) d b0 b1 b2))), (me, .inl (cI, 512, .inl (mm2 g h))), (za, .inl (cZ, 2, .inl (p2 (bI z0) (bI z1))))] := hD.sub [2, 3, 0, 1] (by decide) rfl
      exact W.vret hx hb hr (fun t ht hW => ⟨⟨(g, a, a &&& 255, z0), rfl, by rw [h16]; rfl, by rw [ht]; exact hP9, va_K.moved hW.alike hK, hD9⟩, hS.F ht⟩) hS.2.2 d_MO_moves_188
    | 7, _, h16 =>
      have h16 : op = 9 := h16
      refine lv_tableIn (off := 138) (tgt := 154) hx hb d_MO_moves_16 (by rw [h16]; decide) (by rw [h16]; decide) (by rw [h16]; rfl) rfl ?_
      refine lv_aload_n hx hb d_MO_moves_154 rfl (lv_at hl 2 rfl) ?_
      refine lv_iconst (v := 0) hx hb d_MO_moves_155 (by decide) ?_
      refine lv_iconst (v := 0) hx hb d_MO_moves_156 (by decide) ?_
      refine lv_iload hx hb d_MO_moves_157 (lv_at hl 0 rfl) ?_
      have hPc := hP.sub (ws' := [(o, .inr (5, [.int th, .ref im, .int (bI tr), .ref rc, .ref bg, .int ro, .ref oa, .ref xa, .ref ya, .ref rg, .ref me, .ref sa, .ref pa, .ref za, .ref ca, .int (bI kp), .ref ta, .ref na])), (rg, .inl (cI, 6, .inl (rg6 a x d b0 b1 b2))), (za, .inl (cZ, 2, .inl (p2 (bI z0) (bI z1))))]) [0, 1, 3] rfl
      have hDc := hD.sub (ws' := [(o, .inr (5, [.int th, .ref im, .int (bI tr), .ref rc, .ref bg, .int ro, .ref oa, .ref xa, .ref ya, .ref rg, .ref me, .ref sa, .ref pa, .ref za, .ref ca, .int (bI kp), .ref ta, .ref na])), (rg, .inl (cI, 6, .inl (rg6 a x d b0 b1 b2))), (za, .inl (cZ, 2, .inl (p2 (bI z0) (bI z1))))]) [0, 1, 3] (by decide) rfl
      have hFc := va_free (wc := [(o, .inr (5, [.int th, .ref im, .int (bI tr), .ref rc, .ref bg, .int ro, .ref oa, .ref xa, .ref ya, .ref rg, .ref me, .ref sa, .ref pa, .ref za, .ref ca, .int (bI kp), .ref ta, .ref na])), (rg, .inl (cI, 6, .inl (rg6 a x d b0 b1 b2))), (za, .inl (cZ, 2, .inl (p2 (bI z0) (bI z1))))]) hD hS hA [0, 1, 3] rfl
      refine va_callv (va_runV (As := [.int 0, .int 0, .int x]) (rest := []) ⟨hx, hb, hml, hown, hts⟩ (q_setZ00 l D cI cZ o th im tr rc bg ro oa xa ya rg me sa pa za ca kp ta na a x d b0 b1 b2 z0 z1 x H.size) ⟨cB 3 hts k_845 k_62 k_842 hd_MO_setZ ⟨Nat.le_of_ble_eq_true rfl, Nat.le_of_ble_eq_true rfl⟩ rfl rfl, hts _ k_844, hts _ k_42⟩ (PcW.preV (va_recv hK hP (q0 := 0) (ci := 5) rfl rfl) hPc hK hDc hN) rfl rfl hl.1 rfl (lv_room (Nat.le_of_ble_eq_true rfl)) d_MO_moves_159 ⟨Nat.le_of_ble_eq_true rfl, Nat.le_of_ble_eq_true rfl⟩) hS (fun q _ h => hFc q h) hFc (fun u t H1 locs ht hvm e159 hB hz1 hk1 hS => ?_)
      obtain ⟨v1159, zz159⟩ := u
      obtain ⟨hP1, hK1, hD1⟩ := hB
      rw [ht] at hP1
      obtain ⟨hP, hD⟩ := va_join (wr := [(me, .inl (cI, 512, .inl (mm2 g h)))]) (w1 := [(o, .inr (5, [.int th, .ref im, .int (bI tr), .ref rc, .ref bg, .int ro, .ref oa, .ref xa, .ref ya, .ref rg, .ref me, .ref sa, .ref pa, .ref za, .ref ca, .int (bI kp), .ref ta, .ref na])), (rg, .inl (cI, 6, .inl (rg6 v1159 x d b0 b1 b2))), (za, .inl (cZ, 2, .inl (p2 (bI zz159) (bI z1))))]) hP hD [0, 1, 3] [2] rfl rfl (by decide) (by decide) hk1 hFc hP1 hD1
      generalize H1 = H at hP hS ⊢
      try dsimp only at e159
      obtain ⟨e159_0, e159_1⟩ := e159
      replace e159_0 := e159_0.symm
      subst e159_0
      replace e159_1 := e159_1.symm
      subst e159_1
      have hP : va_P D vwCl [(me, .inl (cI, 512, .inl (mm2 g h))), (o, .inr (5, [.int th, .ref im, .int (bI tr), .ref rc, .ref bg, .int ro, .ref oa, .ref xa, .ref ya, .ref rg, .ref me, .ref sa, .ref pa, .ref za, .ref ca, .int (bI kp), .ref ta, .ref na])), (rg, .inl (cI, 6, .inl (rg6 (x &&& 255) x d b0 b1 b2))), (za, .inl (cZ, 2, .inl (p2 (bI (decide (x &&& 255 = 0))) (bI z1))))] H := hP
      have hD : va_D A [(me, .inl (cI, 512, .inl (mm2 g h))), (o, .inr (5, [.int th, .ref im, .int (bI tr), .ref rc, .ref bg, .int ro, .ref oa, .ref xa, .ref ya, .ref rg, .ref me, .ref sa, .ref pa, .ref za, .ref ca, .int (bI kp), .ref ta, .ref na])), (rg, .inl (cI, 6, .inl (rg6 (x &&& 255) x d b0 b1 b2))), (za, .inl (cZ, 2, .inl (p2 (bI (decide (x &&& 255 = 0))) (bI z1))))] := hD
      refine lv_goto (tgt := 188) hx hb d_MO_moves_162 rfl ?_
      have hP9 : va_P D vwCl [(o, .inr (5, [.int th, .ref im, .int (bI tr), .ref rc, .ref bg, .int ro, .ref oa, .ref xa, .ref ya, .ref rg, .ref me, .ref sa, .ref pa, .ref za, .ref ca, .int (bI kp), .ref ta, .ref na])), (rg, .inl (cI, 6, .inl (rg6 (x &&& 255) x d b0 b1 b2))), (me, .inl (cI, 512, .inl (mm2 g h))), (za, .inl (cZ, 2, .inl (p2 (bI (decide (x &&& 255 = 0))) (bI z1))))] H := hP.sub [1, 2, 0, 3] rfl
      have hD9 : va_D A [(o, .inr (5, [.int th, .ref im, .int (bI tr), .ref rc, .ref bg, .int ro, .ref oa, .ref xa, .ref ya, .ref rg, .ref me, .ref sa, .ref pa, .ref za, .ref ca, .int (bI kp), .ref ta, .ref na])), (rg, .inl (cI, 6, .inl (rg6 (x &&& 255) x d b0 b1 b2))), (me, .inl (cI, 512, .inl (mm2 g h))), (za, .inl (cZ, 2, .inl (p2 (bI (decide (x &&& 255 = 0))) (bI z1))))] := hD.sub [1, 2, 0, 3] (by decide) rfl
      exact W.vret hx hb hr (fun t ht hW => ⟨⟨(g, x &&& 255, x, decide (x &&& 255 = 0)), rfl, by rw [h16]; rfl, by rw [ht]; exact hP9, va_K.moved hW.alike hK, hD9⟩, hS.F ht⟩) hS.2.2 d_MO_moves_188
    | 8, _, h16 =>
      have h16 : op = 10 := h16
      refine lv_tableIn (off := 149) (tgt := 165) hx hb d_MO_moves_16 (by rw [h16]; decide) (by rw [h16]; decide) (by rw [h16]; rfl) rfl ?_
      refine lv_aload_n hx hb d_MO_moves_165 rfl (lv_at hl 2 rfl) ?_
      refine lv_iconst (v := 0) hx hb d_MO_moves_166 (by decide) ?_
      refine lv_iconst (v := 1) hx hb d_MO_moves_167 (by decide) ?_
      refine lv_iload hx hb d_MO_moves_168 (lv_at hl 0 rfl) ?_
      refine lv_iconst (v := 1) hx hb d_MO_moves_170 (by decide) ?_
      refine lv_iadd hx hb d_MO_moves_171 ?_
      have hPc := hP.sub (ws' := [(o, .inr (5, [.int th, .ref im, .int (bI tr), .ref rc, .ref bg, .int ro, .ref oa, .ref xa, .ref ya, .ref rg, .ref me, .ref sa, .ref pa, .ref za, .ref ca, .int (bI kp), .ref ta, .ref na])), (rg, .inl (cI, 6, .inl (rg6 a x d b0 b1 b2))), (za, .inl (cZ, 2, .inl (p2 (bI z0) (bI z1))))]) [0, 1, 3] rfl
      have hDc := hD.sub (ws' := [(o, .inr (5, [.int th, .ref im, .int (bI tr), .ref rc, .ref bg, .int ro, .ref oa, .ref xa, .ref ya, .ref rg, .ref me, .ref sa, .ref pa, .ref za, .ref ca, .int (bI kp), .ref ta, .ref na])), (rg, .inl (cI, 6, .inl (rg6 a x d b0 b1 b2))), (za, .inl (cZ, 2, .inl (p2 (bI z0) (bI z1))))]) [0, 1, 3] (by decide) rfl
      have hFc := va_free (wc := [(o, .inr (5, [.int th, .ref im, .int (bI tr), .ref rc, .ref bg, .int ro, .ref oa, .ref xa, .ref ya, .ref rg, .ref me, .ref sa, .ref pa, .ref za, .ref ca, .int (bI kp), .ref ta, .ref na])), (rg, .inl (cI, 6, .inl (rg6 a x d b0 b1 b2))), (za, .inl (cZ, 2, .inl (p2 (bI z0) (bI z1))))]) hD hS hA [0, 1, 3] rfl
      refine va_callv (va_runV (As := [.int 0, .int 1, .int (x + 1)]) (rest := []) ⟨hx, hb, hml, hown, hts⟩ (q_setZ01 l D cI cZ o th im tr rc bg ro oa xa ya rg me sa pa za ca kp ta na a x d b0 b1 b2 z0 z1 (x + 1) H.size) ⟨cB 3 hts k_845 k_62 k_842 hd_MO_setZ ⟨Nat.le_of_ble_eq_true rfl, Nat.le_of_ble_eq_true rfl⟩ rfl rfl, hts _ k_844, hts _ k_42⟩ (PcW.preV (va_recv hK hP (q0 := 0) (ci := 5) rfl rfl) hPc hK hDc hN) rfl rfl hl.1 rfl (lv_room (Nat.le_of_ble_eq_true rfl)) d_MO_moves_172 ⟨Nat.le_of_ble_eq_true rfl, Nat.le_of_ble_eq_true rfl⟩) hS (fun q _ h => hFc q h) hFc (fun u t H1 locs ht hvm e172 hB hz1 hk1 hS => ?_)
      obtain ⟨v1172, zz172⟩ := u
      obtain ⟨hP1, hK1, hD1⟩ := hB
      rw [ht] at hP1
      obtain ⟨hP, hD⟩ := va_join (wr := [(me, .inl (cI, 512, .inl (mm2 g h)))]) (w1 := [(o, .inr (5, [.int th, .ref im, .int (bI tr), .ref rc, .ref bg, .int ro, .ref oa, .ref xa, .ref ya, .ref rg, .ref me, .ref sa, .ref pa, .ref za, .ref ca, .int (bI kp), .ref ta, .ref na])), (rg, .inl (cI, 6, .inl (rg6 a v1172 d b0 b1 b2))), (za, .inl (cZ, 2, .inl (p2 (bI zz172) (bI z1))))]) hP hD [0, 1, 3] [2] rfl rfl (by decide) (by decide) hk1 hFc hP1 hD1
      generalize H1 = H at hP hS ⊢
      try dsimp only at e172
      obtain ⟨e172_0, e172_1⟩ := e172
      replace e172_0 := e172_0.symm
      subst e172_0
      replace e172_1 := e172_1.symm
      subst e172_1
      have hP : va_P D vwCl [(me, .inl (cI, 512, .inl (mm2 g h))), (o, .inr (5, [.int th, .ref im, .int (bI tr), .ref rc, .ref bg, .int ro, .ref oa, .ref xa, .ref ya, .ref rg, .ref me, .ref sa, .ref pa, .ref za, .ref ca, .int (bI kp), .ref ta, .ref na])), (rg, .inl (cI, 6, .inl (rg6 a ((x + 1) &&& 255) d b0 b1 b2))), (za, .inl (cZ, 2, .inl (p2 (bI (decide ((x + 1) &&& 255 = 0))) (bI z1))))] H := hP
      have hD : va_D A [(me, .inl (cI, 512, .inl (mm2 g h))), (o, .inr (5, [.int th, .ref im, .int (bI tr), .ref rc, .ref bg, .int ro, .ref oa, .ref xa, .ref ya, .ref rg, .ref me, .ref sa, .ref pa, .ref za, .ref ca, .int (bI kp), .ref ta, .ref na])), (rg, .inl (cI, 6, .inl (rg6 a ((x + 1) &&& 255) d b0 b1 b2))), (za, .inl (cZ, 2, .inl (p2 (bI (decide ((x + 1) &&& 255 = 0))) (bI z1))))] := hD
      refine lv_goto (tgt := 188) hx hb d_MO_moves_175 rfl ?_
      have hP9 : va_P D vwCl [(o, .inr (5, [.int th, .ref im, .int (bI tr), .ref rc, .ref bg, .int ro, .ref oa, .ref xa, .ref ya, .ref rg, .ref me, .ref sa, .ref pa, .ref za, .ref ca, .int (bI kp), .ref ta, .ref na])), (rg, .inl (cI, 6, .inl (rg6 a ((x + 1) &&& 255) d b0 b1 b2))), (me, .inl (cI, 512, .inl (mm2 g h))), (za, .inl (cZ, 2, .inl (p2 (bI (decide ((x + 1) &&& 255 = 0))) (bI z1))))] H := hP.sub [1, 2, 0, 3] rfl
      have hD9 : va_D A [(o, .inr (5, [.int th, .ref im, .int (bI tr), .ref rc, .ref bg, .int ro, .ref oa, .ref xa, .ref ya, .ref rg, .ref me, .ref sa, .ref pa, .ref za, .ref ca, .int (bI kp), .ref ta, .ref na])), (rg, .inl (cI, 6, .inl (rg6 a ((x + 1) &&& 255) d b0 b1 b2))), (me, .inl (cI, 512, .inl (mm2 g h))), (za, .inl (cZ, 2, .inl (p2 (bI (decide ((x + 1) &&& 255 = 0))) (bI z1))))] := hD.sub [1, 2, 0, 3] (by decide) rfl
      exact W.vret hx hb hr (fun t ht hW => ⟨⟨(g, a, (x + 1) &&& 255, decide ((x + 1) &&& 255 = 0)), rfl, by rw [h16]; rfl, by rw [ht]; exact hP9, va_K.moved hW.alike hK, hD9⟩, hS.F ht⟩) hS.2.2 d_MO_moves_188
    | n + 9, h9, _ => exact absurd h9 (by omega)
set_option maxHeartbeats 4000000 in
set_option maxRecDepth 100000 in
theorem q_reckons (l : Launch) (D : va_G) (cI cZ : ClassId) (o : Nat) (th : Int32) (im : Nat) (tr : Bool) (rc : Nat) (bg : Nat) (ro : Int32) (oa : Nat) (xa : Nat) (ya : Nat) (rg : Nat) (me : Nat) (sa : Nat) (pa : Nat) (za : Nat) (ca : Nat) (kp : Bool) (ta : Nat) (na : Nat) (a : Int32) (x : Int32) (d : Int32) (b0 : Int32) (b1 : Int32) (b2 : Int32) (g : Nat → Int32) (h : Nat → Int32) (z0 : Bool) (z1 : Bool) (c0 : Bool) (c1 : Bool) (op : Int32) (n : Int32) (sz : Nat) : MetV l y_MO_reckons w_MO_reckons { frames := 3, cells := 0, slots := 0, locals := 71 } D cI cZ [.ref o, .int op, .int n] [(o, .inr (5, [.int th, .ref im, .int (bI tr), .ref rc, .ref bg, .int ro, .ref oa, .ref xa, .ref ya, .ref rg, .ref me, .ref sa, .ref pa, .ref za, .ref ca, .int (bI kp), .ref ta, .ref na])), (rg, .inl (cI, 6, .inl (rg6 a x d b0 b1 b2))), (me, .inl (cI, 512, .inl (mm2 g h))), (za, .inl (cZ, 2, .inl (p2 (bI z0) (bI z1)))), (ca, .inl (cZ, 2, .inl (p2 (bI c0) (bI c1))))] sz (fun (u : Int32 × Bool × Bool) => match u with | (a1, zz, cy) => (a1, zz, cy) = mReck op n g a c0) (fun (u : Int32 × Bool × Bool) => match u with | (a1, zz, cy) => [(o, .inr (5, [.int th, .ref im, .int (bI tr), .ref rc, .ref bg, .int ro, .ref oa, .ref xa, .ref ya, .ref rg, .ref me, .ref sa, .ref pa, .ref za, .ref ca, .int (bI kp), .ref ta, .ref na])), (rg, .inl (cI, 6, .inl (rg6 a1 x d b0 b1 b2))), (me, .inl (cI, 512, .inl (mm2 g h))), (za, .inl (cZ, 2, .inl (p2 (bI zz) (bI z1)))), (ca, .inl (cZ, 2, .inl (p2 (bI cy) (bI c1))))]) 0 0 := by
  refine ofV (cc := c_MO_reckons) (maxL := 4) (ret := none) (by decide) rfl (Nat.le_of_ble_eq_true rfl) ?_
  intro p e s m args below meth c A H hH0 hx hb hr hlocks hts hown hnm hml ls hl hP hK hD hA hS hN
  have hown : s.vm.findClass R_MO = some m.cls := hown
  have hl : lv_has ls 4 [(0, .ref o), (1, .int op), (2, .int n)] := hl
  refine lv_aload_n hx hb d_MO_reckons_0 rfl (lv_at hl 0 rfl) ?_
  refine va_get (D := D) (ci := 5) (v := .ref rg) (C := R_MO) (T := T_MO) (N := 18) hx hb hts iw_MO hown hK hP 0 rfl rfl 9 (by decide) (hts _ k_704) (fun _ h9 => h9) rfl d_MO_reckons_1 ?_
  refine lv_iconst (v := 0) hx hb d_MO_reckons_4 (by decide) ?_
  refine va_iald hx hb hK hP 1 0 rfl rfl (vp_in_nI (n := 0) (by decide) (by decide)) d_MO_reckons_5 ?_
  refine lv_istore_n hx hb d_MO_reckons_6 rfl hl (by decide) rfl (fun ls hl => ?_)
  have hl : lv_has ls 4 [(3, .int a), (0, .ref o), (1, .int op), (2, .int n)] := hl
  refine lv_iload_n hx hb d_MO_reckons_7 rfl (lv_at hl 2 rfl) ?_
  rcases sw_cases op 12 10 with h8 | ⟨j8, hj8, h8⟩
  · refine lv_tableOut (tgt := 189) hx hb d_MO_reckons_8 h8 rfl ?_
    have n8_12 : ¬ op = 12 := fun h9 => by rw [h9] at h8; revert h8; decide
    have n8_13 : ¬ op = 13 := fun h9 => by rw [h9] at h8; revert h8; decide
    have n8_14 : ¬ op = 14 := fun h9 => by rw [h9] at h8; revert h8; decide
    have n8_15 : ¬ op = 15 := fun h9 => by rw [h9] at h8; revert h8; decide
    have n8_16 : ¬ op = 16 := fun h9 => by rw [h9] at h8; revert h8; decide
    have n8_17 : ¬ op = 17 := fun h9 => by rw [h9] at h8; revert h8; decide
    have n8_18 : ¬ op = 18 := fun h9 => by rw [h9] at h8; revert h8; decide
    have n8_19 : ¬ op = 19 := fun h9 => by rw [h9] at h8; revert h8; decide
    have n8_20 : ¬ op = 20 := fun h9 => by rw [h9] at h8; revert h8; decide
    have n8_21 : ¬ op = 21 := fun h9 => by rw [h9] at h8; revert h8; decide
    refine lv_aload_n hx hb d_MO_reckons_189 rfl (lv_at hl 1 rfl) ?_
    refine lv_iconst (v := 0) hx hb d_MO_reckons_190 (by decide) ?_
    refine lv_iconst (v := 0) hx hb d_MO_reckons_191 (by decide) ?_
    refine lv_iload_n hx hb d_MO_reckons_192 rfl (lv_at hl 3 rfl) ?_
    refine lv_iconst (v := 1) hx hb d_MO_reckons_193 (by decide) ?_
    have hPc := hP.sub (ws' := [(o, .inr (5, [.int th, .ref im, .int (bI tr), .ref rc, .ref bg, .int ro, .ref oa, .ref xa, .ref ya, .ref rg, .ref me, .ref sa, .ref pa, .ref za, .ref ca, .int (bI kp), .ref ta, .ref na])), (rg, .inl (cI, 6, .inl (rg6 a x d b0 b1 b2))), (za, .inl (cZ, 2, .inl (p2 (bI z0) (bI z1)))), (ca, .inl (cZ, 2, .inl (p2 (bI c0) (bI c1))))]) [0, 1, 3, 4] rfl
    have hDc := hD.sub (ws' := [(o, .inr (5, [.int th, .ref im, .int (bI tr), .ref rc, .ref bg, .int ro, .ref oa, .ref xa, .ref ya, .ref rg, .ref me, .ref sa, .ref pa, .ref za, .ref ca, .int (bI kp), .ref ta, .ref na])), (rg, .inl (cI, 6, .inl (rg6 a x d b0 b1 b2))), (za, .inl (cZ, 2, .inl (p2 (bI z0) (bI z1)))), (ca, .inl (cZ, 2, .inl (p2 (bI c0) (bI c1))))]) [0, 1, 3, 4] (by decide) rfl
    have hFc := va_free (wc := [(o, .inr (5, [.int th, .ref im, .int (bI tr), .ref rc, .ref bg, .int ro, .ref oa, .ref xa, .ref ya, .ref rg, .ref me, .ref sa, .ref pa, .ref za, .ref ca, .int (bI kp), .ref ta, .ref na])), (rg, .inl (cI, 6, .inl (rg6 a x d b0 b1 b2))), (za, .inl (cZ, 2, .inl (p2 (bI z0) (bI z1)))), (ca, .inl (cZ, 2, .inl (p2 (bI c0) (bI c1))))]) hD hS hA [0, 1, 3, 4] rfl
    refine va_callv (va_runV (As := [.int 0, .int 0, .int n, .int 1]) (rest := []) ⟨hx, hb, hml, hown, hts⟩ (q_subs00 l D cI cZ o th im tr rc bg ro oa xa ya rg me sa pa za ca kp ta na a x d b0 b1 b2 z0 z1 c0 c1 n true H.size) ⟨cB 4 hts k_861 k_62 k_858 hd_MO_subtracts ⟨Nat.le_of_ble_eq_true rfl, Nat.le_of_ble_eq_true rfl⟩ rfl rfl, hts _ k_860, hts _ k_46⟩ (PcW.preV (va_recv hK hP (q0 := 0) (ci := 5) rfl rfl) hPc hK hDc hN) rfl rfl hl.1 rfl (lv_room (Nat.le_of_ble_eq_true rfl)) d_MO_reckons_194 ⟨Nat.le_of_ble_eq_true rfl, Nat.le_of_ble_eq_true rfl⟩) hS (fun q _ h => hFc q h) hFc (fun u t H1 locs ht hvm e194 hB hz1 hk1 hS => ?_)
    obtain ⟨v1194, zz194, cy194⟩ := u
    obtain ⟨hP1, hK1, hD1⟩ := hB
    rw [ht] at hP1
    obtain ⟨hP, hD⟩ := va_join (wr := [(me, .inl (cI, 512, .inl (mm2 g h)))]) (w1 := [(o, .inr (5, [.int th, .ref im, .int (bI tr), .ref rc, .ref bg, .int ro, .ref oa, .ref xa, .ref ya, .ref rg, .ref me, .ref sa, .ref pa, .ref za, .ref ca, .int (bI kp), .ref ta, .ref na])), (rg, .inl (cI, 6, .inl (rg6 v1194 x d b0 b1 b2))), (za, .inl (cZ, 2, .inl (p2 (bI zz194) (bI z1)))), (ca, .inl (cZ, 2, .inl (p2 (bI cy194) (bI c1))))]) hP hD [0, 1, 3, 4] [2] rfl rfl (by decide) (by decide) hk1 hFc hP1 hD1
    generalize H1 = H at hP hS ⊢
    try dsimp only at e194
    obtain ⟨e194_0, e194_1, e194_2⟩ := e194
    replace e194_0 := e194_0.symm
    subst e194_0
    replace e194_1 := e194_1.symm
    subst e194_1
    replace e194_2 := e194_2.symm
    subst e194_2
    have hP : va_P D vwCl [(me, .inl (cI, 512, .inl (mm2 g h))), (o, .inr (5, [.int th, .ref im, .int (bI tr), .ref rc, .ref bg, .int ro, .ref oa, .ref xa, .ref ya, .ref rg, .ref me, .ref sa, .ref pa, .ref za, .ref ca, .int (bI kp), .ref ta, .ref na])), (rg, .inl (cI, 6, .inl (rg6 (if true = true then a &&& 255 else (a - n) &&& 255) x d b0 b1 b2))), (za, .inl (cZ, 2, .inl (p2 (bI (decide ((a - n) &&& 255 = 0))) (bI z1)))), (ca, .inl (cZ, 2, .inl (p2 (bI (decide (¬ n ≤ a))) (bI c1))))] H := hP
    have hD : va_D A [(me, .inl (cI, 512, .inl (mm2 g h))), (o, .inr (5, [.int th, .ref im, .int (bI tr), .ref rc, .ref bg, .int ro, .ref oa, .ref xa, .ref ya, .ref rg, .ref me, .ref sa, .ref pa, .ref za, .ref ca, .int (bI kp), .ref ta, .ref na])), (rg, .inl (cI, 6, .inl (rg6 (if true = true then a &&& 255 else (a - n) &&& 255) x d b0 b1 b2))), (za, .inl (cZ, 2, .inl (p2 (bI (decide ((a - n) &&& 255 = 0))) (bI z1)))), (ca, .inl (cZ, 2, .inl (p2 (bI (decide (¬ n ≤ a))) (bI c1))))] := hD
    have hP9 : va_P D vwCl [(o, .inr (5, [.int th, .ref im, .int (bI tr), .ref rc, .ref bg, .int ro, .ref oa, .ref xa, .ref ya, .ref rg, .ref me, .ref sa, .ref pa, .ref za, .ref ca, .int (bI kp), .ref ta, .ref na])), (rg, .inl (cI, 6, .inl (rg6 (if true = true then a &&& 255 else (a - n) &&& 255) x d b0 b1 b2))), (me, .inl (cI, 512, .inl (mm2 g h))), (za, .inl (cZ, 2, .inl (p2 (bI (decide ((a - n) &&& 255 = 0))) (bI z1)))), (ca, .inl (cZ, 2, .inl (p2 (bI (decide (¬ n ≤ a))) (bI c1))))] H := hP.sub [1, 2, 0, 3, 4] rfl
    have hD9 : va_D A [(o, .inr (5, [.int th, .ref im, .int (bI tr), .ref rc, .ref bg, .int ro, .ref oa, .ref xa, .ref ya, .ref rg, .ref me, .ref sa, .ref pa, .ref za, .ref ca, .int (bI kp), .ref ta, .ref na])), (rg, .inl (cI, 6, .inl (rg6 (if true = true then a &&& 255 else (a - n) &&& 255) x d b0 b1 b2))), (me, .inl (cI, 512, .inl (mm2 g h))), (za, .inl (cZ, 2, .inl (p2 (bI (decide ((a - n) &&& 255 = 0))) (bI z1)))), (ca, .inl (cZ, 2, .inl (p2 (bI (decide (¬ n ≤ a))) (bI c1))))] := hD.sub [1, 2, 0, 3, 4] (by decide) rfl
    exact W.vret hx hb hr (fun t ht hW => ⟨⟨(if true = true then a &&& 255 else (a - n) &&& 255, decide ((a - n) &&& 255 = 0), decide (¬ n ≤ a)), rfl, by rw [mReck, if_neg n8_12, if_neg n8_13, if_neg n8_14, if_neg n8_15, if_neg n8_16, if_neg n8_17, if_neg n8_18, if_neg n8_20, if_neg n8_21]; rfl, by rw [ht]; exact hP9, va_K.moved hW.alike hK, hD9⟩, hS.F ht⟩) hS.2.2 d_MO_reckons_197
  · match j8, hj8, h8 with
    | 0, _, h8 =>
      have h8 : op = 12 := h8
      refine lv_tableIn (off := 56) (tgt := 64) hx hb d_MO_reckons_8 (by rw [h8]; decide) (by rw [h8]; decide) (by rw [h8]; rfl) rfl ?_
      refine lv_aload_n hx hb d_MO_reckons_64 rfl (lv_at hl 1 rfl) ?_
      refine lv_iconst (v := 0) hx hb d_MO_reckons_65 (by decide) ?_
      refine lv_iconst (v := 0) hx hb d_MO_reckons_66 (by decide) ?_
      refine lv_iload_n hx hb d_MO_reckons_67 rfl (lv_at hl 3 rfl) ?_
      refine lv_iconst (v := 0) hx hb d_MO_reckons_68 (by decide) ?_
      have hPc := hP.sub (ws' := [(o, .inr (5, [.int th, .ref im, .int (bI tr), .ref rc, .ref bg, .int ro, .ref oa, .ref xa, .ref ya, .ref rg, .ref me, .ref sa, .ref pa, .ref za, .ref ca, .int (bI kp), .ref ta, .ref na])), (rg, .inl (cI, 6, .inl (rg6 a x d b0 b1 b2))), (za, .inl (cZ, 2, .inl (p2 (bI z0) (bI z1)))), (ca, .inl (cZ, 2, .inl (p2 (bI c0) (bI c1))))]) [0, 1, 3, 4] rfl
      have hDc := hD.sub (ws' := [(o, .inr (5, [.int th, .ref im, .int (bI tr), .ref rc, .ref bg, .int ro, .ref oa, .ref xa, .ref ya, .ref rg, .ref me, .ref sa, .ref pa, .ref za, .ref ca, .int (bI kp), .ref ta, .ref na])), (rg, .inl (cI, 6, .inl (rg6 a x d b0 b1 b2))), (za, .inl (cZ, 2, .inl (p2 (bI z0) (bI z1)))), (ca, .inl (cZ, 2, .inl (p2 (bI c0) (bI c1))))]) [0, 1, 3, 4] (by decide) rfl
      have hFc := va_free (wc := [(o, .inr (5, [.int th, .ref im, .int (bI tr), .ref rc, .ref bg, .int ro, .ref oa, .ref xa, .ref ya, .ref rg, .ref me, .ref sa, .ref pa, .ref za, .ref ca, .int (bI kp), .ref ta, .ref na])), (rg, .inl (cI, 6, .inl (rg6 a x d b0 b1 b2))), (za, .inl (cZ, 2, .inl (p2 (bI z0) (bI z1)))), (ca, .inl (cZ, 2, .inl (p2 (bI c0) (bI c1))))]) hD hS hA [0, 1, 3, 4] rfl
      refine va_callv (va_runV (As := [.int 0, .int 0, .int n, .int 0]) (rest := []) ⟨hx, hb, hml, hown, hts⟩ (q_adds00 l D cI cZ o th im tr rc bg ro oa xa ya rg me sa pa za ca kp ta na a x d b0 b1 b2 z0 z1 c0 c1 n 0 H.size) ⟨cB 4 hts k_857 k_62 k_854 hd_MO_adds ⟨Nat.le_of_ble_eq_true rfl, Nat.le_of_ble_eq_true rfl⟩ rfl rfl, hts _ k_856, hts _ k_45⟩ (PcW.preV (va_recv hK hP (q0 := 0) (ci := 5) rfl rfl) hPc hK hDc hN) rfl rfl hl.1 rfl (lv_room (Nat.le_of_ble_eq_true rfl)) d_MO_reckons_69 ⟨Nat.le_of_ble_eq_true rfl, Nat.le_of_ble_eq_true rfl⟩) hS (fun q _ h => hFc q h) hFc (fun u t H1 locs ht hvm e69 hB hz1 hk1 hS => ?_)
      obtain ⟨v169, zz69, cy69⟩ := u
      obtain ⟨hP1, hK1, hD1⟩ := hB
      rw [ht] at hP1
      obtain ⟨hP, hD⟩ := va_join (wr := [(me, .inl (cI, 512, .inl (mm2 g h)))]) (w1 := [(o, .inr (5, [.int th, .ref im, .int (bI tr), .ref rc, .ref bg, .int ro, .ref oa, .ref xa, .ref ya, .ref rg, .ref me, .ref sa, .ref pa, .ref za, .ref ca, .int (bI kp), .ref ta, .ref na])), (rg, .inl (cI, 6, .inl (rg6 v169 x d b0 b1 b2))), (za, .inl (cZ, 2, .inl (p2 (bI zz69) (bI z1)))), (ca, .inl (cZ, 2, .inl (p2 (bI cy69) (bI c1))))]) hP hD [0, 1, 3, 4] [2] rfl rfl (by decide) (by decide) hk1 hFc hP1 hD1
      generalize H1 = H at hP hS ⊢
      try dsimp only at e69
      obtain ⟨e69_0, e69_1, e69_2⟩ := e69
      replace e69_0 := e69_0.symm
      subst e69_0
      replace e69_1 := e69_1.symm
      subst e69_1
      replace e69_2 := e69_2.symm
      subst e69_2
      have hP : va_P D vwCl [(me, .inl (cI, 512, .inl (mm2 g h))), (o, .inr (5, [.int th, .ref im, .int (bI tr), .ref rc, .ref bg, .int ro, .ref oa, .ref xa, .ref ya, .ref rg, .ref me, .ref sa, .ref pa, .ref za, .ref ca, .int (bI kp), .ref ta, .ref na])), (rg, .inl (cI, 6, .inl (rg6 ((a + n + 0) &&& 255) x d b0 b1 b2))), (za, .inl (cZ, 2, .inl (p2 (bI (decide ((a + n + 0) &&& 255 = 0))) (bI z1)))), (ca, .inl (cZ, 2, .inl (p2 (bI (decide (¬ a + n + 0 ≤ 255))) (bI c1))))] H := hP
      have hD : va_D A [(me, .inl (cI, 512, .inl (mm2 g h))), (o, .inr (5, [.int th, .ref im, .int (bI tr), .ref rc, .ref bg, .int ro, .ref oa, .ref xa, .ref ya, .ref rg, .ref me, .ref sa, .ref pa, .ref za, .ref ca, .int (bI kp), .ref ta, .ref na])), (rg, .inl (cI, 6, .inl (rg6 ((a + n + 0) &&& 255) x d b0 b1 b2))), (za, .inl (cZ, 2, .inl (p2 (bI (decide ((a + n + 0) &&& 255 = 0))) (bI z1)))), (ca, .inl (cZ, 2, .inl (p2 (bI (decide (¬ a + n + 0 ≤ 255))) (bI c1))))] := hD
      refine lv_goto (tgt := 197) hx hb d_MO_reckons_72 rfl ?_
      have hP9 : va_P D vwCl [(o, .inr (5, [.int th, .ref im, .int (bI tr), .ref rc, .ref bg, .int ro, .ref oa, .ref xa, .ref ya, .ref rg, .ref me, .ref sa, .ref pa, .ref za, .ref ca, .int (bI kp), .ref ta, .ref na])), (rg, .inl (cI, 6, .inl (rg6 ((a + n + 0) &&& 255) x d b0 b1 b2))), (me, .inl (cI, 512, .inl (mm2 g h))), (za, .inl (cZ, 2, .inl (p2 (bI (decide ((a + n + 0) &&& 255 = 0))) (bI z1)))), (ca, .inl (cZ, 2, .inl (p2 (bI (decide (¬ a + n + 0 ≤ 255))) (bI c1))))] H := hP.sub [1, 2, 0, 3, 4] rfl
      have hD9 : va_D A [(o, .inr (5, [.int th, .ref im, .int (bI tr), .ref rc, .ref bg, .int ro, .ref oa, .ref xa, .ref ya, .ref rg, .ref me, .ref sa, .ref pa, .ref za, .ref ca, .int (bI kp), .ref ta, .ref na])), (rg, .inl (cI, 6, .inl (rg6 ((a + n + 0) &&& 255) x d b0 b1 b2))), (me, .inl (cI, 512, .inl (mm2 g h))), (za, .inl (cZ, 2, .inl (p2 (bI (decide ((a + n + 0) &&& 255 = 0))) (bI z1)))), (ca, .inl (cZ, 2, .inl (p2 (bI (decide (¬ a + n + 0 ≤ 255))) (bI c1))))] := hD.sub [1, 2, 0, 3, 4] (by decide) rfl
      exact W.vret hx hb hr (fun t ht hW => ⟨⟨((a + n + 0) &&& 255, decide ((a + n + 0) &&& 255 = 0), decide (¬ a + n + 0 ≤ 255)), rfl, by rw [h8]; rfl, by rw [ht]; exact hP9, va_K.moved hW.alike hK, hD9⟩, hS.F ht⟩) hS.2.2 d_MO_reckons_197
    | 1, _, h8 =>
      have h8 : op = 13 := h8
      refine lv_tableIn (off := 67) (tgt := 75) hx hb d_MO_reckons_8 (by rw [h8]; decide) (by rw [h8]; decide) (by rw [h8]; rfl) rfl ?_
      refine lv_aload_n hx hb d_MO_reckons_75 rfl (lv_at hl 1 rfl) ?_
      refine lv_iconst (v := 0) hx hb d_MO_reckons_76 (by decide) ?_
      refine lv_iconst (v := 0) hx hb d_MO_reckons_77 (by decide) ?_
      refine lv_aload_n hx hb d_MO_reckons_78 rfl (lv_at hl 1 rfl) ?_
      refine lv_iconst (v := 0) hx hb d_MO_reckons_79 (by decide) ?_
      refine lv_iload_n hx hb d_MO_reckons_80 rfl (lv_at hl 3 rfl) ?_
      have hPc := hP.sub (ws' := [(o, .inr (5, [.int th, .ref im, .int (bI tr), .ref rc, .ref bg, .int ro, .ref oa, .ref xa, .ref ya, .ref rg, .ref me, .ref sa, .ref pa, .ref za, .ref ca, .int (bI kp), .ref ta, .ref na])), (me, .inl (cI, 512, .inl (mm2 g h)))]) [0, 2] rfl
      refine vp_callSi (va_runV (As := [.int 0, .int n]) (rest := [.int 0, .int 0, .ref o]) ⟨hx, hb, hml, hown, hts⟩ (q_get0 l D cI cZ o th im tr rc bg ro oa xa ya rg me sa pa za ca kp ta na g h n) ⟨cB 2 hts k_825 k_62 k_822 hd_MO_get ⟨Nat.le_of_ble_eq_true rfl, Nat.le_of_ble_eq_true rfl⟩ rfl rfl, hts _ k_824, hts _ k_37⟩ (PcR.preV (va_recv hK hP (q0 := 0) (ci := 5) rfl rfl) hPc hK hN) rfl rfl hl.1 rfl (lv_room (Nat.le_of_ble_eq_true rfl)) d_MO_reckons_81 ⟨Nat.le_of_ble_eq_true rfl, Nat.le_of_ble_eq_true rfl⟩).run (fun r81 e81 => ?_)
      replace e81 := e81.symm
      subst e81
      refine lv_iconst (v := 0) hx hb d_MO_reckons_84 (by decide) ?_
      have hPc := hP.sub (ws' := [(o, .inr (5, [.int th, .ref im, .int (bI tr), .ref rc, .ref bg, .int ro, .ref oa, .ref xa, .ref ya, .ref rg, .ref me, .ref sa, .ref pa, .ref za, .ref ca, .int (bI kp), .ref ta, .ref na])), (rg, .inl (cI, 6, .inl (rg6 a x d b0 b1 b2))), (za, .inl (cZ, 2, .inl (p2 (bI z0) (bI z1)))), (ca, .inl (cZ, 2, .inl (p2 (bI c0) (bI c1))))]) [0, 1, 3, 4] rfl
      have hDc := hD.sub (ws' := [(o, .inr (5, [.int th, .ref im, .int (bI tr), .ref rc, .ref bg, .int ro, .ref oa, .ref xa, .ref ya, .ref rg, .ref me, .ref sa, .ref pa, .ref za, .ref ca, .int (bI kp), .ref ta, .ref na])), (rg, .inl (cI, 6, .inl (rg6 a x d b0 b1 b2))), (za, .inl (cZ, 2, .inl (p2 (bI z0) (bI z1)))), (ca, .inl (cZ, 2, .inl (p2 (bI c0) (bI c1))))]) [0, 1, 3, 4] (by decide) rfl
      have hFc := va_free (wc := [(o, .inr (5, [.int th, .ref im, .int (bI tr), .ref rc, .ref bg, .int ro, .ref oa, .ref xa, .ref ya, .ref rg, .ref me, .ref sa, .ref pa, .ref za, .ref ca, .int (bI kp), .ref ta, .ref na])), (rg, .inl (cI, 6, .inl (rg6 a x d b0 b1 b2))), (za, .inl (cZ, 2, .inl (p2 (bI z0) (bI z1)))), (ca, .inl (cZ, 2, .inl (p2 (bI c0) (bI c1))))]) hD hS hA [0, 1, 3, 4] rfl
      refine va_callv (va_runV (As := [.int 0, .int 0, .int (rd g n), .int 0]) (rest := []) ⟨hx, hb, hml, hown, hts⟩ (q_adds00 l D cI cZ o th im tr rc bg ro oa xa ya rg me sa pa za ca kp ta na a x d b0 b1 b2 z0 z1 c0 c1 (rd g n) 0 H.size) ⟨cB 4 hts k_857 k_62 k_854 hd_MO_adds ⟨Nat.le_of_ble_eq_true rfl, Nat.le_of_ble_eq_true rfl⟩ rfl rfl, hts _ k_856, hts _ k_45⟩ (PcW.preV (va_recv hK hP (q0 := 0) (ci := 5) rfl rfl) hPc hK hDc hN) rfl rfl hl.1 rfl (lv_room (Nat.le_of_ble_eq_true rfl)) d_MO_reckons_85 ⟨Nat.le_of_ble_eq_true rfl, Nat.le_of_ble_eq_true rfl⟩) hS (fun q _ h => hFc q h) hFc (fun u t H1 locs ht hvm e85 hB hz1 hk1 hS => ?_)
      obtain ⟨v185, zz85, cy85⟩ := u
      obtain ⟨hP1, hK1, hD1⟩ := hB
      rw [ht] at hP1
      obtain ⟨hP, hD⟩ := va_join (wr := [(me, .inl (cI, 512, .inl (mm2 g h)))]) (w1 := [(o, .inr (5, [.int th, .ref im, .int (bI tr), .ref rc, .ref bg, .int ro, .ref oa, .ref xa, .ref ya, .ref rg, .ref me, .ref sa, .ref pa, .ref za, .ref ca, .int (bI kp), .ref ta, .ref na])), (rg, .inl (cI, 6, .inl (rg6 v185 x d b0 b1 b2))), (za, .inl (cZ, 2, .inl (p2 (bI zz85) (bI z1)))), (ca, .inl (cZ, 2, .inl (p2 (bI cy85) (bI c1))))]) hP hD [0, 1, 3, 4] [2] rfl rfl (by decide) (by decide) hk1 hFc hP1 hD1
      generalize H1 = H at hP hS ⊢
      try dsimp only at e85
      obtain ⟨e85_0, e85_1, e85_2⟩ := e85
      replace e85_0 := e85_0.symm
      subst e85_0
      replace e85_1 := e85_1.symm
      subst e85_1
      replace e85_2 := e85_2.symm
      subst e85_2
      have hP : va_P D vwCl [(me, .inl (cI, 512, .inl (mm2 g h))), (o, .inr (5, [.int th, .ref im, .int (bI tr), .ref rc, .ref bg, .int ro, .ref oa, .ref xa, .ref ya, .ref rg, .ref me, .ref sa, .ref pa, .ref za, .ref ca, .int (bI kp), .ref ta, .ref na])), (rg, .inl (cI, 6, .inl (rg6 ((a + (rd g n) + 0) &&& 255) x d b0 b1 b2))), (za, .inl (cZ, 2, .inl (p2 (bI (decide ((a + (rd g n) + 0) &&& 255 = 0))) (bI z1)))), (ca, .inl (cZ, 2, .inl (p2 (bI (decide (¬ a + (rd g n) + 0 ≤ 255))) (bI c1))))] H := hP
      have hD : va_D A [(me, .inl (cI, 512, .inl (mm2 g h))), (o, .inr (5, [.int th, .ref im, .int (bI tr), .ref rc, .ref bg, .int ro, .ref oa, .ref xa, .ref ya, .ref rg, .ref me, .ref sa, .ref pa, .ref za, .ref ca, .int (bI kp), .ref ta, .ref na])), (rg, .inl (cI, 6, .inl (rg6 ((a + (rd g n) + 0) &&& 255) x d b0 b1 b2))), (za, .inl (cZ, 2, .inl (p2 (bI (decide ((a + (rd g n) + 0) &&& 255 = 0))) (bI z1)))), (ca, .inl (cZ, 2, .inl (p2 (bI (decide (¬ a + (rd g n) + 0 ≤ 255))) (bI c1))))] := hD
      refine lv_goto (tgt := 197) hx hb d_MO_reckons_88 rfl ?_
      have hP9 : va_P D vwCl [(o, .inr (5, [.int th, .ref im, .int (bI tr), .ref rc, .ref bg, .int ro, .ref oa, .ref xa, .ref ya, .ref rg, .ref me, .ref sa, .ref pa, .ref za, .ref ca, .int (bI kp), .ref ta, .ref na])), (rg, .inl (cI, 6, .inl (rg6 ((a + (rd g n) + 0) &&& 255) x d b0 b1 b2))), (me, .inl (cI, 512, .inl (mm2 g h))), (za, .inl (cZ, 2, .inl (p2 (bI (decide ((a + (rd g n) + 0) &&& 255 = 0))) (bI z1)))), (ca, .inl (cZ, 2, .inl (p2 (bI (decide (¬ a + (rd g n) + 0 ≤ 255))) (bI c1))))] H := hP.sub [1, 2, 0, 3, 4] rfl
      have hD9 : va_D A [(o, .inr (5, [.int th, .ref im, .int (bI tr), .ref rc, .ref bg, .int ro, .ref oa, .ref xa, .ref ya, .ref rg, .ref me, .ref sa, .ref pa, .ref za, .ref ca, .int (bI kp), .ref ta, .ref na])), (rg, .inl (cI, 6, .inl (rg6 ((a + (rd g n) + 0) &&& 255) x d b0 b1 b2))), (me, .inl (cI, 512, .inl (mm2 g h))), (za, .inl (cZ, 2, .inl (p2 (bI (decide ((a + (rd g n) + 0) &&& 255 = 0))) (bI z1)))), (ca, .inl (cZ, 2, .inl (p2 (bI (decide (¬ a + (rd g n) + 0 ≤ 255))) (bI c1))))] := hD.sub [1, 2, 0, 3, 4] (by decide) rfl
      exact W.vret hx hb hr (fun t ht hW => ⟨⟨((a + (rd g n) + 0) &&& 255, decide ((a + (rd g n) + 0) &&& 255 = 0), decide (¬ a + (rd g n) + 0 ≤ 255)), rfl, by rw [h8]; rfl, by rw [ht]; exact hP9, va_K.moved hW.alike hK, hD9⟩, hS.F ht⟩) hS.2.2 d_MO_reckons_197
    | 2, _, h8 =>
      have h8 : op = 14 := h8
      refine lv_tableIn (off := 83) (tgt := 91) hx hb d_MO_reckons_8 (by rw [h8]; decide) (by rw [h8]; decide) (by rw [h8]; rfl) rfl ?_
      refine lv_aload_n hx hb d_MO_reckons_91 rfl (lv_at hl 1 rfl) ?_
      refine lv_iconst (v := 0) hx hb d_MO_reckons_92 (by decide) ?_
      refine lv_iconst (v := 0) hx hb d_MO_reckons_93 (by decide) ?_
      refine lv_aload_n hx hb d_MO_reckons_94 rfl (lv_at hl 1 rfl) ?_
      refine lv_iconst (v := 0) hx hb d_MO_reckons_95 (by decide) ?_
      refine lv_iload_n hx hb d_MO_reckons_96 rfl (lv_at hl 3 rfl) ?_
      have hPc := hP.sub (ws' := [(o, .inr (5, [.int th, .ref im, .int (bI tr), .ref rc, .ref bg, .int ro, .ref oa, .ref xa, .ref ya, .ref rg, .ref me, .ref sa, .ref pa, .ref za, .ref ca, .int (bI kp), .ref ta, .ref na])), (me, .inl (cI, 512, .inl (mm2 g h)))]) [0, 2] rfl
      refine vp_callSi (va_runV (As := [.int 0, .int n]) (rest := [.int 0, .int 0, .ref o]) ⟨hx, hb, hml, hown, hts⟩ (q_get0 l D cI cZ o th im tr rc bg ro oa xa ya rg me sa pa za ca kp ta na g h n) ⟨cB 2 hts k_825 k_62 k_822 hd_MO_get ⟨Nat.le_of_ble_eq_true rfl, Nat.le_of_ble_eq_true rfl⟩ rfl rfl, hts _ k_824, hts _ k_37⟩ (PcR.preV (va_recv hK hP (q0 := 0) (ci := 5) rfl rfl) hPc hK hN) rfl rfl hl.1 rfl (lv_room (Nat.le_of_ble_eq_true rfl)) d_MO_reckons_97 ⟨Nat.le_of_ble_eq_true rfl, Nat.le_of_ble_eq_true rfl⟩).run (fun r97 e97 => ?_)
      replace e97 := e97.symm
      subst e97
      refine lv_aload_n hx hb d_MO_reckons_100 rfl (lv_at hl 1 rfl) ?_
      refine va_get (D := D) (ci := 5) (v := .ref ca) (C := R_MO) (T := T_MO) (N := 18) hx hb hts iw_MO hown hK hP 0 rfl rfl 14 (by decide) (hts _ k_709) (fun _ h9 => h9) rfl d_MO_reckons_101 ?_
      refine lv_iconst (v := 0) hx hb d_MO_reckons_104 (by decide) ?_
      refine va_zald hx hb hK hP 4 1 rfl rfl (vp_in_nI (n := 0) (by decide) (by decide)) d_MO_reckons_105 ?_
      refine lv_if_eq (tgt := 113) hx hb d_MO_reckons_106 rfl (fun h106 => ?_) (fun h106 => ?_)
      · have h106 : c0 = false := bI_f h106
        refine lv_iconst (v := 0) hx hb d_MO_reckons_113 (by decide) ?_
        have hPc := hP.sub (ws' := [(o, .inr (5, [.int th, .ref im, .int (bI tr), .ref rc, .ref bg, .int ro, .ref oa, .ref xa, .ref ya, .ref rg, .ref me, .ref sa, .ref pa, .ref za, .ref ca, .int (bI kp), .ref ta, .ref na])), (rg, .inl (cI, 6, .inl (rg6 a x d b0 b1 b2))), (za, .inl (cZ, 2, .inl (p2 (bI z0) (bI z1)))), (ca, .inl (cZ, 2, .inl (p2 (bI c0) (bI c1))))]) [0, 1, 3, 4] rfl
        have hDc := hD.sub (ws' := [(o, .inr (5, [.int th, .ref im, .int (bI tr), .ref rc, .ref bg, .int ro, .ref oa, .ref xa, .ref ya, .ref rg, .ref me, .ref sa, .ref pa, .ref za, .ref ca, .int (bI kp), .ref ta, .ref na])), (rg, .inl (cI, 6, .inl (rg6 a x d b0 b1 b2))), (za, .inl (cZ, 2, .inl (p2 (bI z0) (bI z1)))), (ca, .inl (cZ, 2, .inl (p2 (bI c0) (bI c1))))]) [0, 1, 3, 4] (by decide) rfl
        have hFc := va_free (wc := [(o, .inr (5, [.int th, .ref im, .int (bI tr), .ref rc, .ref bg, .int ro, .ref oa, .ref xa, .ref ya, .ref rg, .ref me, .ref sa, .ref pa, .ref za, .ref ca, .int (bI kp), .ref ta, .ref na])), (rg, .inl (cI, 6, .inl (rg6 a x d b0 b1 b2))), (za, .inl (cZ, 2, .inl (p2 (bI z0) (bI z1)))), (ca, .inl (cZ, 2, .inl (p2 (bI c0) (bI c1))))]) hD hS hA [0, 1, 3, 4] rfl
        refine va_callv (va_runV (As := [.int 0, .int 0, .int (rd g n), .int 0]) (rest := []) ⟨hx, hb, hml, hown, hts⟩ (q_adds00 l D cI cZ o th im tr rc bg ro oa xa ya rg me sa pa za ca kp ta na a x d b0 b1 b2 z0 z1 c0 c1 (rd g n) 0 H.size) ⟨cB 4 hts k_857 k_62 k_854 hd_MO_adds ⟨Nat.le_of_ble_eq_true rfl, Nat.le_of_ble_eq_true rfl⟩ rfl rfl, hts _ k_856, hts _ k_45⟩ (PcW.preV (va_recv hK hP (q0 := 0) (ci := 5) rfl rfl) hPc hK hDc hN) rfl rfl hl.1 rfl (lv_room (Nat.le_of_ble_eq_true rfl)) d_MO_reckons_114 ⟨Nat.le_of_ble_eq_true rfl, Nat.le_of_ble_eq_true rfl⟩) hS (fun q _ h => hFc q h) hFc (fun u t H1 locs ht hvm e114 hB hz1 hk1 hS => ?_)
        obtain ⟨v1114, zz114, cy114⟩ := u
        obtain ⟨hP1, hK1, hD1⟩ := hB
        rw [ht] at hP1
        obtain ⟨hP, hD⟩ := va_join (wr := [(me, .inl (cI, 512, .inl (mm2 g h)))]) (w1 := [(o, .inr (5, [.int th, .ref im, .int (bI tr), .ref rc, .ref bg, .int ro, .ref oa, .ref xa, .ref ya, .ref rg, .ref me, .ref sa, .ref pa, .ref za, .ref ca, .int (bI kp), .ref ta, .ref na])), (rg, .inl (cI, 6, .inl (rg6 v1114 x d b0 b1 b2))), (za, .inl (cZ, 2, .inl (p2 (bI zz114) (bI z1)))), (ca, .inl (cZ, 2, .inl (p2 (bI cy114) (bI c1))))]) hP hD [0, 1, 3, 4] [2] rfl rfl (by decide) (by decide) hk1 hFc hP1 hD1
        generalize H1 = H at hP hS ⊢
        try dsimp only at e114
        obtain ⟨e114_0, e114_1, e114_2⟩ := e114
        replace e114_0 := e114_0.symm
        subst e114_0
        replace e114_1 := e114_1.symm
        subst e114_1
        replace e114_2 := e114_2.symm
        subst e114_2
        have hP : va_P D vwCl [(me, .inl (cI, 512, .inl (mm2 g h))), (o, .inr (5, [.int th, .ref im, .int (bI tr), .ref rc, .ref bg, .int ro, .ref oa, .ref xa, .ref ya, .ref rg, .ref me, .ref sa, .ref pa, .ref za, .ref ca, .int (bI kp), .ref ta, .ref na])), (rg, .inl (cI, 6, .inl (rg6 ((a + (rd g n) + 0) &&& 255) x d b0 b1 b2))), (za, .inl (cZ, 2, .inl (p2 (bI (decide ((a + (rd g n) + 0) &&& 255 = 0))) (bI z1)))), (ca, .inl (cZ, 2, .inl (p2 (bI (decide (¬ a + (rd g n) + 0 ≤ 255))) (bI c1))))] H := hP
        have hD : va_D A [(me, .inl (cI, 512, .inl (mm2 g h))), (o, .inr (5, [.int th, .ref im, .int (bI tr), .ref rc, .ref bg, .int ro, .ref oa, .ref xa, .ref ya, .ref rg, .ref me, .ref sa, .ref pa, .ref za, .ref ca, .int (bI kp), .ref ta, .ref na])), (rg, .inl (cI, 6, .inl (rg6 ((a + (rd g n) + 0) &&& 255) x d b0 b1 b2))), (za, .inl (cZ, 2, .inl (p2 (bI (decide ((a + (rd g n) + 0) &&& 255 = 0))) (bI z1)))), (ca, .inl (cZ, 2, .inl (p2 (bI (decide (¬ a + (rd g n) + 0 ≤ 255))) (bI c1))))] := hD
        refine lv_goto (tgt := 197) hx hb d_MO_reckons_117 rfl ?_
        have hP9 : va_P D vwCl [(o, .inr (5, [.int th, .ref im, .int (bI tr), .ref rc, .ref bg, .int ro, .ref oa, .ref xa, .ref ya, .ref rg, .ref me, .ref sa, .ref pa, .ref za, .ref ca, .int (bI kp), .ref ta, .ref na])), (rg, .inl (cI, 6, .inl (rg6 ((a + (rd g n) + 0) &&& 255) x d b0 b1 b2))), (me, .inl (cI, 512, .inl (mm2 g h))), (za, .inl (cZ, 2, .inl (p2 (bI (decide ((a + (rd g n) + 0) &&& 255 = 0))) (bI z1)))), (ca, .inl (cZ, 2, .inl (p2 (bI (decide (¬ a + (rd g n) + 0 ≤ 255))) (bI c1))))] H := hP.sub [1, 2, 0, 3, 4] rfl
        have hD9 : va_D A [(o, .inr (5, [.int th, .ref im, .int (bI tr), .ref rc, .ref bg, .int ro, .ref oa, .ref xa, .ref ya, .ref rg, .ref me, .ref sa, .ref pa, .ref za, .ref ca, .int (bI kp), .ref ta, .ref na])), (rg, .inl (cI, 6, .inl (rg6 ((a + (rd g n) + 0) &&& 255) x d b0 b1 b2))), (me, .inl (cI, 512, .inl (mm2 g h))), (za, .inl (cZ, 2, .inl (p2 (bI (decide ((a + (rd g n) + 0) &&& 255 = 0))) (bI z1)))), (ca, .inl (cZ, 2, .inl (p2 (bI (decide (¬ a + (rd g n) + 0 ≤ 255))) (bI c1))))] := hD.sub [1, 2, 0, 3, 4] (by decide) rfl
        exact W.vret hx hb hr (fun t ht hW => ⟨⟨((a + (rd g n) + 0) &&& 255, decide ((a + (rd g n) + 0) &&& 255 = 0), decide (¬ a + (rd g n) + 0 ≤ 255)), rfl, by rw [h8]; rw [mReck, if_neg (by decide), if_neg (by decide), if_pos rfl, h106]; rfl, by rw [ht]; exact hP9, va_K.moved hW.alike hK, hD9⟩, hS.F ht⟩) hS.2.2 d_MO_reckons_197
      · have h106 : c0 = true := bI_t h106
        refine lv_iconst (v := 1) hx hb d_MO_reckons_109 (by decide) ?_
        refine lv_goto (tgt := 114) hx hb d_MO_reckons_110 rfl ?_
        have hPc := hP.sub (ws' := [(o, .inr (5, [.int th, .ref im, .int (bI tr), .ref rc, .ref bg, .int ro, .ref oa, .ref xa, .ref ya, .ref rg, .ref me, .ref sa, .ref pa, .ref za, .ref ca, .int (bI kp), .ref ta, .ref na])), (rg, .inl (cI, 6, .inl (rg6 a x d b0 b1 b2))), (za, .inl (cZ, 2, .inl (p2 (bI z0) (bI z1)))), (ca, .inl (cZ, 2, .inl (p2 (bI c0) (bI c1))))]) [0, 1, 3, 4] rfl
        have hDc := hD.sub (ws' := [(o, .inr (5, [.int th, .ref im, .int (bI tr), .ref rc, .ref bg, .int ro, .ref oa, .ref xa, .ref ya, .ref rg, .ref me, .ref sa, .ref pa, .ref za, .ref ca, .int (bI kp), .ref ta, .ref na])), (rg, .inl (cI, 6, .inl (rg6 a x d b0 b1 b2))), (za, .inl (cZ, 2, .inl (p2 (bI z0) (bI z1)))), (ca, .inl (cZ, 2, .inl (p2 (bI c0) (bI c1))))]) [0, 1, 3, 4] (by decide) rfl
        have hFc := va_free (wc := [(o, .inr (5, [.int th, .ref im, .int (bI tr), .ref rc, .ref bg, .int ro, .ref oa, .ref xa, .ref ya, .ref rg, .ref me, .ref sa, .ref pa, .ref za, .ref ca, .int (bI kp), .ref ta, .ref na])), (rg, .inl (cI, 6, .inl (rg6 a x d b0 b1 b2))), (za, .inl (cZ, 2, .inl (p2 (bI z0) (bI z1)))), (ca, .inl (cZ, 2, .inl (p2 (bI c0) (bI c1))))]) hD hS hA [0, 1, 3, 4] rfl
        refine va_callv (va_runV (As := [.int 0, .int 0, .int (rd g n), .int 1]) (rest := []) ⟨hx, hb, hml, hown, hts⟩ (q_adds00 l D cI cZ o th im tr rc bg ro oa xa ya rg me sa pa za ca kp ta na a x d b0 b1 b2 z0 z1 c0 c1 (rd g n) 1 H.size) ⟨cB 4 hts k_857 k_62 k_854 hd_MO_adds ⟨Nat.le_of_ble_eq_true rfl, Nat.le_of_ble_eq_true rfl⟩ rfl rfl, hts _ k_856, hts _ k_45⟩ (PcW.preV (va_recv hK hP (q0 := 0) (ci := 5) rfl rfl) hPc hK hDc hN) rfl rfl hl.1 rfl (lv_room (Nat.le_of_ble_eq_true rfl)) d_MO_reckons_114 ⟨Nat.le_of_ble_eq_true rfl, Nat.le_of_ble_eq_true rfl⟩) hS (fun q _ h => hFc q h) hFc (fun u t H1 locs ht hvm e114 hB hz1 hk1 hS => ?_)
        obtain ⟨v1114, zz114, cy114⟩ := u
        obtain ⟨hP1, hK1, hD1⟩ := hB
        rw [ht] at hP1
        obtain ⟨hP, hD⟩ := va_join (wr := [(me, .inl (cI, 512, .inl (mm2 g h)))]) (w1 := [(o, .inr (5, [.int th, .ref im, .int (bI tr), .ref rc, .ref bg, .int ro, .ref oa, .ref xa, .ref ya, .ref rg, .ref me, .ref sa, .ref pa, .ref za, .ref ca, .int (bI kp), .ref ta, .ref na])), (rg, .inl (cI, 6, .inl (rg6 v1114 x d b0 b1 b2))), (za, .inl (cZ, 2, .inl (p2 (bI zz114) (bI z1)))), (ca, .inl (cZ, 2, .inl (p2 (bI cy114) (bI c1))))]) hP hD [0, 1, 3, 4] [2] rfl rfl (by decide) (by decide) hk1 hFc hP1 hD1
        generalize H1 = H at hP hS ⊢
        try dsimp only at e114
        obtain ⟨e114_0, e114_1, e114_2⟩ := e114
        replace e114_0 := e114_0.symm
        subst e114_0
        replace e114_1 := e114_1.symm
        subst e114_1
        replace e114_2 := e114_2.symm
        subst e114_2
        have hP : va_P D vwCl [(me, .inl (cI, 512, .inl (mm2 g h))), (o, .inr (5, [.int th, .ref im, .int (bI tr), .ref rc, .ref bg, .int ro, .ref oa, .ref xa, .ref ya, .ref rg, .ref me, .ref sa, .ref pa, .ref za, .ref ca, .int (bI kp), .ref ta, .ref na])), (rg, .inl (cI, 6, .inl (rg6 ((a + (rd g n) + 1) &&& 255) x d b0 b1 b2))), (za, .inl (cZ, 2, .inl (p2 (bI (decide ((a + (rd g n) + 1) &&& 255 = 0))) (bI z1)))), (ca, .inl (cZ, 2, .inl (p2 (bI (decide (¬ a + (rd g n) + 1 ≤ 255))) (bI c1))))] H := hP
        have hD : va_D A [(me, .inl (cI, 512, .inl (mm2 g h))), (o, .inr (5, [.int th, .ref im, .int (bI tr), .ref rc, .ref bg, .int ro, .ref oa, .ref xa, .ref ya, .ref rg, .ref me, .ref sa, .ref pa, .ref za, .ref ca, .int (bI kp), .ref ta, .ref na])), (rg, .inl (cI, 6, .inl (rg6 ((a + (rd g n) + 1) &&& 255) x d b0 b1 b2))), (za, .inl (cZ, 2, .inl (p2 (bI (decide ((a + (rd g n) + 1) &&& 255 = 0))) (bI z1)))), (ca, .inl (cZ, 2, .inl (p2 (bI (decide (¬ a + (rd g n) + 1 ≤ 255))) (bI c1))))] := hD
        refine lv_goto (tgt := 197) hx hb d_MO_reckons_117 rfl ?_
        have hP9 : va_P D vwCl [(o, .inr (5, [.int th, .ref im, .int (bI tr), .ref rc, .ref bg, .int ro, .ref oa, .ref xa, .ref ya, .ref rg, .ref me, .ref sa, .ref pa, .ref za, .ref ca, .int (bI kp), .ref ta, .ref na])), (rg, .inl (cI, 6, .inl (rg6 ((a + (rd g n) + 1) &&& 255) x d b0 b1 b2))), (me, .inl (cI, 512, .inl (mm2 g h))), (za, .inl (cZ, 2, .inl (p2 (bI (decide ((a + (rd g n) + 1) &&& 255 = 0))) (bI z1)))), (ca, .inl (cZ, 2, .inl (p2 (bI (decide (¬ a + (rd g n) + 1 ≤ 255))) (bI c1))))] H := hP.sub [1, 2, 0, 3, 4] rfl
        have hD9 : va_D A [(o, .inr (5, [.int th, .ref im, .int (bI tr), .ref rc, .ref bg, .int ro, .ref oa, .ref xa, .ref ya, .ref rg, .ref me, .ref sa, .ref pa, .ref za, .ref ca, .int (bI kp), .ref ta, .ref na])), (rg, .inl (cI, 6, .inl (rg6 ((a + (rd g n) + 1) &&& 255) x d b0 b1 b2))), (me, .inl (cI, 512, .inl (mm2 g h))), (za, .inl (cZ, 2, .inl (p2 (bI (decide ((a + (rd g n) + 1) &&& 255 = 0))) (bI z1)))), (ca, .inl (cZ, 2, .inl (p2 (bI (decide (¬ a + (rd g n) + 1 ≤ 255))) (bI c1))))] := hD.sub [1, 2, 0, 3, 4] (by decide) rfl
        exact W.vret hx hb hr (fun t ht hW => ⟨⟨((a + (rd g n) + 1) &&& 255, decide ((a + (rd g n) + 1) &&& 255 = 0), decide (¬ a + (rd g n) + 1 ≤ 255)), rfl, by rw [h8]; rw [mReck, if_neg (by decide), if_neg (by decide), if_pos rfl, h106]; rfl, by rw [ht]; exact hP9, va_K.moved hW.alike hK, hD9⟩, hS.F ht⟩) hS.2.2 d_MO_reckons_197
    | 3, _, h8 =>
      have h8 : op = 15 := h8
      refine lv_tableIn (off := 112) (tgt := 120) hx hb d_MO_reckons_8 (by rw [h8]; decide) (by rw [h8]; decide) (by rw [h8]; rfl) rfl ?_
      refine lv_aload_n hx hb d_MO_reckons_120 rfl (lv_at hl 1 rfl) ?_
      refine lv_iconst (v := 0) hx hb d_MO_reckons_121 (by decide) ?_
      refine lv_iconst (v := 0) hx hb d_MO_reckons_122 (by decide) ?_
      refine lv_iload_n hx hb d_MO_reckons_123 rfl (lv_at hl 3 rfl) ?_
      refine lv_iconst (v := 0) hx hb d_MO_reckons_124 (by decide) ?_
      have hPc := hP.sub (ws' := [(o, .inr (5, [.int th, .ref im, .int (bI tr), .ref rc, .ref bg, .int ro, .ref oa, .ref xa, .ref ya, .ref rg, .ref me, .ref sa, .ref pa, .ref za, .ref ca, .int (bI kp), .ref ta, .ref na])), (rg, .inl (cI, 6, .inl (rg6 a x d b0 b1 b2))), (za, .inl (cZ, 2, .inl (p2 (bI z0) (bI z1)))), (ca, .inl (cZ, 2, .inl (p2 (bI c0) (bI c1))))]) [0, 1, 3, 4] rfl
      have hDc := hD.sub (ws' := [(o, .inr (5, [.int th, .ref im, .int (bI tr), .ref rc, .ref bg, .int ro, .ref oa, .ref xa, .ref ya, .ref rg, .ref me, .ref sa, .ref pa, .ref za, .ref ca, .int (bI kp), .ref ta, .ref na])), (rg, .inl (cI, 6, .inl (rg6 a x d b0 b1 b2))), (za, .inl (cZ, 2, .inl (p2 (bI z0) (bI z1)))), (ca, .inl (cZ, 2, .inl (p2 (bI c0) (bI c1))))]) [0, 1, 3, 4] (by decide) rfl
      have hFc := va_free (wc := [(o, .inr (5, [.int th, .ref im, .int (bI tr), .ref rc, .ref bg, .int ro, .ref oa, .ref xa, .ref ya, .ref rg, .ref me, .ref sa, .ref pa, .ref za, .ref ca, .int (bI kp), .ref ta, .ref na])), (rg, .inl (cI, 6, .inl (rg6 a x d b0 b1 b2))), (za, .inl (cZ, 2, .inl (p2 (bI z0) (bI z1)))), (ca, .inl (cZ, 2, .inl (p2 (bI c0) (bI c1))))]) hD hS hA [0, 1, 3, 4] rfl
      refine va_callv (va_runV (As := [.int 0, .int 0, .int n, .int 0]) (rest := []) ⟨hx, hb, hml, hown, hts⟩ (q_subs00 l D cI cZ o th im tr rc bg ro oa xa ya rg me sa pa za ca kp ta na a x d b0 b1 b2 z0 z1 c0 c1 n false H.size) ⟨cB 4 hts k_861 k_62 k_858 hd_MO_subtracts ⟨Nat.le_of_ble_eq_true rfl, Nat.le_of_ble_eq_true rfl⟩ rfl rfl, hts _ k_860, hts _ k_46⟩ (PcW.preV (va_recv hK hP (q0 := 0) (ci := 5) rfl rfl) hPc hK hDc hN) rfl rfl hl.1 rfl (lv_room (Nat.le_of_ble_eq_true rfl)) d_MO_reckons_125 ⟨Nat.le_of_ble_eq_true rfl, Nat.le_of_ble_eq_true rfl⟩) hS (fun q _ h => hFc q h) hFc (fun u t H1 locs ht hvm e125 hB hz1 hk1 hS => ?_)
      obtain ⟨v1125, zz125, cy125⟩ := u
      obtain ⟨hP1, hK1, hD1⟩ := hB
      rw [ht] at hP1
      obtain ⟨hP, hD⟩ := va_join (wr := [(me, .inl (cI, 512, .inl (mm2 g h)))]) (w1 := [(o, .inr (5, [.int th, .ref im, .int (bI tr), .ref rc, .ref bg, .int ro, .ref oa, .ref xa, .ref ya, .ref rg, .ref me, .ref sa, .ref pa, .ref za, .ref ca, .int (bI kp), .ref ta, .ref na])), (rg, .inl (cI, 6, .inl (rg6 v1125 x d b0 b1 b2))), (za, .inl (cZ, 2, .inl (p2 (bI zz125) (bI z1)))), (ca, .inl (cZ, 2, .inl (p2 (bI cy125) (bI c1))))]) hP hD [0, 1, 3, 4] [2] rfl rfl (by decide) (by decide) hk1 hFc hP1 hD1
      generalize H1 = H at hP hS ⊢
      try dsimp only at e125
      obtain ⟨e125_0, e125_1, e125_2⟩ := e125
      replace e125_0 := e125_0.symm
      subst e125_0
      replace e125_1 := e125_1.symm
      subst e125_1
      replace e125_2 := e125_2.symm
      subst e125_2
      have hP : va_P D vwCl [(me, .inl (cI, 512, .inl (mm2 g h))), (o, .inr (5, [.int th, .ref im, .int (bI tr), .ref rc, .ref bg, .int ro, .ref oa, .ref xa, .ref ya, .ref rg, .ref me, .ref sa, .ref pa, .ref za, .ref ca, .int (bI kp), .ref ta, .ref na])), (rg, .inl (cI, 6, .inl (rg6 (if false = true then a &&& 255 else (a - n) &&& 255) x d b0 b1 b2))), (za, .inl (cZ, 2, .inl (p2 (bI (decide ((a - n) &&& 255 = 0))) (bI z1)))), (ca, .inl (cZ, 2, .inl (p2 (bI (decide (¬ n ≤ a))) (bI c1))))] H := hP
      have hD : va_D A [(me, .inl (cI, 512, .inl (mm2 g h))), (o, .inr (5, [.int th, .ref im, .int (bI tr), .ref rc, .ref bg, .int ro, .ref oa, .ref xa, .ref ya, .ref rg, .ref me, .ref sa, .ref pa, .ref za, .ref ca, .int (bI kp), .ref ta, .ref na])), (rg, .inl (cI, 6, .inl (rg6 (if false = true then a &&& 255 else (a - n) &&& 255) x d b0 b1 b2))), (za, .inl (cZ, 2, .inl (p2 (bI (decide ((a - n) &&& 255 = 0))) (bI z1)))), (ca, .inl (cZ, 2, .inl (p2 (bI (decide (¬ n ≤ a))) (bI c1))))] := hD
      refine lv_goto (tgt := 197) hx hb d_MO_reckons_128 rfl ?_
      have hP9 : va_P D vwCl [(o, .inr (5, [.int th, .ref im, .int (bI tr), .ref rc, .ref bg, .int ro, .ref oa, .ref xa, .ref ya, .ref rg, .ref me, .ref sa, .ref pa, .ref za, .ref ca, .int (bI kp), .ref ta, .ref na])), (rg, .inl (cI, 6, .inl (rg6 (if false = true then a &&& 255 else (a - n) &&& 255) x d b0 b1 b2))), (me, .inl (cI, 512, .inl (mm2 g h))), (za, .inl (cZ, 2, .inl (p2 (bI (decide ((a - n) &&& 255 = 0))) (bI z1)))), (ca, .inl (cZ, 2, .inl (p2 (bI (decide (¬ n ≤ a))) (bI c1))))] H := hP.sub [1, 2, 0, 3, 4] rfl
      have hD9 : va_D A [(o, .inr (5, [.int th, .ref im, .int (bI tr), .ref rc, .ref bg, .int ro, .ref oa, .ref xa, .ref ya, .ref rg, .ref me, .ref sa, .ref pa, .ref za, .ref ca, .int (bI kp), .ref ta, .ref na])), (rg, .inl (cI, 6, .inl (rg6 (if false = true then a &&& 255 else (a - n) &&& 255) x d b0 b1 b2))), (me, .inl (cI, 512, .inl (mm2 g h))), (za, .inl (cZ, 2, .inl (p2 (bI (decide ((a - n) &&& 255 = 0))) (bI z1)))), (ca, .inl (cZ, 2, .inl (p2 (bI (decide (¬ n ≤ a))) (bI c1))))] := hD.sub [1, 2, 0, 3, 4] (by decide) rfl
      exact W.vret hx hb hr (fun t ht hW => ⟨⟨(if false = true then a &&& 255 else (a - n) &&& 255, decide ((a - n) &&& 255 = 0), decide (¬ n ≤ a)), rfl, by rw [h8]; rfl, by rw [ht]; exact hP9, va_K.moved hW.alike hK, hD9⟩, hS.F ht⟩) hS.2.2 d_MO_reckons_197
    | 4, _, h8 =>
      have h8 : op = 16 := h8
      refine lv_tableIn (off := 123) (tgt := 131) hx hb d_MO_reckons_8 (by rw [h8]; decide) (by rw [h8]; decide) (by rw [h8]; rfl) rfl ?_
      refine lv_aload_n hx hb d_MO_reckons_131 rfl (lv_at hl 1 rfl) ?_
      refine lv_iconst (v := 0) hx hb d_MO_reckons_132 (by decide) ?_
      refine lv_iconst (v := 0) hx hb d_MO_reckons_133 (by decide) ?_
      refine lv_aload_n hx hb d_MO_reckons_134 rfl (lv_at hl 1 rfl) ?_
      refine lv_iconst (v := 0) hx hb d_MO_reckons_135 (by decide) ?_
      refine lv_iload_n hx hb d_MO_reckons_136 rfl (lv_at hl 3 rfl) ?_
      have hPc := hP.sub (ws' := [(o, .inr (5, [.int th, .ref im, .int (bI tr), .ref rc, .ref bg, .int ro, .ref oa, .ref xa, .ref ya, .ref rg, .ref me, .ref sa, .ref pa, .ref za, .ref ca, .int (bI kp), .ref ta, .ref na])), (me, .inl (cI, 512, .inl (mm2 g h)))]) [0, 2] rfl
      refine vp_callSi (va_runV (As := [.int 0, .int n]) (rest := [.int 0, .int 0, .ref o]) ⟨hx, hb, hml, hown, hts⟩ (q_get0 l D cI cZ o th im tr rc bg ro oa xa ya rg me sa pa za ca kp ta na g h n) ⟨cB 2 hts k_825 k_62 k_822 hd_MO_get ⟨Nat.le_of_ble_eq_true rfl, Nat.le_of_ble_eq_true rfl⟩ rfl rfl, hts _ k_824, hts _ k_37⟩ (PcR.preV (va_recv hK hP (q0 := 0) (ci := 5) rfl rfl) hPc hK hN) rfl rfl hl.1 rfl (lv_room (Nat.le_of_ble_eq_true rfl)) d_MO_reckons_137 ⟨Nat.le_of_ble_eq_true rfl, Nat.le_of_ble_eq_true rfl⟩).run (fun r137 e137 => ?_)
      replace e137 := e137.symm
      subst e137
      refine lv_iconst (v := 0) hx hb d_MO_reckons_140 (by decide) ?_
      have hPc := hP.sub (ws' := [(o, .inr (5, [.int th, .ref im, .int (bI tr), .ref rc, .ref bg, .int ro, .ref oa, .ref xa, .ref ya, .ref rg, .ref me, .ref sa, .ref pa, .ref za, .ref ca, .int (bI kp), .ref ta, .ref na])), (rg, .inl (cI, 6, .inl (rg6 a x d b0 b1 b2))), (za, .inl (cZ, 2, .inl (p2 (bI z0) (bI z1)))), (ca, .inl (cZ, 2, .inl (p2 (bI c0) (bI c1))))]) [0, 1, 3, 4] rfl
      have hDc := hD.sub (ws' := [(o, .inr (5, [.int th, .ref im, .int (bI tr), .ref rc, .ref bg, .int ro, .ref oa, .ref xa, .ref ya, .ref rg, .ref me, .ref sa, .ref pa, .ref za, .ref ca, .int (bI kp), .ref ta, .ref na])), (rg, .inl (cI, 6, .inl (rg6 a x d b0 b1 b2))), (za, .inl (cZ, 2, .inl (p2 (bI z0) (bI z1)))), (ca, .inl (cZ, 2, .inl (p2 (bI c0) (bI c1))))]) [0, 1, 3, 4] (by decide) rfl
      have hFc := va_free (wc := [(o, .inr (5, [.int th, .ref im, .int (bI tr), .ref rc, .ref bg, .int ro, .ref oa, .ref xa, .ref ya, .ref rg, .ref me, .ref sa, .ref pa, .ref za, .ref ca, .int (bI kp), .ref ta, .ref na])), (rg, .inl (cI, 6, .inl (rg6 a x d b0 b1 b2))), (za, .inl (cZ, 2, .inl (p2 (bI z0) (bI z1)))), (ca, .inl (cZ, 2, .inl (p2 (bI c0) (bI c1))))]) hD hS hA [0, 1, 3, 4] rfl
      refine va_callv (va_runV (As := [.int 0, .int 0, .int (rd g n), .int 0]) (rest := []) ⟨hx, hb, hml, hown, hts⟩ (q_subs00 l D cI cZ o th im tr rc bg ro oa xa ya rg me sa pa za ca kp ta na a x d b0 b1 b2 z0 z1 c0 c1 (rd g n) false H.size) ⟨cB 4 hts k_861 k_62 k_858 hd_MO_subtracts ⟨Nat.le_of_ble_eq_true rfl, Nat.le_of_ble_eq_true rfl⟩ rfl rfl, hts _ k_860, hts _ k_46⟩ (PcW.preV (va_recv hK hP (q0 := 0) (ci := 5) rfl rfl) hPc hK hDc hN) rfl rfl hl.1 rfl (lv_room (Nat.le_of_ble_eq_true rfl)) d_MO_reckons_141 ⟨Nat.le_of_ble_eq_true rfl, Nat.le_of_ble_eq_true rfl⟩) hS (fun q _ h => hFc q h) hFc (fun u t H1 locs ht hvm e141 hB hz1 hk1 hS => ?_)
      obtain ⟨v1141, zz141, cy141⟩ := u
      obtain ⟨hP1, hK1, hD1⟩ := hB
      rw [ht] at hP1
      obtain ⟨hP, hD⟩ := va_join (wr := [(me, .inl (cI, 512, .inl (mm2 g h)))]) (w1 := [(o, .inr (5, [.int th, .ref im, .int (bI tr), .ref rc, .ref bg, .int ro, .ref oa, .ref xa, .ref ya, .ref rg, .ref me, .ref sa, .ref pa, .ref za, .ref ca, .int (bI kp), .ref ta, .ref na])), (rg, .inl (cI, 6, .inl (rg6 v1141 x d b0 b1 b2))), (za, .inl (cZ, 2, .inl (p2 (bI zz141) (bI z1)))), (ca, .inl (cZ, 2, .inl (p2 (bI cy141) (bI c1))))]) hP hD [0, 1, 3, 4] [2] rfl rfl (by decide) (by decide) hk1 hFc hP1 hD1
      generalize H1 = H at hP hS ⊢
      try dsimp only at e141
      obtain ⟨e141_0, e141_1, e141_2⟩ := e141
      replace e141_0 := e141_0.symm
      subst e141_0
      replace e141_1 := e141_1.symm
      subst e141_1
      replace e141_2 := e141_2.symm
      subst e141_2
      have hP : va_P D vwCl [(me, .inl (cI, 512, .inl (mm2 g h))), (o, .inr (5, [.int th, .ref im, .int (bI tr), .ref rc, .ref bg, .int ro, .ref oa, .ref xa, .ref ya, .ref rg, .ref me, .ref sa, .ref pa, .ref za, .ref ca, .int (bI kp), .ref ta, .ref na])), (rg, .inl (cI, 6, .inl (rg6 (if false = true then a &&& 255 else (a - (rd g n)) &&& 255) x d b0 b1 b2))), (za, .inl (cZ, 2, .inl (p2 (bI (decide ((a - (rd g n)) &&& 255 = 0))) (bI z1)))), (ca, .inl (cZ, 2, .inl (p2 (bI (decide (¬ (rd g n) ≤ a))) (bI c1))))] H := hP
      have hD : va_D A [(me, .inl (cI, 512, .inl (mm2 g h))), (o, .inr (5, [.int th, .ref im, .int (bI tr), .ref rc, .ref bg, .int ro, .ref oa, .ref xa, .ref ya, .ref rg, .ref me, .ref sa, .ref pa, .ref za, .ref ca, .int (bI kp), .ref ta, .ref na])), (rg, .inl (cI, 6, .inl (rg6 (if false = true then a &&& 255 else (a - (rd g n)) &&& 255) x d b0 b1 b2))), (za, .inl (cZ, 2, .inl (p2 (bI (decide ((a - (rd g n)) &&& 255 = 0))) (bI z1)))), (ca, .inl (cZ, 2, .inl (p2 (bI (decide (¬ (rd g n) ≤ a))) (bI c1))))] := hD
      refine lv_goto (tgt := 197) hx hb d_MO_reckons_144 rfl ?_
      have hP9 : va_P D vwCl [(o, .inr (5, [.int th, .ref im, .int (bI tr), .ref rc, .ref bg, .int ro, .ref oa, .ref xa, .ref ya, .ref rg, .ref me, .ref sa, .ref pa, .ref za, .ref ca, .int (bI kp), .ref ta, .ref na])), (rg, .inl (cI, 6, .inl (rg6 (if false = true then a &&& 255 else (a - (rd g n)) &&& 255) x d b0 b1 b2))), (me, .inl (cI, 512, .inl (mm2 g h))), (za, .inl (cZ, 2, .inl (p2 (bI (decide ((a - (rd g n)) &&& 255 = 0))) (bI z1)))), (ca, .inl (cZ, 2, .inl (p2 (bI (decide (¬ (rd g n) ≤ a))) (bI c1))))] H := hP.sub [1, 2, 0, 3, 4] rfl
      have hD9 : va_D A [(o, .inr (5, [.int th, .ref im, .int (bI tr), .ref rc, .ref bg, .int ro, .ref oa, .ref xa, .ref ya, .ref rg, .ref me, .ref sa, .ref pa, .ref za, .ref ca, .int (bI kp), .ref ta, .ref na])), (rg, .inl (cI, 6, .inl (rg6 (if false = true then a &&& 255 else (a - (rd g n)) &&& 255) x d b0 b1 b2))), (me, .inl (cI, 512, .inl (mm2 g h))), (za, .inl (cZ, 2, .inl (p2 (bI (decide ((a - (rd g n)) &&& 255 = 0))) (bI z1)))), (ca, .inl (cZ, 2, .inl (p2 (bI (decide (¬ (rd g n) ≤ a))) (bI c1))))] := hD.sub [1, 2, 0, 3, 4] (by decide) rfl
      exact W.vret hx hb hr (fun t ht hW => ⟨⟨(if false = true then a &&& 255 else (a - (rd g n)) &&& 255, decide ((a - (rd g n)) &&& 255 = 0), decide (¬ (rd g n) ≤ a)), rfl, by rw [h8]; rfl, by rw [ht]; exact hP9, va_K.moved hW.alike hK, hD9⟩, hS.F ht⟩) hS.2.2 d_MO_reckons_197
    | 5, _, h8 =>
      have h8 : op = 17 := h8
      refine lv_tableIn (off := 139) (tgt := 147) hx hb d_MO_reckons_8 (by rw [h8]; decide) (by rw [h8]; decide) (by rw [h8]; rfl) rfl ?_
      refine lv_aload_n hx hb d_MO_reckons_147 rfl (lv_at hl 1 rfl) ?_
      refine lv_iconst (v := 0) hx hb d_MO_reckons_148 (by decide) ?_
      refine lv_iconst (v := 0) hx hb d_MO_reckons_149 (by decide) ?_
      refine lv_iload_n hx hb d_MO_reckons_150 rfl (lv_at hl 0 rfl) ?_
      refine lv_iload_n hx hb d_MO_reckons_151 rfl (lv_at hl 3 rfl) ?_
      refine lv_iand hx hb d_MO_reckons_152 ?_
      have hPc := hP.sub (ws' := [(o, .inr (5, [.int th, .ref im, .int (bI tr), .ref rc, .ref bg, .int ro, .ref oa, .ref xa, .ref ya, .ref rg, .ref me, .ref sa, .ref pa, .ref za, .ref ca, .int (bI kp), .ref ta, .ref na])), (rg, .inl (cI, 6, .inl (rg6 a x d b0 b1 b2))), (za, .inl (cZ, 2, .inl (p2 (bI z0) (bI z1)))), (ca, .inl (cZ, 2, .inl (p2 (bI c0) (bI c1))))]) [0, 1, 3, 4] rfl
      have hDc := hD.sub (ws' := [(o, .inr (5, [.int th, .ref im, .int (bI tr), .ref rc, .ref bg, .int ro, .ref oa, .ref xa, .ref ya, .ref rg, .ref me, .ref sa, .ref pa, .ref za, .ref ca, .int (bI kp), .ref ta, .ref na])), (rg, .inl (cI, 6, .inl (rg6 a x d b0 b1 b2))), (za, .inl (cZ, 2, .inl (p2 (bI z0) (bI z1)))), (ca, .inl (cZ, 2, .inl (p2 (bI c0) (bI c1))))]) [0, 1, 3, 4] (by decide) rfl
      have hFc := va_free (wc := [(o, .inr (5, [.int th, .ref im, .int (bI tr), .ref rc, .ref bg, .int ro, .ref oa, .ref xa, .ref ya, .ref rg, .ref me, .ref sa, .ref pa, .ref za, .ref ca, .int (bI kp), .ref ta, .ref na])), (rg, .inl (cI, 6, .inl (rg6 a x d b0 b1 b2))), (za, .inl (cZ, 2, .inl (p2 (bI z0) (bI z1)))), (ca, .inl (cZ, 2, .inl (p2 (bI c0) (bI c1))))]) hD hS hA [0, 1, 3, 4] rfl
      refine va_callv (va_runV (As := [.int 0, .int 0, .int (a &&& n)]) (rest := []) ⟨hx, hb, hml, hown, hts⟩ (q_plain00 l D cI cZ o th im tr rc bg ro oa xa ya rg me sa pa za ca kp ta na a x d b0 b1 b2 z0 z1 c0 c1 (a &&& n) H.size) ⟨cB 3 hts k_865 k_62 k_862 hd_MO_plain ⟨Nat.le_of_ble_eq_true rfl, Nat.le_of_ble_eq_true rfl⟩ rfl rfl, hts _ k_864, hts _ k_47⟩ (PcW.preV (va_recv hK hP (q0 := 0) (ci := 5) rfl rfl) hPc hK hDc hN) rfl rfl hl.1 rfl (lv_room (Nat.le_of_ble_eq_true rfl)) d_MO_reckons_153 ⟨Nat.le_of_ble_eq_true rfl, Nat.le_of_ble_eq_true rfl⟩) hS (fun q _ h => hFc q h) hFc (fun u t H1 locs ht hvm e153 hB hz1 hk1 hS => ?_)
      obtain ⟨v1153, zz153, cy153⟩ := u
      obtain ⟨hP1, hK1, hD1⟩ := hB
      rw [ht] at hP1
      obtain ⟨hP, hD⟩ := va_join (wr := [(me, .inl (cI, 512, .inl (mm2 g h)))]) (w1 := [(o, .inr (5, [.int th, .ref im, .int (bI tr), .ref rc, .ref bg, .int ro, .ref oa, .ref xa, .ref ya, .ref rg, .ref me, .ref sa, .ref pa, .ref za, .ref ca, .int (bI kp), .ref ta, .ref na])), (rg, .inl (cI, 6, .inl (rg6 v1153 x d b0 b1 b2))), (za, .inl (cZ, 2, .inl (p2 (bI zz153) (bI z1)))), (ca, .inl (cZ, 2, .inl (p2 (bI cy153) (bI c1))))]) hP hD [0, 1, 3, 4] [2] rfl rfl (by decide) (by decide) hk1 hFc hP1 hD1
      generalize H1 = H at hP hS ⊢
      try dsimp only at e153
      obtain ⟨e153_0, e153_1, e153_2⟩ := e153
      replace e153_0 := e153_0.symm
      subst e153_0
      replace e153_1 := e153_1.symm
      subst e153_1
      replace e153_2 := e153_2.symm
      subst e153_2
      have hP : va_P D vwCl [(me, .inl (cI, 512, .inl (mm2 g h))), (o, .inr (5, [.int th, .ref im, .int (bI tr), .ref rc, .ref bg, .int ro, .ref oa, .ref xa, .ref ya, .ref rg, .ref me, .ref sa, .ref pa, .ref za, .ref ca, .int (bI kp), .ref ta, .ref na])), (rg, .inl (cI, 6, .inl (rg6 ((a &&& n) &&& 255) x d b0 b1 b2))), (za, .inl (cZ, 2, .inl (p2 (bI (decide ((a &&& n) &&& 255 = 0))) (bI z1)))), (ca, .inl (cZ, 2, .inl (p2 (bI false) (bI c1))))] H := hP
      have hD : va_D A [(me, .inl (cI, 512, .inl (mm2 g h))), (o, .inr (5, [.int th, .ref im, .int (bI tr), .ref rc, .ref bg, .int ro, .ref oa, .ref xa, .ref ya, .ref rg, .ref me, .ref sa, .ref pa, .ref za, .ref ca, .int (bI kp), .ref ta, .ref na])), (rg, .inl (cI, 6, .inl (rg6 ((a &&& n) &&& 255) x d b0 b1 b2))), (za, .inl (cZ, 2, .inl (p2 (bI (decide ((a &&& n) &&& 255 = 0))) (bI z1)))), (ca, .inl (cZ, 2, .inl (p2 (bI false) (bI c1))))] := hD
      refine lv_goto (tgt := 197) hx hb d_MO_reckons_156 rfl ?_
      have hP9 : va_P D vwCl [(o, .inr (5, [.int th, .ref im, .int (bI tr), .ref rc, .ref bg, .int ro, .ref oa, .ref xa, .ref ya, .ref rg, .ref me, .ref sa, .ref pa, .ref za, .ref ca, .int (bI kp), .ref ta, .ref na])), (rg, .inl (cI, 6, .inl (rg6 ((a &&& n) &&& 255) x d b0 b1 b2))), (me, .inl (cI, 512, .inl (mm2 g h))), (za, .inl (cZ, 2, .inl (p2 (bI (decide ((a &&& n) &&& 255 = 0))) (bI z1)))), (ca, .inl (cZ, 2, .inl (p2 (bI false) (bI c1))))] H := hP.sub [1, 2, 0, 3, 4] rfl
      have hD9 : va_D A [(o, .inr (5, [.int th, .ref im, .int (bI tr), .ref rc, .ref bg, .int ro, .ref oa, .ref xa, .ref ya, .ref rg, .ref me, .ref sa, .ref pa, .ref za, .ref ca, .int (bI kp), .ref ta, .ref na])), (rg, .inl (cI, 6, .inl (rg6 ((a &&& n) &&& 255) x d b0 b1 b2))), (me, .inl (cI, 512, .inl (mm2 g h))), (za, .inl (cZ, 2, .inl (p2 (bI (decide ((a &&& n) &&& 255 = 0))) (bI z1)))), (ca, .inl (cZ, 2, .inl (p2 (bI false) (bI c1))))] := hD.sub [1, 2, 0, 3, 4] (by decide) rfl
      exact W.vret hx hb hr (fun t ht hW => ⟨⟨((a &&& n) &&& 255, decide ((a &&& n) &&& 255 = 0), false), rfl, by rw [h8]; rfl, by rw [ht]; exact hP9, va_K.moved hW.alike hK, hD9⟩, hS.F ht⟩) hS.2.2 d_MO_reckons_197
    | 6, _, h8 =>
      have h8 : op = 18 := h8
      refine lv_tableIn (off := 151) (tgt := 159) hx hb d_MO_reckons_8 (by rw [h8]; decide) (by rw [h8]; decide) (by rw [h8]; rfl) rfl ?_
      refine lv_aload_n hx hb d_MO_reckons_159 rfl (lv_at hl 1 rfl) ?_
      refine lv_iconst (v := 0) hx hb d_MO_reckons_160 (by decide) ?_
      refine lv_iconst (v := 0) hx hb d_MO_reckons_161 (by decide) ?_
      refine lv_iload_n hx hb d_MO_reckons_162 rfl (lv_at hl 0 rfl) ?_
      refine lv_iload_n hx hb d_MO_reckons_163 rfl (lv_at hl 3 rfl) ?_
      refine lv_ixor hx hb d_MO_reckons_164 ?_
      have hPc := hP.sub (ws' := [(o, .inr (5, [.int th, .ref im, .int (bI tr), .ref rc, .ref bg, .int ro, .ref oa, .ref xa, .ref ya, .ref rg, .ref me, .ref sa, .ref pa, .ref za, .ref ca, .int (bI kp), .ref ta, .ref na])), (rg, .inl (cI, 6, .inl (rg6 a x d b0 b1 b2))), (za, .inl (cZ, 2, .inl (p2 (bI z0) (bI z1)))), (ca, .inl (cZ, 2, .inl (p2 (bI c0) (bI c1))))]) [0, 1, 3, 4] rfl
      have hDc := hD.sub (ws' := [(o, .inr (5, [.int th, .ref im, .int (bI tr), .ref rc, .ref bg, .int ro, .ref oa, .ref xa, .ref ya, .ref rg, .ref me, .ref sa, .ref pa, .ref za, .ref ca, .int (bI kp), .ref ta, .ref na])), (rg, .inl (cI, 6, .inl (rg6 a x d b0 b1 b2))), (za, .inl (cZ, 2, .inl (p2 (bI z0) (bI z1)))), (ca, .inl (cZ, 2, .inl (p2 (bI c0) (bI c1))))]) [0, 1, 3, 4] (by decide) rfl
      have hFc := va_free (wc := [(o, .inr (5, [.int th, .ref im, .int (bI tr), .ref rc, .ref bg, .int ro, .ref oa, .ref xa, .ref ya, .ref rg, .ref me, .ref sa, .ref pa, .ref za, .ref ca, .int (bI kp), .ref ta, .ref na])), (rg, .inl (cI, 6, .inl (rg6 a x d b0 b1 b2))), (za, .inl (cZ, 2, .inl (p2 (bI z0) (bI z1)))), (ca, .inl (cZ, 2, .inl (p2 (bI c0) (bI c1))))]) hD hS hA [0, 1, 3, 4] rfl
      refine va_callv (va_runV (As := [.int 0, .int 0, .int (a ^^^ n)]) (rest := []) ⟨hx, hb, hml, hown, hts⟩ (q_plain00 l D cI cZ o th im tr rc bg ro oa xa ya rg me sa pa za ca kp ta na a x d b0 b1 b2 z0 z1 c0 c1 (a ^^^ n) H.size) ⟨cB 3 hts k_865 k_62 k_862 hd_MO_plain ⟨Nat.le_of_ble_eq_true rfl, Nat.le_of_ble_eq_true rfl⟩ rfl rfl, hts _ k_864, hts _ k_47⟩ (PcW.preV (va_recv hK hP (q0 := 0) (ci := 5) rfl rfl) hPc hK hDc hN) rfl rfl hl.1 rfl (lv_room (Nat.le_of_ble_eq_true rfl)) d_MO_reckons_165 ⟨Nat.le_of_ble_eq_true rfl, Nat.le_of_ble_eq_true rfl⟩) hS (fun q _ h => hFc q h) hFc (fun u t H1 locs ht hvm e165 hB hz1 hk1 hS => ?_)
      obtain ⟨v1165, zz165, cy165⟩ := u
      obtain ⟨hP1, hK1, hD1⟩ := hB
      rw [ht] at hP1
      obtain ⟨hP, hD⟩ := va_join (wr := [(me, .inl (cI, 512, .inl (mm2 g h)))]) (w1 := [(o, .inr (5, [.int th, .ref im, .int (bI tr), .ref rc, .ref bg, .int ro, .ref oa, .ref xa, .ref ya, .ref rg, .ref me, .ref sa, .ref pa, .ref za, .ref ca, .int (bI kp), .ref ta, .ref na])), (rg, .inl (cI, 6, .inl (rg6 v1165 x d b0 b1 b2))), (za, .inl (cZ, 2, .inl (p2 (bI zz165) (bI z1)))), (ca, .inl (cZ, 2, .inl (p2 (bI cy165) (bI c1))))]) hP hD [0, 1, 3, 4] [2] rfl rfl (by decide) (by decide) hk1 hFc hP1 hD1
      generalize H1 = H at hP hS ⊢
      try dsimp only at e165
      obtain ⟨e165_0, e165_1, e165_2⟩ := e165
      replace e165_0 := e165_0.symm
      subst e165_0
      replace e165_1 := e165_1.symm
      subst e165_1
      replace e165_2 := e165_2.symm
      subst e165_2
      have hP : va_P D vwCl [(me, .inl (cI, 512, .inl (mm2 g h))), (o, .inr (5, [.int th, .ref im, .int (bI tr), .ref rc, .ref bg, .int ro, .ref oa, .ref xa, .ref ya, .ref rg, .ref me, .ref sa, .ref pa, .ref za, .ref ca, .int (bI kp), .ref ta, .ref na])), (rg, .inl (cI, 6, .inl (rg6 ((a ^^^ n) &&& 255) x d b0 b1 b2))), (za, .inl (cZ, 2, .inl (p2 (bI (decide ((a ^^^ n) &&& 255 = 0))) (bI z1)))), (ca, .inl (cZ, 2, .inl (p2 (bI false) (bI c1))))] H := hP
      have hD : va_D A [(me, .inl (cI, 512, .inl (mm2 g h))), (o, .inr (5, [.int th, .ref im, .int (bI tr), .ref rc, .ref bg, .int ro, .ref oa, .ref xa, .ref ya, .ref rg, .ref me, .ref sa, .ref pa, .ref za, .ref ca, .int (bI kp), .ref ta, .ref na])), (rg, .inl (cI, 6, .inl (rg6 ((a ^^^ n) &&& 255) x d b0 b1 b2))), (za, .inl (cZ, 2, .inl (p2 (bI (decide ((a ^^^ n) &&& 255 = 0))) (bI z1)))), (ca, .inl (cZ, 2, .inl (p2 (bI false) (bI c1))))] := hD
      refine lv_goto (tgt := 197) hx hb d_MO_reckons_168 rfl ?_
      have hP9 : va_P D vwCl [(o, .inr (5, [.int th, .ref im, .int (bI tr), .ref rc, .ref bg, .int ro, .ref oa, .ref xa, .ref ya, .ref rg, .ref me, .ref sa, .ref pa, .ref za, .ref ca, .int (bI kp), .ref ta, .ref na])), (rg, .inl (cI, 6, .inl (rg6 ((a ^^^ n) &&& 255) x d b0 b1 b2))), (me, .inl (cI, 512, .inl (mm2 g h))), (za, .inl (cZ, 2, .inl (p2 (bI (decide ((a ^^^ n) &&& 255 = 0))) (bI z1)))), (ca, .inl (cZ, 2, .inl (p2 (bI false) (bI c1))))] H := hP.sub [1, 2, 0, 3, 4] rfl
      have hD9 : va_D A [(o, .inr (5, [.int th, .ref im, .int (bI tr), .ref rc, .ref bg, .int ro, .ref oa, .ref xa, .ref ya, .ref rg, .ref me, .ref sa, .ref pa, .ref za, .ref ca, .int (bI kp), .ref ta, .ref na])), (rg, .inl (cI, 6, .inl (rg6 ((a ^^^ n) &&& 255) x d b0 b1 b2))), (me, .inl (cI, 512, .inl (mm2 g h))), (za, .inl (cZ, 2, .inl (p2 (bI (decide ((a ^^^ n) &&& 255 = 0))) (bI z1)))), (ca, .inl (cZ, 2, .inl (p2 (bI false) (bI c1))))] := hD.sub [1, 2, 0, 3, 4] (by decide) rfl
      exact W.vret hx hb hr (fun t ht hW => ⟨⟨((a ^^^ n) &&& 255, decide ((a ^^^ n) &&& 255 = 0), false), rfl, by rw [h8]; rfl, by rw [ht]; exact hP9, va_K.moved hW.alike hK, hD9⟩, hS.F ht⟩) hS.2.2 d_MO_reckons_197
    | 7, _, h8 =>
      have h8 : op = 19 := h8
      refine lv_tableIn (off := 181) (tgt := 189) hx hb d_MO_reckons_8 (by rw [h8]; decide) (by rw [h8]; decide) (by rw [h8]; rfl) rfl ?_
      refine lv_aload_n hx hb d_MO_reckons_189 rfl (lv_at hl 1 rfl) ?_
      refine lv_iconst (v := 0) hx hb d_MO_reckons_190 (by decide) ?_
      refine lv_iconst (v := 0) hx hb d_MO_reckons_191 (by decide) ?_
      refine lv_iload_n hx hb d_MO_reckons_192 rfl (lv_at hl 3 rfl) ?_
      refine lv_iconst (v := 1) hx hb d_MO_reckons_193 (by decide) ?_
      have hPc := hP.sub (ws' := [(o, .inr (5, [.int th, .ref im, .int (bI tr), .ref rc, .ref bg, .int ro, .ref oa, .ref xa, .ref ya, .ref rg, .ref me, .ref sa, .ref pa, .ref za, .ref ca, .int (bI kp), .ref ta, .ref na])), (rg, .inl (cI, 6, .inl (rg6 a x d b0 b1 b2))), (za, .inl (cZ, 2, .inl (p2 (bI z0) (bI z1)))), (ca, .inl (cZ, 2, .inl (p2 (bI c0) (bI c1))))]) [0, 1, 3, 4] rfl
      have hDc := hD.sub (ws' := [(o, .inr (5, [.int th, .ref im, .int (bI tr), .ref rc, .ref bg, .int ro, .ref oa, .ref xa, .ref ya, .ref rg, .ref me, .ref sa, .ref pa, .ref za, .ref ca, .int (bI kp), .ref ta, .ref na])), (rg, .inl (cI, 6, .inl (rg6 a x d b0 b1 b2))), (za, .inl (cZ, 2, .inl (p2 (bI z0) (bI z1)))), (ca, .inl (cZ, 2, .inl (p2 (bI c0) (bI c1))))]) [0, 1, 3, 4] (by decide) rfl
      have hFc := va_free (wc := [(o, .inr (5, [.int th, .ref im, .int (bI tr), .ref rc, .ref bg, .int ro, .ref oa, .ref xa, .ref ya, .ref rg, .ref me, .ref sa, .ref pa, .ref za, .ref ca, .int (bI kp), .ref ta, .ref na])), (rg, .inl (cI, 6, .inl (rg6 a x d b0 b1 b2))), (za, .inl (cZ, 2, .inl (p2 (bI z0) (bI z1)))), (ca, .inl (cZ, 2, .inl (p2 (bI c0) (bI c1))))]) hD hS hA [0, 1, 3, 4] rfl
      refine va_callv (va_runV (As := [.int 0, .int 0, .int n, .int 1]) (rest := []) ⟨hx, hb, hml, hown, hts⟩ (q_subs00 l D cI cZ o th im tr rc bg ro oa xa ya rg me sa pa za ca kp ta na a x d b0 b1 b2 z0 z1 c0 c1 n true H.size) ⟨cB 4 hts k_861 k_62 k_858 hd_MO_subtracts ⟨Nat.le_of_ble_eq_true rfl, Nat.le_of_ble_eq_true rfl⟩ rfl rfl, hts _ k_860, hts _ k_46⟩ (PcW.preV (va_recv hK hP (q0 := 0) (ci := 5) rfl rfl) hPc hK hDc hN) rfl rfl hl.1 rfl (lv_room (Nat.le_of_ble_eq_true rfl)) d_MO_reckons_194 ⟨Nat.le_of_ble_eq_true rfl, Nat.le_of_ble_eq_true rfl⟩) hS (fun q _ h => hFc q h) hFc (fun u t H1 locs ht hvm e194 hB hz1 hk1 hS => ?_)
      obtain ⟨v1194, zz194, cy194⟩ := u
      obtain ⟨hP1, hK1, hD1⟩ := hB
      rw [ht] at hP1
      obtain ⟨hP, hD⟩ := va_join (wr := [(me, .inl (cI, 512, .inl (mm2 g h)))]) (w1 := [(o, .inr (5, [.int th, .ref im, .int (bI tr), .ref rc, .ref bg, .int ro, .ref oa, .ref xa, .ref ya, .ref rg, .ref me, .ref sa, .ref pa, .ref za, .ref ca, .int (bI kp), .ref ta, .ref na])), (rg, .inl (cI, 6, .inl (rg6 v1194 x d b0 b1 b2))), (za, .inl (cZ, 2, .inl (p2 (bI zz194) (bI z1)))), (ca, .inl (cZ, 2, .inl (p2 (bI cy194) (bI c1))))]) hP hD [0, 1, 3, 4] [2] rfl rfl (by decide) (by decide) hk1 hFc hP1 hD1
      generalize H1 = H at hP hS ⊢
      try dsimp only at e194
      obtain ⟨e194_0, e194_1, e194_2⟩ := e194
      replace e194_0 := e194_0.symm
      subst e194_0
      replace e194_1 := e194_1.symm
      subst e194_1
      replace e194_2 := e194_2.symm
      subst e194_2
      have hP : va_P D vwCl [(me, .inl (cI, 512, .inl (mm2 g h))), (o, .inr (5, [.int th, .ref im, .int (bI tr), .ref rc, .ref bg, .int ro, .ref oa, .ref xa, .ref ya, .ref rg, .ref me, .ref sa, .ref pa, .ref za, .ref ca, .int (bI kp), .ref ta, .ref na])), (rg, .inl (cI, 6, .inl (rg6 (if true = true then a &&& 255 else (a - n) &&& 255) x d b0 b1 b2))), (za, .inl (cZ, 2, .inl (p2 (bI (decide ((a - n) &&& 255 = 0))) (bI z1)))), (ca, .inl (cZ, 2, .inl (p2 (bI (decide (¬ n ≤ a))) (bI c1))))] H := hP
      have hD : va_D A [(me, .inl (cI, 512, .inl (mm2 g h))), (o, .inr (5, [.int th, .ref im, .int (bI tr), .ref rc, .ref bg, .int ro, .ref oa, .ref xa, .ref ya, .ref rg, .ref me, .ref sa, .ref pa, .ref za, .ref ca, .int (bI kp), .ref ta, .ref na])), (rg, .inl (cI, 6, .inl (rg6 (if true = true then a &&& 255 else (a - n) &&& 255) x d b0 b1 b2))), (za, .inl (cZ, 2, .inl (p2 (bI (decide ((a - n) &&& 255 = 0))) (bI z1)))), (ca, .inl (cZ, 2, .inl (p2 (bI (decide (¬ n ≤ a))) (bI c1))))] := hD
      have hP9 : va_P D vwCl [(o, .inr (5, [.int th, .ref im, .int (bI tr), .ref rc, .ref bg, .int ro, .ref oa, .ref xa, .ref ya, .ref rg, .ref me, .ref sa, .ref pa, .ref za, .ref ca, .int (bI kp), .ref ta, .ref na])), (rg, .inl (cI, 6, .inl (rg6 (if true = true then a &&& 255 else (a - n) &&& 255) x d b0 b1 b2))), (me, .inl (cI, 512, .inl (mm2 g h))), (za, .inl (cZ, 2, .inl (p2 (bI (decide ((a - n) &&& 255 = 0))) (bI z1)))), (ca, .inl (cZ, 2, .inl (p2 (bI (decide (¬ n ≤ a))) (bI c1))))] H := hP.sub [1, 2, 0, 3, 4] rfl
      have hD9 : va_D A [(o, .inr (5, [.int th, .ref im, .int (bI tr), .ref rc, .ref bg, .int ro, .ref oa, .ref xa, .ref ya, .ref rg, .ref me, .ref sa, .ref pa, .ref za, .ref ca, .int (bI kp), .ref ta, .ref na])), (rg, .inl (cI, 6, .inl (rg6 (if true = true then a &&& 255 else (a - n) &&& 255) x d b0 b1 b2))), (me, .inl (cI, 512, .inl (mm2 g h))), (za, .inl (cZ, 2, .inl (p2 (bI (decide ((a - n) &&& 255 = 0))) (bI z1)))), (ca, .inl (cZ, 2, .inl (p2 (bI (decide (¬ n ≤ a))) (bI c1))))] := hD.sub [1, 2, 0, 3, 4] (by decide) rfl
      exact W.vret hx hb hr (fun t ht hW => ⟨⟨(if true = true then a &&& 255 else (a - n) &&& 255, decide ((a - n) &&& 255 = 0), decide (¬ n ≤ a)), rfl, by rw [h8]; rfl, by rw [ht]; exact hP9, va_K.moved hW.alike hK, hD9⟩, hS.F ht⟩) hS.2.2 d_MO_reckons_197
    | 8, _, h8 =>
      have h8 : op = 20 := h8
      refine lv_tableIn (off := 163) (tgt := 171) hx hb d_MO_reckons_8 (by rw [h8]; decide) (by rw [h8]; decide) (by rw [h8]; rfl) rfl ?_
      refine lv_aload_n hx hb d_MO_reckons_171 rfl (lv_at hl 1 rfl) ?_
      refine lv_iconst (v := 0) hx hb d_MO_reckons_172 (by decide) ?_
      refine lv_iconst (v := 0) hx hb d_MO_reckons_173 (by decide) ?_
      have hPc := hP.sub (ws' := [(o, .inr (5, [.int th, .ref im, .int (bI tr), .ref rc, .ref bg, .int ro, .ref oa, .ref xa, .ref ya, .ref rg, .ref me, .ref sa, .ref pa, .ref za, .ref ca, .int (bI kp), .ref ta, .ref na])), (rg, .inl (cI, 6, .inl (rg6 a x d b0 b1 b2))), (za, .inl (cZ, 2, .inl (p2 (bI z0) (bI z1)))), (ca, .inl (cZ, 2, .inl (p2 (bI c0) (bI c1))))]) [0, 1, 3, 4] rfl
      have hDc := hD.sub (ws' := [(o, .inr (5, [.int th, .ref im, .int (bI tr), .ref rc, .ref bg, .int ro, .ref oa, .ref xa, .ref ya, .ref rg, .ref me, .ref sa, .ref pa, .ref za, .ref ca, .int (bI kp), .ref ta, .ref na])), (rg, .inl (cI, 6, .inl (rg6 a x d b0 b1 b2))), (za, .inl (cZ, 2, .inl (p2 (bI z0) (bI z1)))), (ca, .inl (cZ, 2, .inl (p2 (bI c0) (bI c1))))]) [0, 1, 3, 4] (by decide) rfl
      have hFc := va_free (wc := [(o, .inr (5, [.int th, .ref im, .int (bI tr), .ref rc, .ref bg, .int ro, .ref oa, .ref xa, .ref ya, .ref rg, .ref me, .ref sa, .ref pa, .ref za, .ref ca, .int (bI kp), .ref ta, .ref na])), (rg, .inl (cI, 6, .inl (rg6 a x d b0 b1 b2))), (za, .inl (cZ, 2, .inl (p2 (bI z0) (bI z1)))), (ca, .inl (cZ, 2, .inl (p2 (bI c0) (bI c1))))]) hD hS hA [0, 1, 3, 4] rfl
      refine va_callv (va_runV (As := [.int 0, .int 0]) (rest := []) ⟨hx, hb, hml, hown, hts⟩ (q_dbl00 l D cI cZ o th im tr rc bg ro oa xa ya rg me sa pa za ca kp ta na a x d b0 b1 b2 z0 z1 c0 c1 H.size) ⟨cB 2 hts k_869 k_62 k_866 hd_MO_doubles ⟨Nat.le_of_ble_eq_true rfl, Nat.le_of_ble_eq_true rfl⟩ rfl rfl, hts _ k_868, hts _ k_48⟩ (PcW.preV (va_recv hK hP (q0 := 0) (ci := 5) rfl rfl) hPc hK hDc hN) rfl rfl hl.1 rfl (lv_room (Nat.le_of_ble_eq_true rfl)) d_MO_reckons_174 ⟨Nat.le_of_ble_eq_true rfl, Nat.le_of_ble_eq_true rfl⟩) hS (fun q _ h => hFc q h) hFc (fun u t H1 locs ht hvm e174 hB hz1 hk1 hS => ?_)
      obtain ⟨v1174, zz174, cy174⟩ := u
      obtain ⟨hP1, hK1, hD1⟩ := hB
      rw [ht] at hP1
      obtain ⟨hP, hD⟩ := va_join (wr := [(me, .inl (cI, 512, .inl (mm2 g h)))]) (w1 := [(o, .inr (5, [.int th, .ref im, .int (bI tr), .ref rc, .ref bg, .int ro, .ref oa, .ref xa, .ref ya, .ref rg, .ref me, .ref sa, .ref pa, .ref za, .ref ca, .int (bI kp), .ref ta, .ref na])), (rg, .inl (cI, 6, .inl (rg6 v1174 x d b0 b1 b2))), (za, .inl (cZ, 2, .inl (p2 (bI zz174) (bI z1)))), (ca, .inl (cZ, 2, .inl (p2 (bI cy174) (bI c1))))]) hP hD [0, 1, 3, 4] [2] rfl rfl (by decide) (by decide) hk1 hFc hP1 hD1
      generalize H1 = H at hP hS ⊢
      try dsimp only at e174
      obtain ⟨e174_0, e174_1, e174_2⟩ := e174
      replace e174_0 := e174_0.symm
      subst e174_0
      replace e174_1 := e174_1.symm
      subst e174_1
      replace e174_2 := e174_2.symm
      subst e174_2
      have hP : va_P D vwCl [(me, .inl (cI, 512, .inl (mm2 g h))), (o, .inr (5, [.int th, .ref im, .int (bI tr), .ref rc, .ref bg, .int ro, .ref oa, .ref xa, .ref ya, .ref rg, .ref me, .ref sa, .ref pa, .ref za, .ref ca, .int (bI kp), .ref ta, .ref na])), (rg, .inl (cI, 6, .inl (rg6 ((2 * a) &&& 255) x d b0 b1 b2))), (za, .inl (cZ, 2, .inl (p2 (bI (decide ((2 * a) &&& 255 = 0))) (bI z1)))), (ca, .inl (cZ, 2, .inl (p2 (bI (decide (¬ a ≤ 127))) (bI c1))))] H := hP
      have hD : va_D A [(me, .inl (cI, 512, .inl (mm2 g h))), (o, .inr (5, [.int th, .ref im, .int (bI tr), .ref rc, .ref bg, .int ro, .ref oa, .ref xa, .ref ya, .ref rg, .ref me, .ref sa, .ref pa, .ref za, .ref ca, .int (bI kp), .ref ta, .ref na])), (rg, .inl (cI, 6, .inl (rg6 ((2 * a) &&& 255) x d b0 b1 b2))), (za, .inl (cZ, 2, .inl (p2 (bI (decide ((2 * a) &&& 255 = 0))) (bI z1)))), (ca, .inl (cZ, 2, .inl (p2 (bI (decide (¬ a ≤ 127))) (bI c1))))] := hD
      refine lv_goto (tgt := 197) hx hb d_MO_reckons_177 rfl ?_
      have hP9 : va_P D vwCl [(o, .inr (5, [.int th, .ref im, .int (bI tr), .ref rc, .ref bg, .int ro, .ref oa, .ref xa, .ref ya, .ref rg, .ref me, .ref sa, .ref pa, .ref za, .ref ca, .int (bI kp), .ref ta, .ref na])), (rg, .inl (cI, 6, .inl (rg6 ((2 * a) &&& 255) x d b0 b1 b2))), (me, .inl (cI, 512, .inl (mm2 g h))), (za, .inl (cZ, 2, .inl (p2 (bI (decide ((2 * a) &&& 255 = 0))) (bI z1)))), (ca, .inl (cZ, 2, .inl (p2 (bI (decide (¬ a ≤ 127))) (bI c1))))] H := hP.sub [1, 2, 0, 3, 4] rfl
      have hD9 : va_D A [(o, .inr (5, [.int th, .ref im, .int (bI tr), .ref rc, .ref bg, .int ro, .ref oa, .ref xa, .ref ya, .ref rg, .ref me, .ref sa, .ref pa, .ref za, .ref ca, .int (bI kp), .ref ta, .ref na])), (rg, .inl (cI, 6, .inl (rg6 ((2 * a) &&& 255) x d b0 b1 b2))), (me, .inl (cI, 512, .inl (mm2 g h))), (za, .inl (cZ, 2, .inl (p2 (bI (decide ((2 * a) &&& 255 = 0))) (bI z1)))), (ca, .inl (cZ, 2, .inl (p2 (bI (decide (¬ a ≤ 127))) (bI c1))))] := hD.sub [1, 2, 0, 3, 4] (by decide) rfl
      exact W.vret hx hb hr (fun t ht hW => ⟨⟨((2 * a) &&& 255, decide ((2 * a) &&& 255 = 0), decide (¬ a ≤ 127)), rfl, by rw [h8]; rfl, by rw [ht]; exact hP9, va_K.moved hW.alike hK, hD9⟩, hS.F ht⟩) hS.2.2 d_MO_reckons_197
    | 9, _, h8 =>
      have h8 : op = 21 := h8
      refine lv_tableIn (off := 172) (tgt := 180) hx hb d_MO_reckons_8 (by rw [h8]; decide) (by rw [h8]; decide) (by rw [h8]; rfl) rfl ?_
      refine lv_aload_n hx hb d_MO_reckons_180 rfl (lv_at hl 1 rfl) ?_
      refine lv_iconst (v := 0) hx hb d_MO_reckons_181 (by decide) ?_
      refine lv_iconst (v := 0) hx hb d_MO_reckons_182 (by decide) ?_
      have hPc := hP.sub (ws' := [(o, .inr (5, [.int th, .ref im, .int (bI tr), .ref rc, .ref bg, .int ro, .ref oa, .ref xa, .ref ya, .ref rg, .ref me, .ref sa, .ref pa, .ref za, .ref ca, .int (bI kp), .ref ta, .ref na])), (rg, .inl (cI, 6, .inl (rg6 a x d b0 b1 b2))), (za, .inl (cZ, 2, .inl (p2 (bI z0) (bI z1)))), (ca, .inl (cZ, 2, .inl (p2 (bI c0) (bI c1))))]) [0, 1, 3, 4] rfl
      have hDc := hD.sub (ws' := [(o, .inr (5, [.int th, .ref im, .int (bI tr), .ref rc, .ref bg, .int ro, .ref oa, .ref xa, .ref ya, .ref rg, .ref me, .ref sa, .ref pa, .ref za, .ref ca, .int (bI kp), .ref ta, .ref na])), (rg, .inl (cI, 6, .inl (rg6 a x d b0 b1 b2))), (za, .inl (cZ, 2, .inl (p2 (bI z0) (bI z1)))), (ca, .inl (cZ, 2, .inl (p2 (bI c0) (bI c1))))]) [0, 1, 3, 4] (by decide) rfl
      have hFc := va_free (wc := [(o, .inr (5, [.int th, .ref im, .int (bI tr), .ref rc, .ref bg, .int ro, .ref oa, .ref xa, .ref ya, .ref rg, .ref me, .ref sa, .ref pa, .ref za, .ref ca, .int (bI kp), .ref ta, .ref na])), (rg, .inl (cI, 6, .inl (rg6 a x d b0 b1 b2))), (za, .inl (cZ, 2, .inl (p2 (bI z0) (bI z1)))), (ca, .inl (cZ, 2, .inl (p2 (bI c0) (bI c1))))]) hD hS hA [0, 1, 3, 4] rfl
      refine va_callv (va_runV (As := [.int 0, .int 0]) (rest := []) ⟨hx, hb, hml, hown, hts⟩ (q_hlv00 l D cI cZ o th im tr rc bg ro oa xa ya rg me sa pa za ca kp ta na a x d b0 b1 b2 z0 z1 c0 c1 H.size) ⟨cB 2 hts k_873 k_62 k_870 hd_MO_halves ⟨Nat.le_of_ble_eq_true rfl, Nat.le_of_ble_eq_true rfl⟩ rfl rfl, hts _ k_872, hts _ k_49⟩ (PcW.preV (va_recv hK hP (q0 := 0) (ci := 5) rfl rfl) hPc hK hDc hN) rfl rfl hl.1 rfl (lv_room (Nat.le_of_ble_eq_true rfl)) d_MO_reckons_183 ⟨Nat.le_of_ble_eq_true rfl, Nat.le_of_ble_eq_true rfl⟩) hS (fun q _ h => hFc q h) hFc (fun u t H1 locs ht hvm e183 hB hz1 hk1 hS => ?_)
      obtain ⟨v1183, zz183, cy183⟩ := u
      obtain ⟨hP1, hK1, hD1⟩ := hB
      rw [ht] at hP1
      obtain ⟨hP, hD⟩ := va_join (wr := [(me, .inl (cI, 512, .inl (mm2 g h)))]) (w1 := [(o, .inr (5, [.int th, .ref im, .int (bI tr), .ref rc, .ref bg, .int ro, .ref oa, .ref xa, .ref ya, .ref rg, .ref me, .ref sa, .ref pa, .ref za, .ref ca, .int (bI kp), .ref ta, .ref na])), (rg, .inl (cI, 6, .inl (rg6 v1183 x d b0 b1 b2))), (za, .inl (cZ, 2, .inl (p2 (bI zz183) (bI z1)))), (ca, .inl (cZ, 2, .inl (p2 (bI cy183) (bI c1))))]) hP hD [0, 1, 3, 4] [2] rfl rfl (by decide) (by decide) hk1 hFc hP1 hD1
      generalize H1 = H at hP hS ⊢
      try dsimp only at e183
      obtain ⟨e183_0, e183_1, e183_2⟩ := e183
      replace e183_0 := e183_0.symm
      subst e183_0
      replace e183_1 := e183_1.symm
      subst e183_1
      replace e183_2 := e183_2.symm
      subst e183_2
      have hP : va_P D vwCl [(me, .inl (cI, 512, .inl (mm2 g h))), (o, .inr (5, [.int th, .ref im, .int (bI tr), .ref rc, .ref bg, .int ro, .ref oa, .ref xa, .ref ya, .ref rg, .ref me, .ref sa, .ref pa, .ref za, .ref ca, .int (bI kp), .ref ta, .ref na])), (rg, .inl (cI, 6, .inl (rg6 ((a / 2) &&& 255) x d b0 b1 b2))), (za, .inl (cZ, 2, .inl (p2 (bI (decide ((a / 2) &&& 255 = 0))) (bI z1)))), (ca, .inl (cZ, 2, .inl (p2 (bI (decide (a - a / 2 * 2 = 1))) (bI c1))))] H := hP
      have hD : va_D A [(me, .inl (cI, 512, .inl (mm2 g h))), (o, .inr (5, [.int th, .ref im, .int (bI tr), .ref rc, .ref bg, .int ro, .ref oa, .ref xa, .ref ya, .ref rg, .ref me, .ref sa, .ref pa, .ref za, .ref ca, .int (bI kp), .ref ta, .ref na])), (rg, .inl (cI, 6, .inl (rg6 ((a / 2) &&& 255) x d b0 b1 b2))), (za, .inl (cZ, 2, .inl (p2 (bI (decide ((a / 2) &&& 255 = 0))) (bI z1)))), (ca, .inl (cZ, 2, .inl (p2 (bI (decide (a - a / 2 * 2 = 1))) (bI c1))))] := hD
      refine lv_goto (tgt := 197) hx hb d_MO_reckons_186 rfl ?_
      have hP9 : va_P D vwCl [(o, .inr (5, [.int th, .ref im, .int (bI tr), .ref rc, .ref bg, .int ro, .ref oa, .ref xa, .ref ya, .ref rg, .ref me, .ref sa, .ref pa, .ref za, .ref ca, .int (bI kp), .ref ta, .ref na])), (rg, .inl (cI, 6, .inl (rg6 ((a / 2) &&& 255) x d b0 b1 b2))), (me, .inl (cI, 512, .inl (mm2 g h))), (za, .inl (cZ, 2, .inl (p2 (bI (decide ((a / 2) &&& 255 = 0))) (bI z1)))), (ca, .inl (cZ, 2, .inl (p2 (bI (decide (a - a / 2 * 2 = 1))) (bI c1))))] H := hP.sub [1, 2, 0, 3, 4] rfl
      have hD9 : va_D A [(o, .inr (5, [.int th, .ref im, .int (bI tr), .ref rc, .ref bg, .int ro, .ref oa, .ref xa, .ref ya, .ref rg, .ref me, .ref sa, .ref pa, .ref za, .ref ca, .int (bI kp), .ref ta, .ref na])), (rg, .inl (cI, 6, .inl (rg6 ((a / 2) &&& 255) x d b0 b1 b2))), (me, .inl (cI, 512, .inl (mm2 g h))), (za, .inl (cZ, 2, .inl (p2 (bI (decide ((a / 2) &&& 255 = 0))) (bI z1)))), (ca, .inl (cZ, 2, .inl (p2 (bI (decide (a - a / 2 * 2 = 1))) (bI c1))))] := hD.sub [1, 2, 0, 3, 4] (by decide) rfl
      exact W.vret hx hb hr (fun t ht hW => ⟨⟨((a / 2) &&& 255, decide ((a / 2) &&& 255 = 0), decide (a - a / 2 * 2 = 1)), rfl, by rw [h8]; rfl, by rw [ht]; exact hP9, va_K.moved hW.alike hK, hD9⟩, hS.F ht⟩) hS.2.2 d_MO_reckons_197
    | n + 10, h9, _ => exact absurd h9 (by omega)
