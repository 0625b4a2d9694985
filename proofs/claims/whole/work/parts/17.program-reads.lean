set_option maxHeartbeats 4000000 in
set_option maxRecDepth 100000 in
theorem m_PR_beginOf (l : Launch) (D : va_G) (cI cZ : ClassId) (pr : Nat) (nu : Nat) (xs : Nat) (ys : Nat) (be : Nat) (wh : Nat) (n : Int32) (fw : Nat → Int32) (ad : Int32) : MetR l y_PR_beginOf w_PR_beginOf { frames := 1, cells := 0, slots := 0, locals := 20 } D cI cZ [.ref pr, .int ad] [(pr, .inr (2, [.ref nu, .ref xs, .ref ys, .ref be, .ref wh, .int n])), (wh, .inl (cI, 256, .inl fw))] (fun r => r = begI fw ad) := by
  refine ofR (cc := c_PR_beginOf) (maxL := 2) (ret := (some .int)) (by decide) rfl (Nat.le_of_ble_eq_true rfl) ?_
  intro p e s m args below meth c H hH0 hx hb hr hlocks hts hown hml ls hl hP hK hN
  have hown : s.vm.findClass R_PR = some m.cls := hown
  have hl : lv_has ls 2 [(0, .ref pr), (1, .int ad)] := hl
  refine lv_iload_n hx hb d_PR_beginOf_0 rfl (lv_at hl 1 rfl) ?_
  have hPc := hP.sub (ws' := []) [] rfl
  refine vp_callSi (va_runSN (As := [.int ad]) (rest := []) ⟨hx, hb, hml, hown, hts⟩ (m_isByte l D cI cZ ad) ⟨va_cnB 1 hts (gdt k_241) rfl rfl rfl (nw_4 hN) (hts _ k_56) hd_TM_isByte ⟨Nat.le_of_ble_eq_true rfl, Nat.le_of_ble_eq_true rfl⟩, hts _ k_240, trivial⟩ (PcR.preS hPc hK hN) rfl rfl hl.1 rfl (lv_room (Nat.le_of_ble_eq_true rfl)) d_PR_beginOf_1 ⟨Nat.le_of_ble_eq_true rfl, Nat.le_of_ble_eq_true rfl⟩).run (fun r1 e1 => ?_)
  replace e1 := e1.symm
  subst e1
  refine lv_if_eq (tgt := 16) hx hb d_PR_beginOf_4 rfl (fun h4 => ?_) (fun h4 => ?_)
  · have h4 : isByteB ad = false := bI_f h4
    refine lv_iconst (v := (-1)) hx hb d_PR_beginOf_16 (by decide) ?_
    exact W.iret (v := (-1)) hx hb hr (fun t ht hW => ⟨(-1), rfl, by first | (simp only [begI, h4, ↓reduceIte, not_true_eq_false, not_false_eq_true, and_true, true_and, and_false, false_and, and_self, or_true, true_or, or_false, false_or, decide_true, decide_false, Bool.false_eq_true, reduceCtorEq]; done) | (simp_all [begI]; done), ht.trans hH0.symm⟩) (fun _ h9 => absurd h9 List.not_mem_nil) d_PR_beginOf_17
  · have h4 : isByteB ad = true := bI_t h4
    refine lv_aload_n hx hb d_PR_beginOf_7 rfl (lv_at hl 0 rfl) ?_
    refine va_get (D := D) (ci := 2) (v := .ref wh) (C := R_PR) (T := T_PR) (N := 6) hx hb hts iw_PR hown hK hP 0 rfl rfl 4 (by decide) (hts _ k_179) (fun _ h9 => h9) rfl d_PR_beginOf_8 ?_
    refine lv_iload_n hx hb d_PR_beginOf_11 rfl (lv_at hl 1 rfl) ?_
    refine va_iald hx hb hK hP 1 0 rfl rfl (isByte_in h4) d_PR_beginOf_12 ?_
    refine lv_goto (tgt := 17) hx hb d_PR_beginOf_13 rfl ?_
    exact W.iret (v := (fw ad.toNatClampNeg)) hx hb hr (fun t ht hW => ⟨(fw ad.toNatClampNeg), rfl, by first | (simp only [begI, h4, ↓reduceIte, not_true_eq_false, not_false_eq_true, and_true, true_and, and_false, false_and, and_self, or_true, true_or, or_false, false_or, decide_true, decide_false, Bool.false_eq_true, reduceCtorEq]; done) | (simp_all [begI]; done), ht.trans hH0.symm⟩) (fun _ h9 => absurd h9 List.not_mem_nil) d_PR_beginOf_17
set_option maxHeartbeats 4000000 in
set_option maxRecDepth 100000 in
theorem m_PR_part (l : Launch) (D : va_G) (cI cZ : ClassId) (pr : Nat) (nu : Nat) (xs : Nat) (ys : Nat) (be : Nat) (wh : Nat) (n : Int32) (fn : Nat → Int32) (fx : Nat → Int32) (fy : Nat → Int32) (k : Int32) (w : Int32) (hn : n ≤ 1024) : MetR l y_PR_part w_PR_part { frames := 0, cells := 0, slots := 0, locals := 0 } D cI cZ [.ref pr, .int k, .int w] [(pr, .inr (2, [.ref nu, .ref xs, .ref ys, .ref be, .ref wh, .int n])), (nu, .inl (cI, 1024, .inl fn)), (xs, .inl (cI, 1024, .inl fx)), (ys, .inl (cI, 1024, .inl fy))] (fun r => r = partI k w n fn fx fy) := by
  refine ofR (cc := c_PR_part) (maxL := 3) (ret := (some .int)) (by decide) rfl (Nat.le_of_ble_eq_true rfl) ?_
  intro p e s m args below meth c H hH0 hx hb hr hlocks hts hown hml ls hl hP hK hN
  have hown : s.vm.findClass R_PR = some m.cls := hown
  have hl : lv_has ls 3 [(0, .ref pr), (1, .int k), (2, .int w)] := hl
  refine lv_iload_n hx hb d_PR_part_0 rfl (lv_at hl 1 rfl) ?_
  refine lv_if_lt (tgt := 12) hx hb d_PR_part_1 rfl (fun h1 => ?_) (fun h1 => ?_)
  · refine lv_iconst (v := (-1)) hx hb d_PR_part_12 (by decide) ?_
    exact W.iret (v := (-1)) hx hb hr (fun t ht hW => ⟨(-1), rfl, by first | (simp only [partI, h1, ↓reduceIte, not_true_eq_false, not_false_eq_true, and_true, true_and, and_false, false_and, and_self, or_true, true_or, or_false, false_or, decide_true, decide_false, Bool.false_eq_true, reduceCtorEq]; done) | (simp_all [partI]; done), ht.trans hH0.symm⟩) (fun _ h9 => absurd h9 List.not_mem_nil) d_PR_part_13
  · refine lv_iload_n hx hb d_PR_part_4 rfl (lv_at hl 1 rfl) ?_
    refine lv_aload_n hx hb d_PR_part_5 rfl (lv_at hl 0 rfl) ?_
    refine va_get (D := D) (ci := 2) (v := .int n) (C := R_PR) (T := T_PR) (N := 6) hx hb hts iw_PR hown hK hP 0 rfl rfl 5 (by decide) (hts _ k_180) (fun _ h9 => h9) rfl d_PR_part_6 ?_
    refine lv_icmp_lt (tgt := 14) hx hb d_PR_part_9 rfl (fun h9 => ?_) (fun h9 => ?_)
    · refine lv_iload_n hx hb d_PR_part_14 rfl (lv_at hl 2 rfl) ?_
      rcases sw_cases w 0 3 with h15 | ⟨j15, hj15, h15⟩
      · refine lv_tableOut (tgt := 61) hx hb d_PR_part_15 h15 rfl ?_
        have n15_0 : ¬ w = 0 := fun h9 => by rw [h9] at h15; revert h15; decide
        have n15_1 : ¬ w = 1 := fun h9 => by rw [h9] at h15; revert h15; decide
        have n15_2 : ¬ w = 2 := fun h9 => by rw [h9] at h15; revert h15; decide
        refine lv_iconst (v := (-1)) hx hb d_PR_part_61 (by decide) ?_
        exact W.iret (v := (-1)) hx hb hr (fun t ht hW => ⟨(-1), rfl, by rw [partI, if_neg h1, if_pos h9, if_neg n15_0, if_neg n15_1, if_neg n15_2], ht.trans hH0.symm⟩) (fun _ h9 => absurd h9 List.not_mem_nil) d_PR_part_62
      · match j15, hj15, h15 with
        | 0, _, h15 =>
          have h15 : w = 0 := h15
          refine lv_tableIn (off := 25) (tgt := 40) hx hb d_PR_part_15 (by rw [h15]; decide) (by rw [h15]; decide) (by rw [h15]; rfl) rfl ?_
          refine lv_aload_n hx hb d_PR_part_40 rfl (lv_at hl 0 rfl) ?_
          refine va_get (D := D) (ci := 2) (v := .ref nu) (C := R_PR) (T := T_PR) (N := 6) hx hb hts iw_PR hown hK hP 0 rfl rfl 0 (by decide) (hts _ k_175) (fun _ h9 => h9) rfl d_PR_part_41 ?_
          refine lv_iload_n hx hb d_PR_part_44 rfl (lv_at hl 1 rfl) ?_
          refine va_iald hx hb hK hP 1 0 rfl rfl (idx_in h1 h9 hn) d_PR_part_45 ?_
          exact W.iret (v := (fn k.toNatClampNeg)) hx hb hr (fun t ht hW => ⟨(fn k.toNatClampNeg), rfl, by rw [partI, if_neg h1, if_pos h9, h15]; rfl, ht.trans hH0.symm⟩) (fun _ h9 => absurd h9 List.not_mem_nil) d_PR_part_46
        | 1, _, h15 =>
          have h15 : w = 1 := h15
          refine lv_tableIn (off := 32) (tgt := 47) hx hb d_PR_part_15 (by rw [h15]; decide) (by rw [h15]; decide) (by rw [h15]; rfl) rfl ?_
          refine lv_aload_n hx hb d_PR_part_47 rfl (lv_at hl 0 rfl) ?_
          refine va_get (D := D) (ci := 2) (v := .ref xs) (C := R_PR) (T := T_PR) (N := 6) hx hb hts iw_PR hown hK hP 0 rfl rfl 1 (by decide) (hts _ k_176) (fun _ h9 => h9) rfl d_PR_part_48 ?_
          refine lv_iload_n hx hb d_PR_part_51 rfl (lv_at hl 1 rfl) ?_
          refine va_iald hx hb hK hP 2 0 rfl rfl (idx_in h1 h9 hn) d_PR_part_52 ?_
          exact W.iret (v := (fx k.toNatClampNeg)) hx hb hr (fun t ht hW => ⟨(fx k.toNatClampNeg), rfl, by rw [partI, if_neg h1, if_pos h9, h15]; rfl, ht.trans hH0.symm⟩) (fun _ h9 => absurd h9 List.not_mem_nil) d_PR_part_53
        | 2, _, h15 =>
          have h15 : w = 2 := h15
          refine lv_tableIn (off := 39) (tgt := 54) hx hb d_PR_part_15 (by rw [h15]; decide) (by rw [h15]; decide) (by rw [h15]; rfl) rfl ?_
          refine lv_aload_n hx hb d_PR_part_54 rfl (lv_at hl 0 rfl) ?_
          refine va_get (D := D) (ci := 2) (v := .ref ys) (C := R_PR) (T := T_PR) (N := 6) hx hb hts iw_PR hown hK hP 0 rfl rfl 2 (by decide) (hts _ k_177) (fun _ h9 => h9) rfl d_PR_part_55 ?_
          refine lv_iload_n hx hb d_PR_part_58 rfl (lv_at hl 1 rfl) ?_
          refine va_iald hx hb hK hP 3 0 rfl rfl (idx_in h1 h9 hn) d_PR_part_59 ?_
          exact W.iret (v := (fy k.toNatClampNeg)) hx hb hr (fun t ht hW => ⟨(fy k.toNatClampNeg), rfl, by rw [partI, if_neg h1, if_pos h9, h15]; rfl, ht.trans hH0.symm⟩) (fun _ h9 => absurd h9 List.not_mem_nil) d_PR_part_60
        | n + 3, h9, _ => exact absurd h9 (by omega)
    · refine lv_iconst (v := (-1)) hx hb d_PR_part_12 (by decide) ?_
      exact W.iret (v := (-1)) hx hb hr (fun t ht hW => ⟨(-1), rfl, by first | (simp only [partI, h1, h9, ↓reduceIte, not_true_eq_false, not_false_eq_true, and_true, true_and, and_false, false_and, and_self, or_true, true_or, or_false, false_or, decide_true, decide_false, Bool.false_eq_true, reduceCtorEq]; done) | (simp_all [partI]; done), ht.trans hH0.symm⟩) (fun _ h9 => absurd h9 List.not_mem_nil) d_PR_part_13
