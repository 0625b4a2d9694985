set_option maxHeartbeats 4000000 in
set_option maxRecDepth 100000 in
theorem m_FM_view0 (l : Launch) (D : va_G) (cI cZ : ClassId) (o : Nat) (mm : Nat) (a : Int32) (x : Int32) (sp : Int32) (pc : Int32) (zf : Bool) (cf : Bool) (st : Int32) (dn : Int32) (w : Int32) : MetR l y_MA_view w_MA_view { frames := 1, cells := 0, slots := 0, locals := 20 } D cI cZ [.ref o, .int w] [(o, .inr (3, [.ref mm, .int a, .int x, .int sp, .int pc, .int (bI zf), .int (bI cf), .int st, .int dn]))] (fun r => r = vwI w a x sp pc zf cf st dn) := by
  refine ofR (cc := c_MA_view) (maxL := 2) (ret := (some .int)) (by decide) rfl (Nat.le_of_ble_eq_true rfl) ?_
  intro p e s m args below meth c H hH0 hx hb hr hlocks hts hown hml ls hl hP hK hN
  have hown : s.vm.findClass R_MA = some m.cls := hown
  have hl : lv_has ls 2 [(0, .ref o), (1, .int w)] := hl
  refine lv_iload_n hx hb d_MA_view_0 rfl (lv_at hl 1 rfl) ?_
  rcases sw_cases w 0 10 with h1 | ⟨j1, hj1, h1⟩
  · refine lv_tableOut (tgt := 106) hx hb d_MA_view_1 h1 rfl ?_
    have n1_0 : ¬ w = 0 := fun h9 => by rw [h9] at h1; revert h1; decide
    have n1_1 : ¬ w = 1 := fun h9 => by rw [h9] at h1; revert h1; decide
    have n1_2 : ¬ w = 2 := fun h9 => by rw [h9] at h1; revert h1; decide
    have n1_3 : ¬ w = 3 := fun h9 => by rw [h9] at h1; revert h1; decide
    have n1_4 : ¬ w = 4 := fun h9 => by rw [h9] at h1; revert h1; decide
    have n1_5 : ¬ w = 5 := fun h9 => by rw [h9] at h1; revert h1; decide
    have n1_6 : ¬ w = 6 := fun h9 => by rw [h9] at h1; revert h1; decide
    have n1_7 : ¬ w = 7 := fun h9 => by rw [h9] at h1; revert h1; decide
    have n1_8 : ¬ w = 8 := fun h9 => by rw [h9] at h1; revert h1; decide
    have n1_9 : ¬ w = 9 := fun h9 => by rw [h9] at h1; revert h1; decide
    refine lv_iconst (v := (-1)) hx hb d_MA_view_106 (by decide) ?_
    exact W.iret (v := (-1)) hx hb hr (fun t ht hW => ⟨(-1), rfl, by first | (simp only [vwI, n1_0, n1_1, n1_2, n1_3, n1_4, n1_5, n1_6, n1_7, n1_8, n1_9, ↓reduceIte, not_true_eq_false, not_false_eq_true, and_true, true_and, and_false, false_and, and_self, or_true, true_or, or_false, false_or, decide_true, decide_false, Bool.false_eq_true, reduceCtorEq]; done) | (simp_all [vwI]; done), ht.trans hH0.symm⟩) (fun _ h9 => absurd h9 List.not_mem_nil) d_MA_view_107
  · match j1, hj1, h1 with
    | 0, _, h1 =>
      have h1 : w = 0 := h1
      refine lv_tableIn (off := 55) (tgt := 56) hx hb d_MA_view_1 (by rw [h1]; decide) (by rw [h1]; decide) (by rw [h1]; rfl) rfl ?_
      refine lv_aload_n hx hb d_MA_view_56 rfl (lv_at hl 0 rfl) ?_
      refine va_get (D := D) (ci := 3) (v := .int a) (C := R_FM) (T := T_FM) (N := 9) hx hb hts iw_FM hown hK hP 0 rfl rfl 1 (by decide) (hts _ k_110) (fun _ h9 => h9) rfl d_MA_view_57 ?_
      exact W.iret (v := a) hx hb hr (fun t ht hW => ⟨a, rfl, by rw [h1]; rfl, ht.trans hH0.symm⟩) (fun _ h9 => absurd h9 List.not_mem_nil) d_MA_view_60
    | 1, _, h1 =>
      have h1 : w = 1 := h1
      refine lv_tableIn (off := 60) (tgt := 61) hx hb d_MA_view_1 (by rw [h1]; decide) (by rw [h1]; decide) (by rw [h1]; rfl) rfl ?_
      refine lv_aload_n hx hb d_MA_view_61 rfl (lv_at hl 0 rfl) ?_
      refine va_get (D := D) (ci := 3) (v := .int x) (C := R_FM) (T := T_FM) (N := 9) hx hb hts iw_FM hown hK hP 0 rfl rfl 2 (by decide) (hts _ k_115) (fun _ h9 => h9) rfl d_MA_view_62 ?_
      exact W.iret (v := x) hx hb hr (fun t ht hW => ⟨x, rfl, by rw [h1]; rfl, ht.trans hH0.symm⟩) (fun _ h9 => absurd h9 List.not_mem_nil) d_MA_view_65
    | 2, _, h1 =>
      have h1 : w = 2 := h1
      refine lv_tableIn (off := 65) (tgt := 66) hx hb d_MA_view_1 (by rw [h1]; decide) (by rw [h1]; decide) (by rw [h1]; rfl) rfl ?_
      refine lv_aload_n hx hb d_MA_view_66 rfl (lv_at hl 0 rfl) ?_
      refine va_get (D := D) (ci := 3) (v := .int sp) (C := R_FM) (T := T_FM) (N := 9) hx hb hts iw_FM hown hK hP 0 rfl rfl 3 (by decide) (hts _ k_120) (fun _ h9 => h9) rfl d_MA_view_67 ?_
      exact W.iret (v := sp) hx hb hr (fun t ht hW => ⟨sp, rfl, by rw [h1]; rfl, ht.trans hH0.symm⟩) (fun _ h9 => absurd h9 List.not_mem_nil) d_MA_view_70
    | 3, _, h1 =>
      have h1 : w = 3 := h1
      refine lv_tableIn (off := 70) (tgt := 71) hx hb d_MA_view_1 (by rw [h1]; decide) (by rw [h1]; decide) (by rw [h1]; rfl) rfl ?_
      refine lv_aload_n hx hb d_MA_view_71 rfl (lv_at hl 0 rfl) ?_
      refine va_get (D := D) (ci := 3) (v := .int pc) (C := R_FM) (T := T_FM) (N := 9) hx hb hts iw_FM hown hK hP 0 rfl rfl 4 (by decide) (hts _ k_125) (fun _ h9 => h9) rfl d_MA_view_72 ?_
      exact W.iret (v := pc) hx hb hr (fun t ht hW => ⟨pc, rfl, by rw [h1]; rfl, ht.trans hH0.symm⟩) (fun _ h9 => absurd h9 List.not_mem_nil) d_MA_view_75
    | 4, _, h1 =>
      have h1 : w = 4 := h1
      refine lv_tableIn (off := 75) (tgt := 76) hx hb d_MA_view_1 (by rw [h1]; decide) (by rw [h1]; decide) (by rw [h1]; rfl) rfl ?_
      refine lv_aload_n hx hb d_MA_view_76 rfl (lv_at hl 0 rfl) ?_
      refine va_get (D := D) (ci := 3) (v := .int (bI zf)) (C := R_FM) (T := T_FM) (N := 9) hx hb hts iw_FM hown hK hP 0 rfl rfl 5 (by decide) (hts _ k_128) (fun _ h9 => h9) rfl d_MA_view_77 ?_
      have hPc := hP.sub (ws' := []) [] rfl
      refine vp_callSi (va_runSN (As := [.int (bI zf)]) (rest := []) ⟨hx, hb, hml, hown, hts⟩ (m_bit l D cI cZ zf) ⟨va_cnB 1 hts (gdt k_286) rfl rfl rfl (nw_8 hN) (hts _ k_56) hd_TM_bit ⟨Nat.le_of_ble_eq_true rfl, Nat.le_of_ble_eq_true rfl⟩, hts _ k_285, trivial⟩ (PcR.preS hPc hK hN) rfl rfl hl.1 rfl (lv_room (Nat.le_of_ble_eq_true rfl)) d_MA_view_80 ⟨Nat.le_of_ble_eq_true rfl, Nat.le_of_ble_eq_true rfl⟩).run (fun r80 e80 => ?_)
      replace e80 := e80.symm
      subst e80
      exact W.iret (v := (bI zf)) hx hb hr (fun t ht hW => ⟨(bI zf), rfl, by rw [h1]; rfl, ht.trans hH0.symm⟩) (fun _ h9 => absurd h9 List.not_mem_nil) d_MA_view_83
    | 5, _, h1 =>
      have h1 : w = 5 := h1
      refine lv_tableIn (off := 83) (tgt := 84) hx hb d_MA_view_1 (by rw [h1]; decide) (by rw [h1]; decide) (by rw [h1]; rfl) rfl ?_
      refine lv_aload_n hx hb d_MA_view_84 rfl (lv_at hl 0 rfl) ?_
      refine va_get (D := D) (ci := 3) (v := .int (bI cf)) (C := R_FM) (T := T_FM) (N := 9) hx hb hts iw_FM hown hK hP 0 rfl rfl 6 (by decide) (hts _ k_133) (fun _ h9 => h9) rfl d_MA_view_85 ?_
      have hPc := hP.sub (ws' := []) [] rfl
      refine vp_callSi (va_runSN (As := [.int (bI cf)]) (rest := []) ⟨hx, hb, hml, hown, hts⟩ (m_bit l D cI cZ cf) ⟨va_cnB 1 hts (gdt k_286) rfl rfl rfl (nw_8 hN) (hts _ k_56) hd_TM_bit ⟨Nat.le_of_ble_eq_true rfl, Nat.le_of_ble_eq_true rfl⟩, hts _ k_285, trivial⟩ (PcR.preS hPc hK hN) rfl rfl hl.1 rfl (lv_room (Nat.le_of_ble_eq_true rfl)) d_MA_view_88 ⟨Nat.le_of_ble_eq_true rfl, Nat.le_of_ble_eq_true rfl⟩).run (fun r88 e88 => ?_)
      replace e88 := e88.symm
      subst e88
      exact W.iret (v := (bI cf)) hx hb hr (fun t ht hW => ⟨(bI cf), rfl, by rw [h1]; rfl, ht.trans hH0.symm⟩) (fun _ h9 => absurd h9 List.not_mem_nil) d_MA_view_91
    | 6, _, h1 =>
      have h1 : w = 6 := h1
      refine lv_tableIn (off := 91) (tgt := 92) hx hb d_MA_view_1 (by rw [h1]; decide) (by rw [h1]; decide) (by rw [h1]; rfl) rfl ?_
      refine lv_aload_n hx hb d_MA_view_92 rfl (lv_at hl 0 rfl) ?_
      refine va_get (D := D) (ci := 3) (v := .int st) (C := R_FM) (T := T_FM) (N := 9) hx hb hts iw_FM hown hK hP 0 rfl rfl 7 (by decide) (hts _ k_142) (fun _ h9 => h9) rfl d_MA_view_93 ?_
      exact W.iret (v := st) hx hb hr (fun t ht hW => ⟨st, rfl, by rw [h1]; rfl, ht.trans hH0.symm⟩) (fun _ h9 => absurd h9 List.not_mem_nil) d_MA_view_96
    | 7, _, h1 =>
      have h1 : w = 7 := h1
      refine lv_tableIn (off := 96) (tgt := 97) hx hb d_MA_view_1 (by rw [h1]; decide) (by rw [h1]; decide) (by rw [h1]; rfl) rfl ?_
      refine lv_aload_n hx hb d_MA_view_97 rfl (lv_at hl 0 rfl) ?_
      refine va_get (D := D) (ci := 3) (v := .int dn) (C := R_FM) (T := T_FM) (N := 9) hx hb hts iw_FM hown hK hP 0 rfl rfl 8 (by decide) (hts _ k_143) (fun _ h9 => h9) rfl d_MA_view_98 ?_
      exact W.iret (v := dn) hx hb hr (fun t ht hW => ⟨dn, rfl, by rw [h1]; rfl, ht.trans hH0.symm⟩) (fun _ h9 => absurd h9 List.not_mem_nil) d_MA_view_101
    | 8, _, h1 =>
      have h1 : w = 8 := h1
      refine lv_tableIn (off := 101) (tgt := 102) hx hb d_MA_view_1 (by rw [h1]; decide) (by rw [h1]; decide) (by rw [h1]; rfl) rfl ?_
      refine lv_iconst (v := 0) hx hb d_MA_view_102 (by decide) ?_
      exact W.iret (v := 0) hx hb hr (fun t ht hW => ⟨0, rfl, by rw [h1]; rfl, ht.trans hH0.symm⟩) (fun _ h9 => absurd h9 List.not_mem_nil) d_MA_view_103
    | 9, _, h1 =>
      have h1 : w = 9 := h1
      refine lv_tableIn (off := 103) (tgt := 104) hx hb d_MA_view_1 (by rw [h1]; decide) (by rw [h1]; decide) (by rw [h1]; rfl) rfl ?_
      refine lv_iconst (v := 0) hx hb d_MA_view_104 (by decide) ?_
      exact W.iret (v := 0) hx hb hr (fun t ht hW => ⟨0, rfl, by rw [h1]; rfl, ht.trans hH0.symm⟩) (fun _ h9 => absurd h9 List.not_mem_nil) d_MA_view_105
    | n + 10, h9, _ => exact absurd h9 (by omega)
set_option maxHeartbeats 4000000 in
set_option maxRecDepth 100000 in
theorem m_SM_view0 (l : Launch) (D : va_G) (cI cZ : ClassId) (o : Nat) (mm : Nat) (a : Int32) (x : Int32) (sp : Int32) (pc : Int32) (zf : Bool) (cf : Bool) (st : Int32) (dn : Int32) (pr : Nat) (r2 : Int32) (kp : Bool) (w : Int32) : MetR l y_MA_view w_MA_view { frames := 1, cells := 0, slots := 0, locals := 20 } D cI cZ [.ref o, .int w] [(o, .inr (4, [.ref mm, .int a, .int x, .int sp, .int pc, .int (bI zf), .int (bI cf), .int st, .int dn, .ref pr, .int r2, .int (bI kp)]))] (fun r => r = vwI w a x sp pc zf cf st dn) := by
  refine ofR (cc := c_MA_view) (maxL := 2) (ret := (some .int)) (by decide) rfl (Nat.le_of_ble_eq_true rfl) ?_
  intro p e s m args below meth c H hH0 hx hb hr hlocks hts hown hml ls hl hP hK hN
  have hown : s.vm.findClass R_MA = some m.cls := hown
  have hl : lv_has ls 2 [(0, .ref o), (1, .int w)] := hl
  refine lv_iload_n hx hb d_MA_view_0 rfl (lv_at hl 1 rfl) ?_
  rcases sw_cases w 0 10 with h1 | ⟨j1, hj1, h1⟩
  · refine lv_tableOut (tgt := 106) hx hb d_MA_view_1 h1 rfl ?_
    have n1_0 : ¬ w = 0 := fun h9 => by rw [h9] at h1; revert h1; decide
    have n1_1 : ¬ w = 1 := fun h9 => by rw [h9] at h1; revert h1; decide
    have n1_2 : ¬ w = 2 := fun h9 => by rw [h9] at h1; revert h1; decide
    have n1_3 : ¬ w = 3 := fun h9 => by rw [h9] at h1; revert h1; decide
    have n1_4 : ¬ w = 4 := fun h9 => by rw [h9] at h1; revert h1; decide
    have n1_5 : ¬ w = 5 := fun h9 => by rw [h9] at h1; revert h1; decide
    have n1_6 : ¬ w = 6 := fun h9 => by rw [h9] at h1; revert h1; decide
    have n1_7 : ¬ w = 7 := fun h9 => by rw [h9] at h1; revert h1; decide
    have n1_8 : ¬ w = 8 := fun h9 => by rw [h9] at h1; revert h1; decide
    have n1_9 : ¬ w = 9 := fun h9 => by rw [h9] at h1; revert h1; decide
    refine lv_iconst (v := (-1)) hx hb d_MA_view_106 (by decide) ?_
    exact W.iret (v := (-1)) hx hb hr (fun t ht hW => ⟨(-1), rfl, by first | (simp only [vwI, n1_0, n1_1, n1_2, n1_3, n1_4, n1_5, n1_6, n1_7, n1_8, n1_9, ↓reduceIte, not_true_eq_false, not_false_eq_true, and_true, true_and, and_false, false_and, and_self, or_true, true_or, or_false, false_or, decide_true, decide_false, Bool.false_eq_true, reduceCtorEq]; done) | (simp_all [vwI]; done), ht.trans hH0.symm⟩) (fun _ h9 => absurd h9 List.not_mem_nil) d_MA_view_107
  · match j1, hj1, h1 with
    | 0, _, h1 =>
      have h1 : w = 0 := h1
      refine lv_tableIn (off := 55) (tgt := 56) hx hb d_MA_view_1 (by rw [h1]; decide) (by rw [h1]; decide) (by rw [h1]; rfl) rfl ?_
      refine lv_aload_n hx hb d_MA_view_56 rfl (lv_at hl 0 rfl) ?_
      refine va_get (D := D) (ci := 4) (v := .int a) (C := R_SM) (T := T_SM) (N := 12) hx hb hts iw_SM hown hK hP 0 rfl rfl 1 (by decide) (hts _ k_110) (fun _ h9 => h9) rfl d_MA_view_57 ?_
      exact W.iret (v := a) hx hb hr (fun t ht hW => ⟨a, rfl, by rw [h1]; rfl, ht.trans hH0.symm⟩) (fun _ h9 => absurd h9 List.not_mem_nil) d_MA_view_60
    | 1, _, h1 =>
      have h1 : w = 1 := h1
      refine lv_tableIn (off := 60) (tgt := 61) hx hb d_MA_view_1 (by rw [h1]; decide) (by rw [h1]; decide) (by rw [h1]; rfl) rfl ?_
      refine lv_aload_n hx hb d_MA_view_61 rfl (lv_at hl 0 rfl) ?_
      refine va_get (D := D) (ci := 4) (v := .int x) (C := R_SM) (T := T_SM) (N := 12) hx hb hts iw_SM hown hK hP 0 rfl rfl 2 (by decide) (hts _ k_115) (fun _ h9 => h9) rfl d_MA_view_62 ?_
      exact W.iret (v := x) hx hb hr (fun t ht hW => ⟨x, rfl, by rw [h1]; rfl, ht.trans hH0.symm⟩) (fun _ h9 => absurd h9 List.not_mem_nil) d_MA_view_65
    | 2, _, h1 =>
      have h1 : w = 2 := h1
      refine lv_tableIn (off := 65) (tgt := 66) hx hb d_MA_view_1 (by rw [h1]; decide) (by rw [h1]; decide) (by rw [h1]; rfl) rfl ?_
      refine lv_aload_n hx hb d_MA_view_66 rfl (lv_at hl 0 rfl) ?_
      refine va_get (D := D) (ci := 4) (v := .int sp) (C := R_SM) (T := T_SM) (N := 12) hx hb hts iw_SM hown hK hP 0 rfl rfl 3 (by decide) (hts _ k_120) (fun _ h9 => h9) rfl d_MA_view_67 ?_
      exact W.iret (v := sp) hx hb hr (fun t ht hW => ⟨sp, rfl, by rw [h1]; rfl, ht.trans hH0.symm⟩) (fun _ h9 => absurd h9 List.not_mem_nil) d_MA_view_70
    | 3, _, h1 =>
      have h1 : w = 3 := h1
      refine lv_tableIn (off := 70) (tgt := 71) hx hb d_MA_view_1 (by rw [h1]; decide) (by rw [h1]; decide) (by rw [h1]; rfl) rfl ?_
      refine lv_aload_n hx hb d_MA_view_71 rfl (lv_at hl 0 rfl) ?_
      refine va_get (D := D) (ci := 4) (v := .int pc) (C := R_SM) (T := T_SM) (N := 12) hx hb hts iw_SM hown hK hP 0 rfl rfl 4 (by decide) (hts _ k_125) (fun _ h9 => h9) rfl d_MA_view_72 ?_
      exact W.iret (v := pc) hx hb hr (fun t ht hW => ⟨pc, rfl, by rw [h1]; rfl, ht.trans hH0.symm⟩) (fun _ h9 => absurd h9 List.not_mem_nil) d_MA_view_75
    | 4, _, h1 =>
      have h1 : w = 4 := h1
      refine lv_tableIn (off := 75) (tgt := 76) hx hb d_MA_view_1 (by rw [h1]; decide) (by rw [h1]; decide) (by rw [h1]; rfl) rfl ?_
      refine lv_aload_n hx hb d_MA_view_76 rfl (lv_at hl 0 rfl) ?_
      refine va_get (D := D) (ci := 4) (v := .int (bI zf)) (C := R_SM) (T := T_SM) (N := 12) hx hb hts iw_SM hown hK hP 0 rfl rfl 5 (by decide) (hts _ k_128) (fun _ h9 => h9) rfl d_MA_view_77 ?_
      have hPc := hP.sub (ws' := []) [] rfl
      refine vp_callSi (va_runSN (As := [.int (bI zf)]) (rest := []) ⟨hx, hb, hml, hown, hts⟩ (m_bit l D cI cZ zf) ⟨va_cnB 1 hts (gdt k_286) rfl rfl rfl (nw_8 hN) (hts _ k_56) hd_TM_bit ⟨Nat.le_of_ble_eq_true rfl, Nat.le_of_ble_eq_true rfl⟩, hts _ k_285, trivial⟩ (PcR.preS hPc hK hN) rfl rfl hl.1 rfl (lv_room (Nat.le_of_ble_eq_true rfl)) d_MA_view_80 ⟨Nat.le_of_ble_eq_true rfl, Nat.le_of_ble_eq_true rfl⟩).run (fun r80 e80 => ?_)
      replace e80 := e80.symm
      subst e80
      exact W.iret (v := (bI zf)) hx hb hr (fun t ht hW => ⟨(bI zf), rfl, by rw [h1]; rfl, ht.trans hH0.symm⟩) (fun _ h9 => absurd h9 List.not_mem_nil) d_MA_view_83
    | 5, _, h1 =>
      have h1 : w = 5 := h1
      refine lv_tableIn (off := 83) (tgt := 84) hx hb d_MA_view_1 (by rw [h1]; decide) (by rw [h1]; decide) (by rw [h1]; rfl) rfl ?_
      refine lv_aload_n hx hb d_MA_view_84 rfl (lv_at hl 0 rfl) ?_
      refine va_get (D := D) (ci := 4) (v := .int (bI cf)) (C := R_SM) (T := T_SM) (N := 12) hx hb hts iw_SM hown hK hP 0 rfl rfl 6 (by decide) (hts _ k_133) (fun _ h9 => h9) rfl d_MA_view_85 ?_
      have hPc := hP.sub (ws' := []) [] rfl
      refine vp_callSi (va_runSN (As := [.int (bI cf)]) (rest := []) ⟨hx, hb, hml, hown, hts⟩ (m_bit l D cI cZ cf) ⟨va_cnB 1 hts (gdt k_286) rfl rfl rfl (nw_8 hN) (hts _ k_56) hd_TM_bit ⟨Nat.le_of_ble_eq_true rfl, Nat.le_of_ble_eq_true rfl⟩, hts _ k_285, trivial⟩ (PcR.preS hPc hK hN) rfl rfl hl.1 rfl (lv_room (Nat.le_of_ble_eq_true rfl)) d_MA_view_88 ⟨Nat.le_of_ble_eq_true rfl, Nat.le_of_ble_eq_true rfl⟩).run (fun r88 e88 => ?_)
      replace e88 := e88.symm
      subst e88
      exact W.iret (v := (bI cf)) hx hb hr (fun t ht hW => ⟨(bI cf), rfl, by rw [h1]; rfl, ht.trans hH0.symm⟩) (fun _ h9 => absurd h9 List.not_mem_nil) d_MA_view_91
    | 6, _, h1 =>
      have h1 : w = 6 := h1
      refine lv_tableIn (off := 91) (tgt := 92) hx hb d_MA_view_1 (by rw [h1]; decide) (by rw [h1]; decide) (by rw [h1]; rfl) rfl ?_
      refine lv_aload_n hx hb d_MA_view_92 rfl (lv_at hl 0 rfl) ?_
      refine va_get (D := D) (ci := 4) (v := .int st) (C := R_SM) (T := T_SM) (N := 12) hx hb hts iw_SM hown hK hP 0 rfl rfl 7 (by decide) (hts _ k_142) (fun _ h9 => h9) rfl d_MA_view_93 ?_
      exact W.iret (v := st) hx hb hr (fun t ht hW => ⟨st, rfl, by rw [h1]; rfl, ht.trans hH0.symm⟩) (fun _ h9 => absurd h9 List.not_mem_nil) d_MA_view_96
    | 7, _, h1 =>
      have h1 : w = 7 := h1
      refine lv_tableIn (off := 96) (tgt := 97) hx hb d_MA_view_1 (by rw [h1]; decide) (by rw [h1]; decide) (by rw [h1]; rfl) rfl ?_
      refine lv_aload_n hx hb d_MA_view_97 rfl (lv_at hl 0 rfl) ?_
      refine va_get (D := D) (ci := 4) (v := .int dn) (C := R_SM) (T := T_SM) (N := 12) hx hb hts iw_SM hown hK hP 0 rfl rfl 8 (by decide) (hts _ k_143) (fun _ h9 => h9) rfl d_MA_view_98 ?_
      exact W.iret (v := dn) hx hb hr (fun t ht hW => ⟨dn, rfl, by rw [h1]; rfl, ht.trans hH0.symm⟩) (fun _ h9 => absurd h9 List.not_mem_nil) d_MA_view_101
    | 8, _, h1 =>
      have h1 : w = 8 := h1
      refine lv_tableIn (off := 101) (tgt := 102) hx hb d_MA_view_1 (by rw [h1]; decide) (by rw [h1]; decide) (by rw [h1]; rfl) rfl ?_
      refine lv_iconst (v := 0) hx hb d_MA_view_102 (by decide) ?_
      exact W.iret (v := 0) hx hb hr (fun t ht hW => ⟨0, rfl, by rw [h1]; rfl, ht.trans hH0.symm⟩) (fun _ h9 => absurd h9 List.not_mem_nil) d_MA_view_103
    | 9, _, h1 =>
      have h1 : w = 9 := h1
      refine lv_tableIn (off := 103) (tgt := 104) hx hb d_MA_view_1 (by rw [h1]; decide) (by rw [h1]; decide) (by rw [h1]; rfl) rfl ?_
      refine lv_iconst (v := 0) hx hb d_MA_view_104 (by decide) ?_
      exact W.iret (v := 0) hx hb hr (fun t ht hW => ⟨0, rfl, by rw [h1]; rfl, ht.trans hH0.symm⟩) (fun _ h9 => absurd h9 List.not_mem_nil) d_MA_view_105
    | n + 10, h9, _ => exact absurd h9 (by omega)
set_option maxHeartbeats 4000000 in
set_option maxRecDepth 100000 in
theorem m_SM_view (l : Launch) (D : va_G) (cI cZ : ClassId) (o : Nat) (mm : Nat) (a : Int32) (x : Int32) (sp : Int32) (pc : Int32) (zf : Bool) (cf : Bool) (st : Int32) (dn : Int32) (pr : Nat) (r2 : Int32) (kp : Bool) (w : Int32) : MetR l y_SM_view w_SM_view { frames := 2, cells := 0, slots := 0, locals := 41 } D cI cZ [.ref o, .int w] [(o, .inr (4, [.ref mm, .int a, .int x, .int sp, .int pc, .int (bI zf), .int (bI cf), .int st, .int dn, .ref pr, .int r2, .int (bI kp)]))] (fun r => r = vwS w a x sp pc zf cf st dn r2 kp) := by
  refine ofR (cc := c_SM_view) (maxL := 2) (ret := (some .int)) (by decide) rfl (Nat.le_of_ble_eq_true rfl) ?_
  intro p e s m args below meth c H hH0 hx hb hr hlocks hts hown hml ls hl hP hK hN
  have hown : s.vm.findClass R_SM = some m.cls := hown
  have hl : lv_has ls 2 [(0, .ref o), (1, .int w)] := hl
  refine lv_iload_n hx hb d_SM_view_0 rfl (lv_at hl 1 rfl) ?_
  refine lv_bipush (v := 8) hx hb d_SM_view_1 (by decide) ?_
  refine lv_icmp_ne (tgt := 11) hx hb d_SM_view_3 rfl (fun h3 => ?_) (fun h3 => ?_)
  · refine lv_iload_n hx hb d_SM_view_11 rfl (lv_at hl 1 rfl) ?_
    refine lv_bipush (v := 9) hx hb d_SM_view_12 (by decide) ?_
    refine lv_icmp_ne (tgt := 27) hx hb d_SM_view_14 rfl (fun h14 => ?_) (fun h14 => ?_)
    · refine lv_aload_n hx hb d_SM_view_27 rfl (lv_at hl 0 rfl) ?_
      refine lv_iload_n hx hb d_SM_view_28 rfl (lv_at hl 1 rfl) ?_
      have hPc := hP.sub (ws' := [(o, .inr (4, [.ref mm, .int a, .int x, .int sp, .int pc, .int (bI zf), .int (bI cf), .int st, .int dn, .ref pr, .int r2, .int (bI kp)]))]) [0] rfl
      refine vp_callSi (va_runSU (hK.1 4 _ rfl).2 (As := [.int w]) (rest := []) ⟨hx, hb, hml, hown, hts⟩ (m_SM_view0 l D cI cZ o mm a x sp pc zf cf st dn pr r2 kp w) (va_cwSU 1 hts (gSU k_287 k_279 k_214 k_278 k_58 k_288) rfl rfl rfl ⟨by decide, hd_MA_view.2.2⟩ ⟨Nat.le_of_ble_eq_true rfl, Nat.le_of_ble_eq_true rfl⟩) (PcR.preV (va_recv hK hP (q0 := 0) (ci := 4) rfl rfl) hPc hK hN) rfl rfl hl.1 rfl (lv_room (Nat.le_of_ble_eq_true rfl)) d_SM_view_29 ⟨Nat.le_of_ble_eq_true rfl, Nat.le_of_ble_eq_true rfl⟩).run (fun r29 e29 => ?_)
      replace e29 := e29.symm
      subst e29
      exact W.iret (v := (vwI w a x sp pc zf cf st dn)) hx hb hr (fun t ht hW => ⟨(vwI w a x sp pc zf cf st dn), rfl, by rw [vwS, if_neg h3, if_neg h14], ht.trans hH0.symm⟩) (fun _ h9 => absurd h9 List.not_mem_nil) d_SM_view_32
    · refine lv_aload_n hx hb d_SM_view_17 rfl (lv_at hl 0 rfl) ?_
      refine va_get (D := D) (ci := 4) (v := .int (bI kp)) (C := R_SM) (T := T_SM) (N := 12) hx hb hts iw_SM hown hK hP 0 rfl rfl 11 (by decide) (hts _ k_198) (fun _ h9 => h9) rfl d_SM_view_18 ?_
      have hPc := hP.sub (ws' := []) [] rfl
      refine vp_callSi (va_runSN (As := [.int (bI kp)]) (rest := []) ⟨hx, hb, hml, hown, hts⟩ (m_bit l D cI cZ kp) ⟨va_cnB 1 hts (gdt k_286) rfl rfl rfl (nw_7 hN) (hts _ k_56) hd_TM_bit ⟨Nat.le_of_ble_eq_true rfl, Nat.le_of_ble_eq_true rfl⟩, hts _ k_285, trivial⟩ (PcR.preS hPc hK hN) rfl rfl hl.1 rfl (lv_room (Nat.le_of_ble_eq_true rfl)) d_SM_view_21 ⟨Nat.le_of_ble_eq_true rfl, Nat.le_of_ble_eq_true rfl⟩).run (fun r21 e21 => ?_)
      replace e21 := e21.symm
      subst e21
      refine lv_goto (tgt := 32) hx hb d_SM_view_24 rfl ?_
      exact W.iret (v := (bI kp)) hx hb hr (fun t ht hW => ⟨(bI kp), rfl, by rw [vwS, if_neg h3, if_pos h14], ht.trans hH0.symm⟩) (fun _ h9 => absurd h9 List.not_mem_nil) d_SM_view_32
  · refine lv_aload_n hx hb d_SM_view_6 rfl (lv_at hl 0 rfl) ?_
    refine va_get (D := D) (ci := 4) (v := .int r2) (C := R_SM) (T := T_SM) (N := 12) hx hb hts iw_SM hown hK hP 0 rfl rfl 10 (by decide) (hts _ k_197) (fun _ h9 => h9) rfl d_SM_view_7 ?_
    exact W.iret (v := r2) hx hb hr (fun t ht hW => ⟨r2, rfl, by rw [vwS, if_pos h3], ht.trans hH0.symm⟩) (fun _ h9 => absurd h9 List.not_mem_nil) d_SM_view_10
