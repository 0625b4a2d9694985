set_option maxHeartbeats 4000000 in
set_option maxRecDepth 100000 in
theorem m_isByte (l : Launch) (D : va_G) (cI cZ : ClassId) (v : Int32) : MetR l y_TM_isByte w_TM_isByte { frames := 0, cells := 0, slots := 0, locals := 0 } D cI cZ [.int v] [] (fun r => r = bI (isByteB v)) := by
  refine ofR (cc := c_TM_isByte) (maxL := 1) (ret := (some .boolean)) (by decide) rfl (Nat.le_of_ble_eq_true rfl) ?_
  intro p e s m args below meth c H hH0 hx hb hr hlocks hts hown hml ls hl hP hK hN
  have hown : s.vm.findClass R_TM = some m.cls := hown
  have hl : lv_has ls 1 [(0, .int v)] := hl
  refine lv_iload_n hx hb d_TM_isByte_0 rfl (lv_at hl 0 rfl) ?_
  refine lv_if_lt (tgt := 15) hx hb d_TM_isByte_1 rfl (fun h1 => ?_) (fun h1 => ?_)
  · refine lv_iconst (v := 0) hx hb d_TM_isByte_15 (by decide) ?_
    exact W.zret (v := (bI false)) hx hb hr (nb_n _) (fun t ht hW => ⟨(bI false), rfl, by first | (simp only [isByteB, h1, ↓reduceIte, not_true_eq_false, not_false_eq_true, and_true, true_and, and_false, false_and, and_self, or_true, true_or, or_false, false_or, decide_true, decide_false, Bool.false_eq_true, reduceCtorEq]; done) | (simp_all [isByteB]; done), ht.trans hH0.symm⟩) (fun _ h9 => absurd h9 List.not_mem_nil) d_TM_isByte_16
  · refine lv_iload_n hx hb d_TM_isByte_4 rfl (lv_at hl 0 rfl) ?_
    refine lv_sipush (v := 255) hx hb d_TM_isByte_5 (by decide) ?_
    refine lv_icmp_gt (tgt := 15) hx hb d_TM_isByte_8 rfl (fun h8 => ?_) (fun h8 => ?_)
    · refine lv_iconst (v := 0) hx hb d_TM_isByte_15 (by decide) ?_
      exact W.zret (v := (bI false)) hx hb hr (nb_n _) (fun t ht hW => ⟨(bI false), rfl, by first | (simp only [isByteB, h1, h8, ↓reduceIte, not_true_eq_false, not_false_eq_true, and_true, true_and, and_false, false_and, and_self, or_true, true_or, or_false, false_or, decide_true, decide_false, Bool.false_eq_true, reduceCtorEq]; done) | (simp_all [isByteB]; done), ht.trans hH0.symm⟩) (fun _ h9 => absurd h9 List.not_mem_nil) d_TM_isByte_16
    · refine lv_iconst (v := 1) hx hb d_TM_isByte_11 (by decide) ?_
      refine lv_goto (tgt := 16) hx hb d_TM_isByte_12 rfl ?_
      exact W.zret (v := (bI true)) hx hb hr (nb_n _) (fun t ht hW => ⟨(bI true), rfl, by first | (simp only [isByteB, h1, h8, ↓reduceIte, not_true_eq_false, not_false_eq_true, and_true, true_and, and_false, false_and, and_self, or_true, true_or, or_false, false_or, decide_true, decide_false, Bool.false_eq_true, reduceCtorEq]; done) | (simp_all [isByteB]; done), ht.trans hH0.symm⟩) (fun _ h9 => absurd h9 List.not_mem_nil) d_TM_isByte_16
set_option maxHeartbeats 4000000 in
set_option maxRecDepth 100000 in
theorem m_bit (l : Launch) (D : va_G) (cI cZ : ClassId) (b : Bool) : MetR l y_TM_bit w_TM_bit { frames := 0, cells := 0, slots := 0, locals := 0 } D cI cZ [.int (bI b)] [] (fun r => r = bI b) := by
  refine ofR (cc := c_TM_bit) (maxL := 1) (ret := (some .int)) (by decide) rfl (Nat.le_of_ble_eq_true rfl) ?_
  intro p e s m args below meth c H hH0 hx hb hr hlocks hts hown hml ls hl hP hK hN
  have hown : s.vm.findClass R_TM = some m.cls := hown
  have hl : lv_has ls 1 [(0, .int (bI b))] := hl
  refine lv_iload_n hx hb d_TM_bit_0 rfl (lv_at hl 0 rfl) ?_
  refine lv_if_eq (tgt := 8) hx hb d_TM_bit_1 rfl (fun h1 => ?_) (fun h1 => ?_)
  · have h1 : b = false := bI_f h1
    refine lv_iconst (v := 0) hx hb d_TM_bit_8 (by decide) ?_
    exact W.iret (v := 0) hx hb hr (fun t ht hW => ⟨0, rfl, by rw [h1]; rfl, ht.trans hH0.symm⟩) (fun _ h9 => absurd h9 List.not_mem_nil) d_TM_bit_9
  · have h1 : b = true := bI_t h1
    refine lv_iconst (v := 1) hx hb d_TM_bit_4 (by decide) ?_
    refine lv_goto (tgt := 9) hx hb d_TM_bit_5 rfl ?_
    exact W.iret (v := 1) hx hb hr (fun t ht hW => ⟨1, rfl, by rw [h1]; rfl, ht.trans hH0.symm⟩) (fun _ h9 => absurd h9 List.not_mem_nil) d_TM_bit_9
set_option maxHeartbeats 4000000 in
set_option maxRecDepth 100000 in
theorem m_isUnk (l : Launch) (D : va_G) (cI cZ : ClassId) (o : Int32) : MetR l y_FO_isUnknown w_FO_isUnknown { frames := 0, cells := 0, slots := 0, locals := 0 } D cI cZ [.int o] [] (fun r => r = bI (isUnkB o)) := by
  refine ofR (cc := c_FO_isUnknown) (maxL := 1) (ret := (some .boolean)) (by decide) rfl (Nat.le_of_ble_eq_true rfl) ?_
  intro p e s m args below meth c H hH0 hx hb hr hlocks hts hown hml ls hl hP hK hN
  have hown : s.vm.findClass R_FO = some m.cls := hown
  have hl : lv_has ls 1 [(0, .int o)] := hl
  refine lv_iload_n hx hb d_FO_isUnknown_0 rfl (lv_at hl 0 rfl) ?_
  refine lv_bipush (v := 31) hx hb d_FO_isUnknown_1 (by decide) ?_
  refine lv_icmp_le (tgt := 10) hx hb d_FO_isUnknown_3 rfl (fun h3 => ?_) (fun h3 => ?_)
  · refine lv_iconst (v := 0) hx hb d_FO_isUnknown_10 (by decide) ?_
    exact W.zret (v := (bI false)) hx hb hr (nb_n _) (fun t ht hW => ⟨(bI false), rfl, by first | (simp only [isUnkB, h3, ↓reduceIte, not_true_eq_false, not_false_eq_true, and_true, true_and, and_false, false_and, and_self, or_true, true_or, or_false, false_or, decide_true, decide_false, Bool.false_eq_true, reduceCtorEq]; done) | (simp_all [isUnkB]; done), ht.trans hH0.symm⟩) (fun _ h9 => absurd h9 List.not_mem_nil) d_FO_isUnknown_11
  · refine lv_iconst (v := 1) hx hb d_FO_isUnknown_6 (by decide) ?_
    refine lv_goto (tgt := 11) hx hb d_FO_isUnknown_7 rfl ?_
    exact W.zret (v := (bI true)) hx hb hr (nb_n _) (fun t ht hW => ⟨(bI true), rfl, by first | (simp only [isUnkB, h3, ↓reduceIte, not_true_eq_false, not_false_eq_true, and_true, true_and, and_false, false_and, and_self, or_true, true_or, or_false, false_or, decide_true, decide_false, Bool.false_eq_true, reduceCtorEq]; done) | (simp_all [isUnkB]; done), ht.trans hH0.symm⟩) (fun _ h9 => absurd h9 List.not_mem_nil) d_FO_isUnknown_11
set_option maxHeartbeats 4000000 in
set_option maxRecDepth 100000 in
theorem m_hasT (l : Launch) (D : va_G) (cI cZ : ClassId) (o : Int32) : MetR l y_FO_hasTarget w_FO_hasTarget { frames := 0, cells := 0, slots := 0, locals := 0 } D cI cZ [.int o] [] (fun r => r = bI (hasTB o)) := by
  refine ofR (cc := c_FO_hasTarget) (maxL := 1) (ret := (some .boolean)) (by decide) rfl (Nat.le_of_ble_eq_true rfl) ?_
  intro p e s m args below meth c H hH0 hx hb hr hlocks hts hown hml ls hl hP hK hN
  have hown : s.vm.findClass R_FO = some m.cls := hown
  have hl : lv_has ls 1 [(0, .int o)] := hl
  refine lv_iload_n hx hb d_FO_hasTarget_0 rfl (lv_at hl 0 rfl) ?_
  refine lv_bipush (v := 22) hx hb d_FO_hasTarget_1 (by decide) ?_
  refine lv_icmp_lt (tgt := 16) hx hb d_FO_hasTarget_3 rfl (fun h3 => ?_) (fun h3 => ?_)
  · refine lv_iconst (v := 0) hx hb d_FO_hasTarget_16 (by decide) ?_
    exact W.zret (v := (bI false)) hx hb hr (nb_n _) (fun t ht hW => ⟨(bI false), rfl, by first | (simp only [hasTB, h3, ↓reduceIte, not_true_eq_false, not_false_eq_true, and_true, true_and, and_false, false_and, and_self, or_true, true_or, or_false, false_or, decide_true, decide_false, Bool.false_eq_true, reduceCtorEq]; done) | (simp_all [hasTB]; done), ht.trans hH0.symm⟩) (fun _ h9 => absurd h9 List.not_mem_nil) d_FO_hasTarget_17
  · refine lv_iload_n hx hb d_FO_hasTarget_6 rfl (lv_at hl 0 rfl) ?_
    refine lv_bipush (v := 27) hx hb d_FO_hasTarget_7 (by decide) ?_
    refine lv_icmp_gt (tgt := 16) hx hb d_FO_hasTarget_9 rfl (fun h9 => ?_) (fun h9 => ?_)
    · refine lv_iconst (v := 0) hx hb d_FO_hasTarget_16 (by decide) ?_
      exact W.zret (v := (bI false)) hx hb hr (nb_n _) (fun t ht hW => ⟨(bI false), rfl, by first | (simp only [hasTB, h3, h9, ↓reduceIte, not_true_eq_false, not_false_eq_true, and_true, true_and, and_false, false_and, and_self, or_true, true_or, or_false, false_or, decide_true, decide_false, Bool.false_eq_true, reduceCtorEq]; done) | (simp_all [hasTB]; done), ht.trans hH0.symm⟩) (fun _ h9 => absurd h9 List.not_mem_nil) d_FO_hasTarget_17
    · refine lv_iconst (v := 1) hx hb d_FO_hasTarget_12 (by decide) ?_
      refine lv_goto (tgt := 17) hx hb d_FO_hasTarget_13 rfl ?_
      exact W.zret (v := (bI true)) hx hb hr (nb_n _) (fun t ht hW => ⟨(bI true), rfl, by first | (simp only [hasTB, h3, h9, ↓reduceIte, not_true_eq_false, not_false_eq_true, and_true, true_and, and_false, false_and, and_self, or_true, true_or, or_false, false_or, decide_true, decide_false, Bool.false_eq_true, reduceCtorEq]; done) | (simp_all [hasTB]; done), ht.trans hH0.symm⟩) (fun _ h9 => absurd h9 List.not_mem_nil) d_FO_hasTarget_17
set_option maxHeartbeats 4000000 in
set_option maxRecDepth 100000 in
theorem m_hasS (l : Launch) (D : va_G) (cI cZ : ClassId) (o : Int32) : MetR l y_SO_hasTarget w_SO_hasTarget { frames := 0, cells := 0, slots := 0, locals := 0 } D cI cZ [.int o] [] (fun r => r = bI (hasSB o)) := by
  refine ofR (cc := c_SO_hasTarget) (maxL := 1) (ret := (some .boolean)) (by decide) rfl (Nat.le_of_ble_eq_true rfl) ?_
  intro p e s m args below meth c H hH0 hx hb hr hlocks hts hown hml ls hl hP hK hN
  have hown : s.vm.findClass R_SO = some m.cls := hown
  have hl : lv_has ls 1 [(0, .int o)] := hl
  refine lv_iload_n hx hb d_SO_hasTarget_0 rfl (lv_at hl 0 rfl) ?_
  refine lv_bipush (v := 19) hx hb d_SO_hasTarget_1 (by decide) ?_
  refine lv_icmp_lt (tgt := 16) hx hb d_SO_hasTarget_3 rfl (fun h3 => ?_) (fun h3 => ?_)
  · refine lv_iconst (v := 0) hx hb d_SO_hasTarget_16 (by decide) ?_
    exact W.zret (v := (bI false)) hx hb hr (nb_n _) (fun t ht hW => ⟨(bI false), rfl, by first | (simp only [hasSB, h3, ↓reduceIte, not_true_eq_false, not_false_eq_true, and_true, true_and, and_false, false_and, and_self, or_true, true_or, or_false, false_or, decide_true, decide_false, Bool.false_eq_true, reduceCtorEq]; done) | (simp_all [hasSB]; done), ht.trans hH0.symm⟩) (fun _ h9 => absurd h9 List.not_mem_nil) d_SO_hasTarget_17
  · refine lv_iload_n hx hb d_SO_hasTarget_6 rfl (lv_at hl 0 rfl) ?_
    refine lv_bipush (v := 23) hx hb d_SO_hasTarget_7 (by decide) ?_
    refine lv_icmp_gt (tgt := 16) hx hb d_SO_hasTarget_9 rfl (fun h9 => ?_) (fun h9 => ?_)
    · refine lv_iconst (v := 0) hx hb d_SO_hasTarget_16 (by decide) ?_
      exact W.zret (v := (bI false)) hx hb hr (nb_n _) (fun t ht hW => ⟨(bI false), rfl, by first | (simp only [hasSB, h3, h9, ↓reduceIte, not_true_eq_false, not_false_eq_true, and_true, true_and, and_false, false_and, and_self, or_true, true_or, or_false, false_or, decide_true, decide_false, Bool.false_eq_true, reduceCtorEq]; done) | (simp_all [hasSB]; done), ht.trans hH0.symm⟩) (fun _ h9 => absurd h9 List.not_mem_nil) d_SO_hasTarget_17
    · refine lv_iconst (v := 1) hx hb d_SO_hasTarget_12 (by decide) ?_
      refine lv_goto (tgt := 17) hx hb d_SO_hasTarget_13 rfl ?_
      exact W.zret (v := (bI true)) hx hb hr (nb_n _) (fun t ht hW => ⟨(bI true), rfl, by first | (simp only [hasSB, h3, h9, ↓reduceIte, not_true_eq_false, not_false_eq_true, and_true, true_and, and_false, false_and, and_self, or_true, true_or, or_false, false_or, decide_true, decide_false, Bool.false_eq_true, reduceCtorEq]; done) | (simp_all [hasSB]; done), ht.trans hH0.symm⟩) (fun _ h9 => absurd h9 List.not_mem_nil) d_SO_hasTarget_17
set_option maxHeartbeats 4000000 in
set_option maxRecDepth 100000 in
theorem m_beh (l : Launch) (D : va_G) (cI cZ : ClassId) (o : Int32) : MetR l y_FO_reachesBehind w_FO_reachesBehind { frames := 0, cells := 0, slots := 0, locals := 0 } D cI cZ [.int o] [] (fun r => r = bI (behB o)) := by
  refine ofR (cc := c_FO_reachesBehind) (maxL := 1) (ret := (some .boolean)) (by decide) rfl (Nat.le_of_ble_eq_true rfl) ?_
  intro p e s m args below meth c H hH0 hx hb hr hlocks hts hown hml ls hl hP hK hN
  have hown : s.vm.findClass R_FO = some m.cls := hown
  have hl : lv_has ls 1 [(0, .int o)] := hl
  refine lv_iload_n hx hb d_FO_reachesBehind_0 rfl (lv_at hl 0 rfl) ?_
  refine lv_iconst (v := 1) hx hb d_FO_reachesBehind_1 (by decide) ?_
  refine lv_icmp_eq (tgt := 27) hx hb d_FO_reachesBehind_2 rfl (fun h2 => ?_) (fun h2 => ?_)
  · refine lv_iconst (v := 0) hx hb d_FO_reachesBehind_27 (by decide) ?_
    exact W.zret (v := (bI false)) hx hb hr (nb_n _) (fun t ht hW => ⟨(bI false), rfl, by first | (simp only [behB, h2, ↓reduceIte, not_true_eq_false, not_false_eq_true, and_true, true_and, and_false, false_and, and_self, or_true, true_or, or_false, false_or, decide_true, decide_false, Bool.false_eq_true, reduceCtorEq]; done) | (simp_all [behB]; done), ht.trans hH0.symm⟩) (fun _ h9 => absurd h9 List.not_mem_nil) d_FO_reachesBehind_28
  · refine lv_iload_n hx hb d_FO_reachesBehind_5 rfl (lv_at hl 0 rfl) ?_
    refine lv_bipush (v := 22) hx hb d_FO_reachesBehind_6 (by decide) ?_
    refine lv_icmp_eq (tgt := 27) hx hb d_FO_reachesBehind_8 rfl (fun h8 => ?_) (fun h8 => ?_)
    · refine lv_iconst (v := 0) hx hb d_FO_reachesBehind_27 (by decide) ?_
      exact W.zret (v := (bI false)) hx hb hr (nb_n _) (fun t ht hW => ⟨(bI false), rfl, by first | (simp only [behB, h2, h8, ↓reduceIte, not_true_eq_false, not_false_eq_true, and_true, true_and, and_false, false_and, and_self, or_true, true_or, or_false, false_or, decide_true, decide_false, Bool.false_eq_true, reduceCtorEq]; done) | (simp_all [behB]; done), ht.trans hH0.symm⟩) (fun _ h9 => absurd h9 List.not_mem_nil) d_FO_reachesBehind_28
    · refine lv_iload_n hx hb d_FO_reachesBehind_11 rfl (lv_at hl 0 rfl) ?_
      refine lv_bipush (v := 28) hx hb d_FO_reachesBehind_12 (by decide) ?_
      refine lv_icmp_eq (tgt := 27) hx hb d_FO_reachesBehind_14 rfl (fun h14 => ?_) (fun h14 => ?_)
      · refine lv_iconst (v := 0) hx hb d_FO_reachesBehind_27 (by decide) ?_
        exact W.zret (v := (bI false)) hx hb hr (nb_n _) (fun t ht hW => ⟨(bI false), rfl, by first | (simp only [behB, h2, h8, h14, ↓reduceIte, not_true_eq_false, not_false_eq_true, and_true, true_and, and_false, false_and, and_self, or_true, true_or, or_false, false_or, decide_true, decide_false, Bool.false_eq_true, reduceCtorEq]; done) | (simp_all [behB]; done), ht.trans hH0.symm⟩) (fun _ h9 => absurd h9 List.not_mem_nil) d_FO_reachesBehind_28
      · refine lv_iload_n hx hb d_FO_reachesBehind_17 rfl (lv_at hl 0 rfl) ?_
        refine lv_bipush (v := 31) hx hb d_FO_reachesBehind_18 (by decide) ?_
        refine lv_icmp_eq (tgt := 27) hx hb d_FO_reachesBehind_20 rfl (fun h20 => ?_) (fun h20 => ?_)
        · refine lv_iconst (v := 0) hx hb d_FO_reachesBehind_27 (by decide) ?_
          exact W.zret (v := (bI false)) hx hb hr (nb_n _) (fun t ht hW => ⟨(bI false), rfl, by first | (simp only [behB, h2, h8, h14, h20, ↓reduceIte, not_true_eq_false, not_false_eq_true, and_true, true_and, and_false, false_and, and_self, or_true, true_or, or_false, false_or, decide_true, decide_false, Bool.false_eq_true, reduceCtorEq]; done) | (simp_all [behB]; done), ht.trans hH0.symm⟩) (fun _ h9 => absurd h9 List.not_mem_nil) d_FO_reachesBehind_28
        · refine lv_iconst (v := 1) hx hb d_FO_reachesBehind_23 (by decide) ?_
          refine lv_goto (tgt := 28) hx hb d_FO_reachesBehind_24 rfl ?_
          exact W.zret (v := (bI true)) hx hb hr (nb_n _) (fun t ht hW => ⟨(bI true), rfl, by first | (simp only [behB, h2, h8, h14, h20, ↓reduceIte, not_true_eq_false, not_false_eq_true, and_true, true_and, and_false, false_and, and_self, or_true, true_or, or_false, false_or, decide_true, decide_false, Bool.false_eq_true, reduceCtorEq]; done) | (simp_all [behB]; done), ht.trans hH0.symm⟩) (fun _ h9 => absurd h9 List.not_mem_nil) d_FO_reachesBehind_28
set_option maxHeartbeats 4000000 in
set_option maxRecDepth 100000 in
theorem m_len (l : Launch) (D : va_G) (cI cZ : ClassId) (o : Int32) : MetR l y_FO_length w_FO_length { frames := 1, cells := 0, slots := 0, locals := 20 } D cI cZ [.int o] [] (fun r => r = lenI o) := by
  refine ofR (cc := c_FO_length) (maxL := 2) (ret := (some .int)) (by decide) rfl (Nat.le_of_ble_eq_true rfl) ?_
  intro p e s m args below meth c H hH0 hx hb hr hlocks hts hown hml ls hl hP hK hN
  have hown : s.vm.findClass R_FO = some m.cls := hown
  have hl : lv_has ls 2 [(0, .int o)] := hl
  refine lv_iload_n hx hb d_FO_length_0 rfl (lv_at hl 0 rfl) ?_
  refine lv_iconst (v := 2) hx hb d_FO_length_1 (by decide) ?_
  refine lv_icmp_lt (tgt := 11) hx hb d_FO_length_2 rfl (fun h2 => ?_) (fun h2 => ?_)
  · refine lv_iload_n hx hb d_FO_length_11 rfl (lv_at hl 0 rfl) ?_
    refine lv_bipush (v := 12) hx hb d_FO_length_12 (by decide) ?_
    refine lv_icmp_lt (tgt := 23) hx hb d_FO_length_14 rfl (fun h14 => ?_) (fun h14 => ?_)
    · refine lv_iload_n hx hb d_FO_length_23 rfl (lv_at hl 0 rfl) ?_
      have hPc := hP.sub (ws' := []) [] rfl
      refine vp_callSi (va_runS (As := [.int o]) (rest := []) ⟨hx, hb, hml, hown, hts⟩ (m_hasT l D cI cZ o) ⟨cB 1 hts k_404 k_67 k_402 hd_FO_hasTarget ⟨Nat.le_of_ble_eq_true rfl, Nat.le_of_ble_eq_true rfl⟩ rfl rfl, hts _ k_403⟩ (PcR.preS hPc hK hN) rfl rfl hl.1 rfl (lv_room (Nat.le_of_ble_eq_true rfl)) d_FO_length_24 ⟨Nat.le_of_ble_eq_true rfl, Nat.le_of_ble_eq_true rfl⟩).run (fun r24 e24 => ?_)
      replace e24 := e24.symm
      subst e24
      refine lv_if_eq (tgt := 34) hx hb d_FO_length_27 rfl (fun h27 => ?_) (fun h27 => ?_)
      · have h27 : hasTB o = false := bI_f h27
        refine lv_iconst (v := 0) hx hb d_FO_length_34 (by decide) ?_
        refine lv_istore_n hx hb d_FO_length_35 rfl hl (by decide) rfl (fun ls hl => ?_)
        have hl : lv_has ls 2 [(1, .int 0), (0, .int o)] := hl
        refine lv_iload_n hx hb d_FO_length_36 rfl (lv_at hl 0 rfl) ?_
        refine lv_if_eq (tgt := 44) hx hb d_FO_length_37 rfl (fun _ => ?_) (fun h9 => absurd (by decide) h9)
        refine lv_iconst (v := 1) hx hb d_FO_length_44 (by decide) ?_
        exact W.iret (v := 1) hx hb hr (fun t ht hW => ⟨1, rfl, by first | (simp only [lenI, h2, h14, h27, ↓reduceIte, not_true_eq_false, not_false_eq_true, and_true, true_and, and_false, false_and, and_self, or_true, true_or, or_false, false_or, decide_true, decide_false, Bool.false_eq_true, reduceCtorEq]; done) | (simp_all [lenI]; done), ht.trans hH0.symm⟩) (fun _ h9 => absurd h9 List.not_mem_nil) d_FO_length_45
      · have h27 : hasTB o = true := bI_t h27
        refine lv_iconst (v := 1) hx hb d_FO_length_30 (by decide) ?_
        refine lv_goto (tgt := 35) hx hb d_FO_length_31 rfl ?_
        refine lv_istore_n hx hb d_FO_length_35 rfl hl (by decide) rfl (fun ls hl => ?_)
        have hl : lv_has ls 2 [(1, .int 1), (0, .int o)] := hl
        refine lv_iload_n hx hb d_FO_length_36 rfl (lv_at hl 0 rfl) ?_
        refine lv_if_eq (tgt := 44) hx hb d_FO_length_37 rfl (fun h9 => absurd h9 (by decide)) (fun _ => ?_)
        refine lv_iconst (v := 2) hx hb d_FO_length_40 (by decide) ?_
        refine lv_goto (tgt := 45) hx hb d_FO_length_41 rfl ?_
        exact W.iret (v := 2) hx hb hr (fun t ht hW => ⟨2, rfl, by first | (simp only [lenI, h2, h14, h27, ↓reduceIte, not_true_eq_false, not_false_eq_true, and_true, true_and, and_false, false_and, and_self, or_true, true_or, or_false, false_or, decide_true, decide_false, Bool.false_eq_true, reduceCtorEq]; done) | (simp_all [lenI]; done), ht.trans hH0.symm⟩) (fun _ h9 => absurd h9 List.not_mem_nil) d_FO_length_45
    · refine lv_iload_n hx hb d_FO_length_17 rfl (lv_at hl 0 rfl) ?_
      refine lv_bipush (v := 19) hx hb d_FO_length_18 (by decide) ?_
      refine lv_icmp_le (tgt := 30) hx hb d_FO_length_20 rfl (fun h20 => ?_) (fun h20 => ?_)
      · refine lv_iconst (v := 1) hx hb d_FO_length_30 (by decide) ?_
        refine lv_goto (tgt := 35) hx hb d_FO_length_31 rfl ?_
        refine lv_istore_n hx hb d_FO_length_35 rfl hl (by decide) rfl (fun ls hl => ?_)
        have hl : lv_has ls 2 [(1, .int 1), (0, .int o)] := hl
        refine lv_iload_n hx hb d_FO_length_36 rfl (lv_at hl 0 rfl) ?_
        refine lv_if_eq (tgt := 44) hx hb d_FO_length_37 rfl (fun h9 => absurd h9 (by decide)) (fun _ => ?_)
        refine lv_iconst (v := 2) hx hb d_FO_length_40 (by decide) ?_
        refine lv_goto (tgt := 45) hx hb d_FO_length_41 rfl ?_
        exact W.iret (v := 2) hx hb hr (fun t ht hW => ⟨2, rfl, by first | (simp only [lenI, h2, h14, h20, ↓reduceIte, not_true_eq_false, not_false_eq_true, and_true, true_and, and_false, false_and, and_self, or_true, true_or, or_false, false_or, decide_true, decide_false, Bool.false_eq_true, reduceCtorEq]; done) | (simp_all [lenI]; done), ht.trans hH0.symm⟩) (fun _ h9 => absurd h9 List.not_mem_nil) d_FO_length_45
      · refine lv_iload_n hx hb d_FO_length_23 rfl (lv_at hl 0 rfl) ?_
        have hPc := hP.sub (ws' := []) [] rfl
        refine vp_callSi (va_runS (As := [.int o]) (rest := []) ⟨hx, hb, hml, hown, hts⟩ (m_hasT l D cI cZ o) ⟨cB 1 hts k_404 k_67 k_402 hd_FO_hasTarget ⟨Nat.le_of_ble_eq_true rfl, Nat.le_of_ble_eq_true rfl⟩ rfl rfl, hts _ k_403⟩ (PcR.preS hPc hK hN) rfl rfl hl.1 rfl (lv_room (Nat.le_of_ble_eq_true rfl)) d_FO_length_24 ⟨Nat.le_of_ble_eq_true rfl, Nat.le_of_ble_eq_true rfl⟩).run (fun r24 e24 => ?_)
        replace e24 := e24.symm
        subst e24
        refine lv_if_eq (tgt := 34) hx hb d_FO_length_27 rfl (fun h27 => ?_) (fun h27 => ?_)
        · have h27 : hasTB o = false := bI_f h27
          refine lv_iconst (v := 0) hx hb d_FO_length_34 (by decide) ?_
          refine lv_istore_n hx hb d_FO_length_35 rfl hl (by decide) rfl (fun ls hl => ?_)
          have hl : lv_has ls 2 [(1, .int 0), (0, .int o)] := hl
          refine lv_iload_n hx hb d_FO_length_36 rfl (lv_at hl 0 rfl) ?_
          refine lv_if_eq (tgt := 44) hx hb d_FO_length_37 rfl (fun _ => ?_) (fun h9 => absurd (by decide) h9)
          refine lv_iconst (v := 1) hx hb d_FO_length_44 (by decide) ?_
          exact W.iret (v := 1) hx hb hr (fun t ht hW => ⟨1, rfl, by first | (simp only [lenI, h2, h14, h20, h27, ↓reduceIte, not_true_eq_false, not_false_eq_true, and_true, true_and, and_false, false_and, and_self, or_true, true_or, or_false, false_or, decide_true, decide_false, Bool.false_eq_true, reduceCtorEq]; done) | (simp_all [lenI]; done), ht.trans hH0.symm⟩) (fun _ h9 => absurd h9 List.not_mem_nil) d_FO_length_45
        · have h27 : hasTB o = true := bI_t h27
          refine lv_iconst (v := 1) hx hb d_FO_length_30 (by decide) ?_
          refine lv_goto (tgt := 35) hx hb d_FO_length_31 rfl ?_
          refine lv_istore_n hx hb d_FO_length_35 rfl hl (by decide) rfl (fun ls hl => ?_)
          have hl : lv_has ls 2 [(1, .int 1), (0, .int o)] := hl
          refine lv_iload_n hx hb d_FO_length_36 rfl (lv_at hl 0 rfl) ?_
          refine lv_if_eq (tgt := 44) hx hb d_FO_length_37 rfl (fun h9 => absurd h9 (by decide)) (fun _ => ?_)
          refine lv_iconst (v := 2) hx hb d_FO_length_40 (by decide) ?_
          refine lv_goto (tgt := 45) hx hb d_FO_length_41 rfl ?_
          exact W.iret (v := 2) hx hb hr (fun t ht hW => ⟨2, rfl, by first | (simp only [lenI, h2, h14, h20, h27, ↓reduceIte, not_true_eq_false, not_false_eq_true, and_true, true_and, and_false, false_and, and_self, or_true, true_or, or_false, false_or, decide_true, decide_false, Bool.false_eq_true, reduceCtorEq]; done) | (simp_all [lenI]; done), ht.trans hH0.symm⟩) (fun _ h9 => absurd h9 List.not_mem_nil) d_FO_length_45
  · refine lv_iload_n hx hb d_FO_length_5 rfl (lv_at hl 0 rfl) ?_
    refine lv_bipush (v := 7) hx hb d_FO_length_6 (by decide) ?_
    refine lv_icmp_le (tgt := 30) hx hb d_FO_length_8 rfl (fun h8 => ?_) (fun h8 => ?_)
    · refine lv_iconst (v := 1) hx hb d_FO_length_30 (by decide) ?_
      refine lv_goto (tgt := 35) hx hb d_FO_length_31 rfl ?_
      refine lv_istore_n hx hb d_FO_length_35 rfl hl (by decide) rfl (fun ls hl => ?_)
      have hl : lv_has ls 2 [(1, .int 1), (0, .int o)] := hl
      refine lv_iload_n hx hb d_FO_length_36 rfl (lv_at hl 0 rfl) ?_
      refine lv_if_eq (tgt := 44) hx hb d_FO_length_37 rfl (fun h9 => absurd h9 (by decide)) (fun _ => ?_)
      refine lv_iconst (v := 2) hx hb d_FO_length_40 (by decide) ?_
      refine lv_goto (tgt := 45) hx hb d_FO_length_41 rfl ?_
      exact W.iret (v := 2) hx hb hr (fun t ht hW => ⟨2, rfl, by first | (simp only [lenI, h2, h8, ↓reduceIte, not_true_eq_false, not_false_eq_true, and_true, true_and, and_false, false_and, and_self, or_true, true_or, or_false, false_or, decide_true, decide_false, Bool.false_eq_true, reduceCtorEq]; done) | (simp_all [lenI]; done), ht.trans hH0.symm⟩) (fun _ h9 => absurd h9 List.not_mem_nil) d_FO_length_45
    · refine lv_iload_n hx hb d_FO_length_11 rfl (lv_at hl 0 rfl) ?_
      refine lv_bipush (v := 12) hx hb d_FO_length_12 (by decide) ?_
      refine lv_icmp_lt (tgt := 23) hx hb d_FO_length_14 rfl (fun h14 => ?_) (fun h14 => ?_)
      · refine lv_iload_n hx hb d_FO_length_23 rfl (lv_at hl 0 rfl) ?_
        have hPc := hP.sub (ws' := []) [] rfl
        refine vp_callSi (va_runS (As := [.int o]) (rest := []) ⟨hx, hb, hml, hown, hts⟩ (m_hasT l D cI cZ o) ⟨cB 1 hts k_404 k_67 k_402 hd_FO_hasTarget ⟨Nat.le_of_ble_eq_true rfl, Nat.le_of_ble_eq_true rfl⟩ rfl rfl, hts _ k_403⟩ (PcR.preS hPc hK hN) rfl rfl hl.1 rfl (lv_room (Nat.le_of_ble_eq_true rfl)) d_FO_length_24 ⟨Nat.le_of_ble_eq_true rfl, Nat.le_of_ble_eq_true rfl⟩).run (fun r24 e24 => ?_)
        replace e24 := e24.symm
        subst e24
        refine lv_if_eq (tgt := 34) hx hb d_FO_length_27 rfl (fun h27 => ?_) (fun h27 => ?_)
        · have h27 : hasTB o = false := bI_f h27
          refine lv_iconst (v := 0) hx hb d_FO_length_34 (by decide) ?_
          refine lv_istore_n hx hb d_FO_length_35 rfl hl (by decide) rfl (fun ls hl => ?_)
          have hl : lv_has ls 2 [(1, .int 0), (0, .int o)] := hl
          refine lv_iload_n hx hb d_FO_length_36 rfl (lv_at hl 0 rfl) ?_
          refine lv_if_eq (tgt := 44) hx hb d_FO_length_37 rfl (fun _ => ?_) (fun h9 => absurd (by decide) h9)
          refine lv_iconst (v := 1) hx hb d_FO_length_44 (by decide) ?_
          exact W.iret (v := 1) hx hb hr (fun t ht hW => ⟨1, rfl, by first | (simp only [lenI, h2, h8, h14, h27, ↓reduceIte, not_true_eq_false, not_false_eq_true, and_true, true_and, and_false, false_and, and_self, or_true, true_or, or_false, false_or, decide_true, decide_false, Bool.false_eq_true, reduceCtorEq]; done) | (simp_all [lenI]; done), ht.trans hH0.symm⟩) (fun _ h9 => absurd h9 List.not_mem_nil) d_FO_length_45
        · have h27 : hasTB o = true := bI_t h27
          refine lv_iconst (v := 1) hx hb d_FO_length_30 (by decide) ?_
          refine lv_goto (tgt := 35) hx hb d_FO_length_31 rfl ?_
          refine lv_istore_n hx hb d_FO_length_35 rfl hl (by decide) rfl (fun ls hl => ?_)
          have hl : lv_has ls 2 [(1, .int 1), (0, .int o)] := hl
          refine lv_iload_n hx hb d_FO_length_36 rfl (lv_at hl 0 rfl) ?_
          refine lv_if_eq (tgt := 44) hx hb d_FO_length_37 rfl (fun h9 => absurd h9 (by decide)) (fun _ => ?_)
          refine lv_iconst (v := 2) hx hb d_FO_length_40 (by decide) ?_
          refine lv_goto (tgt := 45) hx hb d_FO_length_41 rfl ?_
          exact W.iret (v := 2) hx hb hr (fun t ht hW => ⟨2, rfl, by first | (simp only [lenI, h2, h8, h14, h27, ↓reduceIte, not_true_eq_false, not_false_eq_true, and_true, true_and, and_false, false_and, and_self, or_true, true_or, or_false, false_or, decide_true, decide_false, Bool.false_eq_true, reduceCtorEq]; done) | (simp_all [lenI]; done), ht.trans hH0.symm⟩) (fun _ h9 => absurd h9 List.not_mem_nil) d_FO_length_45
      · refine lv_iload_n hx hb d_FO_length_17 rfl (lv_at hl 0 rfl) ?_
        refine lv_bipush (v := 19) hx hb d_FO_length_18 (by decide) ?_
        refine lv_icmp_le (tgt := 30) hx hb d_FO_length_20 rfl (fun h20 => ?_) (fun h20 => ?_)
        · refine lv_iconst (v := 1) hx hb d_FO_length_30 (by decide) ?_
          refine lv_goto (tgt := 35) hx hb d_FO_length_31 rfl ?_
          refine lv_istore_n hx hb d_FO_length_35 rfl hl (by decide) rfl (fun ls hl => ?_)
          have hl : lv_has ls 2 [(1, .int 1), (0, .int o)] := hl
          refine lv_iload_n hx hb d_FO_length_36 rfl (lv_at hl 0 rfl) ?_
          refine lv_if_eq (tgt := 44) hx hb d_FO_length_37 rfl (fun h9 => absurd h9 (by decide)) (fun _ => ?_)
          refine lv_iconst (v := 2) hx hb d_FO_length_40 (by decide) ?_
          refine lv_goto (tgt := 45) hx hb d_FO_length_41 rfl ?_
          exact W.iret (v := 2) hx hb hr (fun t ht hW => ⟨2, rfl, by first | (simp only [lenI, h2, h8, h14, h20, ↓reduceIte, not_true_eq_false, not_false_eq_true, and_true, true_and, and_false, false_and, and_self, or_true, true_or, or_false, false_or, decide_true, decide_false, Bool.false_eq_true, reduceCtorEq]; done) | (simp_all [lenI]; done), ht.trans hH0.symm⟩) (fun _ h9 => absurd h9 List.not_mem_nil) d_FO_length_45
        · refine lv_iload_n hx hb d_FO_length_23 rfl (lv_at hl 0 rfl) ?_
          have hPc := hP.sub (ws' := []) [] rfl
          refine vp_callSi (va_runS (As := [.int o]) (rest := []) ⟨hx, hb, hml, hown, hts⟩ (m_hasT l D cI cZ o) ⟨cB 1 hts k_404 k_67 k_402 hd_FO_hasTarget ⟨Nat.le_of_ble_eq_true rfl, Nat.le_of_ble_eq_true rfl⟩ rfl rfl, hts _ k_403⟩ (PcR.preS hPc hK hN) rfl rfl hl.1 rfl (lv_room (Nat.le_of_ble_eq_true rfl)) d_FO_length_24 ⟨Nat.le_of_ble_eq_true rfl, Nat.le_of_ble_eq_true rfl⟩).run (fun r24 e24 => ?_)
          replace e24 := e24.symm
          subst e24
          refine lv_if_eq (tgt := 34) hx hb d_FO_length_27 rfl (fun h27 => ?_) (fun h27 => ?_)
          · have h27 : hasTB o = false := bI_f h27
            refine lv_iconst (v := 0) hx hb d_FO_length_34 (by decide) ?_
            refine lv_istore_n hx hb d_FO_length_35 rfl hl (by decide) rfl (fun ls hl => ?_)
            have hl : lv_has ls 2 [(1, .int 0), (0, .int o)] := hl
            refine lv_iload_n hx hb d_FO_length_36 rfl (lv_at hl 0 rfl) ?_
            refine lv_if_eq (tgt := 44) hx hb d_FO_length_37 rfl (fun _ => ?_) (fun h9 => absurd (by decide) h9)
            refine lv_iconst (v := 1) hx hb d_FO_length_44 (by decide) ?_
            exact W.iret (v := 1) hx hb hr (fun t ht hW => ⟨1, rfl, by first | (simp only [lenI, h2, h8, h14, h20, h27, ↓reduceIte, not_true_eq_false, not_false_eq_true, and_true, true_and, and_false, false_and, and_self, or_true, true_or, or_false, false_or, decide_true, decide_false, Bool.false_eq_true, reduceCtorEq]; done) | (simp_all [lenI]; done), ht.trans hH0.symm⟩) (fun _ h9 => absurd h9 List.not_mem_nil) d_FO_length_45
          · have h27 : hasTB o = true := bI_t h27
            refine lv_iconst (v := 1) hx hb d_FO_length_30 (by decide) ?_
            refine lv_goto (tgt := 35) hx hb d_FO_length_31 rfl ?_
            refine lv_istore_n hx hb d_FO_length_35 rfl hl (by decide) rfl (fun ls hl => ?_)
            have hl : lv_has ls 2 [(1, .int 1), (0, .int o)] := hl
            refine lv_iload_n hx hb d_FO_length_36 rfl (lv_at hl 0 rfl) ?_
            refine lv_if_eq (tgt := 44) hx hb d_FO_length_37 rfl (fun h9 => absurd h9 (by decide)) (fun _ => ?_)
            refine lv_iconst (v := 2) hx hb d_FO_length_40 (by decide) ?_
            refine lv_goto (tgt := 45) hx hb d_FO_length_41 rfl ?_
            exact W.iret (v := 2) hx hb hr (fun t ht hW => ⟨2, rfl, by first | (simp only [lenI, h2, h8, h14, h20, h27, ↓reduceIte, not_true_eq_false, not_false_eq_true, and_true, true_and, and_false, false_and, and_self, or_true, true_or, or_false, false_or, decide_true, decide_false, Bool.false_eq_true, reduceCtorEq]; done) | (simp_all [lenI]; done), ht.trans hH0.symm⟩) (fun _ h9 => absurd h9 List.not_mem_nil) d_FO_length_45
