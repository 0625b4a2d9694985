set_option maxHeartbeats 4000000 in
set_option maxRecDepth 100000 in
theorem t_code (l : Launch) (D : va_G) (cI cZ : ClassId) (o : Nat) (sr : Nat) (re : Nat) (pr : Nat) (fm : Nat) (sm : Nat) (nu : Nat) (xs : Nat) (ys : Nat) (be : Nat) (wh : Nat) (n : Int32) (fn : Nat → Int32) (fx : Nat → Int32) (fy : Nat → Int32) (k : Int32) (w : Int32) (hn : n ≤ 1024) : MetR l y_TM_code w_TM_code { frames := 1, cells := 0, slots := 0, locals := 22 } D cI cZ [.ref o, .int k, .int w] [(o, .inr (0, [.ref sr, .ref re, .ref pr, .ref fm, .ref sm])), (pr, .inr (2, [.ref nu, .ref xs, .ref ys, .ref be, .ref wh, .int n])), (nu, .inl (cI, 1024, .inl fn)), (xs, .inl (cI, 1024, .inl fx)), (ys, .inl (cI, 1024, .inl fy))] (fun r => r = partI k w n fn fx fy) := by
  refine ofR (cc := c_TM_code) (maxL := 3) (ret := (some .int)) (by decide) rfl (Nat.le_of_ble_eq_true rfl) ?_
  intro p e s m args below meth c H hH0 hx hb hr hlocks hts hown hml ls hl hP hK hN
  have hown : s.vm.findClass R_TM = some m.cls := hown
  have hl : lv_has ls 3 [(0, .ref o), (1, .int k), (2, .int w)] := hl
  refine lv_aload_n hx hb d_TM_code_0 rfl (lv_at hl 0 rfl) ?_
  refine va_get (D := D) (ci := 0) (v := .ref pr) (C := R_TM) (T := T_TM) (N := 5) hx hb hts iw_TM hown hK hP 0 rfl rfl 2 (by decide) (hts _ k_217) (fun _ h9 => h9) rfl d_TM_code_1 ?_
  refine lv_iload_n hx hb d_TM_code_4 rfl (lv_at hl 1 rfl) ?_
  refine lv_iload_n hx hb d_TM_code_5 rfl (lv_at hl 2 rfl) ?_
  have hPc := hP.sub (ws' := [(pr, .inr (2, [.ref nu, .ref xs, .ref ys, .ref be, .ref wh, .int n])), (nu, .inl (cI, 1024, .inl fn)), (xs, .inl (cI, 1024, .inl fx)), (ys, .inl (cI, 1024, .inl fy))]) [1, 2, 3, 4] rfl
  refine vp_callSi (va_runV (As := [.int k, .int w]) (rest := []) ⟨hx, hb, hml, hown, hts⟩ (m_PR_part l D cI cZ pr nu xs ys be wh n fn fx fy k w hn) ⟨cB 2 hts k_264 k_61 k_261 hd_PR_part ⟨Nat.le_of_ble_eq_true rfl, Nat.le_of_ble_eq_true rfl⟩ rfl rfl, hts _ k_262, hts _ k_263⟩ (PcR.preV (va_recv hK hP (q0 := 1) (ci := 2) rfl rfl) hPc hK hN) rfl rfl hl.1 rfl (lv_room (Nat.le_of_ble_eq_true rfl)) d_TM_code_6 ⟨Nat.le_of_ble_eq_true rfl, Nat.le_of_ble_eq_true rfl⟩).run (fun r6 e6 => ?_)
  replace e6 := e6.symm
  subst e6
  exact W.iret (v := (partI k w n fn fx fy)) hx hb hr (fun t ht hW => ⟨(partI k w n fn fx fy), rfl, rfl, ht.trans hH0.symm⟩) (fun _ h9 => absurd h9 List.not_mem_nil) d_TM_code_9
set_option maxHeartbeats 4000000 in
set_option maxRecDepth 100000 in
theorem t_mapped (l : Launch) (D : va_G) (cI cZ : ClassId) (o : Nat) (sr : Nat) (re : Nat) (pr : Nat) (fm : Nat) (sm : Nat) (nu : Nat) (xs : Nat) (ys : Nat) (be : Nat) (wh : Nat) (n : Int32) (fw : Nat → Int32) (ad : Int32) : MetR l y_TM_mapped w_TM_mapped { frames := 2, cells := 0, slots := 0, locals := 41 } D cI cZ [.ref o, .int ad] [(o, .inr (0, [.ref sr, .ref re, .ref pr, .ref fm, .ref sm])), (pr, .inr (2, [.ref nu, .ref xs, .ref ys, .ref be, .ref wh, .int n])), (wh, .inl (cI, 256, .inl fw))] (fun r => r = begI fw ad) := by
  refine ofR (cc := c_TM_mapped) (maxL := 2) (ret := (some .int)) (by decide) rfl (Nat.le_of_ble_eq_true rfl) ?_
  intro p e s m args below meth c H hH0 hx hb hr hlocks hts hown hml ls hl hP hK hN
  have hown : s.vm.findClass R_TM = some m.cls := hown
  have hl : lv_has ls 2 [(0, .ref o), (1, .int ad)] := hl
  refine lv_aload_n hx hb d_TM_mapped_0 rfl (lv_at hl 0 rfl) ?_
  refine va_get (D := D) (ci := 0) (v := .ref pr) (C := R_TM) (T := T_TM) (N := 5) hx hb hts iw_TM hown hK hP 0 rfl rfl 2 (by decide) (hts _ k_217) (fun _ h9 => h9) rfl d_TM_mapped_1 ?_
  refine lv_iload_n hx hb d_TM_mapped_4 rfl (lv_at hl 1 rfl) ?_
  have hPc := hP.sub (ws' := [(pr, .inr (2, [.ref nu, .ref xs, .ref ys, .ref be, .ref wh, .int n])), (wh, .inl (cI, 256, .inl fw))]) [1, 2] rfl
  refine vp_callSi (va_runV (As := [.int ad]) (rest := []) ⟨hx, hb, hml, hown, hts⟩ (m_PR_beginOf l D cI cZ pr nu xs ys be wh n fw ad) ⟨cB 1 hts k_238 k_61 k_235 hd_PR_beginOf ⟨Nat.le_of_ble_eq_true rfl, Nat.le_of_ble_eq_true rfl⟩ rfl rfl, hts _ k_236, hts _ k_237⟩ (PcR.preV (va_recv hK hP (q0 := 1) (ci := 2) rfl rfl) hPc hK hN) rfl rfl hl.1 rfl (lv_room (Nat.le_of_ble_eq_true rfl)) d_TM_mapped_5 ⟨Nat.le_of_ble_eq_true rfl, Nat.le_of_ble_eq_true rfl⟩).run (fun r5 e5 => ?_)
  replace e5 := e5.symm
  subst e5
  exact W.iret (v := (begI fw ad)) hx hb hr (fun t ht hW => ⟨(begI fw ad), rfl, rfl, ht.trans hH0.symm⟩) (fun _ h9 => absurd h9 List.not_mem_nil) d_TM_mapped_8
set_option maxHeartbeats 4000000 in
set_option maxRecDepth 100000 in
theorem t_of0 (l : Launch) (D : va_G) (cI cZ : ClassId) (o : Nat) (sr : Nat) (re : Nat) (pr : Nat) (fm : Nat) (sm : Nat) : Met l y_TM_machineOf w_TM_machineOf { frames := 0, cells := 0, slots := 0, locals := 0 } (PcR D cI cZ [.ref o, .int 0] [(o, .inr (0, [.ref sr, .ref re, .ref pr, .ref fm, .ref sm]))]) (va_Sr (fun _ => True) (fun _ => (.ref fm : Value))) 0 0 (fun _ => False) := by
  refine ofRG (cc := c_TM_machineOf) (maxL := 2) (ret := (some (.object "TwinMill$Machine"))) (by decide) rfl (Nat.le_of_ble_eq_true rfl) ?_
  intro p e s m args below meth c H hH0 hx hb hr hlocks hts hown hml ls hl hP hK hN
  have hown : s.vm.findClass R_TM = some m.cls := hown
  have hl : lv_has ls 2 [(0, .ref o), (1, .int 0)] := hl
  refine lv_iload_n hx hb d_TM_machineOf_0 rfl (lv_at hl 1 rfl) ?_
  refine lv_if_ne (tgt := 9) hx hb d_TM_machineOf_1 rfl (fun hq9 => absurd (by decide) hq9) (fun _ => ?_)
  refine lv_aload_n hx hb d_TM_machineOf_4 rfl (lv_at hl 0 rfl) ?_
  refine va_get (D := D) (ci := 0) (v := .ref fm) (C := R_TM) (T := T_TM) (N := 5) hx hb hts iw_TM hown hK hP 0 rfl rfl 3 (by decide) (hts _ k_218) (fun _ h9 => h9) rfl d_TM_machineOf_5 ?_
  exact W.aret hx hb hr (Or.inl ⟨_, rfl⟩) (Or.inr ⟨_, rfl⟩) (fun t ht hW => ⟨0, rfl, trivial, ht.trans hH0.symm⟩) (fun _ h9 => absurd h9 List.not_mem_nil) d_TM_machineOf_8
set_option maxHeartbeats 4000000 in
set_option maxRecDepth 100000 in
theorem t_of1 (l : Launch) (D : va_G) (cI cZ : ClassId) (o : Nat) (sr : Nat) (re : Nat) (pr : Nat) (fm : Nat) (sm : Nat) : Met l y_TM_machineOf w_TM_machineOf { frames := 0, cells := 0, slots := 0, locals := 0 } (PcR D cI cZ [.ref o, .int 1] [(o, .inr (0, [.ref sr, .ref re, .ref pr, .ref fm, .ref sm]))]) (va_Sr (fun _ => True) (fun _ => (.ref sm : Value))) 0 0 (fun _ => False) := by
  refine ofRG (cc := c_TM_machineOf) (maxL := 2) (ret := (some (.object "TwinMill$Machine"))) (by decide) rfl (Nat.le_of_ble_eq_true rfl) ?_
  intro p e s m args below meth c H hH0 hx hb hr hlocks hts hown hml ls hl hP hK hN
  have hown : s.vm.findClass R_TM = some m.cls := hown
  have hl : lv_has ls 2 [(0, .ref o), (1, .int 1)] := hl
  refine lv_iload_n hx hb d_TM_machineOf_0 rfl (lv_at hl 1 rfl) ?_
  refine lv_if_ne (tgt := 9) hx hb d_TM_machineOf_1 rfl (fun _ => ?_) (fun hq9 => absurd hq9 (by decide))
  refine lv_iload_n hx hb d_TM_machineOf_9 rfl (lv_at hl 1 rfl) ?_
  refine lv_iconst (v := 1) hx hb d_TM_machineOf_10 (by decide) ?_
  refine lv_icmp_ne (tgt := 21) hx hb d_TM_machineOf_11 rfl (fun hq9 => absurd (by decide) hq9) (fun _ => ?_)
  refine lv_aload_n hx hb d_TM_machineOf_14 rfl (lv_at hl 0 rfl) ?_
  refine va_get (D := D) (ci := 0) (v := .ref sm) (C := R_TM) (T := T_TM) (N := 5) hx hb hts iw_TM hown hK hP 0 rfl rfl 4 (by decide) (hts _ k_219) (fun _ h9 => h9) rfl d_TM_machineOf_15 ?_
  refine lv_goto (tgt := 22) hx hb d_TM_machineOf_18 rfl ?_
  exact W.aret hx hb hr (Or.inl ⟨_, rfl⟩) (Or.inr ⟨_, rfl⟩) (fun t ht hW => ⟨0, rfl, trivial, ht.trans hH0.symm⟩) (fun _ h9 => absurd h9 List.not_mem_nil) d_TM_machineOf_22
set_option maxHeartbeats 4000000 in
set_option maxRecDepth 100000 in
theorem t_ofN (l : Launch) (D : va_G) (cI cZ : ClassId) (o : Nat) (sr : Nat) (re : Nat) (pr : Nat) (fm : Nat) (sm : Nat) (m9 : Int32) (hm0 : ¬ m9 = 0) (hm1 : ¬ m9 = 1) : Met l y_TM_machineOf w_TM_machineOf { frames := 0, cells := 0, slots := 0, locals := 0 } (PcR D cI cZ [.ref o, .int m9] [(o, .inr (0, [.ref sr, .ref re, .ref pr, .ref fm, .ref sm]))]) (va_Sr (fun _ => True) (fun _ => (.null : Value))) 0 0 (fun _ => False) := by
  refine ofRG (cc := c_TM_machineOf) (maxL := 2) (ret := (some (.object "TwinMill$Machine"))) (by decide) rfl (Nat.le_of_ble_eq_true rfl) ?_
  intro p e s m args below meth c H hH0 hx hb hr hlocks hts hown hml ls hl hP hK hN
  have hown : s.vm.findClass R_TM = some m.cls := hown
  have hl : lv_has ls 2 [(0, .ref o), (1, .int m9)] := hl
  refine lv_iload_n hx hb d_TM_machineOf_0 rfl (lv_at hl 1 rfl) ?_
  refine lv_if_ne (tgt := 9) hx hb d_TM_machineOf_1 rfl (fun _ => ?_) (fun hq9 => absurd hq9 hm0)
  refine lv_iload_n hx hb d_TM_machineOf_9 rfl (lv_at hl 1 rfl) ?_
  refine lv_iconst (v := 1) hx hb d_TM_machineOf_10 (by decide) ?_
  refine lv_icmp_ne (tgt := 21) hx hb d_TM_machineOf_11 rfl (fun _ => ?_) (fun hq9 => absurd hq9 hm1)
  refine lv_null hx hb d_TM_machineOf_21 ?_
  exact W.aret hx hb hr (Or.inl ⟨_, rfl⟩) (Or.inl rfl) (fun t ht hW => ⟨0, rfl, trivial, ht.trans hH0.symm⟩) (fun _ h9 => absurd h9 List.not_mem_nil) d_TM_machineOf_22
