set_option maxHeartbeats 4000000 in
set_option maxRecDepth 100000 in
theorem t_look0 (l : Launch) (D : va_G) (cI cZ : ClassId) (o : Nat) (sr : Nat) (re : Nat) (pr : Nat) (fm : Nat) (sm : Nat) (m1 : Nat) (a : Int32) (x : Int32) (sp : Int32) (pc : Int32) (zf : Bool) (cf : Bool) (st : Int32) (dn : Int32) (w : Int32) : MetR l y_TM_look w_TM_look { frames := 2, cells := 0, slots := 0, locals := 41 } D cI cZ [.ref o, .int 0, .int w] [(o, .inr (0, [.ref sr, .ref re, .ref pr, .ref fm, .ref sm])), (fm, .inr (3, [.ref m1, .int a, .int x, .int sp, .int pc, .int (bI zf), .int (bI cf), .int st, .int dn]))] (fun r => r = vwI w a x sp pc zf cf st dn) := by
  refine ofR (cc := c_TM_look) (maxL := 4) (ret := (some .int)) (by decide) rfl (Nat.le_of_ble_eq_true rfl) ?_
  intro p e s m args below meth c H hH0 hx hb hr hlocks hts hown hml ls hl hP hK hN
  have hown : s.vm.findClass R_TM = some m.cls := hown
  have hl : lv_has ls 4 [(0, .ref o), (1, .int 0), (2, .int w)] := hl
  refine lv_aload_n hx hb d_TM_look_0 rfl (lv_at hl 0 rfl) ?_
  refine lv_iload_n hx hb d_TM_look_1 rfl (lv_at hl 1 rfl) ?_
  have hPc := hP.sub (ws' := [(o, .inr (0, [.ref sr, .ref re, .ref pr, .ref fm, .ref sm]))]) [0] rfl
  refine va_csr (va_runV (As := [.int 0]) (rest := []) ⟨hx, hb, hml, hown, hts⟩ (t_of0 l D cI cZ o sr re pr fm sm) ⟨cB 1 hts k_276 k_56 k_273 hd_TM_machineOf ⟨Nat.le_of_ble_eq_true rfl, Nat.le_of_ble_eq_true rfl⟩ rfl rfl, hts _ k_275, hts _ k_0⟩ (PcR.preV (va_recv hK hP (q0 := 0) (ci := 0) rfl rfl) hPc hK hN) rfl rfl hl.1 rfl (lv_room (Nat.le_of_ble_eq_true rfl)) d_TM_look_2 ⟨Nat.le_of_ble_eq_true rfl, Nat.le_of_ble_eq_true rfl⟩).run (fun r2 e2 => ?_)
  refine lv_astore_n hx hb d_TM_look_5 rfl hl (by decide) rfl (fun ls hl => ?_)
  have hl : lv_has ls 4 [(3, .ref fm), (0, .ref o), (1, .int 0), (2, .int w)] := hl
  refine lv_aload_n hx hb d_TM_look_6 rfl (lv_at hl 0 rfl) ?_
  refine lv_ifnonnull (tgt := 14) hx hb d_TM_look_7 rfl ?_
  refine lv_aload_n hx hb d_TM_look_14 rfl (lv_at hl 0 rfl) ?_
  refine lv_iload_n hx hb d_TM_look_15 rfl (lv_at hl 3 rfl) ?_
  have hPc := hP.sub (ws' := [(fm, .inr (3, [.ref m1, .int a, .int x, .int sp, .int pc, .int (bI zf), .int (bI cf), .int st, .int dn]))]) [1] rfl
  refine vp_callSi (va_runU (As := [.int w]) (rest := []) ⟨hx, hb, hml, hown, hts⟩ (m_FM_view0 l D cI cZ fm m1 a x sp pc zf cf st dn w) (va_cwU 1 hts (gU k_277 k_279 k_280 k_278 k_58 k_288) rfl rfl rfl rfl hd_MA_view ⟨Nat.le_of_ble_eq_true rfl, Nat.le_of_ble_eq_true rfl⟩) (PcR.preV (va_recv hK hP (q0 := 1) (ci := 3) rfl rfl) hPc hK hN) rfl rfl hl.1 rfl (lv_room (Nat.le_of_ble_eq_true rfl)) d_TM_look_16 ⟨Nat.le_of_ble_eq_true rfl, Nat.le_of_ble_eq_true rfl⟩).run (fun r16 e16 => ?_)
  replace e16 := e16.symm
  subst e16
  exact W.iret (v := (vwI w a x sp pc zf cf st dn)) hx hb hr (fun t ht hW => ⟨(vwI w a x sp pc zf cf st dn), rfl, rfl, ht.trans hH0.symm⟩) (fun _ h9 => absurd h9 List.not_mem_nil) d_TM_look_19
set_option maxHeartbeats 4000000 in
set_option maxRecDepth 100000 in
theorem t_look1 (l : Launch) (D : va_G) (cI cZ : ClassId) (o : Nat) (sr : Nat) (re : Nat) (pr : Nat) (fm : Nat) (sm : Nat) (m2 : Nat) (b0 : Int32) (b1 : Int32) (sq : Int32) (pq : Int32) (zg : Bool) (cg : Bool) (su : Int32) (dm : Int32) (b2 : Int32) (kp : Bool) (w : Int32) : MetR l y_TM_look w_TM_look { frames := 3, cells := 0, slots := 0, locals := 62 } D cI cZ [.ref o, .int 1, .int w] [(o, .inr (0, [.ref sr, .ref re, .ref pr, .ref fm, .ref sm])), (sm, .inr (4, [.ref m2, .int b0, .int b1, .int sq, .int pq, .int (bI zg), .int (bI cg), .int su, .int dm, .ref pr, .int b2, .int (bI kp)]))] (fun r => r = vwS w b0 b1 sq pq zg cg su dm b2 kp) := by
  refine ofR (cc := c_TM_look) (maxL := 4) (ret := (some .int)) (by decide) rfl (Nat.le_of_ble_eq_true rfl) ?_
  intro p e s m args below meth c H hH0 hx hb hr hlocks hts hown hml ls hl hP hK hN
  have hown : s.vm.findClass R_TM = some m.cls := hown
  have hl : lv_has ls 4 [(0, .ref o), (1, .int 1), (2, .int w)] := hl
  refine lv_aload_n hx hb d_TM_look_0 rfl (lv_at hl 0 rfl) ?_
  refine lv_iload_n hx hb d_TM_look_1 rfl (lv_at hl 1 rfl) ?_
  have hPc := hP.sub (ws' := [(o, .inr (0, [.ref sr, .ref re, .ref pr, .ref fm, .ref sm]))]) [0] rfl
  refine va_csr (va_runV (As := [.int 1]) (rest := []) ⟨hx, hb, hml, hown, hts⟩ (t_of1 l D cI cZ o sr re pr fm sm) ⟨cB 1 hts k_276 k_56 k_273 hd_TM_machineOf ⟨Nat.le_of_ble_eq_true rfl, Nat.le_of_ble_eq_true rfl⟩ rfl rfl, hts _ k_275, hts _ k_0⟩ (PcR.preV (va_recv hK hP (q0 := 0) (ci := 0) rfl rfl) hPc hK hN) rfl rfl hl.1 rfl (lv_room (Nat.le_of_ble_eq_true rfl)) d_TM_look_2 ⟨Nat.le_of_ble_eq_true rfl, Nat.le_of_ble_eq_true rfl⟩).run (fun r2 e2 => ?_)
  refine lv_astore_n hx hb d_TM_look_5 rfl hl (by decide) rfl (fun ls hl => ?_)
  have hl : lv_has ls 4 [(3, .ref sm), (0, .ref o), (1, .int 1), (2, .int w)] := hl
  refine lv_aload_n hx hb d_TM_look_6 rfl (lv_at hl 0 rfl) ?_
  refine lv_ifnonnull (tgt := 14) hx hb d_TM_look_7 rfl ?_
  refine lv_aload_n hx hb d_TM_look_14 rfl (lv_at hl 0 rfl) ?_
  refine lv_iload_n hx hb d_TM_look_15 rfl (lv_at hl 3 rfl) ?_
  have hPc := hP.sub (ws' := [(sm, .inr (4, [.ref m2, .int b0, .int b1, .int sq, .int pq, .int (bI zg), .int (bI cg), .int su, .int dm, .ref pr, .int b2, .int (bI kp)]))]) [1] rfl
  refine vp_callSi (va_runU (As := [.int w]) (rest := []) ⟨hx, hb, hml, hown, hts⟩ (m_SM_view l D cI cZ sm m2 b0 b1 sq pq zg cg su dm pr b2 kp w) (va_cwO 1 hts (gO k_277 k_279 k_278 k_281 k_282 k_60 k_283) rfl rfl rfl k_288 hd_MA_view ⟨Nat.le_of_ble_eq_true rfl, Nat.le_of_ble_eq_true rfl⟩) (PcR.preV (va_recv hK hP (q0 := 1) (ci := 4) rfl rfl) hPc hK hN) rfl rfl hl.1 rfl (lv_room (Nat.le_of_ble_eq_true rfl)) d_TM_look_16 ⟨Nat.le_of_ble_eq_true rfl, Nat.le_of_ble_eq_true rfl⟩).run (fun r16 e16 => ?_)
  replace e16 := e16.symm
  subst e16
  exact W.iret (v := (vwS w b0 b1 sq pq zg cg su dm b2 kp)) hx hb hr (fun t ht hW => ⟨(vwS w b0 b1 sq pq zg cg su dm b2 kp), rfl, rfl, ht.trans hH0.symm⟩) (fun _ h9 => absurd h9 List.not_mem_nil) d_TM_look_19
set_option maxHeartbeats 4000000 in
set_option maxRecDepth 100000 in
theorem t_lookN (l : Launch) (D : va_G) (cI cZ : ClassId) (o : Nat) (sr : Nat) (re : Nat) (pr : Nat) (fm : Nat) (sm : Nat) (w : Int32) (m9 : Int32) (hm0 : ¬ m9 = 0) (hm1 : ¬ m9 = 1) : MetR l y_TM_look w_TM_look { frames := 1, cells := 0, slots := 0, locals := 21 } D cI cZ [.ref o, .int m9, .int w] [(o, .inr (0, [.ref sr, .ref re, .ref pr, .ref fm, .ref sm]))] (fun r => r = (-1)) := by
  refine ofR (cc := c_TM_look) (maxL := 4) (ret := (some .int)) (by decide) rfl (Nat.le_of_ble_eq_true rfl) ?_
  intro p e s m args below meth c H hH0 hx hb hr hlocks hts hown hml ls hl hP hK hN
  have hown : s.vm.findClass R_TM = some m.cls := hown
  have hl : lv_has ls 4 [(0, .ref o), (1, .int m9), (2, .int w)] := hl
  refine lv_aload_n hx hb d_TM_look_0 rfl (lv_at hl 0 rfl) ?_
  refine lv_iload_n hx hb d_TM_look_1 rfl (lv_at hl 1 rfl) ?_
  have hPc := hP.sub (ws' := [(o, .inr (0, [.ref sr, .ref re, .ref pr, .ref fm, .ref sm]))]) [0] rfl
  refine va_csr (va_runV (As := [.int m9]) (rest := []) ⟨hx, hb, hml, hown, hts⟩ (t_ofN l D cI cZ o sr re pr fm sm m9 hm0 hm1) ⟨cB 1 hts k_276 k_56 k_273 hd_TM_machineOf ⟨Nat.le_of_ble_eq_true rfl, Nat.le_of_ble_eq_true rfl⟩ rfl rfl, hts _ k_275, hts _ k_0⟩ (PcR.preV (va_recv hK hP (q0 := 0) (ci := 0) rfl rfl) hPc hK hN) rfl rfl hl.1 rfl (lv_room (Nat.le_of_ble_eq_true rfl)) d_TM_look_2 ⟨Nat.le_of_ble_eq_true rfl, Nat.le_of_ble_eq_true rfl⟩).run (fun r2 e2 => ?_)
  refine lv_astore_nN hx hb d_TM_look_5 rfl hl (by decide) rfl (fun ls hl => ?_)
  have hl : lv_has ls 4 [(3, .null), (0, .ref o), (1, .int m9), (2, .int w)] := hl
  refine lv_aload_nN hx hb d_TM_look_6 rfl (lv_at hl 0 rfl) ?_
  refine lv_ifnonnullN hx hb d_TM_look_7 ?_
  refine lv_iconst (v := (-1)) hx hb d_TM_look_10 (by decide) ?_
  refine lv_goto (tgt := 19) hx hb d_TM_look_11 rfl ?_
  exact W.iret (v := (-1)) hx hb hr (fun t ht hW => ⟨(-1), rfl, rfl, ht.trans hH0.symm⟩) (fun _ h9 => absurd h9 List.not_mem_nil) d_TM_look_19
