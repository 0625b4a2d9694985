set_option maxHeartbeats 4000000 in
set_option maxRecDepth 100000 in
theorem m_FM_peek (l : Launch) (D : va_G) (cI cZ : ClassId) (o : Nat) (mm : Nat) (a : Int32) (x : Int32) (sp : Int32) (pc : Int32) (zf : Bool) (cf : Bool) (st : Int32) (dn : Int32) (g : Nat → Int32) (ad : Int32) : MetR l y_MA_peek w_MA_peek { frames := 0, cells := 0, slots := 0, locals := 0 } D cI cZ [.ref o, .int ad] [(o, .inr (3, [.ref mm, .int a, .int x, .int sp, .int pc, .int (bI zf), .int (bI cf), .int st, .int dn])), (mm, .inl (cI, 256, .inl g))] (fun r => r = rd g ad) := by
  refine ofR (cc := c_MA_peek) (maxL := 2) (ret := (some .int)) (by decide) rfl (Nat.le_of_ble_eq_true rfl) ?_
  intro p e s m args below meth c H hH0 hx hb hr hlocks hts hown hml ls hl hP hK hN
  have hown : s.vm.findClass R_MA = some m.cls := hown
  have hl : lv_has ls 2 [(0, .ref o), (1, .int ad)] := hl
  refine lv_aload_n hx hb d_MA_peek_0 rfl (lv_at hl 0 rfl) ?_
  refine va_get (D := D) (ci := 3) (v := .ref mm) (C := R_FM) (T := T_FM) (N := 9) hx hb hts iw_FM hown hK hP 0 rfl rfl 0 (by decide) (hts _ k_109) (fun _ h9 => h9) rfl d_MA_peek_1 ?_
  refine lv_iload_n hx hb d_MA_peek_4 rfl (lv_at hl 1 rfl) ?_
  refine lv_sipush (v := 255) hx hb d_MA_peek_5 (by decide) ?_
  refine lv_iand hx hb d_MA_peek_8 ?_
  refine va_iald hx hb hK hP 1 0 rfl rfl (in255 _) d_MA_peek_9 ?_
  exact W.iret (v := (g (ad &&& 255).toNatClampNeg)) hx hb hr (fun t ht hW => ⟨(g (ad &&& 255).toNatClampNeg), rfl, rfl, ht.trans hH0.symm⟩) (fun _ h9 => absurd h9 List.not_mem_nil) d_MA_peek_10
set_option maxHeartbeats 4000000 in
set_option maxRecDepth 100000 in
theorem m_FM_poke (l : Launch) (D : va_G) (cI cZ : ClassId) (o : Nat) (mm : Nat) (a : Int32) (x : Int32) (sp : Int32) (pc : Int32) (zf : Bool) (cf : Bool) (st : Int32) (dn : Int32) (g : Nat → Int32) (ad : Int32) (v : Int32) (sz : Nat) : MetV l y_MA_poke w_MA_poke { frames := 0, cells := 0, slots := 0, locals := 0 } D cI cZ [.ref o, .int ad, .int v] [(o, .inr (3, [.ref mm, .int a, .int x, .int sp, .int pc, .int (bI zf), .int (bI cf), .int st, .int dn])), (mm, .inl (cI, 256, .inl g))] sz (fun (g1 : (Nat → Int32)) => g1 = wr g ad v) (fun (g1 : (Nat → Int32)) => [(o, .inr (3, [.ref mm, .int a, .int x, .int sp, .int pc, .int (bI zf), .int (bI cf), .int st, .int dn])), (mm, .inl (cI, 256, .inl g1))]) 0 0 := by
  refine ofV (cc := c_MA_poke) (maxL := 3) (ret := none) (by decide) rfl (Nat.le_of_ble_eq_true rfl) ?_
  intro p e s m args below meth c A H hH0 hx hb hr hlocks hts hown hnm hml ls hl hP hK hD hA hS hN
  have hown : s.vm.findClass R_MA = some m.cls := hown
  have hl : lv_has ls 3 [(0, .ref o), (1, .int ad), (2, .int v)] := hl
  refine lv_aload_n hx hb d_MA_poke_0 rfl (lv_at hl 0 rfl) ?_
  refine va_get (D := D) (ci := 3) (v := .ref mm) (C := R_FM) (T := T_FM) (N := 9) hx hb hts iw_FM hown hK hP 0 rfl rfl 0 (by decide) (hts _ k_109) (fun _ h9 => h9) rfl d_MA_poke_1 ?_
  refine lv_iload_n hx hb d_MA_poke_4 rfl (lv_at hl 1 rfl) ?_
  refine lv_sipush (v := 255) hx hb d_MA_poke_5 (by decide) ?_
  refine lv_iand hx hb d_MA_poke_8 ?_
  refine lv_iload_n hx hb d_MA_poke_9 rfl (lv_at hl 2 rfl) ?_
  refine lv_sipush (v := 255) hx hb d_MA_poke_10 (by decide) ?_
  refine lv_iand hx hb d_MA_poke_13 ?_
  refine va_iast hx hb hK hP hD hS 1 0 rfl rfl (in255 _) d_MA_poke_14 (fun H locs hP hD hS => ?_)
  have hP : va_P D vwCl [(o, .inr (3, [.ref mm, .int a, .int x, .int sp, .int pc, .int (bI zf), .int (bI cf), .int st, .int dn])), (mm, .inl (cI, 256, .inl (upd g (ad &&& 255).toNatClampNeg (v &&& 255))))] H := hP
  have hD : va_D A [(o, .inr (3, [.ref mm, .int a, .int x, .int sp, .int pc, .int (bI zf), .int (bI cf), .int st, .int dn])), (mm, .inl (cI, 256, .inl (upd g (ad &&& 255).toNatClampNeg (v &&& 255))))] := hD
  have hP9 : va_P D vwCl [(o, .inr (3, [.ref mm, .int a, .int x, .int sp, .int pc, .int (bI zf), .int (bI cf), .int st, .int dn])), (mm, .inl (cI, 256, .inl (upd g (ad &&& 255).toNatClampNeg (v &&& 255))))] H := hP.sub [0, 1] rfl
  have hD9 : va_D A [(o, .inr (3, [.ref mm, .int a, .int x, .int sp, .int pc, .int (bI zf), .int (bI cf), .int st, .int dn])), (mm, .inl (cI, 256, .inl (upd g (ad &&& 255).toNatClampNeg (v &&& 255))))] := hD.sub [0, 1] (by decide) rfl
  exact W.vret hx hb hr (fun t ht hW => ⟨⟨(upd g (ad &&& 255).toNatClampNeg (v &&& 255)), rfl, rfl, by rw [ht]; exact hP9, va_K.moved hW.alike hK, hD9⟩, hS.F ht⟩) hS.2.2 d_MA_poke_15
set_option maxHeartbeats 4000000 in
set_option maxRecDepth 100000 in
theorem m_FM_push (l : Launch) (D : va_G) (cI cZ : ClassId) (o : Nat) (mm : Nat) (a : Int32) (x : Int32) (sp : Int32) (pc : Int32) (zf : Bool) (cf : Bool) (st : Int32) (dn : Int32) (g : Nat → Int32) (v : Int32) (sz : Nat) : MetV l y_MA_push w_MA_push { frames := 1, cells := 0, slots := 0, locals := 22 } D cI cZ [.ref o, .int v] [(o, .inr (3, [.ref mm, .int a, .int x, .int sp, .int pc, .int (bI zf), .int (bI cf), .int st, .int dn])), (mm, .inl (cI, 256, .inl g))] sz (fun (u : (Nat → Int32) × Int32) => match u with | (g1, sp1) => g1 = wr g sp v ∧ sp1 = (sp - 1) &&& 255) (fun (u : (Nat → Int32) × Int32) => match u with | (g1, sp1) => [(o, .inr (3, [.ref mm, .int a, .int x, .int sp1, .int pc, .int (bI zf), .int (bI cf), .int st, .int dn])), (mm, .inl (cI, 256, .inl g1))]) 0 0 := by
  refine ofV (cc := c_MA_push) (maxL := 2) (ret := none) (by decide) rfl (Nat.le_of_ble_eq_true rfl) ?_
  intro p e s m args below meth c A H hH0 hx hb hr hlocks hts hown hnm hml ls hl hP hK hD hA hS hN
  have hown : s.vm.findClass R_MA = some m.cls := hown
  have hl : lv_has ls 2 [(0, .ref o), (1, .int v)] := hl
  refine lv_aload_n hx hb d_MA_push_0 rfl (lv_at hl 0 rfl) ?_
  refine lv_aload_n hx hb d_MA_push_1 rfl (lv_at hl 0 rfl) ?_
  refine va_get (D := D) (ci := 3) (v := .int sp) (C := R_FM) (T := T_FM) (N := 9) hx hb hts iw_FM hown hK hP 0 rfl rfl 3 (by decide) (hts _ k_120) (fun _ h9 => h9) rfl d_MA_push_2 ?_
  refine lv_iload_n hx hb d_MA_push_5 rfl (lv_at hl 1 rfl) ?_
  have hPc := hP.sub (ws' := [(o, .inr (3, [.ref mm, .int a, .int x, .int sp, .int pc, .int (bI zf), .int (bI cf), .int st, .int dn])), (mm, .inl (cI, 256, .inl g))]) [0, 1] rfl
  have hDc := hD.sub (ws' := [(o, .inr (3, [.ref mm, .int a, .int x, .int sp, .int pc, .int (bI zf), .int (bI cf), .int st, .int dn])), (mm, .inl (cI, 256, .inl g))]) [0, 1] (by decide) rfl
  have hFc := va_free (wc := [(o, .inr (3, [.ref mm, .int a, .int x, .int sp, .int pc, .int (bI zf), .int (bI cf), .int st, .int dn])), (mm, .inl (cI, 256, .inl g))]) hD hS hA [0, 1] rfl
  refine va_callv (va_runU (As := [.int sp, .int v]) (rest := []) ⟨hx, hb, hml, hown, hts⟩ (m_FM_poke l D cI cZ o mm a x sp pc zf cf st dn g sp v H.size) (va_cwU 2 hts (gU k_596 k_928 k_929 k_543 k_58 k_544) rfl rfl rfl rfl hd_MA_poke ⟨Nat.le_of_ble_eq_true rfl, Nat.le_of_ble_eq_true rfl⟩) (PcW.preV (va_recv hK hP (q0 := 0) (ci := 3) rfl rfl) hPc hK hDc hN) rfl rfl hl.1 rfl (lv_room (Nat.le_of_ble_eq_true rfl)) d_MA_push_6 ⟨Nat.le_of_ble_eq_true rfl, Nat.le_of_ble_eq_true rfl⟩) hS (fun q _ h => hFc q h) hFc (fun u t H1 locs ht hvm e6 hB hz1 hk1 hS => ?_)
  obtain ⟨g16, rfl⟩ : ∃ z, z = u := ⟨_, rfl⟩
  obtain ⟨hP1, hK1, hD1⟩ := hB
  rw [ht] at hP1
  obtain ⟨hP, hD⟩ := va_join (wr := []) (w1 := [(o, .inr (3, [.ref mm, .int a, .int x, .int sp, .int pc, .int (bI zf), .int (bI cf), .int st, .int dn])), (mm, .inl (cI, 256, .inl g16))]) hP hD [0, 1] [] rfl rfl (by decide) (by decide) hk1 hFc hP1 hD1
  generalize H1 = H at hP hS ⊢
  try dsimp only at e6
  have e6_0 := e6
  replace e6_0 := e6_0.symm
  subst e6_0
  have hP : va_P D vwCl [(o, .inr (3, [.ref mm, .int a, .int x, .int sp, .int pc, .int (bI zf), .int (bI cf), .int st, .int dn])), (mm, .inl (cI, 256, .inl (wr g sp v)))] H := hP
  have hD : va_D A [(o, .inr (3, [.ref mm, .int a, .int x, .int sp, .int pc, .int (bI zf), .int (bI cf), .int st, .int dn])), (mm, .inl (cI, 256, .inl (wr g sp v)))] := hD
  refine lv_aload_n hx hb d_MA_push_9 rfl (lv_at hl 0 rfl) ?_
  refine lv_aload_n hx hb d_MA_push_10 rfl (lv_at hl 0 rfl) ?_
  refine va_get (D := D) (ci := 3) (v := .int sp) (C := R_FM) (T := T_FM) (N := 9) hx hb hts iw_FM hown hK hP 0 rfl rfl 3 (by decide) (hts _ k_120) (fun _ h9 => h9) rfl d_MA_push_11 ?_
  refine lv_iconst (v := 1) hx hb d_MA_push_14 (by decide) ?_
  refine lv_isub hx hb d_MA_push_15 ?_
  refine lv_sipush (v := 255) hx hb d_MA_push_16 (by decide) ?_
  refine lv_iand hx hb d_MA_push_19 ?_
  refine va_put (D := D) (ci := 3) (v := .int ((sp - 1) &&& 255)) (ty := .int) (C := R_FM) (T := T_FM) (N := 9) hx hb hts iw_FM ty_FM ty_FM_ok nm_FM hown hK hP hD hS 0 rfl rfl 3 (by decide) (hts _ k_120) (fun _ h9 => h9) rfl (by decide +kernel) rfl rfl (Nat.le_of_ble_eq_true rfl) d_MA_push_20 (fun H locs hP hD hS => ?_)
  have hP : va_P D vwCl [(o, .inr (3, [.ref mm, .int a, .int x, .int ((sp - 1) &&& 255), .int pc, .int (bI zf), .int (bI cf), .int st, .int dn])), (mm, .inl (cI, 256, .inl (wr g sp v)))] H := hP
  have hD : va_D A [(o, .inr (3, [.ref mm, .int a, .int x, .int ((sp - 1) &&& 255), .int pc, .int (bI zf), .int (bI cf), .int st, .int dn])), (mm, .inl (cI, 256, .inl (wr g sp v)))] := hD
  have hP9 : va_P D vwCl [(o, .inr (3, [.ref mm, .int a, .int x, .int ((sp - 1) &&& 255), .int pc, .int (bI zf), .int (bI cf), .int st, .int dn])), (mm, .inl (cI, 256, .inl (wr g sp v)))] H := hP.sub [0, 1] rfl
  have hD9 : va_D A [(o, .inr (3, [.ref mm, .int a, .int x, .int ((sp - 1) &&& 255), .int pc, .int (bI zf), .int (bI cf), .int st, .int dn])), (mm, .inl (cI, 256, .inl (wr g sp v)))] := hD.sub [0, 1] (by decide) rfl
  exact W.vret hx hb hr (fun t ht hW => ⟨⟨(wr g sp v, (sp - 1) &&& 255), rfl, ⟨rfl, rfl⟩, by rw [ht]; exact hP9, va_K.moved hW.alike hK, hD9⟩, hS.F ht⟩) hS.2.2 d_MA_push_23
set_option maxHeartbeats 4000000 in
set_option maxRecDepth 100000 in
theorem m_FM_pop (l : Launch) (D : va_G) (cI cZ : ClassId) (o : Nat) (mm : Nat) (a : Int32) (x : Int32) (sp : Int32) (pc : Int32) (zf : Bool) (cf : Bool) (st : Int32) (dn : Int32) (g : Nat → Int32) (sz : Nat) : MetI l y_MA_pop w_MA_pop { frames := 1, cells := 0, slots := 0, locals := 21 } D cI cZ [.ref o] [(o, .inr (3, [.ref mm, .int a, .int x, .int sp, .int pc, .int (bI zf), .int (bI cf), .int st, .int dn])), (mm, .inl (cI, 256, .inl g))] sz (fun r (sp1 : Int32) => r = rd g ((sp + 1) &&& 255) ∧ sp1 = (sp + 1) &&& 255) (fun (sp1 : Int32) => [(o, .inr (3, [.ref mm, .int a, .int x, .int sp1, .int pc, .int (bI zf), .int (bI cf), .int st, .int dn])), (mm, .inl (cI, 256, .inl g))]) 0 0 := by
  refine ofI (cc := c_MA_pop) (maxL := 1) (ret := (some .int)) (by decide) rfl (Nat.le_of_ble_eq_true rfl) ?_
  intro p e s m args below meth c A H hH0 hx hb hr hlocks hts hown hnm hml ls hl hP hK hD hA hS hN
  have hown : s.vm.findClass R_MA = some m.cls := hown
  have hl : lv_has ls 1 [(0, .ref o)] := hl
  refine lv_aload_n hx hb d_MA_pop_0 rfl (lv_at hl 0 rfl) ?_
  refine lv_aload_n hx hb d_MA_pop_1 rfl (lv_at hl 0 rfl) ?_
  refine va_get (D := D) (ci := 3) (v := .int sp) (C := R_FM) (T := T_FM) (N := 9) hx hb hts iw_FM hown hK hP 0 rfl rfl 3 (by decide) (hts _ k_120) (fun _ h9 => h9) rfl d_MA_pop_2 ?_
  refine lv_iconst (v := 1) hx hb d_MA_pop_5 (by decide) ?_
  refine lv_iadd hx hb d_MA_pop_6 ?_
  refine lv_sipush (v := 255) hx hb d_MA_pop_7 (by decide) ?_
  refine lv_iand hx hb d_MA_pop_10 ?_
  refine va_put (D := D) (ci := 3) (v := .int ((sp + 1) &&& 255)) (ty := .int) (C := R_FM) (T := T_FM) (N := 9) hx hb hts iw_FM ty_FM ty_FM_ok nm_FM hown hK hP hD hS 0 rfl rfl 3 (by decide) (hts _ k_120) (fun _ h9 => h9) rfl (by decide +kernel) rfl rfl (Nat.le_of_ble_eq_true rfl) d_MA_pop_11 (fun H locs hP hD hS => ?_)
  have hP : va_P D vwCl [(o, .inr (3, [.ref mm, .int a, .int x, .int ((sp + 1) &&& 255), .int pc, .int (bI zf), .int (bI cf), .int st, .int dn])), (mm, .inl (cI, 256, .inl g))] H := hP
  have hD : va_D A [(o, .inr (3, [.ref mm, .int a, .int x, .int ((sp + 1) &&& 255), .int pc, .int (bI zf), .int (bI cf), .int st, .int dn])), (mm, .inl (cI, 256, .inl g))] := hD
  refine lv_aload_n hx hb d_MA_pop_14 rfl (lv_at hl 0 rfl) ?_
  refine lv_aload_n hx hb d_MA_pop_15 rfl (lv_at hl 0 rfl) ?_
  refine va_get (D := D) (ci := 3) (v := .int ((sp + 1) &&& 255)) (C := R_FM) (T := T_FM) (N := 9) hx hb hts iw_FM hown hK hP 0 rfl rfl 3 (by decide) (hts _ k_120) (fun _ h9 => h9) rfl d_MA_pop_16 ?_
  have hPc := hP.sub (ws' := [(o, .inr (3, [.ref mm, .int a, .int x, .int ((sp + 1) &&& 255), .int pc, .int (bI zf), .int (bI cf), .int st, .int dn])), (mm, .inl (cI, 256, .inl g))]) [0, 1] rfl
  refine vp_callSi (va_runU (As := [.int ((sp + 1) &&& 255)]) (rest := []) ⟨hx, hb, hml, hown, hts⟩ (m_FM_peek l D cI cZ o mm a x ((sp + 1) &&& 255) pc zf cf st dn g ((sp + 1) &&& 255)) (va_cwU 1 hts (gU k_603 k_297 k_298 k_296 k_58 k_300) rfl rfl rfl rfl hd_MA_peek ⟨Nat.le_of_ble_eq_true rfl, Nat.le_of_ble_eq_true rfl⟩) (PcR.preV (va_recv hK hP (q0 := 0) (ci := 3) rfl rfl) hPc hK hN) rfl rfl hl.1 rfl (lv_room (Nat.le_of_ble_eq_true rfl)) d_MA_pop_19 ⟨Nat.le_of_ble_eq_true rfl, Nat.le_of_ble_eq_true rfl⟩).run (fun r19 e19 => ?_)
  replace e19 := e19.symm
  subst e19
  have hP9 : va_P D vwCl [(o, .inr (3, [.ref mm, .int a, .int x, .int ((sp + 1) &&& 255), .int pc, .int (bI zf), .int (bI cf), .int st, .int dn])), (mm, .inl (cI, 256, .inl g))] H := hP.sub [0, 1] rfl
  have hD9 : va_D A [(o, .inr (3, [.ref mm, .int a, .int x, .int ((sp + 1) &&& 255), .int pc, .int (bI zf), .int (bI cf), .int st, .int dn])), (mm, .inl (cI, 256, .inl g))] := hD.sub [0, 1] (by decide) rfl
  exact W.iret (v := (rd g ((sp + 1) &&& 255))) hx hb hr (fun t ht hW => ⟨⟨(rd g ((sp + 1) &&& 255)), ((sp + 1) &&& 255), rfl, ⟨rfl, rfl⟩, by rw [ht]; exact hP9, va_K.moved hW.alike hK, hD9⟩, hS.F ht⟩) hS.2.2 d_MA_pop_22
set_option maxHeartbeats 4000000 in
set_option maxRecDepth 100000 in
theorem m_FM_goIf (l : Launch) (D : va_G) (cI cZ : ClassId) (o : Nat) (mm : Nat) (a : Int32) (x : Int32) (sp : Int32) (pc : Int32) (zf : Bool) (cf : Bool) (st : Int32) (dn : Int32) (w : Bool) (tg : Int32) (sz : Nat) : MetV l y_MA_goIf w_MA_goIf { frames := 0, cells := 0, slots := 0, locals := 0 } D cI cZ [.ref o, .int (bI w), .int tg] [(o, .inr (3, [.ref mm, .int a, .int x, .int sp, .int pc, .int (bI zf), .int (bI cf), .int st, .int dn]))] sz (fun (pc1 : Int32) => pc1 = if w = true then tg else pc) (fun (pc1 : Int32) => [(o, .inr (3, [.ref mm, .int a, .int x, .int sp, .int pc1, .int (bI zf), .int (bI cf), .int st, .int dn]))]) 0 0 := by
  refine ofV (cc := c_MA_goIf) (maxL := 3) (ret := none) (by decide) rfl (Nat.le_of_ble_eq_true rfl) ?_
  intro p e s m args below meth c A H hH0 hx hb hr hlocks hts hown hnm hml ls hl hP hK hD hA hS hN
  have hown : s.vm.findClass R_MA = some m.cls := hown
  have hl : lv_has ls 3 [(0, .ref o), (1, .int (bI w)), (2, .int tg)] := hl
  refine lv_iload_n hx hb d_MA_goIf_0 rfl (lv_at hl 1 rfl) ?_
  refine lv_if_eq (tgt := 9) hx hb d_MA_goIf_1 rfl (fun h1 => ?_) (fun h1 => ?_)
  · have h1 : w = false := bI_f h1
    have hP9 : va_P D vwCl [(o, .inr (3, [.ref mm, .int a, .int x, .int sp, .int pc, .int (bI zf), .int (bI cf), .int st, .int dn]))] H := hP.sub [0] rfl
    have hD9 : va_D A [(o, .inr (3, [.ref mm, .int a, .int x, .int sp, .int pc, .int (bI zf), .int (bI cf), .int st, .int dn]))] := hD.sub [0] (by decide) rfl
    exact W.vret hx hb hr (fun t ht hW => ⟨⟨pc, rfl, by first | (simp only [h1, ↓reduceIte, not_true_eq_false, not_false_eq_true, and_true, true_and, and_false, false_and, and_self, or_true, true_or, or_false, false_or, decide_true, decide_false, Bool.false_eq_true, reduceCtorEq]; done) | (simp_all []; done), by rw [ht]; exact hP9, va_K.moved hW.alike hK, hD9⟩, hS.F ht⟩) hS.2.2 d_MA_goIf_9
  · have h1 : w = true := bI_t h1
    refine lv_aload_n hx hb d_MA_goIf_4 rfl (lv_at hl 0 rfl) ?_
    refine lv_iload_n hx hb d_MA_goIf_5 rfl (lv_at hl 2 rfl) ?_
    refine va_put (D := D) (ci := 3) (v := .int tg) (ty := .int) (C := R_FM) (T := T_FM) (N := 9) hx hb hts iw_FM ty_FM ty_FM_ok nm_FM hown hK hP hD hS 0 rfl rfl 4 (by decide) (hts _ k_125) (fun _ h9 => h9) rfl (by decide +kernel) rfl rfl (Nat.le_of_ble_eq_true rfl) d_MA_goIf_6 (fun H locs hP hD hS => ?_)
    have hP : va_P D vwCl [(o, .inr (3, [.ref mm, .int a, .int x, .int sp, .int tg, .int (bI zf), .int (bI cf), .int st, .int dn]))] H := hP
    have hD : va_D A [(o, .inr (3, [.ref mm, .int a, .int x, .int sp, .int tg, .int (bI zf), .int (bI cf), .int st, .int dn]))] := hD
    have hP9 : va_P D vwCl [(o, .inr (3, [.ref mm, .int a, .int x, .int sp, .int tg, .int (bI zf), .int (bI cf), .int st, .int dn]))] H := hP.sub [0] rfl
    have hD9 : va_D A [(o, .inr (3, [.ref mm, .int a, .int x, .int sp, .int tg, .int (bI zf), .int (bI cf), .int st, .int dn]))] := hD.sub [0] (by decide) rfl
    exact W.vret hx hb hr (fun t ht hW => ⟨⟨tg, rfl, by first | (simp only [h1, ↓reduceIte, not_true_eq_false, not_false_eq_true, and_true, true_and, and_false, false_and, and_self, or_true, true_or, or_false, false_or, decide_true, decide_false, Bool.false_eq_true, reduceCtorEq]; done) | (simp_all []; done), by rw [ht]; exact hP9, va_K.moved hW.alike hK, hD9⟩, hS.F ht⟩) hS.2.2 d_MA_goIf_9
set_option maxHeartbeats 4000000 in
set_option maxRecDepth 100000 in
theorem m_FM_tested (l : Launch) (D : va_G) (cI cZ : ClassId) (o : Nat) (mm : Nat) (a : Int32) (x : Int32) (sp : Int32) (pc : Int32) (zf : Bool) (cf : Bool) (st : Int32) (dn : Int32) (v : Int32) (sz : Nat) : MetI l y_MA_tested w_MA_tested { frames := 0, cells := 0, slots := 0, locals := 0 } D cI cZ [.ref o, .int v] [(o, .inr (3, [.ref mm, .int a, .int x, .int sp, .int pc, .int (bI zf), .int (bI cf), .int st, .int dn]))] sz (fun r (z1 : Bool) => r = v ∧ z1 = decide (v = 0)) (fun (z1 : Bool) => [(o, .inr (3, [.ref mm, .int a, .int x, .int sp, .int pc, .int (bI z1), .int (bI cf), .int st, .int dn]))]) 0 0 := by
  refine ofI (cc := c_MA_tested) (maxL := 2) (ret := (some .int)) (by decide) rfl (Nat.le_of_ble_eq_true rfl) ?_
  intro p e s m args below meth c A H hH0 hx hb hr hlocks hts hown hnm hml ls hl hP hK hD hA hS hN
  have hown : s.vm.findClass R_MA = some m.cls := hown
  have hl : lv_has ls 2 [(0, .ref o), (1, .int v)] := hl
  refine lv_aload_n hx hb d_MA_tested_0 rfl (lv_at hl 0 rfl) ?_
  refine lv_iload_n hx hb d_MA_tested_1 rfl (lv_at hl 1 rfl) ?_
  refine lv_if_ne (tgt := 9) hx hb d_MA_tested_2 rfl (fun h2 => ?_) (fun h2 => ?_)
  · refine lv_iconst (v := 0) hx hb d_MA_tested_9 (by decide) ?_
    refine va_put (D := D) (ci := 3) (v := .int (bI false)) (ty := .boolean) (C := R_FM) (T := T_FM) (N := 9) hx hb hts iw_FM ty_FM ty_FM_ok nm_FM hown hK hP hD hS 0 rfl rfl 5 (by decide) (hts _ k_128) (fun _ h9 => h9) rfl (by decide +kernel) (nb_n _) (nb_f _) (Nat.le_of_ble_eq_true rfl) d_MA_tested_10 (fun H locs hP hD hS => ?_)
    have hP : va_P D vwCl [(o, .inr (3, [.ref mm, .int a, .int x, .int sp, .int pc, .int (bI false), .int (bI cf), .int st, .int dn]))] H := hP
    have hD : va_D A [(o, .inr (3, [.ref mm, .int a, .int x, .int sp, .int pc, .int (bI false), .int (bI cf), .int st, .int dn]))] := hD
    refine lv_iload_n hx hb d_MA_tested_13 rfl (lv_at hl 1 rfl) ?_
    have hP9 : va_P D vwCl [(o, .inr (3, [.ref mm, .int a, .int x, .int sp, .int pc, .int (bI false), .int (bI cf), .int st, .int dn]))] H := hP.sub [0] rfl
    have hD9 : va_D A [(o, .inr (3, [.ref mm, .int a, .int x, .int sp, .int pc, .int (bI false), .int (bI cf), .int st, .int dn]))] := hD.sub [0] (by decide) rfl
    exact W.iret (v := v) hx hb hr (fun t ht hW => ⟨⟨v, false, rfl, by first | (simp only [h2, ↓reduceIte, not_true_eq_false, not_false_eq_true, and_true, true_and, and_false, false_and, and_self, or_true, true_or, or_false, false_or, decide_true, decide_false, Bool.false_eq_true, reduceCtorEq]; done) | (simp_all []; done), by rw [ht]; exact hP9, va_K.moved hW.alike hK, hD9⟩, hS.F ht⟩) hS.2.2 d_MA_tested_14
  · refine lv_iconst (v := 1) hx hb d_MA_tested_5 (by decide) ?_
    refine lv_goto (tgt := 10) hx hb d_MA_tested_6 rfl ?_
    refine va_put (D := D) (ci := 3) (v := .int (bI true)) (ty := .boolean) (C := R_FM) (T := T_FM) (N := 9) hx hb hts iw_FM ty_FM ty_FM_ok nm_FM hown hK hP hD hS 0 rfl rfl 5 (by decide) (hts _ k_128) (fun _ h9 => h9) rfl (by decide +kernel) (nb_n _) (nb_f _) (Nat.le_of_ble_eq_true rfl) d_MA_tested_10 (fun H locs hP hD hS => ?_)
    have hP : va_P D vwCl [(o, .inr (3, [.ref mm, .int a, .int x, .int sp, .int pc, .int (bI true), .int (bI cf), .int st, .int dn]))] H := hP
    have hD : va_D A [(o, .inr (3, [.ref mm, .int a, .int x, .int sp, .int pc, .int (bI true), .int (bI cf), .int st, .int dn]))] := hD
    refine lv_iload_n hx hb d_MA_tested_13 rfl (lv_at hl 1 rfl) ?_
    have hP9 : va_P D vwCl [(o, .inr (3, [.ref mm, .int a, .int x, .int sp, .int pc, .int (bI true), .int (bI cf), .int st, .int dn]))] H := hP.sub [0] rfl
    have hD9 : va_D A [(o, .inr (3, [.ref mm, .int a, .int x, .int sp, .int pc, .int (bI true), .int (bI cf), .int st, .int dn]))] := hD.sub [0] (by decide) rfl
    exact W.iret (v := v) hx hb hr (fun t ht hW => ⟨⟨v, true, rfl, by first | (simp only [h2, ↓reduceIte, not_true_eq_false, not_false_eq_true, and_true, true_and, and_false, false_and, and_self, or_true, true_or, or_false, false_or, decide_true, decide_false, Bool.false_eq_true, reduceCtorEq]; done) | (simp_all []; done), by rw [ht]; exact hP9, va_K.moved hW.alike hK, hD9⟩, hS.F ht⟩) hS.2.2 d_MA_tested_14
set_option maxHeartbeats 4000000 in
set_option maxRecDepth 100000 in
theorem m_FM_testedWC (l : Launch) (D : va_G) (cI cZ : ClassId) (o : Nat) (mm : Nat) (a : Int32) (x : Int32) (sp : Int32) (pc : Int32) (zf : Bool) (cf : Bool) (st : Int32) (dn : Int32) (v : Int32) (sz : Nat) : MetI l y_MA_testedWithoutCarry w_MA_testedWithoutCarry { frames := 1, cells := 0, slots := 0, locals := 21 } D cI cZ [.ref o, .int v] [(o, .inr (3, [.ref mm, .int a, .int x, .int sp, .int pc, .int (bI zf), .int (bI cf), .int st, .int dn]))] sz (fun r (u : Bool × Bool) => match u with | (z1, c1) => r = v ∧ z1 = decide (v = 0) ∧ c1 = false) (fun (u : Bool × Bool) => match u with | (z1, c1) => [(o, .inr (3, [.ref mm, .int a, .int x, .int sp, .int pc, .int (bI z1), .int (bI c1), .int st, .int dn]))]) 0 0 := by
  refine ofI (cc := c_MA_testedWithoutCarry) (maxL := 2) (ret := (some .int)) (by decide) rfl (Nat.le_of_ble_eq_true rfl) ?_
  intro p e s m args below meth c A H hH0 hx hb hr hlocks hts hown hnm hml ls hl hP hK hD hA hS hN
  have hown : s.vm.findClass R_MA = some m.cls := hown
  have hl : lv_has ls 2 [(0, .ref o), (1, .int v)] := hl
  refine lv_aload_n hx hb d_MA_testedWithoutCarry_0 rfl (lv_at hl 0 rfl) ?_
  refine lv_iconst (v := 0) hx hb d_MA_testedWithoutCarry_1 (by decide) ?_
  refine va_put (D := D) (ci := 3) (v := .int (bI false)) (ty := .boolean) (C := R_FM) (T := T_FM) (N := 9) hx hb hts iw_FM ty_FM ty_FM_ok nm_FM hown hK hP hD hS 0 rfl rfl 6 (by decide) (hts _ k_133) (fun _ h9 => h9) rfl (by decide +kernel) (nb_n _) (nb_f _) (Nat.le_of_ble_eq_true rfl) d_MA_testedWithoutCarry_2 (fun H locs hP hD hS => ?_)
  have hP : va_P D vwCl [(o, .inr (3, [.ref mm, .int a, .int x, .int sp, .int pc, .int (bI zf), .int (bI false), .int st, .int dn]))] H := hP
  have hD : va_D A [(o, .inr (3, [.ref mm, .int a, .int x, .int sp, .int pc, .int (bI zf), .int (bI false), .int st, .int dn]))] := hD
  refine lv_aload_n hx hb d_MA_testedWithoutCarry_5 rfl (lv_at hl 0 rfl) ?_
  refine lv_iload_n hx hb d_MA_testedWithoutCarry_6 rfl (lv_at hl 1 rfl) ?_
  have hPc := hP.sub (ws' := [(o, .inr (3, [.ref mm, .int a, .int x, .int sp, .int pc, .int (bI zf), .int (bI false), .int st, .int dn]))]) [0] rfl
  have hDc := hD.sub (ws' := [(o, .inr (3, [.ref mm, .int a, .int x, .int sp, .int pc, .int (bI zf), .int (bI false), .int st, .int dn]))]) [0] (by decide) rfl
  have hFc := va_free (wc := [(o, .inr (3, [.ref mm, .int a, .int x, .int sp, .int pc, .int (bI zf), .int (bI false), .int st, .int dn]))]) hD hS hA [0] rfl
  refine va_calli (va_runU (As := [.int v]) (rest := []) ⟨hx, hb, hml, hown, hts⟩ (m_FM_tested l D cI cZ o mm a x sp pc zf false st dn v H.size) (va_cwU 1 hts (gU k_555 k_925 k_926 k_537 k_58 k_538) rfl rfl rfl rfl hd_MA_tested ⟨Nat.le_of_ble_eq_true rfl, Nat.le_of_ble_eq_true rfl⟩) (PcW.preV (va_recv hK hP (q0 := 0) (ci := 3) rfl rfl) hPc hK hDc hN) rfl rfl hl.1 rfl (lv_room (Nat.le_of_ble_eq_true rfl)) d_MA_testedWithoutCarry_7 ⟨Nat.le_of_ble_eq_true rfl, Nat.le_of_ble_eq_true rfl⟩) hS (fun q _ h => hFc q h) hFc (fun r7 u t H1 locs ht hvm e7 hB hz1 hk1 hS => ?_)
  obtain ⟨z17, rfl⟩ : ∃ z, z = u := ⟨_, rfl⟩
  obtain ⟨hP1, hK1, hD1⟩ := hB
  rw [ht] at hP1
  obtain ⟨hP, hD⟩ := va_join (wr := []) (w1 := [(o, .inr (3, [.ref mm, .int a, .int x, .int sp, .int pc, .int (bI z17), .int (bI false), .int st, .int dn]))]) hP hD [0] [] rfl rfl (by decide) (by decide) hk1 hFc hP1 hD1
  generalize H1 = H at hP hS ⊢
  try dsimp only at e7
  obtain ⟨e7_0, e7_1⟩ := e7
  replace e7_0 := e7_0.symm
  subst e7_0
  replace e7_1 := e7_1.symm
  subst e7_1
  have hP : va_P D vwCl [(o, .inr (3, [.ref mm, .int a, .int x, .int sp, .int pc, .int (bI (decide (v = 0))), .int (bI false), .int st, .int dn]))] H := hP
  have hD : va_D A [(o, .inr (3, [.ref mm, .int a, .int x, .int sp, .int pc, .int (bI (decide (v = 0))), .int (bI false), .int st, .int dn]))] := hD
  have hP9 : va_P D vwCl [(o, .inr (3, [.ref mm, .int a, .int x, .int sp, .int pc, .int (bI (decide (v = 0))), .int (bI false), .int st, .int dn]))] H := hP.sub [0] rfl
  have hD9 : va_D A [(o, .inr (3, [.ref mm, .int a, .int x, .int sp, .int pc, .int (bI (decide (v = 0))), .int (bI false), .int st, .int dn]))] := hD.sub [0] (by decide) rfl
  exact W.iret (v := v) hx hb hr (fun t ht hW => ⟨⟨v, (decide (v = 0), false), rfl, ⟨rfl, rfl, rfl⟩, by rw [ht]; exact hP9, va_K.moved hW.alike hK, hD9⟩, hS.F ht⟩) hS.2.2 d_MA_testedWithoutCarry_10
set_option maxHeartbeats 4000000 in
set_option maxRecDepth 100000 in
theorem m_FM_sum (l : Launch) (D : va_G) (cI cZ : ClassId) (o : Nat) (mm : Nat) (a : Int32) (x : Int32) (sp : Int32) (pc : Int32) (zf : Bool) (cf : Bool) (st : Int32) (dn : Int32) (v : Int32) (w : Int32) (cy : Bool) (sz : Nat) : MetI l y_MA_sum w_MA_sum { frames := 1, cells := 0, slots := 0, locals := 21 } D cI cZ [.ref o, .int v, .int w, .int (bI cy)] [(o, .inr (3, [.ref mm, .int a, .int x, .int sp, .int pc, .int (bI zf), .int (bI cf), .int st, .int dn]))] sz (fun r (u : Bool × Bool) => match u with | (z1, c1) => r = (v + w + bI cy) &&& 255 ∧ z1 = decide ((v + w + bI cy) &&& 255 = 0) ∧ c1 = decide (¬ v + w + bI cy ≤ 255)) (fun (u : Bool × Bool) => match u with | (z1, c1) => [(o, .inr (3, [.ref mm, .int a, .int x, .int sp, .int pc, .int (bI z1), .int (bI c1), .int st, .int dn]))]) 0 0 := by
  refine ofI (cc := c_MA_sum) (maxL := 5) (ret := (some .int)) (by decide) rfl (Nat.le_of_ble_eq_true rfl) ?_
  intro p e s m args below meth c A H hH0 hx hb hr hlocks hts hown hnm hml ls hl hP hK hD hA hS hN
  have hown : s.vm.findClass R_MA = some m.cls := hown
  have hl : lv_has ls 5 [(0, .ref o), (1, .int v), (2, .int w), (3, .int (bI cy))] := hl
  refine lv_iload_n hx hb d_MA_sum_0 rfl (lv_at hl 1 rfl) ?_
  refine lv_iload_n hx hb d_MA_sum_1 rfl (lv_at hl 2 rfl) ?_
  refine lv_iadd hx hb d_MA_sum_2 ?_
  refine lv_iload_n hx hb d_MA_sum_3 rfl (lv_at hl 3 rfl) ?_
  have hPc := hP.sub (ws' := []) [] rfl
  refine vp_callSi (va_runSN (As := [.int (bI cy)]) (rest := [.int (v + w)]) ⟨hx, hb, hml, hown, hts⟩ (m_bit l D cI cZ cy) ⟨va_cnB 1 hts (gdt k_286) rfl rfl rfl (nw_8 hN) (hts _ k_56) hd_TM_bit ⟨Nat.le_of_ble_eq_true rfl, Nat.le_of_ble_eq_true rfl⟩, hts _ k_285, trivial⟩ (PcR.preS hPc hK hN) rfl rfl hl.1 rfl (lv_room (Nat.le_of_ble_eq_true rfl)) d_MA_sum_4 ⟨Nat.le_of_ble_eq_true rfl, Nat.le_of_ble_eq_true rfl⟩).run (fun r4 e4 => ?_)
  replace e4 := e4.symm
  subst e4
  refine lv_iadd hx hb d_MA_sum_7 ?_
  refine lv_istore hx hb d_MA_sum_8 hl (by decide) rfl (fun ls hl => ?_)
  have hl : lv_has ls 5 [(4, .int ((v + w) + (bI cy))), (0, .ref o), (1, .int v), (2, .int w), (3, .int (bI cy))] := hl
  refine lv_aload_n hx hb d_MA_sum_10 rfl (lv_at hl 1 rfl) ?_
  refine lv_iload hx hb d_MA_sum_11 (lv_at hl 0 rfl) ?_
  refine lv_sipush (v := 255) hx hb d_MA_sum_13 (by decide) ?_
  refine lv_icmp_le (tgt := 23) hx hb d_MA_sum_16 rfl (fun h16 => ?_) (fun h16 => ?_)
  · refine lv_iconst (v := 0) hx hb d_MA_sum_23 (by decide) ?_
    refine va_put (D := D) (ci := 3) (v := .int (bI false)) (ty := .boolean) (C := R_FM) (T := T_FM) (N := 9) hx hb hts iw_FM ty_FM ty_FM_ok nm_FM hown hK hP hD hS 0 rfl rfl 6 (by decide) (hts _ k_133) (fun _ h9 => h9) rfl (by decide +kernel) (nb_n _) (nb_f _) (Nat.le_of_ble_eq_true rfl) d_MA_sum_24 (fun H locs hP hD hS => ?_)
    have hP : va_P D vwCl [(o, .inr (3, [.ref mm, .int a, .int x, .int sp, .int pc, .int (bI zf), .int (bI false), .int st, .int dn]))] H := hP
    have hD : va_D A [(o, .inr (3, [.ref mm, .int a, .int x, .int sp, .int pc, .int (bI zf), .int (bI false), .int st, .int dn]))] := hD
    refine lv_aload_n hx hb d_MA_sum_27 rfl (lv_at hl 1 rfl) ?_
    refine lv_iload hx hb d_MA_sum_28 (lv_at hl 0 rfl) ?_
    refine lv_sipush (v := 255) hx hb d_MA_sum_30 (by decide) ?_
    refine lv_iand hx hb d_MA_sum_33 ?_
    have hPc := hP.sub (ws' := [(o, .inr (3, [.ref mm, .int a, .int x, .int sp, .int pc, .int (bI zf), .int (bI false), .int st, .int dn]))]) [0] rfl
    have hDc := hD.sub (ws' := [(o, .inr (3, [.ref mm, .int a, .int x, .int sp, .int pc, .int (bI zf), .int (bI false), .int st, .int dn]))]) [0] (by decide) rfl
    have hFc := va_free (wc := [(o, .inr (3, [.ref mm, .int a, .int x, .int sp, .int pc, .int (bI zf), .int (bI false), .int st, .int dn]))]) hD hS hA [0] rfl
    refine va_calli (va_runU (As := [.int (((v + w) + (bI cy)) &&& 255)]) (rest := []) ⟨hx, hb, hml, hown, hts⟩ (m_FM_tested l D cI cZ o mm a x sp pc zf false st dn (((v + w) + (bI cy)) &&& 255) H.size) (va_cwU 1 hts (gU k_555 k_925 k_926 k_537 k_58 k_538) rfl rfl rfl rfl hd_MA_tested ⟨Nat.le_of_ble_eq_true rfl, Nat.le_of_ble_eq_true rfl⟩) (PcW.preV (va_recv hK hP (q0 := 0) (ci := 3) rfl rfl) hPc hK hDc hN) rfl rfl hl.1 rfl (lv_room (Nat.le_of_ble_eq_true rfl)) d_MA_sum_34 ⟨Nat.le_of_ble_eq_true rfl, Nat.le_of_ble_eq_true rfl⟩) hS (fun q _ h => hFc q h) hFc (fun r34 u t H1 locs ht hvm e34 hB hz1 hk1 hS => ?_)
    obtain ⟨z134, rfl⟩ : ∃ z, z = u := ⟨_, rfl⟩
    obtain ⟨hP1, hK1, hD1⟩ := hB
    rw [ht] at hP1
    obtain ⟨hP, hD⟩ := va_join (wr := []) (w1 := [(o, .inr (3, [.ref mm, .int a, .int x, .int sp, .int pc, .int (bI z134), .int (bI false), .int st, .int dn]))]) hP hD [0] [] rfl rfl (by decide) (by decide) hk1 hFc hP1 hD1
    generalize H1 = H at hP hS ⊢
    try dsimp only at e34
    obtain ⟨e34_0, e34_1⟩ := e34
    replace e34_0 := e34_0.symm
    subst e34_0
    replace e34_1 := e34_1.symm
    subst e34_1
    have hP : va_P D vwCl [(o, .inr (3, [.ref mm, .int a, .int x, .int sp, .int pc, .int (bI (decide ((((v + w) + (bI cy)) &&& 255) = 0))), .int (bI false), .int st, .int dn]))] H := hP
    have hD : va_D A [(o, .inr (3, [.ref mm, .int a, .int x, .int sp, .int pc, .int (bI (decide ((((v + w) + (bI cy)) &&& 255) = 0))), .int (bI false), .int st, .int dn]))] := hD
    have hP9 : va_P D vwCl [(o, .inr (3, [.ref mm, .int a, .int x, .int sp, .int pc, .int (bI (decide ((((v + w) + (bI cy)) &&& 255) = 0))), .int (bI false), .int st, .int dn]))] H := hP.sub [0] rfl
    have hD9 : va_D A [(o, .inr (3, [.ref mm, .int a, .int x, .int sp, .int pc, .int (bI (decide ((((v + w) + (bI cy)) &&& 255) = 0))), .int (bI false), .int st, .int dn]))] := hD.sub [0] (by decide) rfl
    exact W.iret (v := (((v + w) + (bI cy)) &&& 255)) hx hb hr (fun t ht hW => ⟨⟨(((v + w) + (bI cy)) &&& 255), (decide ((((v + w) + (bI cy)) &&& 255) = 0), false), rfl, by first | (simp only [h16, ↓reduceIte, not_true_eq_false, not_false_eq_true, and_true, true_and, and_false, false_and, and_self, or_true, true_or, or_false, false_or, decide_true, decide_false, Bool.false_eq_true, reduceCtorEq]; done) | (simp_all []; done), by rw [ht]; exact hP9, va_K.moved hW.alike hK, hD9⟩, hS.F ht⟩) hS.2.2 d_MA_sum_37
  · refine lv_iconst (v := 1) hx hb d_MA_sum_19 (by decide) ?_
    refine lv_goto (tgt := 24) hx hb d_MA_sum_20 rfl ?_
    refine va_put (D := D) (ci := 3) (v := .int (bI true)) (ty := .boolean) (C := R_FM) (T := T_FM) (N := 9) hx hb hts iw_FM ty_FM ty_FM_ok nm_FM hown hK hP hD hS 0 rfl rfl 6 (by decide) (hts _ k_133) (fun _ h9 => h9) rfl (by decide +kernel) (nb_n _) (nb_f _) (Nat.le_of_ble_eq_true rfl) d_MA_sum_24 (fun H locs hP hD hS => ?_)
    have hP : va_P D vwCl [(o, .inr (3, [.ref mm, .int a, .int x, .int sp, .int pc, .int (bI zf), .int (bI true), .int st, .int dn]))] H := hP
    have hD : va_D A [(o, .inr (3, [.ref mm, .int a, .int x, .int sp, .int pc, .int (bI zf), .int (bI true), .int st, .int dn]))] := hD
    refine lv_aload_n hx hb d_MA_sum_27 rfl (lv_at hl 1 rfl) ?_
    refine lv_iload hx hb d_MA_sum_28 (lv_at hl 0 rfl) ?_
    refine lv_sipush (v := 255) hx hb d_MA_sum_30 (by decide) ?_
    refine lv_iand hx hb d_MA_sum_33 ?_
    have hPc := hP.sub (ws' := [(o, .inr (3, [.ref mm, .int a, .int x, .int sp, .int pc, .int (bI zf), .int (bI true), .int st, .int dn]))]) [0] rfl
    have hDc := hD.sub (ws' := [(o, .inr (3, [.ref mm, .int a, .int x, .int sp, .int pc, .int (bI zf), .int (bI true), .int st, .int dn]))]) [0] (by decide) rfl
    have hFc := va_free (wc := [(o, .inr (3, [.ref mm, .int a, .int x, .int sp, .int pc, .int (bI zf), .int (bI true), .int st, .int dn]))]) hD hS hA [0] rfl
    refine va_calli (va_runU (As := [.int (((v + w) + (bI cy)) &&& 255)]) (rest := []) ⟨hx, hb, hml, hown, hts⟩ (m_FM_tested l D cI cZ o mm a x sp pc zf true st dn (((v + w) + (bI cy)) &&& 255) H.size) (va_cwU 1 hts (gU k_555 k_925 k_926 k_537 k_58 k_538) rfl rfl rfl rfl hd_MA_tested ⟨Nat.le_of_ble_eq_true rfl, Nat.le_of_ble_eq_true rfl⟩) (PcW.preV (va_recv hK hP (q0 := 0) (ci := 3) rfl rfl) hPc hK hDc hN) rfl rfl hl.1 rfl (lv_room (Nat.le_of_ble_eq_true rfl)) d_MA_sum_34 ⟨Nat.le_of_ble_eq_true rfl, Nat.le_of_ble_eq_true rfl⟩) hS (fun q _ h => hFc q h) hFc (fun r34 u t H1 locs ht hvm e34 hB hz1 hk1 hS => ?_)
    obtain ⟨z134, rfl⟩ : ∃ z, z = u := ⟨_, rfl⟩
    obtain ⟨hP1, hK1, hD1⟩ := hB
    rw [ht] at hP1
    obtain ⟨hP, hD⟩ := va_join (wr := []) (w1 := [(o, .inr (3, [.ref mm, .int a, .int x, .int sp, .int pc, .int (bI z134), .int (bI true), .int st, .int dn]))]) hP hD [0] [] rfl rfl (by decide) (by decide) hk1 hFc hP1 hD1
    generalize H1 = H at hP hS ⊢
    try dsimp only at e34
    obtain ⟨e34_0, e34_1⟩ := e34
    replace e34_0 := e34_0.symm
    subst e34_0
    replace e34_1 := e34_1.symm
    subst e34_1
    have hP : va_P D vwCl [(o, .inr (3, [.ref mm, .int a, .int x, .int sp, .int pc, .int (bI (decide ((((v + w) + (bI cy)) &&& 255) = 0))), .int (bI true), .int st, .int dn]))] H := hP
    have hD : va_D A [(o, .inr (3, [.ref mm, .int a, .int x, .int sp, .int pc, .int (bI (decide ((((v + w) + (bI cy)) &&& 255) = 0))), .int (bI true), .int st, .int dn]))] := hD
    have hP9 : va_P D vwCl [(o, .inr (3, [.ref mm, .int a, .int x, .int sp, .int pc, .int (bI (decide ((((v + w) + (bI cy)) &&& 255) = 0))), .int (bI true), .int st, .int dn]))] H := hP.sub [0] rfl
    have hD9 : va_D A [(o, .inr (3, [.ref mm, .int a, .int x, .int sp, .int pc, .int (bI (decide ((((v + w) + (bI cy)) &&& 255) = 0))), .int (bI true), .int st, .int dn]))] := hD.sub [0] (by decide) rfl
    exact W.iret (v := (((v + w) + (bI cy)) &&& 255)) hx hb hr (fun t ht hW => ⟨⟨(((v + w) + (bI cy)) &&& 255), (decide ((((v + w) + (bI cy)) &&& 255) = 0), true), rfl, by first | (simp only [h16, ↓reduceIte, not_true_eq_false, not_false_eq_true, and_true, true_and, and_false, false_and, and_self, or_true, true_or, or_false, false_or, decide_true, decide_false, Bool.false_eq_true, reduceCtorEq]; done) | (simp_all []; done), by rw [ht]; exact hP9, va_K.moved hW.alike hK, hD9⟩, hS.F ht⟩) hS.2.2 d_MA_sum_37
set_option maxHeartbeats 4000000 in
set_option maxRecDepth 100000 in
theorem m_FM_diff (l : Launch) (D : va_G) (cI cZ : ClassId) (o : Nat) (mm : Nat) (a : Int32) (x : Int32) (sp : Int32) (pc : Int32) (zf : Bool) (cf : Bool) (st : Int32) (dn : Int32) (v : Int32) (w : Int32) (sz : Nat) : MetI l y_MA_difference w_MA_difference { frames := 1, cells := 0, slots := 0, locals := 21 } D cI cZ [.ref o, .int v, .int w] [(o, .inr (3, [.ref mm, .int a, .int x, .int sp, .int pc, .int (bI zf), .int (bI cf), .int st, .int dn]))] sz (fun r (u : Bool × Bool) => match u with | (z1, c1) => r = (v - w) &&& 255 ∧ z1 = decide ((v - w) &&& 255 = 0) ∧ c1 = decide (¬ w ≤ v)) (fun (u : Bool × Bool) => match u with | (z1, c1) => [(o, .inr (3, [.ref mm, .int a, .int x, .int sp, .int pc, .int (bI z1), .int (bI c1), .int st, .int dn]))]) 0 0 := by
  refine ofI (cc := c_MA_difference) (maxL := 3) (ret := (some .int)) (by decide) rfl (Nat.le_of_ble_eq_true rfl) ?_
  intro p e s m args below meth c A H hH0 hx hb hr hlocks hts hown hnm hml ls hl hP hK hD hA hS hN
  have hown : s.vm.findClass R_MA = some m.cls := hown
  have hl : lv_has ls 3 [(0, .ref o), (1, .int v), (2, .int w)] := hl
  refine lv_aload_n hx hb d_MA_difference_0 rfl (lv_at hl 0 rfl) ?_
  refine lv_iload_n hx hb d_MA_difference_1 rfl (lv_at hl 2 rfl) ?_
  refine lv_iload_n hx hb d_MA_difference_2 rfl (lv_at hl 1 rfl) ?_
  refine lv_icmp_le (tgt := 10) hx hb d_MA_difference_3 rfl (fun h3 => ?_) (fun h3 => ?_)
  · refine lv_iconst (v := 0) hx hb d_MA_difference_10 (by decide) ?_
    refine va_put (D := D) (ci := 3) (v := .int (bI false)) (ty := .boolean) (C := R_FM) (T := T_FM) (N := 9) hx hb hts iw_FM ty_FM ty_FM_ok nm_FM hown hK hP hD hS 0 rfl rfl 6 (by decide) (hts _ k_133) (fun _ h9 => h9) rfl (by decide +kernel) (nb_n _) (nb_f _) (Nat.le_of_ble_eq_true rfl) d_MA_difference_11 (fun H locs hP hD hS => ?_)
    have hP : va_P D vwCl [(o, .inr (3, [.ref mm, .int a, .int x, .int sp, .int pc, .int (bI zf), .int (bI false), .int st, .int dn]))] H := hP
    have hD : va_D A [(o, .inr (3, [.ref mm, .int a, .int x, .int sp, .int pc, .int (bI zf), .int (bI false), .int st, .int dn]))] := hD
    refine lv_aload_n hx hb d_MA_difference_14 rfl (lv_at hl 0 rfl) ?_
    refine lv_iload_n hx hb d_MA_difference_15 rfl (lv_at hl 1 rfl) ?_
    refine lv_iload_n hx hb d_MA_difference_16 rfl (lv_at hl 2 rfl) ?_
    refine lv_isub hx hb d_MA_difference_17 ?_
    refine lv_sipush (v := 255) hx hb d_MA_difference_18 (by decide) ?_
    refine lv_iand hx hb d_MA_difference_21 ?_
    have hPc := hP.sub (ws' := [(o, .inr (3, [.ref mm, .int a, .int x, .int sp, .int pc, .int (bI zf), .int (bI false), .int st, .int dn]))]) [0] rfl
    have hDc := hD.sub (ws' := [(o, .inr (3, [.ref mm, .int a, .int x, .int sp, .int pc, .int (bI zf), .int (bI false), .int st, .int dn]))]) [0] (by decide) rfl
    have hFc := va_free (wc := [(o, .inr (3, [.ref mm, .int a, .int x, .int sp, .int pc, .int (bI zf), .int (bI false), .int st, .int dn]))]) hD hS hA [0] rfl
    refine va_calli (va_runU (As := [.int ((v - w) &&& 255)]) (rest := []) ⟨hx, hb, hml, hown, hts⟩ (m_FM_tested l D cI cZ o mm a x sp pc zf false st dn ((v - w) &&& 255) H.size) (va_cwU 1 hts (gU k_555 k_925 k_926 k_537 k_58 k_538) rfl rfl rfl rfl hd_MA_tested ⟨Nat.le_of_ble_eq_true rfl, Nat.le_of_ble_eq_true rfl⟩) (PcW.preV (va_recv hK hP (q0 := 0) (ci := 3) rfl rfl) hPc hK hDc hN) rfl rfl hl.1 rfl (lv_room (Nat.le_of_ble_eq_true rfl)) d_MA_difference_22 ⟨Nat.le_of_ble_eq_true rfl, Nat.le_of_ble_eq_true rfl⟩) hS (fun q _ h => hFc q h) hFc (fun r22 u t H1 locs ht hvm e22 hB hz1 hk1 hS => ?_)
    obtain ⟨z122, rfl⟩ : ∃ z, z = u := ⟨_, rfl⟩
    obtain ⟨hP1, hK1, hD1⟩ := hB
    rw [ht] at hP1
    obtain ⟨hP, hD⟩ := va_join (wr := []) (w1 := [(o, .inr (3, [.ref mm, .int a, .int x, .int sp, .int pc, .int (bI z122), .int (bI false), .int st, .int dn]))]) hP hD [0] [] rfl rfl (by decide) (by decide) hk1 hFc hP1 hD1
    generalize H1 = H at hP hS ⊢
    try dsimp only at e22
    obtain ⟨e22_0, e22_1⟩ := e22
    replace e22_0 := e22_0.symm
    subst e22_0
    replace e22_1 := e22_1.symm
    subst e22_1
    have hP : va_P D vwCl [(o, .inr (3, [.ref mm, .int a, .int x, .int sp, .int pc, .int (bI (decide (((v - w) &&& 255) = 0))), .int (bI false), .int st, .int dn]))] H := hP
    have hD : va_D A [(o, .inr (3, [.ref mm, .int a, .int x, .int sp, .int pc, .int (bI (decide (((v - w) &&& 255) = 0))), .int (bI false), .int st, .int dn]))] := hD
    have hP9 : va_P D vwCl [(o, .inr (3, [.ref mm, .int a, .int x, .int sp, .int pc, .int (bI (decide (((v - w) &&& 255) = 0))), .int (bI false), .int st, .int dn]))] H := hP.sub [0] rfl
    have hD9 : va_D A [(o, .inr (3, [.ref mm, .int a, .int x, .int sp, .int pc, .int (bI (decide (((v - w) &&& 255) = 0))), .int (bI false), .int st, .int dn]))] := hD.sub [0] (by decide) rfl
    exact W.iret (v := ((v - w) &&& 255)) hx hb hr (fun t ht hW => ⟨⟨((v - w) &&& 255), (decide (((v - w) &&& 255) = 0), false), rfl, by first | (simp only [h3, ↓reduceIte, not_true_eq_false, not_false_eq_true, and_true, true_and, and_false, false_and, and_self, or_true, true_or, or_false, false_or, decide_true, decide_false, Bool.false_eq_true, reduceCtorEq]; done) | (simp_all []; done), by rw [ht]; exact hP9, va_K.moved hW.alike hK, hD9⟩, hS.F ht⟩) hS.2.2 d_MA_difference_25
  · refine lv_iconst (v := 1) hx hb d_MA_difference_6 (by decide) ?_
    refine lv_goto (tgt := 11) hx hb d_MA_difference_7 rfl ?_
    refine va_put (D := D) (ci := 3) (v := .int (bI true)) (ty := .boolean) (C := R_FM) (T := T_FM) (N := 9) hx hb hts iw_FM ty_FM ty_FM_ok nm_FM hown hK hP hD hS 0 rfl rfl 6 (by decide) (hts _ k_133) (fun _ h9 => h9) rfl (by decide +kernel) (nb_n _) (nb_f _) (Nat.le_of_ble_eq_true rfl) d_MA_difference_11 (fun H locs hP hD hS => ?_)
    have hP : va_P D vwCl [(o, .inr (3, [.ref mm, .int a, .int x, .int sp, .int pc, .int (bI zf), .int (bI true), .int st, .int dn]))] H := hP
    have hD : va_D A [(o, .inr (3, [.ref mm, .int a, .int x, .int sp, .int pc, .int (bI zf), .int (bI true), .int st, .int dn]))] := hD
    refine lv_aload_n hx hb d_MA_difference_14 rfl (lv_at hl 0 rfl) ?_
    refine lv_iload_n hx hb d_MA_difference_15 rfl (lv_at hl 1 rfl) ?_
    refine lv_iload_n hx hb d_MA_difference_16 rfl (lv_at hl 2 rfl) ?_
    refine lv_isub hx hb d_MA_difference_17 ?_
    refine lv_sipush (v := 255) hx hb d_MA_difference_18 (by decide) ?_
    refine lv_iand hx hb d_MA_difference_21 ?_
    have hPc := hP.sub (ws' := [(o, .inr (3, [.ref mm, .int a, .int x, .int sp, .int pc, .int (bI zf), .int (bI true), .int st, .int dn]))]) [0] rfl
    have hDc := hD.sub (ws' := [(o, .inr (3, [.ref mm, .int a, .int x, .int sp, .int pc, .int (bI zf), .int (bI true), .int st, .int dn]))]) [0] (by decide) rfl
    have hFc := va_free (wc := [(o, .inr (3, [.ref mm, .int a, .int x, .int sp, .int pc, .int (bI zf), .int (bI true), .int st, .int dn]))]) hD hS hA [0] rfl
    refine va_calli (va_runU (As := [.int ((v - w) &&& 255)]) (rest := []) ⟨hx, hb, hml, hown, hts⟩ (m_FM_tested l D cI cZ o mm a x sp pc zf true st dn ((v - w) &&& 255) H.size) (va_cwU 1 hts (gU k_555 k_925 k_926 k_537 k_58 k_538) rfl rfl rfl rfl hd_MA_tested ⟨Nat.le_of_ble_eq_true rfl, Nat.le_of_ble_eq_true rfl⟩) (PcW.preV (va_recv hK hP (q0 := 0) (ci := 3) rfl rfl) hPc hK hDc hN) rfl rfl hl.1 rfl (lv_room (Nat.le_of_ble_eq_true rfl)) d_MA_difference_22 ⟨Nat.le_of_ble_eq_true rfl, Nat.le_of_ble_eq_true rfl⟩) hS (fun q _ h => hFc q h) hFc (fun r22 u t H1 locs ht hvm e22 hB hz1 hk1 hS => ?_)
    obtain ⟨z122, rfl⟩ : ∃ z, z = u := ⟨_, rfl⟩
    obtain ⟨hP1, hK1, hD1⟩ := hB
    rw [ht] at hP1
    obtain ⟨hP, hD⟩ := va_join (wr := []) (w1 := [(o, .inr (3, [.ref mm, .int a, .int x, .int sp, .int pc, .int (bI z122), .int (bI true), .int st, .int dn]))]) hP hD [0] [] rfl rfl (by decide) (by decide) hk1 hFc hP1 hD1
    generalize H1 = H at hP hS ⊢
    try dsimp only at e22
    obtain ⟨e22_0, e22_1⟩ := e22
    replace e22_0 := e22_0.symm
    subst e22_0
    replace e22_1 := e22_1.symm
    subst e22_1
    have hP : va_P D vwCl [(o, .inr (3, [.ref mm, .int a, .int x, .int sp, .int pc, .int (bI (decide (((v - w) &&& 255) = 0))), .int (bI true), .int st, .int dn]))] H := hP
    have hD : va_D A [(o, .inr (3, [.ref mm, .int a, .int x, .int sp, .int pc, .int (bI (decide (((v - w) &&& 255) = 0))), .int (bI true), .int st, .int dn]))] := hD
    have hP9 : va_P D vwCl [(o, .inr (3, [.ref mm, .int a, .int x, .int sp, .int pc, .int (bI (decide (((v - w) &&& 255) = 0))), .int (bI true), .int st, .int dn]))] H := hP.sub [0] rfl
    have hD9 : va_D A [(o, .inr (3, [.ref mm, .int a, .int x, .int sp, .int pc, .int (bI (decide (((v - w) &&& 255) = 0))), .int (bI true), .int st, .int dn]))] := hD.sub [0] (by decide) rfl
    exact W.iret (v := ((v - w) &&& 255)) hx hb hr (fun t ht hW => ⟨⟨((v - w) &&& 255), (decide (((v - w) &&& 255) = 0), true), rfl, by first | (simp only [h3, ↓reduceIte, not_true_eq_false, not_false_eq_true, and_true, true_and, and_false, false_and, and_self, or_true, true_or, or_false, false_or, decide_true, decide_false, Bool.false_eq_true, reduceCtorEq]; done) | (simp_all []; done), by rw [ht]; exact hP9, va_K.moved hW.alike hK, hD9⟩, hS.F ht⟩) hS.2.2 d_MA_difference_25
set_option maxHeartbeats 4000000 in
set_option maxRecDepth 100000 in
theorem m_FM_doubled (l : Launch) (D : va_G) (cI cZ : ClassId) (o : Nat) (mm : Nat) (a : Int32) (x : Int32) (sp : Int32) (pc : Int32) (zf : Bool) (cf : Bool) (st : Int32) (dn : Int32) (v : Int32) (sz : Nat) : MetI l y_MA_doubled w_MA_doubled { frames := 1, cells := 0, slots := 0, locals := 21 } D cI cZ [.ref o, .int v] [(o, .inr (3, [.ref mm, .int a, .int x, .int sp, .int pc, .int (bI zf), .int (bI cf), .int st, .int dn]))] sz (fun r (u : Bool × Bool) => match u with | (z1, c1) => r = (2 * v) &&& 255 ∧ z1 = decide ((2 * v) &&& 255 = 0) ∧ c1 = decide (¬ v &&& 128 = 0)) (fun (u : Bool × Bool) => match u with | (z1, c1) => [(o, .inr (3, [.ref mm, .int a, .int x, .int sp, .int pc, .int (bI z1), .int (bI c1), .int st, .int dn]))]) 0 0 := by
  refine ofI (cc := c_MA_doubled) (maxL := 2) (ret := (some .int)) (by decide) rfl (Nat.le_of_ble_eq_true rfl) ?_
  intro p e s m args below meth c A H hH0 hx hb hr hlocks hts hown hnm hml ls hl hP hK hD hA hS hN
  have hown : s.vm.findClass R_MA = some m.cls := hown
  have hl : lv_has ls 2 [(0, .ref o), (1, .int v)] := hl
  refine lv_aload_n hx hb d_MA_doubled_0 rfl (lv_at hl 0 rfl) ?_
  refine lv_iload_n hx hb d_MA_doubled_1 rfl (lv_at hl 1 rfl) ?_
  refine lv_sipush (v := 128) hx hb d_MA_doubled_2 (by decide) ?_
  refine lv_iand hx hb d_MA_doubled_5 ?_
  refine lv_if_eq (tgt := 13) hx hb d_MA_doubled_6 rfl (fun h6 => ?_) (fun h6 => ?_)
  · refine lv_iconst (v := 0) hx hb d_MA_doubled_13 (by decide) ?_
    refine va_put (D := D) (ci := 3) (v := .int (bI false)) (ty := .boolean) (C := R_FM) (T := T_FM) (N := 9) hx hb hts iw_FM ty_FM ty_FM_ok nm_FM hown hK hP hD hS 0 rfl rfl 6 (by decide) (hts _ k_133) (fun _ h9 => h9) rfl (by decide +kernel) (nb_n _) (nb_f _) (Nat.le_of_ble_eq_true rfl) d_MA_doubled_14 (fun H locs hP hD hS => ?_)
    have hP : va_P D vwCl [(o, .inr (3, [.ref mm, .int a, .int x, .int sp, .int pc, .int (bI zf), .int (bI false), .int st, .int dn]))] H := hP
    have hD : va_D A [(o, .inr (3, [.ref mm, .int a, .int x, .int sp, .int pc, .int (bI zf), .int (bI false), .int st, .int dn]))] := hD
    refine lv_aload_n hx hb d_MA_doubled_17 rfl (lv_at hl 0 rfl) ?_
    refine lv_iconst (v := 2) hx hb d_MA_doubled_18 (by decide) ?_
    refine lv_iload_n hx hb d_MA_doubled_19 rfl (lv_at hl 1 rfl) ?_
    refine lv_imul hx hb d_MA_doubled_20 ?_
    refine lv_sipush (v := 255) hx hb d_MA_doubled_21 (by decide) ?_
    refine lv_iand hx hb d_MA_doubled_24 ?_
    have hPc := hP.sub (ws' := [(o, .inr (3, [.ref mm, .int a, .int x, .int sp, .int pc, .int (bI zf), .int (bI false), .int st, .int dn]))]) [0] rfl
    have hDc := hD.sub (ws' := [(o, .inr (3, [.ref mm, .int a, .int x, .int sp, .int pc, .int (bI zf), .int (bI false), .int st, .int dn]))]) [0] (by decide) rfl
    have hFc := va_free (wc := [(o, .inr (3, [.ref mm, .int a, .int x, .int sp, .int pc, .int (bI zf), .int (bI false), .int st, .int dn]))]) hD hS hA [0] rfl
    refine va_calli (va_runU (As := [.int ((2 * v) &&& 255)]) (rest := []) ⟨hx, hb, hml, hown, hts⟩ (m_FM_tested l D cI cZ o mm a x sp pc zf false st dn ((2 * v) &&& 255) H.size) (va_cwU 1 hts (gU k_555 k_925 k_926 k_537 k_58 k_538) rfl rfl rfl rfl hd_MA_tested ⟨Nat.le_of_ble_eq_true rfl, Nat.le_of_ble_eq_true rfl⟩) (PcW.preV (va_recv hK hP (q0 := 0) (ci := 3) rfl rfl) hPc hK hDc hN) rfl rfl hl.1 rfl (lv_room (Nat.le_of_ble_eq_true rfl)) d_MA_doubled_25 ⟨Nat.le_of_ble_eq_true rfl, Nat.le_of_ble_eq_true rfl⟩) hS (fun q _ h => hFc q h) hFc (fun r25 u t H1 locs ht hvm e25 hB hz1 hk1 hS => ?_)
    obtain ⟨z125, rfl⟩ : ∃ z, z = u := ⟨_, rfl⟩
    obtain ⟨hP1, hK1, hD1⟩ := hB
    rw [ht] at hP1
    obtain ⟨hP, hD⟩ := va_join (wr := []) (w1 := [(o, .inr (3, [.ref mm, .int a, .int x, .int sp, .int pc, .int (bI z125), .int (bI false), .int st, .int dn]))]) hP hD [0] [] rfl rfl (by decide) (by decide) hk1 hFc hP1 hD1
    generalize H1 = H at hP hS ⊢
    try dsimp only at e25
    obtain ⟨e25_0, e25_1⟩ := e25
    replace e25_0 := e25_0.symm
    subst e25_0
    replace e25_1 := e25_1.symm
    subst e25_1
    have hP : va_P D vwCl [(o, .inr (3, [.ref mm, .int a, .int x, .int sp, .int pc, .int (bI (decide (((2 * v) &&& 255) = 0))), .int (bI false), .int st, .int dn]))] H := hP
    have hD : va_D A [(o, .inr (3, [.ref mm, .int a, .int x, .int sp, .int pc, .int (bI (decide (((2 * v) &&& 255) = 0))), .int (bI false), .int st, .int dn]))] := hD
    have hP9 : va_P D vwCl [(o, .inr (3, [.ref mm, .int a, .int x, .int sp, .int pc, .int (bI (decide (((2 * v) &&& 255) = 0))), .int (bI false), .int st, .int dn]))] H := hP.sub [0] rfl
    have hD9 : va_D A [(o, .inr (3, [.ref mm, .int a, .int x, .int sp, .int pc, .int (bI (decide (((2 * v) &&& 255) = 0))), .int (bI false), .int st, .int dn]))] := hD.sub [0] (by decide) rfl
    exact W.iret (v := ((2 * v) &&& 255)) hx hb hr (fun t ht hW => ⟨⟨((2 * v) &&& 255), (decide (((2 * v) &&& 255) = 0), false), rfl, by first | (simp only [h6, ↓reduceIte, not_true_eq_false, not_false_eq_true, and_true, true_and, and_false, false_and, and_self, or_true, true_or, or_false, false_or, decide_true, decide_false, Bool.false_eq_true, reduceCtorEq]; done) | (simp_all []; done), by rw [ht]; exact hP9, va_K.moved hW.alike hK, hD9⟩, hS.F ht⟩) hS.2.2 d_MA_doubled_28
  · refine lv_iconst (v := 1) hx hb d_MA_doubled_9 (by decide) ?_
    refine lv_goto (tgt := 14) hx hb d_MA_doubled_10 rfl ?_
    refine va_put (D := D) (ci := 3) (v := .int (bI true)) (ty := .boolean) (C := R_FM) (T := T_FM) (N := 9) hx hb hts iw_FM ty_FM ty_FM_ok nm_FM hown hK hP hD hS 0 rfl rfl 6 (by decide) (hts _ k_133) (fun _ h9 => h9) rfl (by decide +kernel) (nb_n _) (nb_f _) (Nat.le_of_ble_eq_true rfl) d_MA_doubled_14 (fun H locs hP hD hS => ?_)
    have hP : va_P D vwCl [(o, .inr (3, [.ref mm, .int a, .int x, .int sp, .int pc, .int (bI zf), .int (bI true), .int st, .int dn]))] H := hP
    have hD : va_D A [(o, .inr (3, [.ref mm, .int a, .int x, .int sp, .int pc, .int (bI zf), .int (bI true), .int st, .int dn]))] := hD
    refine lv_aload_n hx hb d_MA_doubled_17 rfl (lv_at hl 0 rfl) ?_
    refine lv_iconst (v := 2) hx hb d_MA_doubled_18 (by decide) ?_
    refine lv_iload_n hx hb d_MA_doubled_19 rfl (lv_at hl 1 rfl) ?_
    refine lv_imul hx hb d_MA_doubled_20 ?_
    refine lv_sipush (v := 255) hx hb d_MA_doubled_21 (by decide) ?_
    refine lv_iand hx hb d_MA_doubled_24 ?_
    have hPc := hP.sub (ws' := [(o, .inr (3, [.ref mm, .int a, .int x, .int sp, .int pc, .int (bI zf), .int (bI true), .int st, .int dn]))]) [0] rfl
    have hDc := hD.sub (ws' := [(o, .inr (3, [.ref mm, .int a, .int x, .int sp, .int pc, .int (bI zf), .int (bI true), .int st, .int dn]))]) [0] (by decide) rfl
    have hFc := va_free (wc := [(o, .inr (3, [.ref mm, .int a, .int x, .int sp, .int pc, .int (bI zf), .int (bI true), .int st, .int dn]))]) hD hS hA [0] rfl
    refine va_calli (va_runU (As := [.int ((2 * v) &&& 255)]) (rest := []) ⟨hx, hb, hml, hown, hts⟩ (m_FM_tested l D cI cZ o mm a x sp pc zf true st dn ((2 * v) &&& 255) H.size) (va_cwU 1 hts (gU k_555 k_925 k_926 k_537 k_58 k_538) rfl rfl rfl rfl hd_MA_tested ⟨Nat.le_of_ble_eq_true rfl, Nat.le_of_ble_eq_true rfl⟩) (PcW.preV (va_recv hK hP (q0 := 0) (ci := 3) rfl rfl) hPc hK hDc hN) rfl rfl hl.1 rfl (lv_room (Nat.le_of_ble_eq_true rfl)) d_MA_doubled_25 ⟨Nat.le_of_ble_eq_true rfl, Nat.le_of_ble_eq_true rfl⟩) hS (fun q _ h => hFc q h) hFc (fun r25 u t H1 locs ht hvm e25 hB hz1 hk1 hS => ?_)
    obtain ⟨z125, rfl⟩ : ∃ z, z = u := ⟨_, rfl⟩
    obtain ⟨hP1, hK1, hD1⟩ := hB
    rw [ht] at hP1
    obtain ⟨hP, hD⟩ := va_join (wr := []) (w1 := [(o, .inr (3, [.ref mm, .int a, .int x, .int sp, .int pc, .int (bI z125), .int (bI true), .int st, .int dn]))]) hP hD [0] [] rfl rfl (by decide) (by decide) hk1 hFc hP1 hD1
    generalize H1 = H at hP hS ⊢
    try dsimp only at e25
    obtain ⟨e25_0, e25_1⟩ := e25
    replace e25_0 := e25_0.symm
    subst e25_0
    replace e25_1 := e25_1.symm
    subst e25_1
    have hP : va_P D vwCl [(o, .inr (3, [.ref mm, .int a, .int x, .int sp, .int pc, .int (bI (decide (((2 * v) &&& 255) = 0))), .int (bI true), .int st, .int dn]))] H := hP
    have hD : va_D A [(o, .inr (3, [.ref mm, .int a, .int x, .int sp, .int pc, .int (bI (decide (((2 * v) &&& 255) = 0))), .int (bI true), .int st, .int dn]))] := hD
    have hP9 : va_P D vwCl [(o, .inr (3, [.ref mm, .int a, .int x, .int sp, .int pc, .int (bI (decide (((2 * v) &&& 255) = 0))), .int (bI true), .int st, .int dn]))] H := hP.sub [0] rfl
    have hD9 : va_D A [(o, .inr (3, [.ref mm, .int a, .int x, .int sp, .int pc, .int (bI (decide (((2 * v) &&& 255) = 0))), .int (bI true), .int st, .int dn]))] := hD.sub [0] (by decide) rfl
    exact W.iret (v := ((2 * v) &&& 255)) hx hb hr (fun t ht hW => ⟨⟨((2 * v) &&& 255), (decide (((2 * v) &&& 255) = 0), true), rfl, by first | (simp only [h6, ↓reduceIte, not_true_eq_false, not_false_eq_true, and_true, true_and, and_false, false_and, and_self, or_true, true_or, or_false, false_or, decide_true, decide_false, Bool.false_eq_true, reduceCtorEq]; done) | (simp_all []; done), by rw [ht]; exact hP9, va_K.moved hW.alike hK, hD9⟩, hS.F ht⟩) hS.2.2 d_MA_doubled_28
set_option maxHeartbeats 4000000 in
set_option maxRecDepth 100000 in
theorem m_FM_halved (l : Launch) (D : va_G) (cI cZ : ClassId) (o : Nat) (mm : Nat) (a : Int32) (x : Int32) (sp : Int32) (pc : Int32) (zf : Bool) (cf : Bool) (st : Int32) (dn : Int32) (v : Int32) (sz : Nat) : MetI l y_MA_halved w_MA_halved { frames := 1, cells := 0, slots := 0, locals := 21 } D cI cZ [.ref o, .int v] [(o, .inr (3, [.ref mm, .int a, .int x, .int sp, .int pc, .int (bI zf), .int (bI cf), .int st, .int dn]))] sz (fun r (u : Bool × Bool) => match u with | (z1, c1) => r = v >>> (1 &&& 31) ∧ z1 = decide (v >>> (1 &&& 31) = 0) ∧ c1 = decide (¬ v &&& 1 = 0)) (fun (u : Bool × Bool) => match u with | (z1, c1) => [(o, .inr (3, [.ref mm, .int a, .int x, .int sp, .int pc, .int (bI z1), .int (bI c1), .int st, .int dn]))]) 0 0 := by
  refine ofI (cc := c_MA_halved) (maxL := 2) (ret := (some .int)) (by decide) rfl (Nat.le_of_ble_eq_true rfl) ?_
  intro p e s m args below meth c A H hH0 hx hb hr hlocks hts hown hnm hml ls hl hP hK hD hA hS hN
  have hown : s.vm.findClass R_MA = some m.cls := hown
  have hl : lv_has ls 2 [(0, .ref o), (1, .int v)] := hl
  refine lv_aload_n hx hb d_MA_halved_0 rfl (lv_at hl 0 rfl) ?_
  refine lv_iload_n hx hb d_MA_halved_1 rfl (lv_at hl 1 rfl) ?_
  refine lv_iconst (v := 1) hx hb d_MA_halved_2 (by decide) ?_
  refine lv_iand hx hb d_MA_halved_3 ?_
  refine lv_if_eq (tgt := 11) hx hb d_MA_halved_4 rfl (fun h4 => ?_) (fun h4 => ?_)
  · refine lv_iconst (v := 0) hx hb d_MA_halved_11 (by decide) ?_
    refine va_put (D := D) (ci := 3) (v := .int (bI false)) (ty := .boolean) (C := R_FM) (T := T_FM) (N := 9) hx hb hts iw_FM ty_FM ty_FM_ok nm_FM hown hK hP hD hS 0 rfl rfl 6 (by decide) (hts _ k_133) (fun _ h9 => h9) rfl (by decide +kernel) (nb_n _) (nb_f _) (Nat.le_of_ble_eq_true rfl) d_MA_halved_12 (fun H locs hP hD hS => ?_)
    have hP : va_P D vwCl [(o, .inr (3, [.ref mm, .int a, .int x, .int sp, .int pc, .int (bI zf), .int (bI false), .int st, .int dn]))] H := hP
    have hD : va_D A [(o, .inr (3, [.ref mm, .int a, .int x, .int sp, .int pc, .int (bI zf), .int (bI false), .int st, .int dn]))] := hD
    refine lv_aload_n hx hb d_MA_halved_15 rfl (lv_at hl 0 rfl) ?_
    refine lv_iload_n hx hb d_MA_halved_16 rfl (lv_at hl 1 rfl) ?_
    refine lv_iconst (v := 1) hx hb d_MA_halved_17 (by decide) ?_
    refine lv_ishr hx hb d_MA_halved_18 ?_
    have hPc := hP.sub (ws' := [(o, .inr (3, [.ref mm, .int a, .int x, .int sp, .int pc, .int (bI zf), .int (bI false), .int st, .int dn]))]) [0] rfl
    have hDc := hD.sub (ws' := [(o, .inr (3, [.ref mm, .int a, .int x, .int sp, .int pc, .int (bI zf), .int (bI false), .int st, .int dn]))]) [0] (by decide) rfl
    have hFc := va_free (wc := [(o, .inr (3, [.ref mm, .int a, .int x, .int sp, .int pc, .int (bI zf), .int (bI false), .int st, .int dn]))]) hD hS hA [0] rfl
    refine va_calli (va_runU (As := [.int (v >>> (1 &&& 31))]) (rest := []) ⟨hx, hb, hml, hown, hts⟩ (m_FM_tested l D cI cZ o mm a x sp pc zf false st dn (v >>> (1 &&& 31)) H.size) (va_cwU 1 hts (gU k_555 k_925 k_926 k_537 k_58 k_538) rfl rfl rfl rfl hd_MA_tested ⟨Nat.le_of_ble_eq_true rfl, Nat.le_of_ble_eq_true rfl⟩) (PcW.preV (va_recv hK hP (q0 := 0) (ci := 3) rfl rfl) hPc hK hDc hN) rfl rfl hl.1 rfl (lv_room (Nat.le_of_ble_eq_true rfl)) d_MA_halved_19 ⟨Nat.le_of_ble_eq_true rfl, Nat.le_of_ble_eq_true rfl⟩) hS (fun q _ h => hFc q h) hFc (fun r19 u t H1 locs ht hvm e19 hB hz1 hk1 hS => ?_)
    obtain ⟨z119, rfl⟩ : ∃ z, z = u := ⟨_, rfl⟩
    obtain ⟨hP1, hK1, hD1⟩ := hB
    rw [ht] at hP1
    obtain ⟨hP, hD⟩ := va_join (wr := []) (w1 := [(o, .inr (3, [.ref mm, .int a, .int x, .int sp, .int pc, .int (bI z119), .int (bI false), .int st, .int dn]))]) hP hD [0] [] rfl rfl (by decide) (by decide) hk1 hFc hP1 hD1
    generalize H1 = H at hP hS ⊢
    try dsimp only at e19
    obtain ⟨e19_0, e19_1⟩ := e19
    replace e19_0 := e19_0.symm
    subst e19_0
    replace e19_1 := e19_1.symm
    subst e19_1
    have hP : va_P D vwCl [(o, .inr (3, [.ref mm, .int a, .int x, .int sp, .int pc, .int (bI (decide ((v >>> (1 &&& 31)) = 0))), .int (bI false), .int st, .int dn]))] H := hP
    have hD : va_D A [(o, .inr (3, [.ref mm, .int a, .int x, .int sp, .int pc, .int (bI (decide ((v >>> (1 &&& 31)) = 0))), .int (bI false), .int st, .int dn]))] := hD
    have hP9 : va_P D vwCl [(o, .inr (3, [.ref mm, .int a, .int x, .int sp, .int pc, .int (bI (decide ((v >>> (1 &&& 31)) = 0))), .int (bI false), .int st, .int dn]))] H := hP.sub [0] rfl
    have hD9 : va_D A [(o, .inr (3, [.ref mm, .int a, .int x, .int sp, .int pc, .int (bI (decide ((v >>> (1 &&& 31)) = 0))), .int (bI false), .int st, .int dn]))] := hD.sub [0] (by decide) rfl
    exact W.iret (v := (v >>> (1 &&& 31))) hx hb hr (fun t ht hW => ⟨⟨(v >>> (1 &&& 31)), (decide ((v >>> (1 &&& 31)) = 0), false), rfl, by first | (simp only [h4, ↓reduceIte, not_true_eq_false, not_false_eq_true, and_true, true_and, and_false, false_and, and_self, or_true, true_or, or_false, false_or, decide_true, decide_false, Bool.false_eq_true, reduceCtorEq]; done) | (simp_all []; done), by rw [ht]; exact hP9, va_K.moved hW.alike hK, hD9⟩, hS.F ht⟩) hS.2.2 d_MA_halved_22
  · refine lv_iconst (v := 1) hx hb d_MA_halved_7 (by decide) ?_
    refine lv_goto (tgt := 12) hx hb d_MA_halved_8 rfl ?_
    refine va_put (D := D) (ci := 3) (v := .int (bI true)) (ty := .boolean) (C := R_FM) (T := T_FM) (N := 9) hx hb hts iw_FM ty_FM ty_FM_ok nm_FM hown hK hP hD hS 0 rfl rfl 6 (by decide) (hts _ k_133) (fun _ h9 => h9) rfl (by decide +kernel) (nb_n _) (nb_f _) (Nat.le_of_ble_eq_true rfl) d_MA_halved_12 (fun H locs hP hD hS => ?_)
    have hP : va_P D vwCl [(o, .inr (3, [.ref mm, .int a, .int x, .int sp, .int pc, .int (bI zf), .int (bI true), .int st, .int dn]))] H := hP
    have hD : va_D A [(o, .inr (3, [.ref mm, .int a, .int x, .int sp, .int pc, .int (bI zf), .int (bI true), .int st, .int dn]))] := hD
    refine lv_aload_n hx hb d_MA_halved_15 rfl (lv_at hl 0 rfl) ?_
    refine lv_iload_n hx hb d_MA_halved_16 rfl (lv_at hl 1 rfl) ?_
    refine lv_iconst (v := 1) hx hb d_MA_halved_17 (by decide) ?_
    refine lv_ishr hx hb d_MA_halved_18 ?_
    have hPc := hP.sub (ws' := [(o, .inr (3, [.ref mm, .int a, .int x, .int sp, .int pc, .int (bI zf), .int (bI true), .int st, .int dn]))]) [0] rfl
    have hDc := hD.sub (ws' := [(o, .inr (3, [.ref mm, .int a, .int x, .int sp, .int pc, .int (bI zf), .int (bI true), .int st, .int dn]))]) [0] (by decide) rfl
    have hFc := va_free (wc := [(o, .inr (3, [.ref mm, .int a, .int x, .int sp, .int pc, .int (bI zf), .int (bI true), .int st, .int dn]))]) hD hS hA [0] rfl
    refine va_calli (va_runU (As := [.int (v >>> (1 &&& 31))]) (rest := []) ⟨hx, hb, hml, hown, hts⟩ (m_FM_tested l D cI cZ o mm a x sp pc zf true st dn (v >>> (1 &&& 31)) H.size) (va_cwU 1 hts (gU k_555 k_925 k_926 k_537 k_58 k_538) rfl rfl rfl rfl hd_MA_tested ⟨Nat.le_of_ble_eq_true rfl, Nat.le_of_ble_eq_true rfl⟩) (PcW.preV (va_recv hK hP (q0 := 0) (ci := 3) rfl rfl) hPc hK hDc hN) rfl rfl hl.1 rfl (lv_room (Nat.le_of_ble_eq_true rfl)) d_MA_halved_19 ⟨Nat.le_of_ble_eq_true rfl, Nat.le_of_ble_eq_true rfl⟩) hS (fun q _ h => hFc q h) hFc (fun r19 u t H1 locs ht hvm e19 hB hz1 hk1 hS => ?_)
    obtain ⟨z119, rfl⟩ : ∃ z, z = u := ⟨_, rfl⟩
    obtain ⟨hP1, hK1, hD1⟩ := hB
    rw [ht] at hP1
    obtain ⟨hP, hD⟩ := va_join (wr := []) (w1 := [(o, .inr (3, [.ref mm, .int a, .int x, .int sp, .int pc, .int (bI z119), .int (bI true), .int st, .int dn]))]) hP hD [0] [] rfl rfl (by decide) (by decide) hk1 hFc hP1 hD1
    generalize H1 = H at hP hS ⊢
    try dsimp only at e19
    obtain ⟨e19_0, e19_1⟩ := e19
    replace e19_0 := e19_0.symm
    subst e19_0
    replace e19_1 := e19_1.symm
    subst e19_1
    have hP : va_P D vwCl [(o, .inr (3, [.ref mm, .int a, .int x, .int sp, .int pc, .int (bI (decide ((v >>> (1 &&& 31)) = 0))), .int (bI true), .int st, .int dn]))] H := hP
    have hD : va_D A [(o, .inr (3, [.ref mm, .int a, .int x, .int sp, .int pc, .int (bI (decide ((v >>> (1 &&& 31)) = 0))), .int (bI true), .int st, .int dn]))] := hD
    have hP9 : va_P D vwCl [(o, .inr (3, [.ref mm, .int a, .int x, .int sp, .int pc, .int (bI (decide ((v >>> (1 &&& 31)) = 0))), .int (bI true), .int st, .int dn]))] H := hP.sub [0] rfl
    have hD9 : va_D A [(o, .inr (3, [.ref mm, .int a, .int x, .int sp, .int pc, .int (bI (decide ((v >>> (1 &&& 31)) = 0))), .int (bI true), .int st, .int dn]))] := hD.sub [0] (by decide) rfl
    exact W.iret (v := (v >>> (1 &&& 31))) hx hb hr (fun t ht hW => ⟨⟨(v >>> (1 &&& 31)), (decide ((v >>> (1 &&& 31)) = 0), true), rfl, by first | (simp only [h4, ↓reduceIte, not_true_eq_false, not_false_eq_true, and_true, true_and, and_false, false_and, and_self, or_true, true_or, or_false, false_or, decide_true, decide_false, Bool.false_eq_true, reduceCtorEq]; done) | (simp_all []; done), by rw [ht]; exact hP9, va_K.moved hW.alike hK, hD9⟩, hS.F ht⟩) hS.2.2 d_MA_halved_22
set_option maxHeartbeats 4000000 in
set_option maxRecDepth 100000 in
theorem m_FM_hasHalted (l : Launch) (D : va_G) (cI cZ : ClassId) (o : Nat) (mm : Nat) (a : Int32) (x : Int32) (sp : Int32) (pc : Int32) (zf : Bool) (cf : Bool) (st : Int32) (dn : Int32) : MetR l y_MA_hasHalted w_MA_hasHalted { frames := 0, cells := 0, slots := 0, locals := 0 } D cI cZ [.ref o] [(o, .inr (3, [.ref mm, .int a, .int x, .int sp, .int pc, .int (bI zf), .int (bI cf), .int st, .int dn]))] (fun r => r = bI (decide (st = 1))) := by
  refine ofR (cc := c_MA_hasHalted) (maxL := 1) (ret := (some .boolean)) (by decide) rfl (Nat.le_of_ble_eq_true rfl) ?_
  intro p e s m args below meth c H hH0 hx hb hr hlocks hts hown hml ls hl hP hK hN
  have hown : s.vm.findClass R_MA = some m.cls := hown
  have hl : lv_has ls 1 [(0, .ref o)] := hl
  refine lv_aload_n hx hb d_MA_hasHalted_0 rfl (lv_at hl 0 rfl) ?_
  refine va_get (D := D) (ci := 3) (v := .int st) (C := R_FM) (T := T_FM) (N := 9) hx hb hts iw_FM hown hK hP 0 rfl rfl 7 (by decide) (hts _ k_142) (fun _ h9 => h9) rfl d_MA_hasHalted_1 ?_
  refine lv_iconst (v := 1) hx hb d_MA_hasHalted_4 (by decide) ?_
  refine lv_icmp_ne (tgt := 12) hx hb d_MA_hasHalted_5 rfl (fun h5 => ?_) (fun h5 => ?_)
  · refine lv_iconst (v := 0) hx hb d_MA_hasHalted_12 (by decide) ?_
    exact W.zret (v := (bI false)) hx hb hr (nb_n _) (fun t ht hW => ⟨(bI false), rfl, by first | (simp only [h5, ↓reduceIte, not_true_eq_false, not_false_eq_true, and_true, true_and, and_false, false_and, and_self, or_true, true_or, or_false, false_or, decide_true, decide_false, Bool.false_eq_true, reduceCtorEq]; done) | (simp_all []; done), ht.trans hH0.symm⟩) (fun _ h9 => absurd h9 List.not_mem_nil) d_MA_hasHalted_13
  · refine lv_iconst (v := 1) hx hb d_MA_hasHalted_8 (by decide) ?_
    refine lv_goto (tgt := 13) hx hb d_MA_hasHalted_9 rfl ?_
    exact W.zret (v := (bI true)) hx hb hr (nb_n _) (fun t ht hW => ⟨(bI true), rfl, by first | (simp only [h5, ↓reduceIte, not_true_eq_false, not_false_eq_true, and_true, true_and, and_false, false_and, and_self, or_true, true_or, or_false, false_or, decide_true, decide_false, Bool.false_eq_true, reduceCtorEq]; done) | (simp_all []; done), ht.trans hH0.symm⟩) (fun _ h9 => absurd h9 List.not_mem_nil) d_MA_hasHalted_13
set_option maxHeartbeats 4000000 in
set_option maxRecDepth 100000 in
theorem m_SM_peek (l : Launch) (D : va_G) (cI cZ : ClassId) (o : Nat) (mm : Nat) (a : Int32) (x : Int32) (sp : Int32) (pc : Int32) (zf : Bool) (cf : Bool) (st : Int32) (dn : Int32) (pr : Nat) (r2 : Int32) (kp : Bool) (g : Nat → Int32) (ad : Int32) : MetR l y_MA_peek w_MA_peek { frames := 0, cells := 0, slots := 0, locals := 0 } D cI cZ [.ref o, .int ad] [(o, .inr (4, [.ref mm, .int a, .int x, .int sp, .int pc, .int (bI zf), .int (bI cf), .int st, .int dn, .ref pr, .int r2, .int (bI kp)])), (mm, .inl (cI, 256, .inl g))] (fun r => r = rd g ad) := by
  refine ofR (cc := c_MA_peek) (maxL := 2) (ret := (some .int)) (by decide) rfl (Nat.le_of_ble_eq_true rfl) ?_
  intro p e s m args below meth c H hH0 hx hb hr hlocks hts hown hml ls hl hP hK hN
  have hown : s.vm.findClass R_MA = some m.cls := hown
  have hl : lv_has ls 2 [(0, .ref o), (1, .int ad)] := hl
  refine lv_aload_n hx hb d_MA_peek_0 rfl (lv_at hl 0 rfl) ?_
  refine va_get (D := D) (ci := 4) (v := .ref mm) (C := R_SM) (T := T_SM) (N := 12) hx hb hts iw_SM hown hK hP 0 rfl rfl 0 (by decide) (hts _ k_109) (fun _ h9 => h9) rfl d_MA_peek_1 ?_
  refine lv_iload_n hx hb d_MA_peek_4 rfl (lv_at hl 1 rfl) ?_
  refine lv_sipush (v := 255) hx hb d_MA_peek_5 (by decide) ?_
  refine lv_iand hx hb d_MA_peek_8 ?_
  refine va_iald hx hb hK hP 1 0 rfl rfl (in255 _) d_MA_peek_9 ?_
  exact W.iret (v := (g (ad &&& 255).toNatClampNeg)) hx hb hr (fun t ht hW => ⟨(g (ad &&& 255).toNatClampNeg), rfl, rfl, ht.trans hH0.symm⟩) (fun _ h9 => absurd h9 List.not_mem_nil) d_MA_peek_10
set_option maxHeartbeats 4000000 in
set_option maxRecDepth 100000 in
theorem m_SM_poke (l : Launch) (D : va_G) (cI cZ : ClassId) (o : Nat) (mm : Nat) (a : Int32) (x : Int32) (sp : Int32) (pc : Int32) (zf : Bool) (cf : Bool) (st : Int32) (dn : Int32) (pr : Nat) (r2 : Int32) (kp : Bool) (g : Nat → Int32) (ad : Int32) (v : Int32) (sz : Nat) : MetV l y_MA_poke w_MA_poke { frames := 0, cells := 0, slots := 0, locals := 0 } D cI cZ [.ref o, .int ad, .int v] [(o, .inr (4, [.ref mm, .int a, .int x, .int sp, .int pc, .int (bI zf), .int (bI cf), .int st, .int dn, .ref pr, .int r2, .int (bI kp)])), (mm, .inl (cI, 256, .inl g))] sz (fun (g1 : (Nat → Int32)) => g1 = wr g ad v) (fun (g1 : (Nat → Int32)) => [(o, .inr (4, [.ref mm, .int a, .int x, .int sp, .int pc, .int (bI zf), .int (bI cf), .int st, .int dn, .ref pr, .int r2, .int (bI kp)])), (mm, .inl (cI, 256, .inl g1))]) 0 0 := by
  refine ofV (cc := c_MA_poke) (maxL := 3) (ret := none) (by decide) rfl (Nat.le_of_ble_eq_true rfl) ?_
  intro p e s m args below meth c A H hH0 hx hb hr hlocks hts hown hnm hml ls hl hP hK hD hA hS hN
  have hown : s.vm.findClass R_MA = some m.cls := hown
  have hl : lv_has ls 3 [(0, .ref o), (1, .int ad), (2, .int v)] := hl
  refine lv_aload_n hx hb d_MA_poke_0 rfl (lv_at hl 0 rfl) ?_
  refine va_get (D := D) (ci := 4) (v := .ref mm) (C := R_SM) (T := T_SM) (N := 12) hx hb hts iw_SM hown hK hP 0 rfl rfl 0 (by decide) (hts _ k_109) (fun _ h9 => h9) rfl d_MA_poke_1 ?_
  refine lv_iload_n hx hb d_MA_poke_4 rfl (lv_at hl 1 rfl) ?_
  refine lv_sipush (v := 255) hx hb d_MA_poke_5 (by decide) ?_
  refine lv_iand hx hb d_MA_poke_8 ?_
  refine lv_iload_n hx hb d_MA_poke_9 rfl (lv_at hl 2 rfl) ?_
  refine lv_sipush (v := 255) hx hb d_MA_poke_10 (by decide) ?_
  refine lv_iand hx hb d_MA_poke_13 ?_
  refine va_iast hx hb hK hP hD hS 1 0 rfl rfl (in255 _) d_MA_poke_14 (fun H locs hP hD hS => ?_)
  have hP : va_P D vwCl [(o, .inr (4, [.ref mm, .int a, .int x, .int sp, .int pc, .int (bI zf), .int (bI cf), .int st, .int dn, .ref pr, .int r2, .int (bI kp)])), (mm, .inl (cI, 256, .inl (upd g (ad &&& 255).toNatClampNeg (v &&& 255))))] H := hP
  have hD : va_D A [(o, .inr (4, [.ref mm, .int a, .int x, .int sp, .int pc, .int (bI zf), .int (bI cf), .int st, .int dn, .ref pr, .int r2, .int (bI kp)])), (mm, .inl (cI, 256, .inl (upd g (ad &&& 255).toNatClampNeg (v &&& 255))))] := hD
  have hP9 : va_P D vwCl [(o, .inr (4, [.ref mm, .int a, .int x, .int sp, .int pc, .int (bI zf), .int (bI cf), .int st, .int dn, .ref pr, .int r2, .int (bI kp)])), (mm, .inl (cI, 256, .inl (upd g (ad &&& 255).toNatClampNeg (v &&& 255))))] H := hP.sub [0, 1] rfl
  have hD9 : va_D A [(o, .inr (4, [.ref mm, .int a, .int x, .int sp, .int pc, .int (bI zf), .int (bI cf), .int st, .int dn, .ref pr, .int r2, .int (bI kp)])), (mm, .inl (cI, 256, .inl (upd g (ad &&& 255).toNatClampNeg (v &&& 255))))] := hD.sub [0, 1] (by decide) rfl
  exact W.vret hx hb hr (fun t ht hW => ⟨⟨(upd g (ad &&& 255).toNatClampNeg (v &&& 255)), rfl, rfl, by rw [ht]; exact hP9, va_K.moved hW.alike hK, hD9⟩, hS.F ht⟩) hS.2.2 d_MA_poke_15
set_option maxHeartbeats 4000000 in
set_option maxRecDepth 100000 in
theorem m_SM_push (l : Launch) (D : va_G) (cI cZ : ClassId) (o : Nat) (mm : Nat) (a : Int32) (x : Int32) (sp : Int32) (pc : Int32) (zf : Bool) (cf : Bool) (st : Int32) (dn : Int32) (pr : Nat) (r2 : Int32) (kp : Bool) (g : Nat → Int32) (v : Int32) (sz : Nat) : MetV l y_MA_push w_MA_push { frames := 1, cells := 0, slots := 0, locals := 22 } D cI cZ [.ref o, .int v] [(o, .inr (4, [.ref mm, .int a, .int x, .int sp, .int pc, .int (bI zf), .int (bI cf), .int st, .int dn, .ref pr, .int r2, .int (bI kp)])), (mm, .inl (cI, 256, .inl g))] sz (fun (u : (Nat → Int32) × Int32) => match u with | (g1, sp1) => g1 = wr g sp v ∧ sp1 = (sp - 1) &&& 255) (fun (u : (Nat → Int32) × Int32) => match u with | (g1, sp1) => [(o, .inr (4, [.ref mm, .int a, .int x, .int sp1, .int pc, .int (bI zf), .int (bI cf), .int st, .int dn, .ref pr, .int r2, .int (bI kp)])), (mm, .inl (cI, 256, .inl g1))]) 0 0 := by
  refine ofV (cc := c_MA_push) (maxL := 2) (ret := none) (by decide) rfl (Nat.le_of_ble_eq_true rfl) ?_
  intro p e s m args below meth c A H hH0 hx hb hr hlocks hts hown hnm hml ls hl hP hK hD hA hS hN
  have hown : s.vm.findClass R_MA = some m.cls := hown
  have hl : lv_has ls 2 [(0, .ref o), (1, .int v)] := hl
  refine lv_aload_n hx hb d_MA_push_0 rfl (lv_at hl 0 rfl) ?_
  refine lv_aload_n hx hb d_MA_push_1 rfl (lv_at hl 0 rfl) ?_
  refine va_get (D := D) (ci := 4) (v := .int sp) (C := R_SM) (T := T_SM) (N := 12) hx hb hts iw_SM hown hK hP 0 rfl rfl 3 (by decide) (hts _ k_120) (fun _ h9 => h9) rfl d_MA_push_2 ?_
  refine lv_iload_n hx hb d_MA_push_5 rfl (lv_at hl 1 rfl) ?_
  have hPc := hP.sub (ws' := [(o, .inr (4, [.ref mm, .int a, .int x, .int sp, .int pc, .int (bI zf), .int (bI cf), .int st, .int dn, .ref pr, .int r2, .int (bI kp)])), (mm, .inl (cI, 256, .inl g))]) [0, 1] rfl
  have hDc := hD.sub (ws' := [(o, .inr (4, [.ref mm, .int a, .int x, .int sp, .int pc, .int (bI zf), .int (bI cf), .int st, .int dn, .ref pr, .int r2, .int (bI kp)])), (mm, .inl (cI, 256, .inl g))]) [0, 1] (by decide) rfl
  have hFc := va_free (wc := [(o, .inr (4, [.ref mm, .int a, .int x, .int sp, .int pc, .int (bI zf), .int (bI cf), .int st, .int dn, .ref pr, .int r2, .int (bI kp)])), (mm, .inl (cI, 256, .inl g))]) hD hS hA [0, 1] rfl
  refine va_callv (va_runU (As := [.int sp, .int v]) (rest := []) ⟨hx, hb, hml, hown, hts⟩ (m_SM_poke l D cI cZ o mm a x sp pc zf cf st dn pr r2 kp g sp v H.size) (va_cwU 2 hts (gU k_596 k_928 k_930 k_543 k_58 k_544) rfl rfl rfl rfl hd_MA_poke ⟨Nat.le_of_ble_eq_true rfl, Nat.le_of_ble_eq_true rfl⟩) (PcW.preV (va_recv hK hP (q0 := 0) (ci := 4) rfl rfl) hPc hK hDc hN) rfl rfl hl.1 rfl (lv_room (Nat.le_of_ble_eq_true rfl)) d_MA_push_6 ⟨Nat.le_of_ble_eq_true rfl, Nat.le_of_ble_eq_true rfl⟩) hS (fun q _ h => hFc q h) hFc (fun u t H1 locs ht hvm e6 hB hz1 hk1 hS => ?_)
  obtain ⟨g16, rfl⟩ : ∃ z, z = u := ⟨_, rfl⟩
  obtain ⟨hP1, hK1, hD1⟩ := hB
  rw [ht] at hP1
  obtain ⟨hP, hD⟩ := va_join (wr := []) (w1 := [(o, .inr (4, [.ref mm, .int a, .int x, .int sp, .int pc, .int (bI zf), .int (bI cf), .int st, .int dn, .ref pr, .int r2, .int (bI kp)])), (mm, .inl (cI, 256, .inl g16))]) hP hD [0, 1] [] rfl rfl (by decide) (by decide) hk1 hFc hP1 hD1
  generalize H1 = H at hP hS ⊢
  try dsimp only at e6
  have e6_0 := e6
  replace e6_0 := e6_0.symm
  subst e6_0
  have hP : va_P D vwCl [(o, .inr (4, [.ref mm, .int a, .int x, .int sp, .int pc, .int (bI zf), .int (bI cf), .int st, .int dn, .ref pr, .int r2, .int (bI kp)])), (mm, .inl (cI, 256, .inl (wr g sp v)))] H := hP
  have hD : va_D A [(o, .inr (4, [.ref mm, .int a, .int x, .int sp, .int pc, .int (bI zf), .int (bI cf), .int st, .int dn, .ref pr, .int r2, .int (bI kp)])), (mm, .inl (cI, 256, .inl (wr g sp v)))] := hD
  refine lv_aload_n hx hb d_MA_push_9 rfl (lv_at hl 0 rfl) ?_
  refine lv_aload_n hx hb d_MA_push_10 rfl (lv_at hl 0 rfl) ?_
  refine va_get (D := D) (ci := 4) (v := .int sp) (C := R_SM) (T := T_SM) (N := 12) hx hb hts iw_SM hown hK hP 0 rfl rfl 3 (by decide) (hts _ k_120) (fun _ h9 => h9) rfl d_MA_push_11 ?_
  refine lv_iconst (v := 1) hx hb d_MA_push_14 (by decide) ?_
  refine lv_isub hx hb d_MA_push_15 ?_
  refine lv_sipush (v := 255) hx hb d_MA_push_16 (by decide) ?_
  refine lv_iand hx hb d_MA_push_19 ?_
  refine va_put (D := D) (ci := 4) (v := .int ((sp - 1) &&& 255)) (ty := .int) (C := R_SM) (T := T_SM) (N := 12) hx hb hts iw_SM ty_SM ty_SM_ok nm_SM hown hK hP hD hS 0 rfl rfl 3 (by decide) (hts _ k_120) (fun _ h9 => h9) rfl (by decide +kernel) rfl rfl (Nat.le_of_ble_eq_true rfl) d_MA_push_20 (fun H locs hP hD hS => ?_)
  have hP : va_P D vwCl [(o, .inr (4, [.ref mm, .int a, .int x, .int ((sp - 1) &&& 255), .int pc, .int (bI zf), .int (bI cf), .int st, .int dn, .ref pr, .int r2, .int (bI kp)])), (mm, .inl (cI, 256, .inl (wr g sp v)))] H := hP
  have hD : va_D A [(o, .inr (4, [.ref mm, .int a, .int x, .int ((sp - 1) &&& 255), .int pc, .int (bI zf), .int (bI cf), .int st, .int dn, .ref pr, .int r2, .int (bI kp)])), (mm, .inl (cI, 256, .inl (wr g sp v)))] := hD
  have hP9 : va_P D vwCl [(o, .inr (4, [.ref mm, .int a, .int x, .int ((sp - 1) &&& 255), .int pc, .int (bI zf), .int (bI cf), .int st, .int dn, .ref pr, .int r2, .int (bI kp)])), (mm, .inl (cI, 256, .inl (wr g sp v)))] H := hP.sub [0, 1] rfl
  have hD9 : va_D A [(o, .inr (4, [.ref mm, .int a, .int x, .int ((sp - 1) &&& 255), .int pc, .int (bI zf), .int (bI cf), .int st, .int dn, .ref pr, .int r2, .int (bI kp)])), (mm, .inl (cI, 256, .inl (wr g sp v)))] := hD.sub [0, 1] (by decide) rfl
  exact W.vret hx hb hr (fun t ht hW => ⟨⟨(wr g sp v, (sp - 1) &&& 255), rfl, ⟨rfl, rfl⟩, by rw [ht]; exact hP9, va_K.moved hW.alike hK, hD9⟩, hS.F ht⟩) hS.2.2 d_MA_push_23
set_option maxHeartbeats 4000000 in
set_option maxRecDepth 100000 in
theorem m_SM_pop (l : Launch) (D : va_G) (cI cZ : ClassId) (o : Nat) (mm : Nat) (a : Int32) (x : Int32) (sp : Int32) (pc : Int32) (zf : Bool) (cf : Bool) (st : Int32) (dn : Int32) (pr : Nat) (r2 : Int32) (kp : Bool) (g : Nat → Int32) (sz : Nat) : MetI l y_MA_pop w_MA_pop { frames := 1, cells := 0, slots := 0, locals := 21 } D cI cZ [.ref o] [(o, .inr (4, [.ref mm, .int a, .int x, .int sp, .int pc, .int (bI zf), .int (bI cf), .int st, .int dn, .ref pr, .int r2, .int (bI kp)])), (mm, .inl (cI, 256, .inl g))] sz (fun r (sp1 : Int32) => r = rd g ((sp + 1) &&& 255) ∧ sp1 = (sp + 1) &&& 255) (fun (sp1 : Int32) => [(o, .inr (4, [.ref mm, .int a, .int x, .int sp1, .int pc, .int (bI zf), .int (bI cf), .int st, .int dn, .ref pr, .int r2, .int (bI kp)])), (mm, .inl (cI, 256, .inl g))]) 0 0 := by
  refine ofI (cc := c_MA_pop) (maxL := 1) (ret := (some .int)) (by decide) rfl (Nat.le_of_ble_eq_true rfl) ?_
  intro p e s m args below meth c A H hH0 hx hb hr hlocks hts hown hnm hml ls hl hP hK hD hA hS hN
  have hown : s.vm.findClass R_MA = some m.cls := hown
  have hl : lv_has ls 1 [(0, .ref o)] := hl
  refine lv_aload_n hx hb d_MA_pop_0 rfl (lv_at hl 0 rfl) ?_
  refine lv_aload_n hx hb d_MA_pop_1 rfl (lv_at hl 0 rfl) ?_
  refine va_get (D := D) (ci := 4) (v := .int sp) (C := R_SM) (T := T_SM) (N := 12) hx hb hts iw_SM hown hK hP 0 rfl rfl 3 (by decide) (hts _ k_120) (fun _ h9 => h9) rfl d_MA_pop_2 ?_
  refine lv_iconst (v := 1) hx hb d_MA_pop_5 (by decide) ?_
  refine lv_iadd hx hb d_MA_pop_6 ?_
  refine lv_sipush (v := 255) hx hb d_MA_pop_7 (by decide) ?_
  refine lv_iand hx hb d_MA_pop_10 ?_
  refine va_put (D := D) (ci := 4) (v := .int ((sp + 1) &&& 255)) (ty := .int) (C := R_SM) (T := T_SM) (N := 12) hx hb hts iw_SM ty_SM ty_SM_ok nm_SM hown hK hP hD hS 0 rfl rfl 3 (by decide) (hts _ k_120) (fun _ h9 => h9) rfl (by decide +kernel) rfl rfl (Nat.le_of_ble_eq_true rfl) d_MA_pop_11 (fun H locs hP hD hS => ?_)
  have hP : va_P D vwCl [(o, .inr (4, [.ref mm, .int a, .int x, .int ((sp + 1) &&& 255), .int pc, .int (bI zf), .int (bI cf), .int st, .int dn, .ref pr, .int r2, .int (bI kp)])), (mm, .inl (cI, 256, .inl g))] H := hP
  have hD : va_D A [(o, .inr (4, [.ref mm, .int a, .int x, .int ((sp + 1) &&& 255), .int pc, .int (bI zf), .int (bI cf), .int st, .int dn, .ref pr, .int r2, .int (bI kp)])), (mm, .inl (cI, 256, .inl g))] := hD
  refine lv_aload_n hx hb d_MA_pop_14 rfl (lv_at hl 0 rfl) ?_
  refine lv_aload_n hx hb d_MA_pop_15 rfl (lv_at hl 0 rfl) ?_
  refine va_get (D := D) (ci := 4) (v := .int ((sp + 1) &&& 255)) (C := R_SM) (T := T_SM) (N := 12) hx hb hts iw_SM hown hK hP 0 rfl rfl 3 (by decide) (hts _ k_120) (fun _ h9 => h9) rfl d_MA_pop_16 ?_
  have hPc := hP.sub (ws' := [(o, .inr (4, [.ref mm, .int a, .int x, .int ((sp + 1) &&& 255), .int pc, .int (bI zf), .int (bI cf), .int st, .int dn, .ref pr, .int r2, .int (bI kp)])), (mm, .inl (cI, 256, .inl g))]) [0, 1] rfl
  refine vp_callSi (va_runU (As := [.int ((sp + 1) &&& 255)]) (rest := []) ⟨hx, hb, hml, hown, hts⟩ (m_SM_peek l D cI cZ o mm a x ((sp + 1) &&& 255) pc zf cf st dn pr r2 kp g ((sp + 1) &&& 255)) (va_cwU 1 hts (gU k_603 k_297 k_299 k_296 k_58 k_300) rfl rfl rfl rfl hd_MA_peek ⟨Nat.le_of_ble_eq_true rfl, Nat.le_of_ble_eq_true rfl⟩) (PcR.preV (va_recv hK hP (q0 := 0) (ci := 4) rfl rfl) hPc hK hN) rfl rfl hl.1 rfl (lv_room (Nat.le_of_ble_eq_true rfl)) d_MA_pop_19 ⟨Nat.le_of_ble_eq_true rfl, Nat.le_of_ble_eq_true rfl⟩).run (fun r19 e19 => ?_)
  replace e19 := e19.symm
  subst e19
  have hP9 : va_P D vwCl [(o, .inr (4, [.ref mm, .int a, .int x, .int ((sp + 1) &&& 255), .int pc, .int (bI zf), .int (bI cf), .int st, .int dn, .ref pr, .int r2, .int (bI kp)])), (mm, .inl (cI, 256, .inl g))] H := hP.sub [0, 1] rfl
  have hD9 : va_D A [(o, .inr (4, [.ref mm, .int a, .int x, .int ((sp + 1) &&& 255), .int pc, .int (bI zf), .int (bI cf), .int st, .int dn, .ref pr, .int r2, .int (bI kp)])), (mm, .inl (cI, 256, .inl g))] := hD.sub [0, 1] (by decide) rfl
  exact W.iret (v := (rd g ((sp + 1) &&& 255))) hx hb hr (fun t ht hW => ⟨⟨(rd g ((sp + 1) &&& 255)), ((sp + 1) &&& 255), rfl, ⟨rfl, rfl⟩, by rw [ht]; exact hP9, va_K.moved hW.alike hK, hD9⟩, hS.F ht⟩) hS.2.2 d_MA_pop_22
set_option maxHeartbeats 4000000 in
set_option maxRecDepth 100000 in
theorem m_SM_goIf (l : Launch) (D : va_G) (cI cZ : ClassId) (o : Nat) (mm : Nat) (a : Int32) (x : Int32) (sp : Int32) (pc : Int32) (zf : Bool) (cf : Bool) (st : Int32) (dn : Int32) (pr : Nat) (r2 : Int32) (kp : Bool) (w : Bool) (tg : Int32) (sz : Nat) : MetV l y_MA_goIf w_MA_goIf { frames := 0, cells := 0, slots := 0, locals := 0 } D cI cZ [.ref o, .int (bI w), .int tg] [(o, .inr (4, [.ref mm, .int a, .int x, .int sp, .int pc, .int (bI zf), .int (bI cf), .int st, .int dn, .ref pr, .int r2, .int (bI kp)]))] sz (fun (pc1 : Int32) => pc1 = if w = true then tg else pc) (fun (pc1 : Int32) => [(o, .inr (4, [.ref mm, .int a, .int x, .int sp, .int pc1, .int (bI zf), .int (bI cf), .int st, .int dn, .ref pr, .int r2, .int (bI kp)]))]) 0 0 := by
  refine ofV (cc := c_MA_goIf) (maxL := 3) (ret := none) (by decide) rfl (Nat.le_of_ble_eq_true rfl) ?_
  intro p e s m args below meth c A H hH0 hx hb hr hlocks hts hown hnm hml ls hl hP hK hD hA hS hN
  have hown : s.vm.findClass R_MA = some m.cls := hown
  have hl : lv_has ls 3 [(0, .ref o), (1, .int (bI w)), (2, .int tg)] := hl
  refine lv_iload_n hx hb d_MA_goIf_0 rfl (lv_at hl 1 rfl) ?_
  refine lv_if_eq (tgt := 9) hx hb d_MA_goIf_1 rfl (fun h1 => ?_) (fun h1 => ?_)
  · have h1 : w = false := bI_f h1
    have hP9 : va_P D vwCl [(o, .inr (4, [.ref mm, .int a, .int x, .int sp, .int pc, .int (bI zf), .int (bI cf), .int st, .int dn, .ref pr, .int r2, .int (bI kp)]))] H := hP.sub [0] rfl
    have hD9 : va_D A [(o, .inr (4, [.ref mm, .int a, .int x, .int sp, .int pc, .int (bI zf), .int (bI cf), .int st, .int dn, .ref pr, .int r2, .int (bI kp)]))] := hD.sub [0] (by decide) rfl
    exact W.vret hx hb hr (fun t ht hW => ⟨⟨pc, rfl, by first | (simp only [h1, ↓reduceIte, not_true_eq_false, not_false_eq_true, and_true, true_and, and_false, false_and, and_self, or_true, true_or, or_false, false_or, decide_true, decide_false, Bool.false_eq_true, reduceCtorEq]; done) | (simp_all []; done), by rw [ht]; exact hP9, va_K.moved hW.alike hK, hD9⟩, hS.F ht⟩) hS.2.2 d_MA_goIf_9
  · have h1 : w = true := bI_t h1
    refine lv_aload_n hx hb d_MA_goIf_4 rfl (lv_at hl 0 rfl) ?_
    refine lv_iload_n hx hb d_MA_goIf_5 rfl (lv_at hl 2 rfl) ?_
    refine va_put (D := D) (ci := 4) (v := .int tg) (ty := .int) (C := R_SM) (T := T_SM) (N := 12) hx hb hts iw_SM ty_SM ty_SM_ok nm_SM hown hK hP hD hS 0 rfl rfl 4 (by decide) (hts _ k_125) (fun _ h9 => h9) rfl (by decide +kernel) rfl rfl (Nat.le_of_ble_eq_true rfl) d_MA_goIf_6 (fun H locs hP hD hS => ?_)
    have hP : va_P D vwCl [(o, .inr (4, [.ref mm, .int a, .int x, .int sp, .int tg, .int (bI zf), .int (bI cf), .int st, .int dn, .ref pr, .int r2, .int (bI kp)]))] H := hP
    have hD : va_D A [(o, .inr (4, [.ref mm, .int a, .int x, .int sp, .int tg, .int (bI zf), .int (bI cf), .int st, .int dn, .ref pr, .int r2, .int (bI kp)]))] := hD
    have hP9 : va_P D vwCl [(o, .inr (4, [.ref mm, .int a, .int x, .int sp, .int tg, .int (bI zf), .int (bI cf), .int st, .int dn, .ref pr, .int r2, .int (bI kp)]))] H := hP.sub [0] rfl
    have hD9 : va_D A [(o, .inr (4, [.ref mm, .int a, .int x, .int sp, .int tg, .int (bI zf), .int (bI cf), .int st, .int dn, .ref pr, .int r2, .int (bI kp)]))] := hD.sub [0] (by decide) rfl
    exact W.vret hx hb hr (fun t ht hW => ⟨⟨tg, rfl, by first | (simp only [h1, ↓reduceIte, not_true_eq_false, not_false_eq_true, and_true, true_and, and_false, false_and, and_self, or_true, true_or, or_false, false_or, decide_true, decide_false, Bool.false_eq_true, reduceCtorEq]; done) | (simp_all []; done), by rw [ht]; exact hP9, va_K.moved hW.alike hK, hD9⟩, hS.F ht⟩) hS.2.2 d_MA_goIf_9
set_option maxHeartbeats 4000000 in
set_option maxRecDepth 100000 in
theorem m_SM_tested (l : Launch) (D : va_G) (cI cZ : ClassId) (o : Nat) (mm : Nat) (a : Int32) (x : Int32) (sp : Int32) (pc : Int32) (zf : Bool) (cf : Bool) (st : Int32) (dn : Int32) (pr : Nat) (r2 : Int32) (kp : Bool) (v : Int32) (sz : Nat) : MetI l y_MA_tested w_MA_tested { frames := 0, cells := 0, slots := 0, locals := 0 } D cI cZ [.ref o, .int v] [(o, .inr (4, [.ref mm, .int a, .int x, .int sp, .int pc, .int (bI zf), .int (bI cf), .int st, .int dn, .ref pr, .int r2, .int (bI kp)]))] sz (fun r (z1 : Bool) => r = v ∧ z1 = decide (v = 0)) (fun (z1 : Bool) => [(o, .inr (4, [.ref mm, .int a, .int x, .int sp, .int pc, .int (bI z1), .int (bI cf), .int st, .int dn, .ref pr, .int r2, .int (bI kp)]))]) 0 0 := by
  refine ofI (cc := c_MA_tested) (maxL := 2) (ret := (some .int)) (by decide) rfl (Nat.le_of_ble_eq_true rfl) ?_
  intro p e s m args below meth c A H hH0 hx hb hr hlocks hts hown hnm hml ls hl hP hK hD hA hS hN
  have hown : s.vm.findClass R_MA = some m.cls := hown
  have hl : lv_has ls 2 [(0, .ref o), (1, .int v)] := hl
  refine lv_aload_n hx hb d_MA_tested_0 rfl (lv_at hl 0 rfl) ?_
  refine lv_iload_n hx hb d_MA_tested_1 rfl (lv_at hl 1 rfl) ?_
  refine lv_if_ne (tgt := 9) hx hb d_MA_tested_2 rfl (fun h2 => ?_) (fun h2 => ?_)
  · refine lv_iconst (v := 0) hx hb d_MA_tested_9 (by decide) ?_
    refine va_put (D := D) (ci := 4) (v := .int (bI false)) (ty := .boolean) (C := R_SM) (T := T_SM) (N := 12) hx hb hts iw_SM ty_SM ty_SM_ok nm_SM hown hK hP hD hS 0 rfl rfl 5 (by decide) (hts _ k_128) (fun _ h9 => h9) rfl (by decide +kernel) (nb_n _) (nb_f _) (Nat.le_of_ble_eq_true rfl) d_MA_tested_10 (fun H locs hP hD hS => ?_)
    have hP : va_P D vwCl [(o, .inr (4, [.ref mm, .int a, .int x, .int sp, .int pc, .int (bI false), .int (bI cf), .int st, .int dn, .ref pr, .int r2, .int (bI kp)]))] H := hP
    have hD : va_D A [(o, .inr (4, [.ref mm, .int a, .int x, .int sp, .int pc, .int (bI false), .int (bI cf), .int st, .int dn, .ref pr, .int r2, .int (bI kp)]))] := hD
    refine lv_iload_n hx hb d_MA_tested_13 rfl (lv_at hl 1 rfl) ?_
    have hP9 : va_P D vwCl [(o, .inr (4, [.ref mm, .int a, .int x, .int sp, .int pc, .int (bI false), .int (bI cf), .int st, .int dn, .ref pr, .int r2, .int (bI kp)]))] H := hP.sub [0] rfl
    have hD9 : va_D A [(o, .inr (4, [.ref mm, .int a, .int x, .int sp, .int pc, .int (bI false), .int (bI cf), .int st, .int dn, .ref pr, .int r2, .int (bI kp)]))] := hD.sub [0] (by decide) rfl
    exact W.iret (v := v) hx hb hr (fun t ht hW => ⟨⟨v, false, rfl, by first | (simp only [h2, ↓reduceIte, not_true_eq_false, not_false_eq_true, and_true, true_and, and_false, false_and, and_self, or_true, true_or, or_false, false_or, decide_true, decide_false, Bool.false_eq_true, reduceCtorEq]; done) | (simp_all []; done), by rw [ht]; exact hP9, va_K.moved hW.alike hK, hD9⟩, hS.F ht⟩) hS.2.2 d_MA_tested_14
  · refine lv_iconst (v := 1) hx hb d_MA_tested_5 (by decide) ?_
    refine lv_goto (tgt := 10) hx hb d_MA_tested_6 rfl ?_
    refine va_put (D := D) (ci := 4) (v := .int (bI true)) (ty := .boolean) (C := R_SM) (T := T_SM) (N := 12) hx hb hts iw_SM ty_SM ty_SM_ok nm_SM hown hK hP hD hS 0 rfl rfl 5 (by decide) (hts _ k_128) (fun _ h9 => h9) rfl (by decide +kernel) (nb_n _) (nb_f _) (Nat.le_of_ble_eq_true rfl) d_MA_tested_10 (fun H locs hP hD hS => ?_)
    have hP : va_P D vwCl [(o, .inr (4, [.ref mm, .int a, .int x, .int sp, .int pc, .int (bI true), .int (bI cf), .int st, .int dn, .ref pr, .int r2, .int (bI kp)]))] H := hP
    have hD : va_D A [(o, .inr (4, [.ref mm, .int a, .int x, .int sp, .int pc, .int (bI true), .int (bI cf), .int st, .int dn, .ref pr, .int r2, .int (bI kp)]))] := hD
    refine lv_iload_n hx hb d_MA_tested_13 rfl (lv_at hl 1 rfl) ?_
    have hP9 : va_P D vwCl [(o, .inr (4, [.ref mm, .int a, .int x, .int sp, .int pc, .int (bI true), .int (bI cf), .int st, .int dn, .ref pr, .int r2, .int (bI kp)]))] H := hP.sub [0] rfl
    have hD9 : va_D A [(o, .inr (4, [.ref mm, .int a, .int x, .int sp, .int pc, .int (bI true), .int (bI cf), .int st, .int dn, .ref pr, .int r2, .int (bI kp)]))] := hD.sub [0] (by decide) rfl
    exact W.iret (v := v) hx hb hr (fun t ht hW => ⟨⟨v, true, rfl, by first | (simp only [h2, ↓reduceIte, not_true_eq_false, not_false_eq_true, and_true, true_and, and_false, false_and, and_self, or_true, true_or, or_false, false_or, decide_true, decide_false, Bool.false_eq_true, reduceCtorEq]; done) | (simp_all []; done), by rw [ht]; exact hP9, va_K.moved hW.alike hK, hD9⟩, hS.F ht⟩) hS.2.2 d_MA_tested_14
set_option maxHeartbeats 4000000 in
set_option maxRecDepth 100000 in
theorem m_SM_testedWC (l : Launch) (D : va_G) (cI cZ : ClassId) (o : Nat) (mm : Nat) (a : Int32) (x : Int32) (sp : Int32) (pc : Int32) (zf : Bool) (cf : Bool) (st : Int32) (dn : Int32) (pr : Nat) (r2 : Int32) (kp : Bool) (v : Int32) (sz : Nat) : MetI l y_MA_testedWithoutCarry w_MA_testedWithoutCarry { frames := 1, cells := 0, slots := 0, locals := 21 } D cI cZ [.ref o, .int v] [(o, .inr (4, [.ref mm, .int a, .int x, .int sp, .int pc, .int (bI zf), .int (bI cf), .int st, .int dn, .ref pr, .int r2, .int (bI kp)]))] sz (fun r (u : Bool × Bool) => match u with | (z1, c1) => r = v ∧ z1 = decide (v = 0) ∧ c1 = false) (fun (u : Bool × Bool) => match u with | (z1, c1) => [(o, .inr (4, [.ref mm, .int a, .int x, .int sp, .int pc, .int (bI z1), .int (bI c1), .int st, .int dn, .ref pr, .int r2, .int (bI kp)]))]) 0 0 := by
  refine ofI (cc := c_MA_testedWithoutCarry) (maxL := 2) (ret := (some .int)) (by decide) rfl (Nat.le_of_ble_eq_true rfl) ?_
  intro p e s m args below meth c A H hH0 hx hb hr hlocks hts hown hnm hml ls hl hP hK hD hA hS hN
  have hown : s.vm.findClass R_MA = some m.cls := hown
  have hl : lv_has ls 2 [(0, .ref o), (1, .int v)] := hl
  refine lv_aload_n hx hb d_MA_testedWithoutCarry_0 rfl (lv_at hl 0 rfl) ?_
  refine lv_iconst (v := 0) hx hb d_MA_testedWithoutCarry_1 (by decide) ?_
  refine va_put (D := D) (ci := 4) (v := .int (bI false)) (ty := .boolean) (C := R_SM) (T := T_SM) (N := 12) hx hb hts iw_SM ty_SM ty_SM_ok nm_SM hown hK hP hD hS 0 rfl rfl 6 (by decide) (hts _ k_133) (fun _ h9 => h9) rfl (by decide +kernel) (nb_n _) (nb_f _) (Nat.le_of_ble_eq_true rfl) d_MA_testedWithoutCarry_2 (fun H locs hP hD hS => ?_)
  have hP : va_P D vwCl [(o, .inr (4, [.ref mm, .int a, .int x, .int sp, .int pc, .int (bI zf), .int (bI false), .int st, .int dn, .ref pr, .int r2, .int (bI kp)]))] H := hP
  have hD : va_D A [(o, .inr (4, [.ref mm, .int a, .int x, .int sp, .int pc, .int (bI zf), .int (bI false), .int st, .int dn, .ref pr, .int r2, .int (bI kp)]))] := hD
  refine lv_aload_n hx hb d_MA_testedWithoutCarry_5 rfl (lv_at hl 0 rfl) ?_
  refine lv_iload_n hx hb d_MA_testedWithoutCarry_6 rfl (lv_at hl 1 rfl) ?_
  have hPc := hP.sub (ws' := [(o, .inr (4, [.ref mm, .int a, .int x, .int sp, .int pc, .int (bI zf), .int (bI false), .int st, .int dn, .ref pr, .int r2, .int (bI kp)]))]) [0] rfl
  have hDc := hD.sub (ws' := [(o, .inr (4, [.ref mm, .int a, .int x, .int sp, .int pc, .int (bI zf), .int (bI false), .int st, .int dn, .ref pr, .int r2, .int (bI kp)]))]) [0] (by decide) rfl
  have hFc := va_free (wc := [(o, .inr (4, [.ref mm, .int a, .int x, .int sp, .int pc, .int (bI zf), .int (bI false), .int st, .int dn, .ref pr, .int r2, .int (bI kp)]))]) hD hS hA [0] rfl
  refine va_calli (va_runU (As := [.int v]) (rest := []) ⟨hx, hb, hml, hown, hts⟩ (m_SM_tested l D cI cZ o mm a x sp pc zf false st dn pr r2 kp v H.size) (va_cwU 1 hts (gU k_555 k_925 k_927 k_537 k_58 k_538) rfl rfl rfl rfl hd_MA_tested ⟨Nat.le_of_ble_eq_true rfl, Nat.le_of_ble_eq_true rfl⟩) (PcW.preV (va_recv hK hP (q0 := 0) (ci := 4) rfl rfl) hPc hK hDc hN) rfl rfl hl.1 rfl (lv_room (Nat.le_of_ble_eq_true rfl)) d_MA_testedWithoutCarry_7 ⟨Nat.le_of_ble_eq_true rfl, Nat.le_of_ble_eq_true rfl⟩) hS (fun q _ h => hFc q h) hFc (fun r7 u t H1 locs ht hvm e7 hB hz1 hk1 hS => ?_)
  obtain ⟨z17, rfl⟩ : ∃ z, z = u := ⟨_, rfl⟩
  obtain ⟨hP1, hK1, hD1⟩ := hB
  rw [ht] at hP1
  obtain ⟨hP, hD⟩ := va_join (wr := []) (w1 := [(o, .inr (4, [.ref mm, .int a, .int x, .int sp, .int pc, .int (bI z17), .int (bI false), .int st, .int dn, .ref pr, .int r2, .int (bI kp)]))]) hP hD [0] [] rfl rfl (by decide) (by decide) hk1 hFc hP1 hD1
  generalize H1 = H at hP hS ⊢
  try dsimp only at e7
  obtain ⟨e7_0, e7_1⟩ := e7
  replace e7_0 := e7_0.symm
  subst e7_0
  replace e7_1 := e7_1.symm
  subst e7_1
  have hP : va_P D vwCl [(o, .inr (4, [.ref mm, .int a, .int x, .int sp, .int pc, .int (bI (decide (v = 0))), .int (bI false), .int st, .int dn, .ref pr, .int r2, .int (bI kp)]))] H := hP
  have hD : va_D A [(o, .inr (4, [.ref mm, .int a, .int x, .int sp, .int pc, .int (bI (decide (v = 0))), .int (bI false), .int st, .int dn, .ref pr, .int r2, .int (bI kp)]))] := hD
  have hP9 : va_P D vwCl [(o, .inr (4, [.ref mm, .int a, .int x, .int sp, .int pc, .int (bI (decide (v = 0))), .int (bI false), .int st, .int dn, .ref pr, .int r2, .int (bI kp)]))] H := hP.sub [0] rfl
  have hD9 : va_D A [(o, .inr (4, [.ref mm, .int a, .int x, .int sp, .int pc, .int (bI (decide (v = 0))), .int (bI false), .int st, .int dn, .ref pr, .int r2, .int (bI kp)]))] := hD.sub [0] (by decide) rfl
  exact W.iret (v := v) hx hb hr (fun t ht hW => ⟨⟨v, (decide (v = 0), false), rfl, ⟨rfl, rfl, rfl⟩, by rw [ht]; exact hP9, va_K.moved hW.alike hK, hD9⟩, hS.F ht⟩) hS.2.2 d_MA_testedWithoutCarry_10
set_option maxHeartbeats 4000000 in
set_option maxRecDepth 100000 in
theorem m_SM_sum (l : Launch) (D : va_G) (cI cZ : ClassId) (o : Nat) (mm : Nat) (a : Int32) (x : Int32) (sp : Int32) (pc : Int32) (zf : Bool) (cf : Bool) (st : Int32) (dn : Int32) (pr : Nat) (r2 : Int32) (kp : Bool) (v : Int32) (w : Int32) (cy : Bool) (sz : Nat) : MetI l y_MA_sum w_MA_sum { frames := 1, cells := 0, slots := 0, locals := 21 } D cI cZ [.ref o, .int v, .int w, .int (bI cy)] [(o, .inr (4, [.ref mm, .int a, .int x, .int sp, .int pc, .int (bI zf), .int (bI cf), .int st, .int dn, .ref pr, .int r2, .int (bI kp)]))] sz (fun r (u : Bool × Bool) => match u with | (z1, c1) => r = (v + w + bI cy) &&& 255 ∧ z1 = decide ((v + w + bI cy) &&& 255 = 0) ∧ c1 = decide (¬ v + w + bI cy ≤ 255)) (fun (u : Bool × Bool) => match u with | (z1, c1) => [(o, .inr (4, [.ref mm, .int a, .int x, .int sp, .int pc, .int (bI z1), .int (bI c1), .int st, .int dn, .ref pr, .int r2, .int (bI kp)]))]) 0 0 := by
  refine ofI (cc := c_MA_sum) (maxL := 5) (ret := (some .int)) (by decide) rfl (Nat.le_of_ble_eq_true rfl) ?_
  intro p e s m args below meth c A H hH0 hx hb hr hlocks hts hown hnm hml ls hl hP hK hD hA hS hN
  have hown : s.vm.findClass R_MA = some m.cls := hown
  have hl : lv_has ls 5 [(0, .ref o), (1, .int v), (2, .int w), (3, .int (bI cy))] := hl
  refine lv_iload_n hx hb d_MA_sum_0 rfl (lv_at hl 1 rfl) ?_
  refine lv_iload_n hx hb d_MA_sum_1 rfl (lv_at hl 2 rfl) ?_
  refine lv_iadd hx hb d_MA_sum_2 ?_
  refine lv_iload_n hx hb d_MA_sum_3 rfl (lv_at hl 3 rfl) ?_
  have hPc := hP.sub (ws' := []) [] rfl
  refine vp_callSi (va_runSN (As := [.int (bI cy)]) (rest := [.int (v + w)]) ⟨hx, hb, hml, hown, hts⟩ (m_bit l D cI cZ cy) ⟨va_cnB 1 hts (gdt k_286) rfl rfl rfl (nw_8 hN) (hts _ k_56) hd_TM_bit ⟨Nat.le_of_ble_eq_true rfl, Nat.le_of_ble_eq_true rfl⟩, hts _ k_285, trivial⟩ (PcR.preS hPc hK hN) rfl rfl hl.1 rfl (lv_room (Nat.le_of_ble_eq_true rfl)) d_MA_sum_4 ⟨Nat.le_of_ble_eq_true rfl, Nat.le_of_ble_eq_true rfl⟩).run (fun r4 e4 => ?_)
  replace e4 := e4.symm
  subst e4
  refine lv_iadd hx hb d_MA_sum_7 ?_
  refine lv_istore hx hb d_MA_sum_8 hl (by decide) rfl (fun ls hl => ?_)
  have hl : lv_has ls 5 [(4, .int ((v + w) + (bI cy))), (0, .ref o), (1, .int v), (2, .int w), (3, .int (bI cy))] := hl
  refine lv_aload_n hx hb d_MA_sum_10 rfl (lv_at hl 1 rfl) ?_
  refine lv_iload hx hb d_MA_sum_11 (lv_at hl 0 rfl) ?_
  refine lv_sipush (v := 255) hx hb d_MA_sum_13 (by decide) ?_
  refine lv_icmp_le (tgt := 23) hx hb d_MA_sum_16 rfl (fun h16 => ?_) (fun h16 => ?_)
  · refine lv_iconst (v := 0) hx hb d_MA_sum_23 (by decide) ?_
    refine va_put (D := D) (ci := 4) (v := .int (bI false)) (ty := .boolean) (C := R_SM) (T := T_SM) (N := 12) hx hb hts iw_SM ty_SM ty_SM_ok nm_SM hown hK hP hD hS 0 rfl rfl 6 (by decide) (hts _ k_133) (fun _ h9 => h9) rfl (by decide +kernel) (nb_n _) (nb_f _) (Nat.le_of_ble_eq_true rfl) d_MA_sum_24 (fun H locs hP hD hS => ?_)
    have hP : va_P D vwCl [(o, .inr (4, [.ref mm, .int a, .int x, .int sp, .int pc, .int (bI zf), .int (bI false), .int st, .int dn, .ref pr, .int r2, .int (bI kp)]))] H := hP
    have hD : va_D A [(o, .inr (4, [.ref mm, .int a, .int x, .int sp, .int pc, .int (bI zf), .int (bI false), .int st, .int dn, .ref pr, .int r2, .int (bI kp)]))] := hD
    refine lv_aload_n hx hb d_MA_sum_27 rfl (lv_at hl 1 rfl) ?_
    refine lv_iload hx hb d_MA_sum_28 (lv_at hl 0 rfl) ?_
    refine lv_sipush (v := 255) hx hb d_MA_sum_30 (by decide) ?_
    refine lv_iand hx hb d_MA_sum_33 ?_
    have hPc := hP.sub (ws' := [(o, .inr (4, [.ref mm, .int a, .int x, .int sp, .int pc, .int (bI zf), .int (bI false), .int st, .int dn, .ref pr, .int r2, .int (bI kp)]))]) [0] rfl
    have hDc := hD.sub (ws' := [(o, .inr (4, [.ref mm, .int a, .int x, .int sp, .int pc, .int (bI zf), .int (bI false), .int st, .int dn, .ref pr, .int r2, .int (bI kp)]))]) [0] (by decide) rfl
    have hFc := va_free (wc := [(o, .inr (4, [.ref mm, .int a, .int x, .int sp, .int pc, .int (bI zf), .int (bI false), .int st, .int dn, .ref pr, .int r2, .int (bI kp)]))]) hD hS hA [0] rfl
    refine va_calli (va_runU (As := [.int (((v + w) + (bI cy)) &&& 255)]) (rest := []) ⟨hx, hb, hml, hown, hts⟩ (m_SM_tested l D cI cZ o mm a x sp pc zf false st dn pr r2 kp (((v + w) + (bI cy)) &&& 255) H.size) (va_cwU 1 hts (gU k_555 k_925 k_927 k_537 k_58 k_538) rfl rfl rfl rfl hd_MA_tested ⟨Nat.le_of_ble_eq_true rfl, Nat.le_of_ble_eq_true rfl⟩) (PcW.preV (va_recv hK hP (q0 := 0) (ci := 4) rfl rfl) hPc hK hDc hN) rfl rfl hl.1 rfl (lv_room (Nat.le_of_ble_eq_true rfl)) d_MA_sum_34 ⟨Nat.le_of_ble_eq_true rfl, Nat.le_of_ble_eq_true rfl⟩) hS (fun q _ h => hFc q h) hFc (fun r34 u t H1 locs ht hvm e34 hB hz1 hk1 hS => ?_)
    obtain ⟨z134, rfl⟩ : ∃ z, z = u := ⟨_, rfl⟩
    obtain ⟨hP1, hK1, hD1⟩ := hB
    rw [ht] at hP1
    obtain ⟨hP, hD⟩ := va_join (wr := []) (w1 := [(o, .inr (4, [.ref mm, .int a, .int x, .int sp, .int pc, .int (bI z134), .int (bI false), .int st, .int dn, .ref pr, .int r2, .int (bI kp)]))]) hP hD [0] [] rfl rfl (by decide) (by decide) hk1 hFc hP1 hD1
    generalize H1 = H at hP hS ⊢
    try dsimp only at e34
    obtain ⟨e34_0, e34_1⟩ := e34
    replace e34_0 := e34_0.symm
    subst e34_0
    replace e34_1 := e34_1.symm
    subst e34_1
    have hP : va_P D vwCl [(o, .inr (4, [.ref mm, .int a, .int x, .int sp, .int pc, .int (bI (decide ((((v + w) + (bI cy)) &&& 255) = 0))), .int (bI false), .int st, .int dn, .ref pr, .int r2, .int (bI kp)]))] H := hP
    have hD : va_D A [(o, .inr (4, [.ref mm, .int a, .int x, .int sp, .int pc, .int (bI (decide ((((v + w) + (bI cy)) &&& 255) = 0))), .int (bI false), .int st, .int dn, .ref pr, .int r2, .int (bI kp)]))] := hD
    have hP9 : va_P D vwCl [(o, .inr (4, [.ref mm, .int a, .int x, .int sp, .int pc, .int (bI (decide ((((v + w) + (bI cy)) &&& 255) = 0))), .int (bI false), .int st, .int dn, .ref pr, .int r2, .int (bI kp)]))] H := hP.sub [0] rfl
    have hD9 : va_D A [(o, .inr (4, [.ref mm, .int a, .int x, .int sp, .int pc, .int (bI (decide ((((v + w) + (bI cy)) &&& 255) = 0))), .int (bI false), .int st, .int dn, .ref pr, .int r2, .int (bI kp)]))] := hD.sub [0] (by decide) rfl
    exact W.iret (v := (((v + w) + (bI cy)) &&& 255)) hx hb hr (fun t ht hW => ⟨⟨(((v + w) + (bI cy)) &&& 255), (decide ((((v + w) + (bI cy)) &&& 255) = 0), false), rfl, by first | (simp only [h16, ↓reduceIte, not_true_eq_false, not_false_eq_true, and_true, true_and, and_false, false_and, and_self, or_true, true_or, or_false, false_or, decide_true, decide_false, Bool.false_eq_true, reduceCtorEq]; done) | (simp_all []; done), by rw [ht]; exact hP9, va_K.moved hW.alike hK, hD9⟩, hS.F ht⟩) hS.2.2 d_MA_sum_37
  · refine lv_iconst (v := 1) hx hb d_MA_sum_19 (by decide) ?_
    refine lv_goto (tgt := 24) hx hb d_MA_sum_20 rfl ?_
    refine va_put (D := D) (ci := 4) (v := .int (bI true)) (ty := .boolean) (C := R_SM) (T := T_SM) (N := 12) hx hb hts iw_SM ty_SM ty_SM_ok nm_SM hown hK hP hD hS 0 rfl rfl 6 (by decide) (hts _ k_133) (fun _ h9 => h9) rfl (by decide +kernel) (nb_n _) (nb_f _) (Nat.le_of_ble_eq_true rfl) d_MA_sum_24 (fun H locs hP hD hS => ?_)
    have hP : va_P D vwCl [(o, .inr (4, [.ref mm, .int a, .int x, .int sp, .int pc, .int (bI zf), .int (bI true), .int st, .int dn, .ref pr, .int r2, .int (bI kp)]))] H := hP
    have hD : va_D A [(o, .inr (4, [.ref mm, .int a, .int x, .int sp, .int pc, .int (bI zf), .int (bI true), .int st, .int dn, .ref pr, .int r2, .int (bI kp)]))] := hD
    refine lv_aload_n hx hb d_MA_sum_27 rfl (lv_at hl 1 rfl) ?_
    refine lv_iload hx hb d_MA_sum_28 (lv_at hl 0 rfl) ?_
    refine lv_sipush (v := 255) hx hb d_MA_sum_30 (by decide) ?_
    refine lv_iand hx hb d_MA_sum_33 ?_
    have hPc := hP.sub (ws' := [(o, .inr (4, [.ref mm, .int a, .int x, .int sp, .int pc, .int (bI zf), .int (bI true), .int st, .int dn, .ref pr, .int r2, .int (bI kp)]))]) [0] rfl
    have hDc := hD.sub (ws' := [(o, .inr (4, [.ref mm, .int a, .int x, .int sp, .int pc, .int (bI zf), .int (bI true), .int st, .int dn, .ref pr, .int r2, .int (bI kp)]))]) [0] (by decide) rfl
    have hFc := va_free (wc := [(o, .inr (4, [.ref mm, .int a, .int x, .int sp, .int pc, .int (bI zf), .int (bI true), .int st, .int dn, .ref pr, .int r2, .int (bI kp)]))]) hD hS hA [0] rfl
    refine va_calli (va_runU (As := [.int (((v + w) + (bI cy)) &&& 255)]) (rest := []) ⟨hx, hb, hml, hown, hts⟩ (m_SM_tested l D cI cZ o mm a x sp pc zf true st dn pr r2 kp (((v + w) + (bI cy)) &&& 255) H.size) (va_cwU 1 hts (gU k_555 k_925 k_927 k_537 k_58 k_538) rfl rfl rfl rfl hd_MA_tested ⟨Nat.le_of_ble_eq_true rfl, Nat.le_of_ble_eq_true rfl⟩) (PcW.preV (va_recv hK hP (q0 := 0) (ci := 4) rfl rfl) hPc hK hDc hN) rfl rfl hl.1 rfl (lv_room (Nat.le_of_ble_eq_true rfl)) d_MA_sum_34 ⟨Nat.le_of_ble_eq_true rfl, Nat.le_of_ble_eq_true rfl⟩) hS (fun q _ h => hFc q h) hFc (fun r34 u t H1 locs ht hvm e34 hB hz1 hk1 hS => ?_)
    obtain ⟨z134, rfl⟩ : ∃ z, z = u := ⟨_, rfl⟩
    obtain ⟨hP1, hK1, hD1⟩ := hB
    rw [ht] at hP1
    obtain ⟨hP, hD⟩ := va_join (wr := []) (w1 := [(o, .inr (4, [.ref mm, .int a, .int x, .int sp, .int pc, .int (bI z134), .int (bI true), .int st, .int dn, .ref pr, .int r2, .int (bI kp)]))]) hP hD [0] [] rfl rfl (by decide) (by decide) hk1 hFc hP1 hD1
    generalize H1 = H at hP hS ⊢
    try dsimp only at e34
    obtain ⟨e34_0, e34_1⟩ := e34
    replace e34_0 := e34_0.symm
    subst e34_0
    replace e34_1 := e34_1.symm
    subst e34_1
    have hP : va_P D vwCl [(o, .inr (4, [.ref mm, .int a, .int x, .int sp, .int pc, .int (bI (decide ((((v + w) + (bI cy)) &&& 255) = 0))), .int (bI true), .int st, .int dn, .ref pr, .int r2, .int (bI kp)]))] H := hP
    have hD : va_D A [(o, .inr (4, [.ref mm, .int a, .int x, .int sp, .int pc, .int (bI (decide ((((v + w) + (bI cy)) &&& 255) = 0))), .int (bI true), .int st, .int dn, .ref pr, .int r2, .int (bI kp)]))] := hD
    have hP9 : va_P D vwCl [(o, .inr (4, [.ref mm, .int a, .int x, .int sp, .int pc, .int (bI (decide ((((v + w) + (bI cy)) &&& 255) = 0))), .int (bI true), .int st, .int dn, .ref pr, .int r2, .int (bI kp)]))] H := hP.sub [0] rfl
    have hD9 : va_D A [(o, .inr (4, [.ref mm, .int a, .int x, .int sp, .int pc, .int (bI (decide ((((v + w) + (bI cy)) &&& 255) = 0))), .int (bI true), .int st, .int dn, .ref pr, .int r2, .int (bI kp)]))] := hD.sub [0] (by decide) rfl
    exact W.iret (v := (((v + w) + (bI cy)) &&& 255)) hx hb hr (fun t ht hW => ⟨⟨(((v + w) + (bI cy)) &&& 255), (decide ((((v + w) + (bI cy)) &&& 255) = 0), true), rfl, by first | (simp only [h16, ↓reduceIte, not_true_eq_false, not_false_eq_true, and_true, true_and, and_false, false_and, and_self, or_true, true_or, or_false, false_or, decide_true, decide_false, Bool.false_eq_true, reduceCtorEq]; done) | (simp_all []; done), by rw [ht]; exact hP9, va_K.moved hW.alike hK, hD9⟩, hS.F ht⟩) hS.2.2 d_MA_sum_37
set_option maxHeartbeats 4000000 in
set_option maxRecDepth 100000 in
theorem m_SM_diff (l : Launch) (D : va_G) (cI cZ : ClassId) (o : Nat) (mm : Nat) (a : Int32) (x : Int32) (sp : Int32) (pc : Int32) (zf : Bool) (cf : Bool) (st : Int32) (dn : Int32) (pr : Nat) (r2 : Int32) (kp : Bool) (v : Int32) (w : Int32) (sz : Nat) : MetI l y_MA_difference w_MA_difference { frames := 1, cells := 0, slots := 0, locals := 21 } D cI cZ [.ref o, .int v, .int w] [(o, .inr (4, [.ref mm, .int a, .int x, .int sp, .int pc, .int (bI zf), .int (bI cf), .int st, .int dn, .ref pr, .int r2, .int (bI kp)]))] sz (fun r (u : Bool × Bool) => match u with | (z1, c1) => r = (v - w) &&& 255 ∧ z1 = decide ((v - w) &&& 255 = 0) ∧ c1 = decide (¬ w ≤ v)) (fun (u : Bool × Bool) => match u with | (z1, c1) => [(o, .inr (4, [.ref mm, .int a, .int x, .int sp, .int pc, .int (bI z1), .int (bI c1), .int st, .int dn, .ref pr, .int r2, .int (bI kp)]))]) 0 0 := by
  refine ofI (cc := c_MA_difference) (maxL := 3) (ret := (some .int)) (by decide) rfl (Nat.le_of_ble_eq_true rfl) ?_
  intro p e s m args below meth c A H hH0 hx hb hr hlocks hts hown hnm hml ls hl hP hK hD hA hS hN
  have hown : s.vm.findClass R_MA = some m.cls := hown
  have hl : lv_has ls 3 [(0, .ref o), (1, .int v), (2, .int w)] := hl
  refine lv_aload_n hx hb d_MA_difference_0 rfl (lv_at hl 0 rfl) ?_
  refine lv_iload_n hx hb d_MA_difference_1 rfl (lv_at hl 2 rfl) ?_
  refine lv_iload_n hx hb d_MA_difference_2 rfl (lv_at hl 1 rfl) ?_
  refine lv_icmp_le (tgt := 10) hx hb d_MA_difference_3 rfl (fun h3 => ?_) (fun h3 => ?_)
  · refine lv_iconst (v := 0) hx hb d_MA_difference_10 (by decide) ?_
    refine va_put (D := D) (ci := 4) (v := .int (bI false)) (ty := .boolean) (C := R_SM) (T := T_SM) (N := 12) hx hb hts iw_SM ty_SM ty_SM_ok nm_SM hown hK hP hD hS 0 rfl rfl 6 (by decide) (hts _ k_133) (fun _ h9 => h9) rfl (by decide +kernel) (nb_n _) (nb_f _) (Nat.le_of_ble_eq_true rfl) d_MA_difference_11 (fun H locs hP hD hS => ?_)
    have hP : va_P D vwCl [(o, .inr (4, [.ref mm, .int a, .int x, .int sp, .int pc, .int (bI zf), .int (bI false), .int st, .int dn, .ref pr, .int r2, .int (bI kp)]))] H := hP
    have hD : va_D A [(o, .inr (4, [.ref mm, .int a, .int x, .int sp, .int pc, .int (bI zf), .int (bI false), .int st, .int dn, .ref pr, .int r2, .int (bI kp)]))] := hD
    refine lv_aload_n hx hb d_MA_difference_14 rfl (lv_at hl 0 rfl) ?_
    refine lv_iload_n hx hb d_MA_difference_15 rfl (lv_at hl 1 rfl) ?_
    refine lv_iload_n hx hb d_MA_difference_16 rfl (lv_at hl 2 rfl) ?_
    refine lv_isub hx hb d_MA_difference_17 ?_
    refine lv_sipush (v := 255) hx hb d_MA_difference_18 (by decide) ?_
    refine lv_iand hx hb d_MA_difference_21 ?_
    have hPc := hP.sub (ws' := [(o, .inr (4, [.ref mm, .int a, .int x, .int sp, .int pc, .int (bI zf), .int (bI false), .int st, .int dn, .ref pr, .int r2, .int (bI kp)]))]) [0] rfl
    have hDc := hD.sub (ws' := [(o, .inr (4, [.ref mm, .int a, .int x, .int sp, .int pc, .int (bI zf), .int (bI false), .int st, .int dn, .ref pr, .int r2, .int (bI kp)]))]) [0] (by decide) rfl
    have hFc := va_free (wc := [(o, .inr (4, [.ref mm, .int a, .int x, .int sp, .int pc, .int (bI zf), .int (bI false), .int st, .int dn, .ref pr, .int r2, .int (bI kp)]))]) hD hS hA [0] rfl
    refine va_calli (va_runU (As := [.int ((v - w) &&& 255)]) (rest := []) ⟨hx, hb, hml, hown, hts⟩ (m_SM_tested l D cI cZ o mm a x sp pc zf false st dn pr r2 kp ((v - w) &&& 255) H.size) (va_cwU 1 hts (gU k_555 k_925 k_927 k_537 k_58 k_538) rfl rfl rfl rfl hd_MA_tested ⟨Nat.le_of_ble_eq_true rfl, Nat.le_of_ble_eq_true rfl⟩) (PcW.preV (va_recv hK hP (q0 := 0) (ci := 4) rfl rfl) hPc hK hDc hN) rfl rfl hl.1 rfl (lv_room (Nat.le_of_ble_eq_true rfl)) d_MA_difference_22 ⟨Nat.le_of_ble_eq_true rfl, Nat.le_of_ble_eq_true rfl⟩) hS (fun q _ h => hFc q h) hFc (fun r22 u t H1 locs ht hvm e22 hB hz1 hk1 hS => ?_)
    obtain ⟨z122, rfl⟩ : ∃ z, z = u := ⟨_, rfl⟩
    obtain ⟨hP1, hK1, hD1⟩ := hB
    rw [ht] at hP1
    obtain ⟨hP, hD⟩ := va_join (wr := []) (w1 := [(o, .inr (4, [.ref mm, .int a, .int x, .int sp, .int pc, .int (bI z122), .int (bI false), .int st, .int dn, .ref pr, .int r2, .int (bI kp)]))]) hP hD [0] [] rfl rfl (by decide) (by decide) hk1 hFc hP1 hD1
    generalize H1 = H at hP hS ⊢
    try dsimp only at e22
    obtain ⟨e22_0, e22_1⟩ := e22
    replace e22_0 := e22_0.symm
    subst e22_0
    replace e22_1 := e22_1.symm
    subst e22_1
    have hP : va_P D vwCl [(o, .inr (4, [.ref mm, .int a, .int x, .int sp, .int pc, .int (bI (decide (((v - w) &&& 255) = 0))), .int (bI false), .int st, .int dn, .ref pr, .int r2, .int (bI kp)]))] H := hP
    have hD : va_D A [(o, .inr (4, [.ref mm, .int a, .int x, .int sp, .int pc, .int (bI (decide (((v - w) &&& 255) = 0))), .int (bI false), .int st, .int dn, .ref pr, .int r2, .int (bI kp)]))] := hD
    have hP9 : va_P D vwCl [(o, .inr (4, [.ref mm, .int a, .int x, .int sp, .int pc, .int (bI (decide (((v - w) &&& 255) = 0))), .int (bI false), .int st, .int dn, .ref pr, .int r2, .int (bI kp)]))] H := hP.sub [0] rfl
    have hD9 : va_D A [(o, .inr (4, [.ref mm, .int a, .int x, .int sp, .int pc, .int (bI (decide (((v - w) &&& 255) = 0))), .int (bI false), .int st, .int dn, .ref pr, .int r2, .int (bI kp)]))] := hD.sub [0] (by decide) rfl
    exact W.iret (v := ((v - w) &&& 255)) hx hb hr (fun t ht hW => ⟨⟨((v - w) &&& 255), (decide (((v - w) &&& 255) = 0), false), rfl, by first | (simp only [h3, ↓reduceIte, not_true_eq_false, not_false_eq_true, and_true, true_and, and_false, false_and, and_self, or_true, true_or, or_false, false_or, decide_true, decide_false, Bool.false_eq_true, reduceCtorEq]; done) | (simp_all []; done), by rw [ht]; exact hP9, va_K.moved hW.alike hK, hD9⟩, hS.F ht⟩) hS.2.2 d_MA_difference_25
  · refine lv_iconst (v := 1) hx hb d_MA_difference_6 (by decide) ?_
    refine lv_goto (tgt := 11) hx hb d_MA_difference_7 rfl ?_
    refine va_put (D := D) (ci := 4) (v := .int (bI true)) (ty := .boolean) (C := R_SM) (T := T_SM) (N := 12) hx hb hts iw_SM ty_SM ty_SM_ok nm_SM hown hK hP hD hS 0 rfl rfl 6 (by decide) (hts _ k_133) (fun _ h9 => h9) rfl (by decide +kernel) (nb_n _) (nb_f _) (Nat.le_of_ble_eq_true rfl) d_MA_difference_11 (fun H locs hP hD hS => ?_)
    have hP : va_P D vwCl [(o, .inr (4, [.ref mm, .int a, .int x, .int sp, .int pc, .int (bI zf), .int (bI true), .int st, .int dn, .ref pr, .int r2, .int (bI kp)]))] H := hP
    have hD : va_D A [(o, .inr (4, [.ref mm, .int a, .int x, .int sp, .int pc, .int (bI zf), .int (bI true), .int st, .int dn, .ref pr, .int r2, .int (bI kp)]))] := hD
    refine lv_aload_n hx hb d_MA_difference_14 rfl (lv_at hl 0 rfl) ?_
    refine lv_iload_n hx hb d_MA_difference_15 rfl (lv_at hl 1 rfl) ?_
    refine lv_iload_n hx hb d_MA_difference_16 rfl (lv_at hl 2 rfl) ?_
    refine lv_isub hx hb d_MA_difference_17 ?_
    refine lv_sipush (v := 255) hx hb d_MA_difference_18 (by decide) ?_
    refine lv_iand hx hb d_MA_difference_21 ?_
    have hPc := hP.sub (ws' := [(o, .inr (4, [.ref mm, .int a, .int x, .int sp, .int pc, .int (bI zf), .int (bI true), .int st, .int dn, .ref pr, .int r2, .int (bI kp)]))]) [0] rfl
    have hDc := hD.sub (ws' := [(o, .inr (4, [.ref mm, .int a, .int x, .int sp, .int pc, .int (bI zf), .int (bI true), .int st, .int dn, .ref pr, .int r2, .int (bI kp)]))]) [0] (by decide) rfl
    have hFc := va_free (wc := [(o, .inr (4, [.ref mm, .int a, .int x, .int sp, .int pc, .int (bI zf), .int (bI true), .int st, .int dn, .ref pr, .int r2, .int (bI kp)]))]) hD hS hA [0] rfl
    refine va_calli (va_runU (As := [.int ((v - w) &&& 255)]) (rest := []) ⟨hx, hb, hml, hown, hts⟩ (m_SM_tested l D cI cZ o mm a x sp pc zf true st dn pr r2 kp ((v - w) &&& 255) H.size) (va_cwU 1 hts (gU k_555 k_925 k_927 k_537 k_58 k_538) rfl rfl rfl rfl hd_MA_tested ⟨Nat.le_of_ble_eq_true rfl, Nat.le_of_ble_eq_true rfl⟩) (PcW.preV (va_recv hK hP (q0 := 0) (ci := 4) rfl rfl) hPc hK hDc hN) rfl rfl hl.1 rfl (lv_room (Nat.le_of_ble_eq_true rfl)) d_MA_difference_22 ⟨Nat.le_of_ble_eq_true rfl, Nat.le_of_ble_eq_true rfl⟩) hS (fun q _ h => hFc q h) hFc (fun r22 u t H1 locs ht hvm e22 hB hz1 hk1 hS => ?_)
    obtain ⟨z122, rfl⟩ : ∃ z, z = u := ⟨_, rfl⟩
    obtain ⟨hP1, hK1, hD1⟩ := hB
    rw [ht] at hP1
    obtain ⟨hP, hD⟩ := va_join (wr := []) (w1 := [(o, .inr (4, [.ref mm, .int a, .int x, .int sp, .int pc, .int (bI z122), .int (bI true), .int st, .int dn, .ref pr, .int r2, .int (bI kp)]))]) hP hD [0] [] rfl rfl (by decide) (by decide) hk1 hFc hP1 hD1
    generalize H1 = H at hP hS ⊢
    try dsimp only at e22
    obtain ⟨e22_0, e22_1⟩ := e22
    replace e22_0 := e22_0.symm
    subst e22_0
    replace e22_1 := e22_1.symm
    subst e22_1
    have hP : va_P D vwCl [(o, .inr (4, [.ref mm, .int a, .int x, .int sp, .int pc, .int (bI (decide (((v - w) &&& 255) = 0))), .int (bI true), .int st, .int dn, .ref pr, .int r2, .int (bI kp)]))] H := hP
    have hD : va_D A [(o, .inr (4, [.ref mm, .int a, .int x, .int sp, .int pc, .int (bI (decide (((v - w) &&& 255) = 0))), .int (bI true), .int st, .int dn, .ref pr, .int r2, .int (bI kp)]))] := hD
    have hP9 : va_P D vwCl [(o, .inr (4, [.ref mm, .int a, .int x, .int sp, .int pc, .int (bI (decide (((v - w) &&& 255) = 0))), .int (bI true), .int st, .int dn, .ref pr, .int r2, .int (bI kp)]))] H := hP.sub [0] rfl
    have hD9 : va_D A [(o, .inr (4, [.ref mm, .int a, .int x, .int sp, .int pc, .int (bI (decide (((v - w) &&& 255) = 0))), .int (bI true), .int st, .int dn, .ref pr, .int r2, .int (bI kp)]))] := hD.sub [0] (by decide) rfl
    exact W.iret (v := ((v - w) &&& 255)) hx hb hr (fun t ht hW => ⟨⟨((v - w) &&& 255), (decide (((v - w) &&& 255) = 0), true), rfl, by first | (simp only [h3, ↓reduceIte, not_true_eq_false, not_false_eq_true, and_true, true_and, and_false, false_and, and_self, or_true, true_or, or_false, false_or, decide_true, decide_false, Bool.false_eq_true, reduceCtorEq]; done) | (simp_all []; done), by rw [ht]; exact hP9, va_K.moved hW.alike hK, hD9⟩, hS.F ht⟩) hS.2.2 d_MA_difference_25
set_option maxHeartbeats 4000000 in
set_option maxRecDepth 100000 in
theorem m_SM_doubled (l : Launch) (D : va_G) (cI cZ : ClassId) (o : Nat) (mm : Nat) (a : Int32) (x : Int32) (sp : Int32) (pc : Int32) (zf : Bool) (cf : Bool) (st : Int32) (dn : Int32) (pr : Nat) (r2 : Int32) (kp : Bool) (v : Int32) (sz : Nat) : MetI l y_MA_doubled w_MA_doubled { frames := 1, cells := 0, slots := 0, locals := 21 } D cI cZ [.ref o, .int v] [(o, .inr (4, [.ref mm, .int a, .int x, .int sp, .int pc, .int (bI zf), .int (bI cf), .int st, .int dn, .ref pr, .int r2, .int (bI kp)]))] sz (fun r (u : Bool × Bool) => match u with | (z1, c1) => r = (2 * v) &&& 255 ∧ z1 = decide ((2 * v) &&& 255 = 0) ∧ c1 = decide (¬ v &&& 128 = 0)) (fun (u : Bool × Bool) => match u with | (z1, c1) => [(o, .inr (4, [.ref mm, .int a, .int x, .int sp, .int pc, .int (bI z1), .int (bI c1), .int st, .int dn, .ref pr, .int r2, .int (bI kp)]))]) 0 0 := by
  refine ofI (cc := c_MA_doubled) (maxL := 2) (ret := (some .int)) (by decide) rfl (Nat.le_of_ble_eq_true rfl) ?_
  intro p e s m args below meth c A H hH0 hx hb hr hlocks hts hown hnm hml ls hl hP hK hD hA hS hN
  have hown : s.vm.findClass R_MA = some m.cls := hown
  have hl : lv_has ls 2 [(0, .ref o), (1, .int v)] := hl
  refine lv_aload_n hx hb d_MA_doubled_0 rfl (lv_at hl 0 rfl) ?_
  refine lv_iload_n hx hb d_MA_doubled_1 rfl (lv_at hl 1 rfl) ?_
  refine lv_sipush (v := 128) hx hb d_MA_doubled_2 (by decide) ?_
  refine lv_iand hx hb d_MA_doubled_5 ?_
  refine lv_if_eq (tgt := 13) hx hb d_MA_doubled_6 rfl (fun h6 => ?_) (fun h6 => ?_)
  · refine lv_iconst (v := 0) hx hb d_MA_doubled_13 (by decide) ?_
    refine va_put (D := D) (ci := 4) (v := .int (bI false)) (ty := .boolean) (C := R_SM) (T := T_SM) (N := 12) hx hb hts iw_SM ty_SM ty_SM_ok nm_SM hown hK hP hD hS 0 rfl rfl 6 (by decide) (hts _ k_133) (fun _ h9 => h9) rfl (by decide +kernel) (nb_n _) (nb_f _) (Nat.le_of_ble_eq_true rfl) d_MA_doubled_14 (fun H locs hP hD hS => ?_)
    have hP : va_P D vwCl [(o, .inr (4, [.ref mm, .int a, .int x, .int sp, .int pc, .int (bI zf), .int (bI false), .int st, .int dn, .ref pr, .int r2, .int (bI kp)]))] H := hP
    have hD : va_D A [(o, .inr (4, [.ref mm, .int a, .int x, .int sp, .int pc, .int (bI zf), .int (bI false), .int st, .int dn, .ref pr, .int r2, .int (bI kp)]))] := hD
    refine lv_aload_n hx hb d_MA_doubled_17 rfl (lv_at hl 0 rfl) ?_
    refine lv_iconst (v := 2) hx hb d_MA_doubled_18 (by decide) ?_
    refine lv_iload_n hx hb d_MA_doubled_19 rfl (lv_at hl 1 rfl) ?_
    refine lv_imul hx hb d_MA_doubled_20 ?_
    refine lv_sipush (v := 255) hx hb d_MA_doubled_21 (by decide) ?_
    refine lv_iand hx hb d_MA_doubled_24 ?_
    have hPc := hP.sub (ws' := [(o, .inr (4, [.ref mm, .int a, .int x, .int sp, .int pc, .int (bI zf), .int (bI false), .int st, .int dn, .ref pr, .int r2, .int (bI kp)]))]) [0] rfl
    have hDc := hD.sub (ws' := [(o, .inr (4, [.ref mm, .int a, .int x, .int sp, .int pc, .int (bI zf), .int (bI false), .int st, .int dn, .ref pr, .int r2, .int (bI kp)]))]) [0] (by decide) rfl
    have hFc := va_free (wc := [(o, .inr (4, [.ref mm, .int a, .int x, .int sp, .int pc, .int (bI zf), .int (bI false), .int st, .int dn, .ref pr, .int r2, .int (bI kp)]))]) hD hS hA [0] rfl
    refine va_calli (va_runU (As := [.int ((2 * v) &&& 255)]) (rest := []) ⟨hx, hb, hml, hown, hts⟩ (m_SM_tested l D cI cZ o mm a x sp pc zf false st dn pr r2 kp ((2 * v) &&& 255) H.size) (va_cwU 1 hts (gU k_555 k_925 k_927 k_537 k_58 k_538) rfl rfl rfl rfl hd_MA_tested ⟨Nat.le_of_ble_eq_true rfl, Nat.le_of_ble_eq_true rfl⟩) (PcW.preV (va_recv hK hP (q0 := 0) (ci := 4) rfl rfl) hPc hK hDc hN) rfl rfl hl.1 rfl (lv_room (Nat.le_of_ble_eq_true rfl)) d_MA_doubled_25 ⟨Nat.le_of_ble_eq_true rfl, Nat.le_of_ble_eq_true rfl⟩) hS (fun q _ h => hFc q h) hFc (fun r25 u t H1 locs ht hvm e25 hB hz1 hk1 hS => ?_)
    obtain ⟨z125, rfl⟩ : ∃ z, z = u := ⟨_, rfl⟩
    obtain ⟨hP1, hK1, hD1⟩ := hB
    rw [ht] at hP1
    obtain ⟨hP, hD⟩ := va_join (wr := []) (w1 := [(o, .inr (4, [.ref mm, .int a, .int x, .int sp, .int pc, .int (bI z125), .int (bI false), .int st, .int dn, .ref pr, .int r2, .int (bI kp)]))]) hP hD [0] [] rfl rfl (by decide) (by decide) hk1 hFc hP1 hD1
    generalize H1 = H at hP hS ⊢
    try dsimp only at e25
    obtain ⟨e25_0, e25_1⟩ := e25
    replace e25_0 := e25_0.symm
    subst e25_0
    replace e25_1 := e25_1.symm
    subst e25_1
    have hP : va_P D vwCl [(o, .inr (4, [.ref mm, .int a, .int x, .int sp, .int pc, .int (bI (decide (((2 * v) &&& 255) = 0))), .int (bI false), .int st, .int dn, .ref pr, .int r2, .int (bI kp)]))] H := hP
    have hD : va_D A [(o, .inr (4, [.ref mm, .int a, .int x, .int sp, .int pc, .int (bI (decide (((2 * v) &&& 255) = 0))), .int (bI false), .int st, .int dn, .ref pr, .int r2, .int (bI kp)]))] := hD
    have hP9 : va_P D vwCl [(o, .inr (4, [.ref mm, .int a, .int x, .int sp, .int pc, .int (bI (decide (((2 * v) &&& 255) = 0))), .int (bI false), .int st, .int dn, .ref pr, .int r2, .int (bI kp)]))] H := hP.sub [0] rfl
    have hD9 : va_D A [(o, .inr (4, [.ref mm, .int a, .int x, .int sp, .int pc, .int (bI (decide (((2 * v) &&& 255) = 0))), .int (bI false), .int st, .int dn, .ref pr, .int r2, .int (bI kp)]))] := hD.sub [0] (by decide) rfl
    exact W.iret (v := ((2 * v) &&& 255)) hx hb hr (fun t ht hW => ⟨⟨((2 * v) &&& 255), (decide (((2 * v) &&& 255) = 0), false), rfl, by first | (simp only [h6, ↓reduceIte, not_true_eq_false, not_false_eq_true, and_true, true_and, and_false, false_and, and_self, or_true, true_or, or_false, false_or, decide_true, decide_false, Bool.false_eq_true, reduceCtorEq]; done) | (simp_all []; done), by rw [ht]; exact hP9, va_K.moved hW.alike hK, hD9⟩, hS.F ht⟩) hS.2.2 d_MA_doubled_28
  · refine lv_iconst (v := 1) hx hb d_MA_doubled_9 (by decide) ?_
    refine lv_goto (tgt := 14) hx hb d_MA_doubled_10 rfl ?_
    refine va_put (D := D) (ci := 4) (v := .int (bI true)) (ty := .boolean) (C := R_SM) (T := T_SM) (N := 12) hx hb hts iw_SM ty_SM ty_SM_ok nm_SM hown hK hP hD hS 0 rfl rfl 6 (by decide) (hts _ k_133) (fun _ h9 => h9) rfl (by decide +kernel) (nb_n _) (nb_f _) (Nat.le_of_ble_eq_true rfl) d_MA_doubled_14 (fun H locs hP hD hS => ?_)
    have hP : va_P D vwCl [(o, .inr (4, [.ref mm, .int a, .int x, .int sp, .int pc, .int (bI zf), .int (bI true), .int st, .int dn, .ref pr, .int r2, .int (bI kp)]))] H := hP
    have hD : va_D A [(o, .inr (4, [.ref mm, .int a, .int x, .int sp, .int pc, .int (bI zf), .int (bI true), .int st, .int dn, .ref pr, .int r2, .int (bI kp)]))] := hD
    refine lv_aload_n hx hb d_MA_doubled_17 rfl (lv_at hl 0 rfl) ?_
    refine lv_iconst (v := 2) hx hb d_MA_doubled_18 (by decide) ?_
    refine lv_iload_n hx hb d_MA_doubled_19 rfl (lv_at hl 1 rfl) ?_
    refine lv_imul hx hb d_MA_doubled_20 ?_
    refine lv_sipush (v := 255) hx hb d_MA_doubled_21 (by decide) ?_
    refine lv_iand hx hb d_MA_doubled_24 ?_
    have hPc := hP.sub (ws' := [(o, .inr (4, [.ref mm, .int a, .int x, .int sp, .int pc, .int (bI zf), .int (bI true), .int st, .int dn, .ref pr, .int r2, .int (bI kp)]))]) [0] rfl
    have hDc := hD.sub (ws' := [(o, .inr (4, [.ref mm, .int a, .int x, .int sp, .int pc, .int (bI zf), .int (bI true), .int st, .int dn, .ref pr, .int r2, .int (bI kp)]))]) [0] (by decide) rfl
    have hFc := va_free (wc := [(o, .inr (4, [.ref mm, .int a, .int x, .int sp, .int pc, .int (bI zf), .int (bI true), .int st, .int dn, .ref pr, .int r2, .int (bI kp)]))]) hD hS hA [0] rfl
    refine va_calli (va_runU (As := [.int ((2 * v) &&& 255)]) (rest := []) ⟨hx, hb, hml, hown, hts⟩ (m_SM_tested l D cI cZ o mm a x sp pc zf true st dn pr r2 kp ((2 * v) &&& 255) H.size) (va_cwU 1 hts (gU k_555 k_925 k_927 k_537 k_58 k_538) rfl rfl rfl rfl hd_MA_tested ⟨Nat.le_of_ble_eq_true rfl, Nat.le_of_ble_eq_true rfl⟩) (PcW.preV (va_recv hK hP (q0 := 0) (ci := 4) rfl rfl) hPc hK hDc hN) rfl rfl hl.1 rfl (lv_room (Nat.le_of_ble_eq_true rfl)) d_MA_doubled_25 ⟨Nat.le_of_ble_eq_true rfl, Nat.le_of_ble_eq_true rfl⟩) hS (fun q _ h => hFc q h) hFc (fun r25 u t H1 locs ht hvm e25 hB hz1 hk1 hS => ?_)
    obtain ⟨z125, rfl⟩ : ∃ z, z = u := ⟨_, rfl⟩
    obtain ⟨hP1, hK1, hD1⟩ := hB
    rw [ht] at hP1
    obtain ⟨hP, hD⟩ := va_join (wr := []) (w1 := [(o, .inr (4, [.ref mm, .int a, .int x, .int sp, .int pc, .int (bI z125), .int (bI true), .int st, .int dn, .ref pr, .int r2, .int (bI kp)]))]) hP hD [0] [] rfl rfl (by decide) (by decide) hk1 hFc hP1 hD1
    generalize H1 = H at hP hS ⊢
    try dsimp only at e25
    obtain ⟨e25_0, e25_1⟩ := e25
    replace e25_0 := e25_0.symm
    subst e25_0
    replace e25_1 := e25_1.symm
    subst e25_1
    have hP : va_P D vwCl [(o, .inr (4, [.ref mm, .int a, .int x, .int sp, .int pc, .int (bI (decide (((2 * v) &&& 255) = 0))), .int (bI true), .int st, .int dn, .ref pr, .int r2, .int (bI kp)]))] H := hP
    have hD : va_D A [(o, .inr (4, [.ref mm, .int a, .int x, .int sp, .int pc, .int (bI (decide (((2 * v) &&& 255) = 0))), .int (bI true), .int st, .int dn, .ref pr, .int r2, .int (bI kp)]))] := hD
    have hP9 : va_P D vwCl [(o, .inr (4, [.ref mm, .int a, .int x, .int sp, .int pc, .int (bI (decide (((2 * v) &&& 255) = 0))), .int (bI true), .int st, .int dn, .ref pr, .int r2, .int (bI kp)]))] H := hP.sub [0] rfl
    have hD9 : va_D A [(o, .inr (4, [.ref mm, .int a, .int x, .int sp, .int pc, .int (bI (decide (((2 * v) &&& 255) = 0))), .int (bI true), .int st, .int dn, .ref pr, .int r2, .int (bI kp)]))] := hD.sub [0] (by decide) rfl
    exact W.iret (v := ((2 * v) &&& 255)) hx hb hr (fun t ht hW => ⟨⟨((2 * v) &&& 255), (decide (((2 * v) &&& 255) = 0), true), rfl, by first | (simp only [h6, ↓reduceIte, not_true_eq_false, not_false_eq_true, and_true, true_and, and_false, false_and, and_self, or_true, true_or, or_false, false_or, decide_true, decide_false, Bool.false_eq_true, reduceCtorEq]; done) | (simp_all []; done), by rw [ht]; exact hP9, va_K.moved hW.alike hK, hD9⟩, hS.F ht⟩) hS.2.2 d_MA_doubled_28
set_option maxHeartbeats 4000000 in
set_option maxRecDepth 100000 in
theorem m_SM_halved (l : Launch) (D : va_G) (cI cZ : ClassId) (o : Nat) (mm : Nat) (a : Int32) (x : Int32) (sp : Int32) (pc : Int32) (zf : Bool) (cf : Bool) (st : Int32) (dn : Int32) (pr : Nat) (r2 : Int32) (kp : Bool) (v : Int32) (sz : Nat) : MetI l y_MA_halved w_MA_halved { frames := 1, cells := 0, slots := 0, locals := 21 } D cI cZ [.ref o, .int v] [(o, .inr (4, [.ref mm, .int a, .int x, .int sp, .int pc, .int (bI zf), .int (bI cf), .int st, .int dn, .ref pr, .int r2, .int (bI kp)]))] sz (fun r (u : Bool × Bool) => match u with | (z1, c1) => r = v >>> (1 &&& 31) ∧ z1 = decide (v >>> (1 &&& 31) = 0) ∧ c1 = decide (¬ v &&& 1 = 0)) (fun (u : Bool × Bool) => match u with | (z1, c1) => [(o, .inr (4, [.ref mm, .int a, .int x, .int sp, .int pc, .int (bI z1), .int (bI c1), .int st, .int dn, .ref pr, .int r2, .int (bI kp)]))]) 0 0 := by
  refine ofI (cc := c_MA_halved) (maxL := 2) (ret := (some .int)) (by decide) rfl (Nat.le_of_ble_eq_true rfl) ?_
  intro p e s m args below meth c A H hH0 hx hb hr hlocks hts hown hnm hml ls hl hP hK hD hA hS hN
  have hown : s.vm.findClass R_MA = some m.cls := hown
  have hl : lv_has ls 2 [(0, .ref o), (1, .int v)] := hl
  refine lv_aload_n hx hb d_MA_halved_0 rfl (lv_at hl 0 rfl) ?_
  refine lv_iload_n hx hb d_MA_halved_1 rfl (lv_at hl 1 rfl) ?_
  refine lv_iconst (v := 1) hx hb d_MA_halved_2 (by decide) ?_
  refine lv_iand hx hb d_MA_halved_3 ?_
  refine lv_if_eq (tgt := 11) hx hb d_MA_halved_4 rfl (fun h4 => ?_) (fun h4 => ?_)
  · refine lv_iconst (v := 0) hx hb d_MA_halved_11 (by decide) ?_
    refine va_put (D := D) (ci := 4) (v := .int (bI false)) (ty := .boolean) (C := R_SM) (T := T_SM) (N := 12) hx hb hts iw_SM ty_SM ty_SM_ok nm_SM hown hK hP hD hS 0 rfl rfl 6 (by decide) (hts _ k_133) (fun _ h9 => h9) rfl (by decide +kernel) (nb_n _) (nb_f _) (Nat.le_of_ble_eq_true rfl) d_MA_halved_12 (fun H locs hP hD hS => ?_)
    have hP : va_P D vwCl [(o, .inr (4, [.ref mm, .int a, .int x, .int sp, .int pc, .int (bI zf), .int (bI false), .int st, .int dn, .ref pr, .int r2, .int (bI kp)]))] H := hP
    have hD : va_D A [(o, .inr (4, [.ref mm, .int a, .int x, .int sp, .int pc, .int (bI zf), .int (bI false), .int st, .int dn, .ref pr, .int r2, .int (bI kp)]))] := hD
    refine lv_aload_n hx hb d_MA_halved_15 rfl (lv_at hl 0 rfl) ?_
    refine lv_iload_n hx hb d_MA_halved_16 rfl (lv_at hl 1 rfl) ?_
    refine lv_iconst (v := 1) hx hb d_MA_halved_17 (by decide) ?_
    refine lv_ishr hx hb d_MA_halved_18 ?_
    have hPc := hP.sub (ws' := [(o, .inr (4, [.ref mm, .int a, .int x, .int sp, .int pc, .int (bI zf), .int (bI false), .int st, .int dn, .ref pr, .int r2, .int (bI kp)]))]) [0] rfl
    have hDc := hD.sub (ws' := [(o, .inr (4, [.ref mm, .int a, .int x, .int sp, .int pc, .int (bI zf), .int (bI false), .int st, .int dn, .ref pr, .int r2, .int (bI kp)]))]) [0] (by decide) rfl
    have hFc := va_free (wc := [(o, .inr (4, [.ref mm, .int a, .int x, .int sp, .int pc, .int (bI zf), .int (bI false), .int st, .int dn, .ref pr, .int r2, .int (bI kp)]))]) hD hS hA [0] rfl
    refine va_calli (va_runU (As := [.int (v >>> (1 &&& 31))]) (rest := []) ⟨hx, hb, hml, hown, hts⟩ (m_SM_tested l D cI cZ o mm a x sp pc zf false st dn pr r2 kp (v >>> (1 &&& 31)) H.size) (va_cwU 1 hts (gU k_555 k_925 k_927 k_537 k_58 k_538) rfl rfl rfl rfl hd_MA_tested ⟨Nat.le_of_ble_eq_true rfl, Nat.le_of_ble_eq_true rfl⟩) (PcW.preV (va_recv hK hP (q0 := 0) (ci := 4) rfl rfl) hPc hK hDc hN) rfl rfl hl.1 rfl (lv_room (Nat.le_of_ble_eq_true rfl)) d_MA_halved_19 ⟨Nat.le_of_ble_eq_true rfl, Nat.le_of_ble_eq_true rfl⟩) hS (fun q _ h => hFc q h) hFc (fun r19 u t H1 locs ht hvm e19 hB hz1 hk1 hS => ?_)
    obtain ⟨z119, rfl⟩ : ∃ z, z = u := ⟨_, rfl⟩
    obtain ⟨hP1, hK1, hD1⟩ := hB
    rw [ht] at hP1
    obtain ⟨hP, hD⟩ := va_join (wr := []) (w1 := [(o, .inr (4, [.ref mm, .int a, .int x, .int sp, .int pc, .int (bI z119), .int (bI false), .int st, .int dn, .ref pr, .int r2, .int (bI kp)]))]) hP hD [0] [] rfl rfl (by decide) (by decide) hk1 hFc hP1 hD1
    generalize H1 = H at hP hS ⊢
    try dsimp only at e19
    obtain ⟨e19_0, e19_1⟩ := e19
    replace e19_0 := e19_0.symm
    subst e19_0
    replace e19_1 := e19_1.symm
    subst e19_1
    have hP : va_P D vwCl [(o, .inr (4, [.ref mm, .int a, .int x, .int sp, .int pc, .int (bI (decide ((v >>> (1 &&& 31)) = 0))), .int (bI false), .int st, .int dn, .ref pr, .int r2, .int (bI kp)]))] H := hP
    have hD : va_D A [(o, .inr (4, [.ref mm, .int a, .int x, .int sp, .int pc, .int (bI (decide ((v >>> (1 &&& 31)) = 0))), .int (bI false), .int st, .int dn, .ref pr, .int r2, .int (bI kp)]))] := hD
    have hP9 : va_P D vwCl [(o, .inr (4, [.ref mm, .int a, .int x, .int sp, .int pc, .int (bI (decide ((v >>> (1 &&& 31)) = 0))), .int (bI false), .int st, .int dn, .ref pr, .int r2, .int (bI kp)]))] H := hP.sub [0] rfl
    have hD9 : va_D A [(o, .inr (4, [.ref mm, .int a, .int x, .int sp, .int pc, .int (bI (decide ((v >>> (1 &&& 31)) = 0))), .int (bI false), .int st, .int dn, .ref pr, .int r2, .int (bI kp)]))] := hD.sub [0] (by decide) rfl
    exact W.iret (v := (v >>> (1 &&& 31))) hx hb hr (fun t ht hW => ⟨⟨(v >>> (1 &&& 31)), (decide ((v >>> (1 &&& 31)) = 0), false), rfl, by first | (simp only [h4, ↓reduceIte, not_true_eq_false, not_false_eq_true, and_true, true_and, and_false, false_and, and_self, or_true, true_or, or_false, false_or, decide_true, decide_false, Bool.false_eq_true, reduceCtorEq]; done) | (simp_all []; done), by rw [ht]; exact hP9, va_K.moved hW.alike hK, hD9⟩, hS.F ht⟩) hS.2.2 d_MA_halved_22
  · refine lv_iconst (v := 1) hx hb d_MA_halved_7 (by decide) ?_
    refine lv_goto (tgt := 12) hx hb d_MA_halved_8 rfl ?_
    refine va_put (D := D) (ci := 4) (v := .int (bI true)) (ty := .boolean) (C := R_SM) (T := T_SM) (N := 12) hx hb hts iw_SM ty_SM ty_SM_ok nm_SM hown hK hP hD hS 0 rfl rfl 6 (by decide) (hts _ k_133) (fun _ h9 => h9) rfl (by decide +kernel) (nb_n _) (nb_f _) (Nat.le_of_ble_eq_true rfl) d_MA_halved_12 (fun H locs hP hD hS => ?_)
    have hP : va_P D vwCl [(o, .inr (4, [.ref mm, .int a, .int x, .int sp, .int pc, .int (bI zf), .int (bI true), .int st, .int dn, .ref pr, .int r2, .int (bI kp)]))] H := hP
    have hD : va_D A [(o, .inr (4, [.ref mm, .int a, .int x, .int sp, .int pc, .int (bI zf), .int (bI true), .int st, .int dn, .ref pr, .int r2, .int (bI kp)]))] := hD
    refine lv_aload_n hx hb d_MA_halved_15 rfl (lv_at hl 0 rfl) ?_
    refine lv_iload_n hx hb d_MA_halved_16 rfl (lv_at hl 1 rfl) ?_
    refine lv_iconst (v := 1) hx hb d_MA_halved_17 (by decide) ?_
    refine lv_ishr hx hb d_MA_halved_18 ?_
    have hPc := hP.sub (ws' := [(o, .inr (4, [.ref mm, .int a, .int x, .int sp, .int pc, .int (bI zf), .int (bI true), .int st, .int dn, .ref pr, .int r2, .int (bI kp)]))]) [0] rfl
    have hDc := hD.sub (ws' := [(o, .inr (4, [.ref mm, .int a, .int x, .int sp, .int pc, .int (bI zf), .int (bI true), .int st, .int dn, .ref pr, .int r2, .int (bI kp)]))]) [0] (by decide) rfl
    have hFc := va_free (wc := [(o, .inr (4, [.ref mm, .int a, .int x, .int sp, .int pc, .int (bI zf), .int (bI true), .int st, .int dn, .ref pr, .int r2, .int (bI kp)]))]) hD hS hA [0] rfl
    refine va_calli (va_runU (As := [.int (v >>> (1 &&& 31))]) (rest := []) ⟨hx, hb, hml, hown, hts⟩ (m_SM_tested l D cI cZ o mm a x sp pc zf true st dn pr r2 kp (v >>> (1 &&& 31)) H.size) (va_cwU 1 hts (gU k_555 k_925 k_927 k_537 k_58 k_538) rfl rfl rfl rfl hd_MA_tested ⟨Nat.le_of_ble_eq_true rfl, Nat.le_of_ble_eq_true rfl⟩) (PcW.preV (va_recv hK hP (q0 := 0) (ci := 4) rfl rfl) hPc hK hDc hN) rfl rfl hl.1 rfl (lv_room (Nat.le_of_ble_eq_true rfl)) d_MA_halved_19 ⟨Nat.le_of_ble_eq_true rfl, Nat.le_of_ble_eq_true rfl⟩) hS (fun q _ h => hFc q h) hFc (fun r19 u t H1 locs ht hvm e19 hB hz1 hk1 hS => ?_)
    obtain ⟨z119, rfl⟩ : ∃ z, z = u := ⟨_, rfl⟩
    obtain ⟨hP1, hK1, hD1⟩ := hB
    rw [ht] at hP1
    obtain ⟨hP, hD⟩ := va_join (wr := []) (w1 := [(o, .inr (4, [.ref mm, .int a, .int x, .int sp, .int pc, .int (bI z119), .int (bI true), .int st, .int dn, .ref pr, .int r2, .int (bI kp)]))]) hP hD [0] [] rfl rfl (by decide) (by decide) hk1 hFc hP1 hD1
    generalize H1 = H at hP hS ⊢
    try dsimp only at e19
    obtain ⟨e19_0, e19_1⟩ := e19
    replace e19_0 := e19_0.symm
    subst e19_0
    replace e19_1 := e19_1.symm
    subst e19_1
    have hP : va_P D vwCl [(o, .inr (4, [.ref mm, .int a, .int x, .int sp, .int pc, .int (bI (decide ((v >>> (1 &&& 31)) = 0))), .int (bI true), .int st, .int dn, .ref pr, .int r2, .int (bI kp)]))] H := hP
    have hD : va_D A [(o, .inr (4, [.ref mm, .int a, .int x, .int sp, .int pc, .int (bI (decide ((v >>> (1 &&& 31)) = 0))), .int (bI true), .int st, .int dn, .ref pr, .int r2, .int (bI kp)]))] := hD
    have hP9 : va_P D vwCl [(o, .inr (4, [.ref mm, .int a, .int x, .int sp, .int pc, .int (bI (decide ((v >>> (1 &&& 31)) = 0))), .int (bI true), .int st, .int dn, .ref pr, .int r2, .int (bI kp)]))] H := hP.sub [0] rfl
    have hD9 : va_D A [(o, .inr (4, [.ref mm, .int a, .int x, .int sp, .int pc, .int (bI (decide ((v >>> (1 &&& 31)) = 0))), .int (bI true), .int st, .int dn, .ref pr, .int r2, .int (bI kp)]))] := hD.sub [0] (by decide) rfl
    exact W.iret (v := (v >>> (1 &&& 31))) hx hb hr (fun t ht hW => ⟨⟨(v >>> (1 &&& 31)), (decide ((v >>> (1 &&& 31)) = 0), true), rfl, by first | (simp only [h4, ↓reduceIte, not_true_eq_false, not_false_eq_true, and_true, true_and, and_false, false_and, and_self, or_true, true_or, or_false, false_or, decide_true, decide_false, Bool.false_eq_true, reduceCtorEq]; done) | (simp_all []; done), by rw [ht]; exact hP9, va_K.moved hW.alike hK, hD9⟩, hS.F ht⟩) hS.2.2 d_MA_halved_22
set_option maxHeartbeats 4000000 in
set_option maxRecDepth 100000 in
theorem m_SM_hasHalted (l : Launch) (D : va_G) (cI cZ : ClassId) (o : Nat) (mm : Nat) (a : Int32) (x : Int32) (sp : Int32) (pc : Int32) (zf : Bool) (cf : Bool) (st : Int32) (dn : Int32) (pr : Nat) (r2 : Int32) (kp : Bool) : MetR l y_MA_hasHalted w_MA_hasHalted { frames := 0, cells := 0, slots := 0, locals := 0 } D cI cZ [.ref o] [(o, .inr (4, [.ref mm, .int a, .int x, .int sp, .int pc, .int (bI zf), .int (bI cf), .int st, .int dn, .ref pr, .int r2, .int (bI kp)]))] (fun r => r = bI (decide (st = 1))) := by
  refine ofR (cc := c_MA_hasHalted) (maxL := 1) (ret := (some .boolean)) (by decide) rfl (Nat.le_of_ble_eq_true rfl) ?_
  intro p e s m args below meth c H hH0 hx hb hr hlocks hts hown hml ls hl hP hK hN
  have hown : s.vm.findClass R_MA = some m.cls := hown
  have hl : lv_has ls 1 [(0, .ref o)] := hl
  refine lv_aload_n hx hb d_MA_hasHalted_0 rfl (lv_at hl 0 rfl) ?_
  refine va_get (D := D) (ci := 4) (v := .int st) (C := R_SM) (T := T_SM) (N := 12) hx hb hts iw_SM hown hK hP 0 rfl rfl 7 (by decide) (hts _ k_142) (fun _ h9 => h9) rfl d_MA_hasHalted_1 ?_
  refine lv_iconst (v := 1) hx hb d_MA_hasHalted_4 (by decide) ?_
  refine lv_icmp_ne (tgt := 12) hx hb d_MA_hasHalted_5 rfl (fun h5 => ?_) (fun h5 => ?_)
  · refine lv_iconst (v := 0) hx hb d_MA_hasHalted_12 (by decide) ?_
    exact W.zret (v := (bI false)) hx hb hr (nb_n _) (fun t ht hW => ⟨(bI false), rfl, by first | (simp only [h5, ↓reduceIte, not_true_eq_false, not_false_eq_true, and_true, true_and, and_false, false_and, and_self, or_true, true_or, or_false, false_or, decide_true, decide_false, Bool.false_eq_true, reduceCtorEq]; done) | (simp_all []; done), ht.trans hH0.symm⟩) (fun _ h9 => absurd h9 List.not_mem_nil) d_MA_hasHalted_13
  · refine lv_iconst (v := 1) hx hb d_MA_hasHalted_8 (by decide) ?_
    refine lv_goto (tgt := 13) hx hb d_MA_hasHalted_9 rfl ?_
    exact W.zret (v := (bI true)) hx hb hr (nb_n _) (fun t ht hW => ⟨(bI true), rfl, by first | (simp only [h5, ↓reduceIte, not_true_eq_false, not_false_eq_true, and_true, true_and, and_false, false_and, and_self, or_true, true_or, or_false, false_or, decide_true, decide_false, Bool.false_eq_true, reduceCtorEq]; done) | (simp_all []; done), ht.trans hH0.symm⟩) (fun _ h9 => absurd h9 List.not_mem_nil) d_MA_hasHalted_13
