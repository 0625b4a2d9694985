/-! throws of the class's own methods -/
def PcT (D : va_G) (cI cZ : ClassId) (av : List Value) (wc : va_W) : Array Value → State → Prop := va_Pc av (fun U => va_P D vwCl wc U.heap ∧ va_K D vwCl (tyK cI cZ) U ∧ NW U ∧ XZ U U.heap)
section PT
variable {D : va_G} {cI cZ : ClassId} {av As : List Value} {wc : va_W} {s : State} {H : Heap} {b : Addr} {C : String}
theorem PcT.blind : FrameBlind (PcT D cI cZ av wc) := fun a U g mk q => by
  obtain ⟨q0, qP, qK, qN, qZ⟩ := q
  exact ⟨q0, qP, va_K.moved (u := U) (U := U.calling g mk a) (Vm.Alike.refl U.vm) qK, NW.same (u := U) (U := U.calling g mk a) rfl qN, XZ.same (u := U) (U := U.calling g mk a) rfl qZ⟩
theorem PcT.preS (hP : va_P D vwCl wc H) (hK : va_K D vwCl (tyK cI cZ) s) (hN : NW s) (hZ : XZ s H) : PreS s H (PcT D cI cZ As wc) As :=
  ⟨PcT.blind, fun U hU hW => ⟨rfl, by rw [hU]; exact hP, va_K.moved hW.alike hK, NW.warm hW hN, by rw [hU]; exact hZ.warm hW⟩⟩
theorem PcT.preV (hr : ∃ cell : Cell, H[b]? = some cell ∧ cell.vm.isStatics = false ∧ s.vm.findClass C = some cell.cls) (hP : va_P D vwCl wc H) (hK : va_K D vwCl (tyK cI cZ) s) (hN : NW s) (hZ : XZ s H) : PreV s H C b (PcT D cI cZ (.ref b :: As) wc) As :=
  ⟨PcT.blind, hr, fun U hU hW => ⟨rfl, by rw [hU]; exact hP, va_K.moved hW.alike hK, NW.warm hW hN, by rw [hU]; exact hZ.warm hW⟩⟩
end PT
section OT
variable {l : Launch} {D : va_G} {cI cZ : ClassId} {y : MethodName} {ws : List Cond} {rm : Room} {cc : ByteArray} {maxL : Nat} {ret : Option FieldType} {av : List Value} {wc : va_W} {E : String}
theorem ofT (hy : plainName y.cls = true) (hw : ws = Cond.code y cc maxL ret :: tb) (hn : (lg_sl av).length ≤ maxL)
    (body : ∀ (p : Program) (e : Env) (s : State) (m : MethodId) (args : Array Value) (below : List Frame) (meth : Method) (c : Code) (H : Heap), s.heap = H → p.tables.exec = Jvm.exec → c.code = cc → meth.locks = false → (∀ w ∈ tb, w.before args s = true) → s.vm.findClass y.cls = some m.cls → c.maxLocals = maxL → (∀ (pc : Nat), ∀ x ∈ c.exceptionTable.toList, covers x pc = false) →
      ∀ ls : Array Slot, lv_has ls maxL (lv_args 0 av) → va_P D vwCl wc H → va_K D vwCl (tyK cI cZ) s → NW s → XZ s H → W p l e rm s m args below meth c H [] 0 0 (MQF below (QT E) args s) (F0 m 0 ls [])) :
    MetT l y ws rm (PcT D cI cZ av wc) E := by
  refine MetF.of (cc := cc) (maxL := maxL) (ret := ret) (hs := []) hy (his_code hw) ?_
  intro p e s m args below meth c s₁ B hml htab hv
  obtain ⟨rfl, hP, hK, hN, hZ⟩ := hv
  have hl := lv_entry av (n := maxL) hn
  rw [lg_entry_eq]
  generalize (lg_sl av ++ List.replicate (maxL - (lg_sl av).length) Slot.unset).toArray = ls at hl ⊢
  exact body p e s m _ below meth c s.heap rfl B.exec B.bytes B.notSynchronized (fun w h => atoms_spec (ws := ws) B.pre w (by rw [hw]; exact List.mem_cons_of_mem _ h)) (findClass_of_methodNamed B.named) hml (cov_none htab) ls hl hP hK hN hZ
end OT
def nbX : List Cond := [.declares (yIn cER), .declares (yIn cEX), .declares (yIn cET), .castable cE1 cE1, .castable cE2 cE2, .laysStatic cET "UNASSIGNED_STACK" "[Ljava/lang/StackTraceElement;", .laysStatic cET "SUPPRESSED_SENTINEL" "Ljava/util/List;", .isRef (.static cET "UNASSIGNED_STACK" "[Ljava/lang/StackTraceElement;"), .isRef (.static cET "SUPPRESSED_SENTINEL" "Ljava/util/List;")]
theorem nbX_ok {s : State} (args : Array Value) (h : XZ s s.heap) : ∀ w ∈ nbX, w.before args s = true := by
  intro w hw
  simp only [nbX, List.mem_cons, List.not_mem_nil, or_false] at hw
  rcases hw with rfl | rfl | rfl | rfl | rfl | rfl | rfl | rfl | rfl
  · exact va_Nw.use rfl h.1.1
  · exact va_Nw.use rfl h.1.2.1
  · exact va_Nw.use rfl h.1.2.2.1
  · exact va_Nw.use rfl h.1.2.2.2.1
  · exact va_Nw.use rfl h.1.2.2.2.2.1
  · exact h.2.1.lays args
  · exact h.2.2.lays args
  · exact h.2.1.isRef args
  · exact h.2.2.isRef args
theorem ow_1 : (Bundle.ownAtoms0 R_TM 121 cE1 [cER, cEX]).all (fun w => decide (w ∈ tb) || decide (w ∈ nbX)) = true := by decide +kernel
theorem ow_2 : (Bundle.ownAtoms0 R_TM 118 cE2 [cER, cEX]).all (fun w => decide (w ∈ tb) || decide (w ∈ nbX)) = true := by decide +kernel
theorem ow_ok {L : List Cond} (h : L.all (fun w => decide (w ∈ tb) || decide (w ∈ nbX)) = true) {s : State} {args : Array Value} (hts : ∀ w ∈ tb, w.before args s = true) (hz : XZ s s.heap) : ∀ a ∈ L, a.before args s = true := by
  intro w hw
  have := List.all_eq_true.mp h w hw
  rw [Bool.or_eq_true, decide_eq_true_iff, decide_eq_true_iff] at this
  rcases this with q | q
  · exact hts w q
  · exact nbX_ok args hz w q
set_option maxHeartbeats 4000000 in
set_option maxRecDepth 100000 in
theorem tx_chkB (l : Launch) (D : va_G) (cI cZ : ClassId) (v : Int32) (htr : ∀ e : Env, l.admits e → e.platform.stackTraces = false) (hv : isByteB v = false) : MetT l y_TM_checkByte w_TM_checkByte { frames := 6, cells := 1, slots := 6, locals := 90 } (PcT D cI cZ [.int v] []) cE1 := by
  refine ofT (cc := c_TM_checkByte) (maxL := 1) (ret := none) (by decide) rfl (Nat.le_of_ble_eq_true rfl) ?_
  intro p e s m args below meth c H hH0 hx hb hlocks hts hown hml hcov ls hl hP hK hN hZ
  have hown : s.vm.findClass R_TM = some m.cls := hown
  have hl : lv_has ls 1 [(0, .int v)] := hl
  refine lv_iload_n hx hb d_TM_checkByte_0 rfl (lv_at hl 0 rfl) ?_
  refine vp_callSi (va_runS (As := [.int v]) (rest := []) ⟨hx, hb, hml, hown, hts⟩ (m_isByte l D cI cZ v) ⟨cB 1 hts k_241 k_56 k_294 hd_TM_isByte ⟨Nat.le_of_ble_eq_true rfl, Nat.le_of_ble_eq_true rfl⟩ rfl rfl, hts _ k_240⟩ (PcR.preS hP hK hN) rfl rfl hl.1 rfl (lv_room (Nat.le_of_ble_eq_true rfl)) d_TM_checkByte_1 ⟨Nat.le_of_ble_eq_true rfl, Nat.le_of_ble_eq_true rfl⟩).run (fun r1 e1 => ?_)
  replace e1 := e1.symm
  subst e1
  refine lv_if_ne (tgt := 15) hx hb d_TM_checkByte_4 rfl (fun hq9 => absurd (bI_t hq9) (by rw [hv]; decide)) (fun _ => ?_)
  refine W.newc hx hb hown (hts _ k_312) (hts _ k_313) (hts _ k_66) rfl d_TM_checkByte_7 (Nat.le_of_ble_eq_true rfl) (Nat.le_of_ble_eq_true rfl) (fun cX kX hfX hkX _ _ => ?_)
  refine W.eq (g2 := F0 m 10 ls [.ref H.size]) rfl ?_
  refine lv_dup hx hb d_TM_checkByte_10 rfl ?_
  subst hH0
  exact throwOwn hx hb htr hown (X := cE1) (names := [cER, cEX]) (ic := 121) (by decide) (by decide) (ow_ok ow_1 hts hZ) (fun _ h9 => absurd h9 List.not_mem_nil) hfX hkX rfl rfl (hl.1.trans hml.symm) d_TM_checkByte_11 d_TM_checkByte_14 (hcov _) (Nat.le_of_ble_eq_true rfl) (Nat.le_of_ble_eq_true rfl) (Nat.le_of_ble_eq_true rfl) (Nat.le_of_ble_eq_true rfl) hlocks
set_option maxHeartbeats 4000000 in
set_option maxRecDepth 100000 in
theorem tx_chkSa (l : Launch) (D : va_G) (cI cZ : ClassId) (v : Int32) (htr : ∀ e : Env, l.admits e → e.platform.stackTraces = false) (hv : v < 1) : MetT l y_TM_checkSteps w_TM_checkSteps { frames := 6, cells := 1, slots := 6, locals := 90 } (PcT D cI cZ [.int v] []) cE1 := by
  refine ofT (cc := c_TM_checkSteps) (maxL := 1) (ret := none) (by decide) rfl (Nat.le_of_ble_eq_true rfl) ?_
  intro p e s m args below meth c H hH0 hx hb hlocks hts hown hml hcov ls hl hP hK hN hZ
  have hown : s.vm.findClass R_TM = some m.cls := hown
  have hl : lv_has ls 1 [(0, .int v)] := hl
  refine lv_iload_n hx hb d_TM_checkSteps_0 rfl (lv_at hl 0 rfl) ?_
  refine lv_iconst (v := 1) hx hb d_TM_checkSteps_1 (by decide) ?_
  refine lv_icmp_lt (tgt := 12) hx hb d_TM_checkSteps_2 rfl (fun _ => ?_) (fun hq9 => absurd hv hq9)
  refine W.newc hx hb hown (hts _ k_312) (hts _ k_313) (hts _ k_66) rfl d_TM_checkSteps_12 (Nat.le_of_ble_eq_true rfl) (Nat.le_of_ble_eq_true rfl) (fun cX kX hfX hkX _ _ => ?_)
  refine W.eq (g2 := F0 m 15 ls [.ref H.size]) rfl ?_
  refine lv_dup hx hb d_TM_checkSteps_15 rfl ?_
  subst hH0
  exact throwOwn hx hb htr hown (X := cE1) (names := [cER, cEX]) (ic := 121) (by decide) (by decide) (ow_ok ow_1 hts hZ) (fun _ h9 => absurd h9 List.not_mem_nil) hfX hkX rfl rfl (hl.1.trans hml.symm) d_TM_checkSteps_16 d_TM_checkSteps_19 (hcov _) (Nat.le_of_ble_eq_true rfl) (Nat.le_of_ble_eq_true rfl) (Nat.le_of_ble_eq_true rfl) (Nat.le_of_ble_eq_true rfl) hlocks
set_option maxHeartbeats 4000000 in
set_option maxRecDepth 100000 in
theorem tx_chkSb (l : Launch) (D : va_G) (cI cZ : ClassId) (v : Int32) (htr : ∀ e : Env, l.admits e → e.platform.stackTraces = false) (hv : ¬ v < 1 ∧ ¬ v ≤ 300) : MetT l y_TM_checkSteps w_TM_checkSteps { frames := 6, cells := 1, slots := 6, locals := 90 } (PcT D cI cZ [.int v] []) cE1 := by
  refine ofT (cc := c_TM_checkSteps) (maxL := 1) (ret := none) (by decide) rfl (Nat.le_of_ble_eq_true rfl) ?_
  intro p e s m args below meth c H hH0 hx hb hlocks hts hown hml hcov ls hl hP hK hN hZ
  have hown : s.vm.findClass R_TM = some m.cls := hown
  have hl : lv_has ls 1 [(0, .int v)] := hl
  refine lv_iload_n hx hb d_TM_checkSteps_0 rfl (lv_at hl 0 rfl) ?_
  refine lv_iconst (v := 1) hx hb d_TM_checkSteps_1 (by decide) ?_
  refine lv_icmp_lt (tgt := 12) hx hb d_TM_checkSteps_2 rfl (fun hq9 => absurd hq9 hv.1) (fun _ => ?_)
  refine lv_iload_n hx hb d_TM_checkSteps_5 rfl (lv_at hl 0 rfl) ?_
  refine lv_sipush (v := 300) hx hb d_TM_checkSteps_6 (by decide) ?_
  refine lv_icmp_le (tgt := 20) hx hb d_TM_checkSteps_9 rfl (fun hq9 => absurd hq9 hv.2) (fun _ => ?_)
  refine W.newc hx hb hown (hts _ k_312) (hts _ k_313) (hts _ k_66) rfl d_TM_checkSteps_12 (Nat.le_of_ble_eq_true rfl) (Nat.le_of_ble_eq_true rfl) (fun cX kX hfX hkX _ _ => ?_)
  refine W.eq (g2 := F0 m 15 ls [.ref H.size]) rfl ?_
  refine lv_dup hx hb d_TM_checkSteps_15 rfl ?_
  subst hH0
  exact throwOwn hx hb htr hown (X := cE1) (names := [cER, cEX]) (ic := 121) (by decide) (by decide) (ow_ok ow_1 hts hZ) (fun _ h9 => absurd h9 List.not_mem_nil) hfX hkX rfl rfl (hl.1.trans hml.symm) d_TM_checkSteps_16 d_TM_checkSteps_19 (hcov _) (Nat.le_of_ble_eq_true rfl) (Nat.le_of_ble_eq_true rfl) (Nat.le_of_ble_eq_true rfl) (Nat.le_of_ble_eq_true rfl) hlocks
theorem tx_chkS (l : Launch) (D : va_G) (cI cZ : ClassId) (v : Int32) (htr : ∀ e : Env, l.admits e → e.platform.stackTraces = false) (hv : v < 1 ∨ ¬ v ≤ 300) : MetT l y_TM_checkSteps w_TM_checkSteps { frames := 6, cells := 1, slots := 6, locals := 90 } (PcT D cI cZ [.int v] []) cE1 := by
  by_cases h : v < 1
  · exact tx_chkSa l D cI cZ v htr h
  · rcases hv with q | q
    · exact absurd q h
    · exact tx_chkSb l D cI cZ v htr ⟨h, q⟩
set_option maxHeartbeats 4000000 in
set_option maxRecDepth 100000 in
theorem tx_chkT (l : Launch) (D : va_G) (cI cZ : ClassId) (o : Nat) (sr : Nat) (re : Nat) (pr : Nat) (fm : Nat) (sm : Nat) (nu : Nat) (xs : Nat) (ys : Nat) (be : Nat) (wh : Nat) (htr : ∀ e : Env, l.admits e → e.platform.stackTraces = false) : MetT l y_TM_checkTranslated w_TM_checkTranslated { frames := 6, cells := 1, slots := 6, locals := 90 } (PcT D cI cZ [.ref o] [(o, .inr (0, [.ref sr, .ref re, .ref pr, .ref fm, .ref sm])), (pr, .inr (2, [.ref nu, .ref xs, .ref ys, .ref be, .ref wh, .int 0]))]) cE2 := by
  refine ofT (cc := c_TM_checkTranslated) (maxL := 1) (ret := none) (by decide) rfl (Nat.le_of_ble_eq_true rfl) ?_
  intro p e s m args below meth c H hH0 hx hb hlocks hts hown hml hcov ls hl hP hK hN hZ
  have hown : s.vm.findClass R_TM = some m.cls := hown
  have hl : lv_has ls 1 [(0, .ref o)] := hl
  refine lv_aload_n hx hb d_TM_checkTranslated_0 rfl (lv_at hl 0 rfl) ?_
  refine va_get (D := D) (ci := 0) (v := .ref pr) (C := R_TM) (T := T_TM) (N := 5) hx hb hts iw_TM hown hK hP 0 rfl rfl 2 (by decide) (hts _ k_217) (fun _ h9 => h9) rfl d_TM_checkTranslated_1 ?_
  refine va_getN (D := D) (ci := 2) (v := .int 0) (C := R_PR) (T := T_PR) (N := 6) hx hb hts iw_PR hown hK hP 1 rfl rfl 5 (by decide) (va_Nw.use rfl (nw_2 hN)) (fun _ h9 => h9) rfl d_TM_checkTranslated_4 ?_
  refine lv_if_ne (tgt := 18) hx hb d_TM_checkTranslated_7 rfl (fun hq9 => absurd rfl hq9) (fun _ => ?_)
  refine W.newc hx hb hown (hts _ k_496) (hts _ k_497) (hts _ k_69) rfl d_TM_checkTranslated_10 (Nat.le_of_ble_eq_true rfl) (Nat.le_of_ble_eq_true rfl) (fun cX kX hfX hkX _ _ => ?_)
  refine W.eq (g2 := F0 m 13 ls [.ref H.size]) rfl ?_
  refine lv_dup hx hb d_TM_checkTranslated_13 rfl ?_
  subst hH0
  exact throwOwn hx hb htr hown (X := cE2) (names := [cER, cEX]) (ic := 118) (by decide) (by decide) (ow_ok ow_2 hts hZ) (fun _ h9 => absurd h9 List.not_mem_nil) hfX hkX rfl rfl (hl.1.trans hml.symm) d_TM_checkTranslated_14 d_TM_checkTranslated_17 (hcov _) (Nat.le_of_ble_eq_true rfl) (Nat.le_of_ble_eq_true rfl) (Nat.le_of_ble_eq_true rfl) (Nat.le_of_ble_eq_true rfl) hlocks
theorem W.size {p : Program} {l : Launch} {e : Env} {R : Room} {s : State} {m : MethodId} {args : Array Value} {below : List Frame} {meth : Method} {c : Code} {H : Heap} {locs : List Loc} {cells slots : Nat} {Q : State → Prop} {g : JFrame} (kk : H.size ≤ s.heap.size + cells → W p l e R s m args below meth c H locs cells slots Q g) : W p l e R s m args below meth c H locs cells slots Q g :=
  fun T hT X => kk (by rw [← hT]; exact X.heapSize) T hT X
set_option maxHeartbeats 4000000 in
set_option maxRecDepth 100000 in
theorem tx_imageA (l : Launch) (D : va_G) (cI cZ : ClassId) (o : Nat) (ad : Int32) (v : Int32) (htr : ∀ e : Env, l.admits e → e.platform.stackTraces = false) (hv : isByteB ad = false) : MetT l y_TM_image w_TM_image { frames := 7, cells := 1, slots := 6, locals := 125 } (PcT D cI cZ [.ref o, .int ad, .int v] []) cE1 := by
  refine ofT (cc := c_TM_image) (maxL := 3) (ret := (some .boolean)) (by decide) rfl (Nat.le_of_ble_eq_true rfl) ?_
  intro p e s m args below meth c H hH0 hx hb hlocks hts hown hml hcov ls hl hP hK hN hZ
  have hown : s.vm.findClass R_TM = some m.cls := hown
  have hl : lv_has ls 3 [(0, .ref o), (1, .int ad), (2, .int v)] := hl
  have hHs : H.size = s.heap.size := by rw [hH0]
  have hSl : va_S (fun q => s.heap.size ≤ q) s.heap H [] := by rw [← hH0]; exact va_S.rf
  refine lv_iload_n hx hb d_TM_image_0 rfl (lv_at hl 1 rfl) ?_
  refine runTS (As := [.int ad]) (rest := []) ⟨hx, hb, hml, hown, hts⟩ (tx_chkB l D cI cZ ad htr hv) ⟨cB 1 hts k_311 k_56 k_309 hd_TM_checkByte ⟨Nat.le_of_ble_eq_true rfl, Nat.le_of_ble_eq_true rfl⟩ rfl rfl, hts _ k_310⟩ (PcT.preS (wc := []) (hP.sub [] rfl) hK hN hZ) rfl rfl hl.1 rfl (lv_room (Nat.le_of_ble_eq_true rfl)) d_TM_image_1 ⟨Nat.le_of_ble_eq_true rfl, Nat.le_of_ble_eq_true rfl⟩ (fun H2 x ce h1 h2 h3 h4 h5 h6 => ?_)
  exact outT (hcov _) hlocks hSl.2.2 (Nat.le_of_ble_eq_true rfl) (Nat.le_of_ble_eq_true rfl) (h1.trans hHs) (by rw [h2, hHs]) h3 h4 h5
set_option maxHeartbeats 4000000 in
set_option maxRecDepth 100000 in
theorem tx_imageB (l : Launch) (D : va_G) (cI cZ : ClassId) (o : Nat) (ad : Int32) (v : Int32) (htr : ∀ e : Env, l.admits e → e.platform.stackTraces = false) (hu : isByteB ad = true) (hv : isByteB v = false) : MetT l y_TM_image w_TM_image { frames := 7, cells := 1, slots := 6, locals := 125 } (PcT D cI cZ [.ref o, .int ad, .int v] []) cE1 := by
  refine ofT (cc := c_TM_image) (maxL := 3) (ret := (some .boolean)) (by decide) rfl (Nat.le_of_ble_eq_true rfl) ?_
  intro p e s m args below meth c H hH0 hx hb hlocks hts hown hml hcov ls hl hP hK hN hZ
  have hown : s.vm.findClass R_TM = some m.cls := hown
  have hl : lv_has ls 3 [(0, .ref o), (1, .int ad), (2, .int v)] := hl
  have hHs : H.size = s.heap.size := by rw [hH0]
  have hSl : va_S (fun q => s.heap.size ≤ q) s.heap H [] := by rw [← hH0]; exact va_S.rf
  refine lv_iload_n hx hb d_TM_image_0 rfl (lv_at hl 1 rfl) ?_
  have hDe : va_D (fun q => s.heap.size ≤ q) ([] : va_W) := ⟨fun i j p q h => (by cases h), fun k q h => (by cases h)⟩
  have hFc : ∀ q, va_A ([] : va_W) H.size q → s.heap.size ≤ q := fun q h => by
    rcases h with ⟨k, e9, h⟩ | h
    · cases h
    · rw [hHs] at h; exact h
  refine va_callv (va_runS (As := [.int ad]) (rest := []) ⟨hx, hb, hml, hown, hts⟩ (t_chkB l D cI cZ ad H.size hu) ⟨cB 1 hts k_311 k_56 k_309 hd_TM_checkByte ⟨Nat.le_of_ble_eq_true rfl, Nat.le_of_ble_eq_true rfl⟩ rfl rfl, hts _ k_310⟩ (PcW.preS (wc := []) (hP.sub [] rfl) hK hDe hN) rfl rfl hl.1 rfl (lv_room (Nat.le_of_ble_eq_true rfl)) d_TM_image_1 ⟨Nat.le_of_ble_eq_true rfl, Nat.le_of_ble_eq_true rfl⟩) hSl (fun q _ h => hFc q h) hFc (fun u t H1 locs ht hvm e1 hB hz1 hk1 hSl => ?_)
  have hk2 : ∀ q : Nat, q < H.size → H1[q]? = H[q]? := fun q hq => hk1 q hq (fun h => by
    rcases h with ⟨k, e9, h⟩ | h
    · cases h
    · omega)
  have hP := hP.kept (fun k q hk => hk2 q.1 (hP k q hk).lt)
  have hZ := hZ.kept hk2
  refine W.size (fun hsz => ?_)
  have hHs : H1.size = s.heap.size := by omega
  refine lv_iload_n hx hb d_TM_image_4 rfl (lv_at hl 2 rfl) ?_
  refine runTS (As := [.int v]) (rest := []) ⟨hx, hb, hml, hown, hts⟩ (tx_chkB l D cI cZ v htr hv) ⟨cB 1 hts k_311 k_56 k_309 hd_TM_checkByte ⟨Nat.le_of_ble_eq_true rfl, Nat.le_of_ble_eq_true rfl⟩ rfl rfl, hts _ k_310⟩ (PcT.preS (wc := []) (hP.sub [] rfl) hK hN hZ) rfl rfl hl.1 rfl (lv_room (Nat.le_of_ble_eq_true rfl)) d_TM_image_5 ⟨Nat.le_of_ble_eq_true rfl, Nat.le_of_ble_eq_true rfl⟩ (fun H2 x ce h1 h2 h3 h4 h5 h6 => ?_)
  exact outT (hcov _) hlocks hSl.2.2 (Nat.le_of_ble_eq_true rfl) (Nat.le_of_ble_eq_true rfl) (h1.trans hHs) (by rw [h2, hHs]) h3 h4 h5
set_option maxHeartbeats 4000000 in
set_option maxRecDepth 100000 in
theorem tx_trans (l : Launch) (D : va_G) (cI cZ : ClassId) (o : Nat) (en : Int32) (htr : ∀ e : Env, l.admits e → e.platform.stackTraces = false) (hv : isByteB en = false) : MetT l y_TM_translate w_TM_translate { frames := 7, cells := 1, slots := 6, locals := 125 } (PcT D cI cZ [.ref o, .int en] []) cE1 := by
  refine ofT (cc := c_TM_translate) (maxL := 3) (ret := (some .int)) (by decide) rfl (Nat.le_of_ble_eq_true rfl) ?_
  intro p e s m args below meth c H hH0 hx hb hlocks hts hown hml hcov ls hl hP hK hN hZ
  have hown : s.vm.findClass R_TM = some m.cls := hown
  have hl : lv_has ls 3 [(0, .ref o), (1, .int en)] := hl
  have hHs : H.size = s.heap.size := by rw [hH0]
  have hSl : va_S (fun q => s.heap.size ≤ q) s.heap H [] := by rw [← hH0]; exact va_S.rf
  refine lv_iload_n hx hb d_TM_translate_0 rfl (lv_at hl 1 rfl) ?_
  refine runTS (As := [.int en]) (rest := []) ⟨hx, hb, hml, hown, hts⟩ (tx_chkB l D cI cZ en htr hv) ⟨cB 1 hts k_311 k_56 k_309 hd_TM_checkByte ⟨Nat.le_of_ble_eq_true rfl, Nat.le_of_ble_eq_true rfl⟩ rfl rfl, hts _ k_310⟩ (PcT.preS (wc := []) (hP.sub [] rfl) hK hN hZ) rfl rfl hl.1 rfl (lv_room (Nat.le_of_ble_eq_true rfl)) d_TM_translate_1 ⟨Nat.le_of_ble_eq_true rfl, Nat.le_of_ble_eq_true rfl⟩ (fun H2 x ce h1 h2 h3 h4 h5 h6 => ?_)
  exact outT (hcov _) hlocks hSl.2.2 (Nat.le_of_ble_eq_true rfl) (Nat.le_of_ble_eq_true rfl) (h1.trans hHs) (by rw [h2, hHs]) h3 h4 h5
set_option maxHeartbeats 4000000 in
set_option maxRecDepth 100000 in
theorem tx_firstA (l : Launch) (D : va_G) (cI cZ : ClassId) (o : Nat) (v : Int32) (htr : ∀ e : Env, l.admits e → e.platform.stackTraces = false) (hv : v < 1 ∨ ¬ v ≤ 300) : MetT l y_TM_first w_TM_first { frames := 7, cells := 1, slots := 6, locals := 125 } (PcT D cI cZ [.ref o, .int v] []) cE1 := by
  refine ofT (cc := c_TM_first) (maxL := 2) (ret := (some .int)) (by decide) rfl (Nat.le_of_ble_eq_true rfl) ?_
  intro p e s m args below meth c H hH0 hx hb hlocks hts hown hml hcov ls hl hP hK hN hZ
  have hown : s.vm.findClass R_TM = some m.cls := hown
  have hl : lv_has ls 2 [(0, .ref o), (1, .int v)] := hl
  have hHs : H.size = s.heap.size := by rw [hH0]
  have hSl : va_S (fun q => s.heap.size ≤ q) s.heap H [] := by rw [← hH0]; exact va_S.rf
  refine lv_iload_n hx hb d_TM_first_0 rfl (lv_at hl 1 rfl) ?_
  refine runTS (As := [.int v]) (rest := []) ⟨hx, hb, hml, hown, hts⟩ (tx_chkS l D cI cZ v htr hv) ⟨cB 1 hts k_491 k_56 k_489 hd_TM_checkSteps ⟨Nat.le_of_ble_eq_true rfl, Nat.le_of_ble_eq_true rfl⟩ rfl rfl, hts _ k_490⟩ (PcT.preS (wc := []) (hP.sub [] rfl) hK hN hZ) rfl rfl hl.1 rfl (lv_room (Nat.le_of_ble_eq_true rfl)) d_TM_first_1 ⟨Nat.le_of_ble_eq_true rfl, Nat.le_of_ble_eq_true rfl⟩ (fun H2 x ce h1 h2 h3 h4 h5 h6 => ?_)
  exact outT (hcov _) hlocks hSl.2.2 (Nat.le_of_ble_eq_true rfl) (Nat.le_of_ble_eq_true rfl) (h1.trans hHs) (by rw [h2, hHs]) h3 h4 h5
set_option maxHeartbeats 4000000 in
set_option maxRecDepth 100000 in
theorem tx_secondA (l : Launch) (D : va_G) (cI cZ : ClassId) (o : Nat) (v : Int32) (htr : ∀ e : Env, l.admits e → e.platform.stackTraces = false) (hv : v < 1 ∨ ¬ v ≤ 300) : MetT l y_TM_second w_TM_second { frames := 7, cells := 1, slots := 6, locals := 125 } (PcT D cI cZ [.ref o, .int v] []) cE1 := by
  refine ofT (cc := c_TM_second) (maxL := 2) (ret := (some .int)) (by decide) rfl (Nat.le_of_ble_eq_true rfl) ?_
  intro p e s m args below meth c H hH0 hx hb hlocks hts hown hml hcov ls hl hP hK hN hZ
  have hown : s.vm.findClass R_TM = some m.cls := hown
  have hl : lv_has ls 2 [(0, .ref o), (1, .int v)] := hl
  have hHs : H.size = s.heap.size := by rw [hH0]
  have hSl : va_S (fun q => s.heap.size ≤ q) s.heap H [] := by rw [← hH0]; exact va_S.rf
  refine lv_iload_n hx hb d_TM_second_0 rfl (lv_at hl 1 rfl) ?_
  refine runTS (As := [.int v]) (rest := []) ⟨hx, hb, hml, hown, hts⟩ (tx_chkS l D cI cZ v htr hv) ⟨cB 1 hts k_491 k_56 k_489 hd_TM_checkSteps ⟨Nat.le_of_ble_eq_true rfl, Nat.le_of_ble_eq_true rfl⟩ rfl rfl, hts _ k_490⟩ (PcT.preS (wc := []) (hP.sub [] rfl) hK hN hZ) rfl rfl hl.1 rfl (lv_room (Nat.le_of_ble_eq_true rfl)) d_TM_second_1 ⟨Nat.le_of_ble_eq_true rfl, Nat.le_of_ble_eq_true rfl⟩ (fun H2 x ce h1 h2 h3 h4 h5 h6 => ?_)
  exact outT (hcov _) hlocks hSl.2.2 (Nat.le_of_ble_eq_true rfl) (Nat.le_of_ble_eq_true rfl) (h1.trans hHs) (by rw [h2, hHs]) h3 h4 h5
set_option maxHeartbeats 4000000 in
set_option maxRecDepth 100000 in
theorem tx_firstB (l : Launch) (D : va_G) (cI cZ : ClassId) (o : Nat) (sr : Nat) (re : Nat) (pr : Nat) (fm : Nat) (sm : Nat) (nu : Nat) (xs : Nat) (ys : Nat) (be : Nat) (wh : Nat) (v : Int32) (htr : ∀ e : Env, l.admits e → e.platform.stackTraces = false) (hv1 : ¬ v < 1) (hv2 : v ≤ 300) : MetT l y_TM_first w_TM_first { frames := 7, cells := 1, slots := 6, locals := 125 } (PcT D cI cZ [.ref o, .int v] [(o, .inr (0, [.ref sr, .ref re, .ref pr, .ref fm, .ref sm])), (pr, .inr (2, [.ref nu, .ref xs, .ref ys, .ref be, .ref wh, .int 0]))]) cE2 := by
  refine ofT (cc := c_TM_first) (maxL := 2) (ret := (some .int)) (by decide) rfl (Nat.le_of_ble_eq_true rfl) ?_
  intro p e s m args below meth c H hH0 hx hb hlocks hts hown hml hcov ls hl hP hK hN hZ
  have hown : s.vm.findClass R_TM = some m.cls := hown
  have hl : lv_has ls 2 [(0, .ref o), (1, .int v)] := hl
  have hHs : H.size = s.heap.size := by rw [hH0]
  have hSl : va_S (fun q => s.heap.size ≤ q) s.heap H [] := by rw [← hH0]; exact va_S.rf
  refine lv_iload_n hx hb d_TM_first_0 rfl (lv_at hl 1 rfl) ?_
  have hDe : va_D (fun q => s.heap.size ≤ q) ([] : va_W) := ⟨fun i j p q h => (by cases h), fun k q h => (by cases h)⟩
  have hFc : ∀ q, va_A ([] : va_W) H.size q → s.heap.size ≤ q := fun q h => by
    rcases h with ⟨k, e9, h⟩ | h
    · cases h
    · rw [hHs] at h; exact h
  refine va_callv (va_runS (As := [.int v]) (rest := []) ⟨hx, hb, hml, hown, hts⟩ (t_chkS l D cI cZ v H.size hv1 hv2) ⟨cB 1 hts k_491 k_56 k_489 hd_TM_checkSteps ⟨Nat.le_of_ble_eq_true rfl, Nat.le_of_ble_eq_true rfl⟩ rfl rfl, hts _ k_490⟩ (PcW.preS (wc := []) (hP.sub [] rfl) hK hDe hN) rfl rfl hl.1 rfl (lv_room (Nat.le_of_ble_eq_true rfl)) d_TM_first_1 ⟨Nat.le_of_ble_eq_true rfl, Nat.le_of_ble_eq_true rfl⟩) hSl (fun q _ h => hFc q h) hFc (fun u t H1 locs ht hvm e1 hB hz1 hk1 hSl => ?_)
  have hk2 : ∀ q : Nat, q < H.size → H1[q]? = H[q]? := fun q hq => hk1 q hq (fun h => by
    rcases h with ⟨k, e9, h⟩ | h
    · cases h
    · omega)
  have hP := hP.kept (fun k q hk => hk2 q.1 (hP k q hk).lt)
  have hZ := hZ.kept hk2
  refine W.size (fun hsz => ?_)
  have hHs : H1.size = s.heap.size := by omega
  refine lv_aload_n hx hb d_TM_first_4 rfl (lv_at hl 0 rfl) ?_
  refine runTV (As := []) (rest := []) ⟨hx, hb, hml, hown, hts⟩ (tx_chkT l D cI cZ o sr re pr fm sm nu xs ys be wh htr) ⟨cB 0 hts k_495 k_56 k_492 hd_TM_checkTranslated ⟨Nat.le_of_ble_eq_true rfl, Nat.le_of_ble_eq_true rfl⟩ rfl rfl, hts _ k_494, hts _ k_16⟩ (PcT.preV (va_recv hK hP (q0 := 0) (ci := 0) rfl rfl) hP hK hN hZ) rfl rfl hl.1 rfl (lv_room (Nat.le_of_ble_eq_true rfl)) d_TM_first_5 ⟨Nat.le_of_ble_eq_true rfl, Nat.le_of_ble_eq_true rfl⟩ (fun H2 x ce h1 h2 h3 h4 h5 h6 => ?_)
  exact outT (hcov _) hlocks hSl.2.2 (Nat.le_of_ble_eq_true rfl) (Nat.le_of_ble_eq_true rfl) (h1.trans hHs) (by rw [h2, hHs]) h3 h4 h5
set_option maxHeartbeats 4000000 in
set_option maxRecDepth 100000 in
theorem tx_secondB (l : Launch) (D : va_G) (cI cZ : ClassId) (o : Nat) (sr : Nat) (re : Nat) (pr : Nat) (fm : Nat) (sm : Nat) (nu : Nat) (xs : Nat) (ys : Nat) (be : Nat) (wh : Nat) (v : Int32) (htr : ∀ e : Env, l.admits e → e.platform.stackTraces = false) (hv1 : ¬ v < 1) (hv2 : v ≤ 300) : MetT l y_TM_second w_TM_second { frames := 7, cells := 1, slots := 6, locals := 125 } (PcT D cI cZ [.ref o, .int v] [(o, .inr (0, [.ref sr, .ref re, .ref pr, .ref fm, .ref sm])), (pr, .inr (2, [.ref nu, .ref xs, .ref ys, .ref be, .ref wh, .int 0]))]) cE2 := by
  refine ofT (cc := c_TM_second) (maxL := 2) (ret := (some .int)) (by decide) rfl (Nat.le_of_ble_eq_true rfl) ?_
  intro p e s m args below meth c H hH0 hx hb hlocks hts hown hml hcov ls hl hP hK hN hZ
  have hown : s.vm.findClass R_TM = some m.cls := hown
  have hl : lv_has ls 2 [(0, .ref o), (1, .int v)] := hl
  have hHs : H.size = s.heap.size := by rw [hH0]
  have hSl : va_S (fun q => s.heap.size ≤ q) s.heap H [] := by rw [← hH0]; exact va_S.rf
  refine lv_iload_n hx hb d_TM_second_0 rfl (lv_at hl 1 rfl) ?_
  have hDe : va_D (fun q => s.heap.size ≤ q) ([] : va_W) := ⟨fun i j p q h => (by cases h), fun k q h => (by cases h)⟩
  have hFc : ∀ q, va_A ([] : va_W) H.size q → s.heap.size ≤ q := fun q h => by
    rcases h with ⟨k, e9, h⟩ | h
    · cases h
    · rw [hHs] at h; exact h
  refine va_callv (va_runS (As := [.int v]) (rest := []) ⟨hx, hb, hml, hown, hts⟩ (t_chkS l D cI cZ v H.size hv1 hv2) ⟨cB 1 hts k_491 k_56 k_489 hd_TM_checkSteps ⟨Nat.le_of_ble_eq_true rfl, Nat.le_of_ble_eq_true rfl⟩ rfl rfl, hts _ k_490⟩ (PcW.preS (wc := []) (hP.sub [] rfl) hK hDe hN) rfl rfl hl.1 rfl (lv_room (Nat.le_of_ble_eq_true rfl)) d_TM_second_1 ⟨Nat.le_of_ble_eq_true rfl, Nat.le_of_ble_eq_true rfl⟩) hSl (fun q _ h => hFc q h) hFc (fun u t H1 locs ht hvm e1 hB hz1 hk1 hSl => ?_)
  have hk2 : ∀ q : Nat, q < H.size → H1[q]? = H[q]? := fun q hq => hk1 q hq (fun h => by
    rcases h with ⟨k, e9, h⟩ | h
    · cases h
    · omega)
  have hP := hP.kept (fun k q hk => hk2 q.1 (hP k q hk).lt)
  have hZ := hZ.kept hk2
  refine W.size (fun hsz => ?_)
  have hHs : H1.size = s.heap.size := by omega
  refine lv_aload_n hx hb d_TM_second_4 rfl (lv_at hl 0 rfl) ?_
  refine runTV (As := []) (rest := []) ⟨hx, hb, hml, hown, hts⟩ (tx_chkT l D cI cZ o sr re pr fm sm nu xs ys be wh htr) ⟨cB 0 hts k_495 k_56 k_492 hd_TM_checkTranslated ⟨Nat.le_of_ble_eq_true rfl, Nat.le_of_ble_eq_true rfl⟩ rfl rfl, hts _ k_494, hts _ k_16⟩ (PcT.preV (va_recv hK hP (q0 := 0) (ci := 0) rfl rfl) hP hK hN hZ) rfl rfl hl.1 rfl (lv_room (Nat.le_of_ble_eq_true rfl)) d_TM_second_5 ⟨Nat.le_of_ble_eq_true rfl, Nat.le_of_ble_eq_true rfl⟩ (fun H2 x ce h1 h2 h3 h4 h5 h6 => ?_)
  exact outT (hcov _) hlocks hSl.2.2 (Nat.le_of_ble_eq_true rfl) (Nat.le_of_ble_eq_true rfl) (h1.trans hHs) (by rw [h2, hHs]) h3 h4 h5
set_option maxHeartbeats 4000000 in
set_option maxRecDepth 100000 in
theorem tx_bound (l : Launch) (D : va_G) (cI cZ : ClassId) (o : Nat) (sr : Nat) (re : Nat) (pr : Nat) (fm : Nat) (sm : Nat) (nu : Nat) (xs : Nat) (ys : Nat) (be : Nat) (wh : Nat) (htr : ∀ e : Env, l.admits e → e.platform.stackTraces = false) : MetT l y_TM_boundary w_TM_boundary { frames := 7, cells := 1, slots := 6, locals := 125 } (PcT D cI cZ [.ref o] [(o, .inr (0, [.ref sr, .ref re, .ref pr, .ref fm, .ref sm])), (pr, .inr (2, [.ref nu, .ref xs, .ref ys, .ref be, .ref wh, .int 0]))]) cE2 := by
  refine ofT (cc := c_TM_boundary) (maxL := 1) (ret := (some .int)) (by decide) rfl (Nat.le_of_ble_eq_true rfl) ?_
  intro p e s m args below meth c H hH0 hx hb hlocks hts hown hml hcov ls hl hP hK hN hZ
  have hown : s.vm.findClass R_TM = some m.cls := hown
  have hl : lv_has ls 1 [(0, .ref o)] := hl
  have hHs : H.size = s.heap.size := by rw [hH0]
  have hSl : va_S (fun q => s.heap.size ≤ q) s.heap H [] := by rw [← hH0]; exact va_S.rf
  refine lv_aload_n hx hb d_TM_boundary_0 rfl (lv_at hl 0 rfl) ?_
  refine runTV (As := []) (rest := []) ⟨hx, hb, hml, hown, hts⟩ (tx_chkT l D cI cZ o sr re pr fm sm nu xs ys be wh htr) ⟨cB 0 hts k_495 k_56 k_492 hd_TM_checkTranslated ⟨Nat.le_of_ble_eq_true rfl, Nat.le_of_ble_eq_true rfl⟩ rfl rfl, hts _ k_494, hts _ k_16⟩ (PcT.preV (va_recv hK hP (q0 := 0) (ci := 0) rfl rfl) hP hK hN hZ) rfl rfl hl.1 rfl (lv_room (Nat.le_of_ble_eq_true rfl)) d_TM_boundary_1 ⟨Nat.le_of_ble_eq_true rfl, Nat.le_of_ble_eq_true rfl⟩ (fun H2 x ce h1 h2 h3 h4 h5 h6 => ?_)
  exact outT (hcov _) hlocks hSl.2.2 (Nat.le_of_ble_eq_true rfl) (Nat.le_of_ble_eq_true rfl) (h1.trans hHs) (by rw [h2, hHs]) h3 h4 h5
