/-! catches: the class of a handler's row is linked, resolved or not -/
section CT
theorem go_link {Q : Handler → Jvm.Pre} {E : CtlPost} {e : Env} {d : Bool} {acts : List Action} {s : State} {f : JFrame} {a : Addr} {x : ExceptionTableEntry} {t : List ExceptionTableEntry} {c : ClassId} {cell : Cell} (hx : covers x f.pc = true) (h0 : x.catchType ≠ 0)
    (hl : s.vm.ClassLinks e.platform f.method.cls x.catchType c) (hcell : s.heap[a]? = some cell) (hobj : ∀ k, cell.vm ≠ .statics k) (hk : ∃ k, s.vm.classes[cell.cls]? = some k) (hc : ∃ k, s.vm.classes[c]? = some k) :
    wp (findHandler.go f a (x :: t)) Q E e d acts s ↔
      if s.vm.assignable cell.cls c = true then Q (.found x.handlerPc) d acts (s.setVm (s.vm.noted f.method.cls x.catchType (.cls c))) else wp (findHandler.go f a t) Q E e d acts (s.setVm (s.vm.noted f.method.cls x.catchType (.cls c))) := by
  simp only [covers] at hx
  obtain ⟨ha, ht⟩ := (resolveClass_links e.toSetting hl).op (op := VmOp.resolveClass f.method.cls x.catchType) rfl
  have hal : s.vm.Alike (s.vm.noted f.method.cls x.catchType (.cls c)) := (Vm.Alike.refl s.vm).noted _ _ _
  obtain ⟨k1, hk1⟩ := hk
  obtain ⟨k2, hk2⟩ := hc
  obtain ⟨k1', hk1', -⟩ := hal.2.2 _ _ hk1
  obtain ⟨k2', hk2', -⟩ := hal.2.2 _ _ hk2
  have e1 : (s.vm.noted f.method.cls x.catchType (.cls c)).assignable cell.cls c = s.vm.assignable cell.cls c := hal.assignable ..
  cases hfit : s.vm.assignable cell.cls c <;> rw [hfit] at e1 <;> simp [findHandler.go, hx, h0, ha, ht, hcell, hobj, hk1', hk2', e1, VmOp.dirties, VmOp.acts]
/-- the search ends at a handler, the tables warmer -/
def FT (e : Env) (s : State) (f : JFrame) (a : Addr) (pc : Nat) (vm' : Vm) : Prop := ∀ (Q : Handler → Jvm.Pre) (E : CtlPost) (d : Bool) (acts : List Action), wp (findHandler f a) Q E e d acts s ↔ Q (.found pc) d acts (s.setVm vm')
theorem step_FT {e : Env} {s : State} {a : Addr} {f : JFrame} {r : List Frame} {pc : Nat} {vm' : Vm} (hf : FT e s f a pc vm') : (stepThrowing e s a (.java f :: r)).Is ((s.setVm vm').setFrames (.java { f with pc := pc, stack := [.ref a] } :: r)) [] := by
  simp only [stepThrowing, searchFrame, vmDo]
  generalize hr : Sem.go _ e false [] s = res
  obtain ⟨as, rfl, ha⟩ := Sem.eq_ok_of hr (a := Handler.found pc) (s' := s.setVm vm') (acts' := []) (by simp [hf _ _ _ _])
  exact ⟨rfl, ha⟩
theorem setF_vm (u : State) (vm' : Vm) (F G : List Frame) : ((u.setFrames F).setVm vm').setFrames G = (u.setVm vm').setFrames G := by
  rw [show (u.setFrames F).setVm vm' = (u.setVm vm').setFrames F from rfl, State.setFrames_setFrames]
theorem caught_FT {tb : Tables} {e : Env} {s target : State} {g : JFrame} {c : Code} {below : List Frame} {a : Addr} (h : At s g.method c below) {pc : Nat} {vm' : Vm} (hf : FT e ((s.setTop g).pushFrame (.throwing a)) g a pc vm')
    (hrest : Steps tb e below ((s.setVm vm').setTop { g with pc := pc, stack := [.ref a] }) target) : Steps tb e below ((s.setTop g).pushFrame (.throwing a)) target := by
  obtain ⟨hgo, hw⟩ := h.throwing a
  refine Steps.head hgo hw ?_
  rw [stepThread_throwing (frames_entered h.top _), (step_FT (s := (s.setTop g).pushFrame (.throwing a)) hf).1]
  obtain ⟨g₀, hg⟩ := Option.isSome_iff_exists.mp h.top
  obtain ⟨r, hr⟩ := State.topJava?_eq_some.mp hg
  have hr9 : (s.setVm vm').frames = .java g₀ :: r := hr
  rw [State.setTop_of_frames _ hr9] at hrest
  rw [hr, List.tail_cons, State.pushFrame, setF_vm, State.setTop_of_frames _ hr, setF_vm]
  exact hrest
variable {p : Program} {l : Launch} {e : Env} {R : Room} {s : State} {m : MethodId} {args : Array Value} {below : List Frame} {meth : Method} {c : Code} {H : Heap} {locs : List Loc} {cells slots : Nat} {Q : State → Prop} {own E : String} {rest : List Value} {pc : Nat} {ls : Array Slot} {x : Addr} {ce : Cell}
theorem tab_of {L : List ExceptionTableEntry} {hs : List (Nat × Nat × Nat × Nat)} (h : L.map (fun h => (h.startPc, h.endPc, h.handlerPc, h.catchType)) = hs) : L = hs.map (fun q => ⟨q.1, q.2.1, q.2.2.1, q.2.2.2⟩) := by
  rw [← h, List.map_map]
  exact (List.map_id'' (fun _ => rfl) L).symm
/-- the first row takes it -/
theorem catch1 {name : String} {h1 : ExceptionTableEntry} {suf : List ExceptionTableEntry} (hown : s.vm.findClass own = some m.cls) (htab : c.exceptionTable.toList = h1 :: suf) (hx : covers h1 pc = true) (h0 : h1.catchType ≠ 0)
    (hlink : (Cond.classLink own h1.catchType name).before args s = true) (hcast : (Cond.castable E name).before args s = true) (hcell : H[x]? = some ce) (hv : ce.vm = .none) (hcl : s.vm.findClass E = some ce.cls)
    (kk : W p l e R s m args below meth c H locs cells slots Q (F0 m h1.handlerPc ls [.ref x])) : WT p l e R s m args below meth c H locs cells slots Q (F0 m pc ls rest) x := by
  intro T hT X
  have hpl : e.platform.magicAccessors = ({} : Platform).magicAccessors := by rw [X.admits.platform]
  obtain ⟨c3, c4, hc3, hc4, hasg⟩ := Cond.castable_spec hcast
  cases Option.some.inj (hc3.symm.trans hcl)
  obtain ⟨c5, hc5, hl5⟩ := Cond.classLink_spec hown hlink e.platform hpl
  cases Option.some.inj (hc4.symm.trans hc5)
  obtain ⟨dk, _, _, kt, hd, _, _, _, _, hkt, _, hopen⟩ := hl5.here
  obtain ⟨k1, hk1⟩ := Vm.classAt_of_findClass hcl
  have hW := X.warmed
  obtain ⟨k1', hk1', -⟩ := hW.alike.2.2 _ _ hk1
  obtain ⟨kt', hkt', -⟩ := hW.alike.2.2 _ _ hkt
  have X' := X.noted (hW.noted hd hopen (State.rightAt_cls hl5))
  obtain ⟨t, a1, b1⟩ := kk _ (show (T.setVm (T.vm.noted m.cls h1.catchType (.cls c4))).heap = H from hT) X'
  refine ⟨t, caught_FT (g := F0 m pc ls rest) X.here (pc := h1.handlerPc) (vm' := T.vm.noted m.cls h1.catchType (.cls c4)) ?_ a1, b1⟩
  intro Q9 E9 d9 acts9
  have hvm9 : ((T.setTop (F0 m pc ls rest)).pushFrame (.throwing x)).vm = T.vm := Stand.throwing_vm T _ x
  have hhp9 : ((T.setTop (F0 m pc ls rest)).pushFrame (.throwing x)).heap = T.heap := Stand.throwing_heap T _ x
  rw [W.findHandler_eq (f := F0 m pc ls rest) (by rw [hvm9]; exact X.method') X.code, htab, go_link (f := F0 m pc ls rest) (c := c4) (cell := ce) hx h0 (by rw [hvm9]; exact hW.classLinks hl5) (by rw [hhp9, hT]; exact hcell) (fun k q => by rw [hv] at q; cases q) ⟨k1', by rw [hvm9]; exact hk1'⟩ ⟨kt', by rw [hvm9]; exact hkt'⟩,
    if_pos (by rw [hvm9, hW.alike.assignable]; exact hasg), hvm9]
/-- the second row takes it, the first doesn't -/
theorem catch2 {name name1 : String} {h1 h2 : ExceptionTableEntry} {suf : List ExceptionTableEntry} (hown : s.vm.findClass own = some m.cls) (htab : c.exceptionTable.toList = h1 :: h2 :: suf) (hx1 : covers h1 pc = true) (h01 : h1.catchType ≠ 0) (hlink1 : (Cond.classLink own h1.catchType name1).before args s = true) (hno : va_Nc E name1 s)
    (hx : covers h2 pc = true) (h0 : h2.catchType ≠ 0) (hlink : (Cond.classLink own h2.catchType name).before args s = true) (hcast : (Cond.castable E name).before args s = true) (hcell : H[x]? = some ce) (hv : ce.vm = .none) (hcl : s.vm.findClass E = some ce.cls)
    (kk : W p l e R s m args below meth c H locs cells slots Q (F0 m h2.handlerPc ls [.ref x])) : WT p l e R s m args below meth c H locs cells slots Q (F0 m pc ls rest) x := by
  intro T hT X
  have hpl : e.platform.magicAccessors = ({} : Platform).magicAccessors := by rw [X.admits.platform]
  obtain ⟨c3, c4, hc3, hc4, hasg⟩ := Cond.castable_spec hcast
  cases Option.some.inj (hc3.symm.trans hcl)
  obtain ⟨c5, hc5, hl5⟩ := Cond.classLink_spec hown hlink e.platform hpl
  cases Option.some.inj (hc4.symm.trans hc5)
  obtain ⟨a8, b8, n1, n2, n3⟩ := hno
  cases Option.some.inj (n1.symm.trans hcl)
  obtain ⟨c6, hc6, hl6⟩ := Cond.classLink_spec hown hlink1 e.platform hpl
  cases Option.some.inj (n2.symm.trans hc6)
  obtain ⟨dk, _, _, kt, hd, _, _, _, _, hkt, _, hopen⟩ := hl5.here
  obtain ⟨dk6, _, _, kt6, hd6, _, _, _, _, hkt6, _, hopen6⟩ := hl6.here
  obtain ⟨k1, hk1⟩ := Vm.classAt_of_findClass hcl
  have hW := X.warmed
  have hW1 := hW.noted hd6 hopen6 (State.rightAt_cls hl6)
  have hW2 := hW1.noted hd hopen (State.rightAt_cls hl5)
  obtain ⟨k1', hk1', -⟩ := hW.alike.2.2 _ _ hk1
  obtain ⟨kt6', hkt6', -⟩ := hW.alike.2.2 _ _ hkt6
  obtain ⟨k2', hk2', -⟩ := hW1.alike.2.2 _ _ hk1
  obtain ⟨kt', hkt', -⟩ := hW1.alike.2.2 _ _ hkt
  have X' := X.noted hW2
  obtain ⟨t, a1, b1⟩ := kk _ (show (T.setVm ((T.vm.noted m.cls h1.catchType (.cls b8)).noted m.cls h2.catchType (.cls c4))).heap = H from hT) X'
  refine ⟨t, caught_FT (g := F0 m pc ls rest) X.here (pc := h2.handlerPc) (vm' := (T.vm.noted m.cls h1.catchType (.cls b8)).noted m.cls h2.catchType (.cls c4)) ?_ a1, b1⟩
  intro Q9 E9 d9 acts9
  have hvm9 : ((T.setTop (F0 m pc ls rest)).pushFrame (.throwing x)).vm = T.vm := Stand.throwing_vm T _ x
  have hhp9 : ((T.setTop (F0 m pc ls rest)).pushFrame (.throwing x)).heap = T.heap := Stand.throwing_heap T _ x
  have hvm8 : ∀ v : Vm, (((T.setTop (F0 m pc ls rest)).pushFrame (.throwing x)).setVm v).vm = v := fun _ => rfl
  have hhp8 : ∀ v : Vm, (((T.setTop (F0 m pc ls rest)).pushFrame (.throwing x)).setVm v).heap = T.heap := fun _ => hhp9
  rw [W.findHandler_eq (f := F0 m pc ls rest) (by rw [hvm9]; exact X.method') X.code, htab, go_link (f := F0 m pc ls rest) (c := b8) (cell := ce) hx1 h01 (by rw [hvm9]; exact hW.classLinks hl6) (by rw [hhp9, hT]; exact hcell) (fun k q => by rw [hv] at q; cases q) ⟨k1', by rw [hvm9]; exact hk1'⟩ ⟨kt6', by rw [hvm9]; exact hkt6'⟩,
    if_neg (by rw [hvm9, hW.alike.assignable, n3]; decide), hvm9,
    go_link (f := F0 m pc ls rest) (c := c4) (cell := ce) hx h0 (by rw [hvm8]; exact hW1.classLinks hl5) (by rw [hhp8, hT]; exact hcell) (fun k q => by rw [hv] at q; cases q) ⟨k2', by rw [hvm8]; exact hk2'⟩ ⟨kt', by rw [hvm8]; exact hkt'⟩,
    if_pos (by rw [hvm8, hW1.alike.assignable]; exact hasg), hvm8]
  exact Iff.rfl
/-- a static callee with handlers, that returns -/
theorem runWS {y : MethodName} {bytes cc : ByteArray} {maxL nL n index mc ms : Nat} {ret : Option FieldType} {hs : List (Nat × Nat × Nat × Nat)} {ws : List Cond} {rm : Room} {Pc : Array Value → State → Prop} {Qc : Array Value → State → Outcome → State → Prop} {free : Addr → Prop} {Ts : List Cond} {As : List Value} {g : JFrame}
    (S : CallFix p m c cc nL s args Ts own) (hM : Met l y ws rm Pc Qc mc ms free) (hrc : rm.cells = mc) (hrs : rm.slots = ms) (hfr : rm.frames + 1 ≤ R.frames) (hlo : 8 + (maxL + 11) + rm.locals ≤ R.locals) (hws : ∀ w ∈ ws, ∀ (a' : Array Value) (U : State), s.WarmedH U.vm → w.before a' U = true)
    (hcode : (Cond.codeWith y bytes maxL ret hs).before args s = true) (hini : (Cond.initialized y.cls).before args s = true) (hy : y.cls ≠ "java/lang/invoke/MethodHandle" ∧ y.cls ≠ "java/lang/invoke/VarHandle") (hlen : (parseMethodDescriptor y.desc).map (fun d => d.parameters.length) = some n) (hl : (Cond.methodLink own index y).before args s = true) (hstt : (Cond.static y).before args s = true) (hp : PreS s H Pc As)
    (hg : g.method = m) (hn : As.length = n) (hsize : g.locals.size = nL) (hstack : g.stack = As.reverse ++ rest) (hW : 2 * g.monitorRoom + (rest.map fun v => v.category).sum ≤ 8) (hdg : decode cc g.pc = .ok (.invokestatic index, 3)) (hf : cells + mc ≤ R.cells ∧ slots + ms ≤ R.slots) :
    va_Run p l e R s m args below meth c H locs cells slots mc ms g rest (Qc As.toArray) free := by
  obtain ⟨hx, hb, hml, ho, -⟩ := S
  intro T hT X
  obtain ⟨mk, methM, cM, hnamed, hmethM, hcM, -, hmlM, -, -, -, hsigM⟩ := Cond.codeWith_spec hcode
  obtain ⟨kP, hkP, -⟩ := className_of_methodNamed hnamed
  have hinitP : kP.init = .initialized := Cond.initialized_spec (findClass_of_methodNamed hnamed) hkP hini
  have hlen' : As.length = methM.sig.parameters.length := by
    rw [hsigM] at hlen; exact hn.trans (Option.some.inj hlen).symm
  obtain ⟨vm₁, X₁, hstep₁⟩ := X.invokestatic hx ho hl hnamed hmethM (Cond.static_spec hnamed hmethM hstt) hkP hinitP hy (g := g) hg (argsL := As) (rest := rest) hlen' hstack (by rw [hb]; exact hdg)
  obtain ⟨o, t, hst, hend, hq, L, hF, hL⟩ := callAny X₁ hM (X₁.named hnamed) (by rw [X₁.warmed.alike.method?]; exact hmethM) hcM hmlM (a := As.toArray) hfr hlo (by rw [hrc]; exact hf.1) (by rw [hrs]; exact hf.2)
    (fun w hw => hws w hw _ _ X₁.warmed) (word_at X₁.warmed (Or.inl (by first | rfl | simp [Cond.onTables, Cond.keeps, Cond.steady])) hini) (g := { g with stack := rest }) (hp.1 _ _ _ _ (hp.2 (T.setVm vm₁) hT X₁.warmed)) hg (hsize.trans hml.symm) (by rw [hb]; exact hdg) hW
  obtain ⟨⟨v, rfl⟩, hw, hsame⟩ := hF
  obtain ⟨T', X', -, -, et⟩ := X₁.outOf (g := { g with stack := rest }) hg (by rw [hb]; exact hdg) hend hw hsame
  have eh : T'.heap = t.heap := by rw [et]; simp [State.setTop, State.modifyTopJava]
  have ev : T'.vm = t.vm := by rw [et]; simp [State.setTop, State.modifyTopJava]
  exact ⟨v, (T.setVm vm₁).calling { g with stack := rest } mk As.toArray, t, T', L, hT, X', hL, eh, ev, hq, fun tg h => hstep₁ tg (fun acts => by rw [doInvoke_state]; exact hst.trans (by rw [et]; exact h))⟩
end CT
