/-! throws: the statics of Throwable that are read, the words that aren't good ones -/
def ZS (n d : String) (A : Nat → Prop) (U : State) (H : Heap) : Prop :=
  ∃ (c : ClassId) (k : Class) (i : Nat) (f : Field) (a : Nat) (cell : Cell) (v : Value), U.vm.findClass "java/lang/Throwable" = some c ∧ U.fieldFound? "java/lang/Throwable" n d = some (c, k, i, f) ∧ f.isStatic = true ∧ k.statics = some a ∧ H[a]? = some cell ∧ cell.vm.isStatics = true ∧ cell.cls = c ∧
    f.slot < cell.slots.size ∧ k.staticTypes[f.slot]? = some f.type ∧ cell.slots[f.slot]? = some v ∧ (v = .null ∨ ∃ t, v = .ref t) ∧ ¬ A a
theorem ZS.moved {n d : String} {A : Nat → Prop} {u U : State} {H : Heap} (hvm : u.vm.Alike U.vm) (h : ZS n d A u H) : ZS n d A U H := by
  obtain ⟨c, k, i, f, a, cell, v, h1, h2, h3, h4, h5, h6, h7, h8, h9, h10⟩ := h
  obtain ⟨k', hi', he⟩ := State.fieldFound?_setVm hvm h2
  exact ⟨c, k', i, f, a, cell, v, by rw [hvm.findClass]; exact h1, hi', h3, by rw [he]; exact h4, h5, h6, h7, h8, by rw [he]; exact h9, h10⟩
theorem ZS.kept {n d : String} {A : Nat → Prop} {U : State} {H H1 : Heap} (h : ZS n d A U H) (hq : ∀ a : Nat, a < H.size → ¬ A a → H1[a]? = H[a]?) : ZS n d A U H1 := by
  obtain ⟨c, k, i, f, a, cell, v, h1, h2, h3, h4, h5, h6, h7, h8, h9, h10, h11, h12⟩ := h
  exact ⟨c, k, i, f, a, cell, v, h1, h2, h3, h4, by rw [hq a (Array.getElem?_eq_some_iff.mp h5).1 h12]; exact h5, h6, h7, h8, h9, h10, h11, h12⟩
theorem ZS.narrow {n d : String} {A B : Nat → Prop} {U : State} {H : Heap} (h : ZS n d A U H) (hAB : ∀ q, B q → A q) : ZS n d B U H := by
  obtain ⟨c, k, i, f, a, cell, v, h1, h2, h3, h4, h5, h6, h7, h8, h9, h10, h11, h12⟩ := h
  exact ⟨c, k, i, f, a, cell, v, h1, h2, h3, h4, h5, h6, h7, h8, h9, h10, h11, fun q => h12 (hAB a q)⟩
theorem ZS.of {args : Array Value} {s : State} {n d : String} {A : Nat → Prop} (hl : (Cond.laysStatic "java/lang/Throwable" n d).before args s = true) (hr : (Cond.isRef (.static "java/lang/Throwable" n d)).before args s = true) (hA : ∀ a : Nat, a < s.heap.size → ¬ A a) : ZS n d A s s.heap := by
  obtain ⟨c, k, i, f, a, cell, hc, hi, hst, ha, hcell, hs, hcls, hlt, hty⟩ := Cond.laysStatic_spec hl
  have ev : ∀ w, (Term.static "java/lang/Throwable" n d).eval args s none [] s = some w → cell.slots[f.slot]? = some w := by
    intro w hw
    obtain ⟨-, a', cell', ha', hcell', -, hslot⟩ := Term.static_spec hi hw
    cases ha.symm.trans ha'
    cases hcell.symm.trans hcell'
    exact hslot
  cases hv : (Term.static "java/lang/Throwable" n d).eval args s none [] s with
  | none => simp [Cond.before, Cond.holds, Cond.value, hv] at hr
  | some w =>
    simp only [Cond.before, Cond.holds, Cond.value, hv] at hr
    refine ⟨c, k, i, f, a, cell, w, hc, hi, hst, ha, hcell, hs, hcls, hlt, hty, ev w hv, ?_, hA a (Array.getElem?_eq_some_iff.mp hcell).1⟩
    cases w with
    | null => exact Or.inl rfl
    | ref t => exact Or.inr ⟨t, rfl⟩
    | _ => simp at hr
theorem ZS.lays {n d : String} {A : Nat → Prop} {U : State} (h : ZS n d A U U.heap) (args : Array Value) : (Cond.laysStatic "java/lang/Throwable" n d).before args U = true := by
  obtain ⟨c, k, i, f, a, cell, v, h1, h2, h3, h4, h5, h6, h7, h8, h9, h10⟩ := h
  simp [Cond.before, Cond.holds, Cond.value, h1, h2, h3, h4, h5, h6, h7, h8, h9]
theorem ZS.isRef {n d : String} {A : Nat → Prop} {U : State} (h : ZS n d A U U.heap) (args : Array Value) : (Cond.isRef (.static "java/lang/Throwable" n d)).before args U = true := by
  obtain ⟨c, k, i, f, a, cell, v, h1, h2, h3, h4, h5, h6, h7, h8, h9, h10, h11, h12⟩ := h
  have ev : (Term.static "java/lang/Throwable" n d).eval args U none [] U = some v := by
    simp [Term.eval, State.fieldNamed?, h2, h3, h4, h5, h6, h10]
  rcases h11 with rfl | ⟨t, rfl⟩ <;> simp [Cond.before, Cond.holds, Cond.value, ev]
abbrev cE1 : String := "java/lang/IllegalArgumentException"
abbrev cE2 : String := "java/lang/IllegalStateException"
abbrev cER : String := "java/lang/RuntimeException"
abbrev cEX : String := "java/lang/Exception"
abbrev cET : String := "java/lang/Throwable"
abbrev yIn (C : String) : MethodName := ⟨C, "<init>", "()V"⟩
def XW (U : State) : Prop := va_Nw (.declares (yIn cER)) U ∧ va_Nw (.declares (yIn cEX)) U ∧ va_Nw (.declares (yIn cET)) U ∧ va_Nw (.castable cE1 cE1) U ∧ va_Nw (.castable cE2 cE2) U ∧ va_Nc cE2 cE1 U
theorem XW.warm {s U : State} (hW : s.WarmedH U.vm) (h : XW s) : XW U := ⟨va_Nw.warmD hW h.1, va_Nw.warmD hW h.2.1, va_Nw.warmD hW h.2.2.1, va_Nw.warmC hW h.2.2.2.1, va_Nw.warmC hW h.2.2.2.2.1, h.2.2.2.2.2.moved hW.alike⟩
theorem XW.same {u U : State} (hv : u.vm = U.vm) (h : XW u) : XW U := ⟨va_Nw.same rfl hv h.1, va_Nw.same rfl hv h.2.1, va_Nw.same rfl hv h.2.2.1, va_Nw.same rfl hv h.2.2.2.1, va_Nw.same rfl hv h.2.2.2.2.1, h.2.2.2.2.2.moved (by rw [← hv]; exact Vm.Alike.refl u.vm)⟩
/-- what a throw asks of the state: words, and the two statics, at the heap H -/
def XZ (U : State) (H : Heap) : Prop := XW U ∧ ZS "UNASSIGNED_STACK" "[Ljava/lang/StackTraceElement;" (fun _ => False) U H ∧ ZS "SUPPRESSED_SENTINEL" "Ljava/util/List;" (fun _ => False) U H
theorem XZ.warm {s U : State} {H : Heap} (hW : s.WarmedH U.vm) (h : XZ s H) : XZ U H := ⟨h.1.warm hW, h.2.1.moved hW.alike, h.2.2.moved hW.alike⟩
theorem XZ.same {u U : State} {H : Heap} (hv : u.vm = U.vm) (h : XZ u H) : XZ U H := ⟨h.1.same hv, h.2.1.moved (by rw [← hv]; exact Vm.Alike.refl u.vm), h.2.2.moved (by rw [← hv]; exact Vm.Alike.refl u.vm)⟩
theorem XZ.kept {U : State} {H H1 : Heap} (h : XZ U H) (hq : ∀ a : Nat, a < H.size → H1[a]? = H[a]?) : XZ U H1 := ⟨h.1, h.2.1.kept (fun a q _ => hq a q), h.2.2.kept (fun a q _ => hq a q)⟩
/-! contracts of methods with any outcome; what is owed at the end -/
abbrev MetF (l : Launch) (y : MethodName) (ws : List Cond) (rm : Room) (Pc : Array Value → State → Prop) (Qf : Array Value → State → Outcome → State → Prop) : Prop := MetFree l y (headSpec ws rm) Pc (fun _ _ _ _ _ => True) Qf
def MQF (below : List Frame) (Qf : Array Value → State → Outcome → State → Prop) (a : Array Value) (s : State) : State → Prop := fun t => ∃ o, t.status = .running ∧ Ended t below o ∧ Qf a s o t
/-- thrown: an E; no old cell has changed; one new one, its own -/
def QT (E : String) : Array Value → State → Outcome → State → Prop := fun _ st o t =>
  ∃ (x : Addr) (ce : Cell), o = .threw x ∧ st.WarmedH t.vm ∧ st.sameButNew ({ t with vm := st.vm } : State) [] 1 6 ∧ x = st.heap.size ∧ t.heap.size = st.heap.size + 1 ∧ t.heap[x]? = some ce ∧ ce.vm = .none ∧ st.vm.findClass E = some ce.cls ∧ ∀ q : Nat, q < st.heap.size → t.heap[q]? = st.heap[q]?
abbrev MetT (l : Launch) (y : MethodName) (ws : List Cond) (rm : Room) (Pc : Array Value → State → Prop) (E : String) : Prop := MetF l y ws rm Pc (QT E)
/-- a state like another but for new cells: the old cells are the same -/
theorem same_old {s t : State} {vm : Vm} {k n : Nat} (h : s.sameButNew ({ t with vm := vm } : State) [] k n) : ∀ q : Nat, q < s.heap.size → t.heap[q]? = s.heap[q]? := by
  intro q hq
  obtain ⟨c', h1, h2, h3, h4⟩ := h.2.2.2.2.2 q _ (Array.getElem?_eq_getElem hq)
  have h1 : t.heap[q]? = some c' := h1
  have e : c'.slots = (s.heap[q]).slots := by
    apply Array.ext_getElem?
    intro i
    exact h4 i (by intro hm; cases hm)
  rw [h1, Array.getElem?_eq_getElem hq, h2, e]
section TW
variable {p : Program} {l : Launch} {e : Env} {R : Room} {s : State} {m : MethodId} {args : Array Value} {below : List Frame} {meth : Method} {c : Code} {H : Heap} {locs : List Loc} {cells slots : Nat} {Q : State → Prop}
/-- the walk where the exception x lies over the frame g -/
def WT (p : Program) (l : Launch) (e : Env) (R : Room) (s : State) (m : MethodId) (args : Array Value) (below : List Frame) (meth : Method) (c : Code) (H : Heap) (locs : List Loc) (cells slots : Nat) (Q : State → Prop) (g : JFrame) (x : Addr) : Prop :=
  ∀ T : State, T.heap = H → Stand p l e R s m args below meth c T locs cells slots → ∃ t, Steps p.tables e below ((T.setTop g).pushFrame (.throwing x)) t ∧ Q t
/-- a body's start: whatever words say its bytes -/
theorem MetF.of {y : MethodName} {ws : List Cond} {rm : Room} {Pc : Array Value → State → Prop} {Qf : Array Value → State → Outcome → State → Prop} {cc : ByteArray} {maxL : Nat} {ret : Option FieldType} {hs : List (Nat × Nat × Nat × Nat)} (hy : plainName y.cls = true)
    (his : ∀ (args : Array Value) (s : State) (m : MethodId), (allAtoms ws).before args s = true → s.methodNamed? y = some m → ∃ meth c, s.vm.method? m = some meth ∧ meth.code = some c ∧ c.code = cc ∧ c.maxLocals = maxL ∧ meth.sig.returnType = ret ∧ meth.locks = false ∧ c.exceptionTable.toList.map (fun h => (h.startPc, h.endPc, h.handlerPc, h.catchType)) = hs)
    (body : ∀ p e s m args below meth c s₁, BodyLoose p l y (headSpec ws rm) cc maxL ret e s m args below meth c s₁ → c.maxLocals = maxL → c.exceptionTable.toList.map (fun h => (h.startPc, h.endPc, h.handlerPc, h.catchType)) = hs → Pc args s →
      W p l e rm s m args below meth c s.heap [] 0 0 (MQF below Qf args s) (entryFrame m args maxL)) : MetF l y ws rm Pc Qf := by
  refine MetFree.of_bodyS (code := cc) (maxLocals := maxL) (ret := ret) hy ?_ ?_
  · intro args s m h hn
    obtain ⟨meth, c, h1, h2, h3, h4, h5, h6, -⟩ := his args s m h hn
    exact ⟨meth, c, h1, h2, h3, h4, h5, h6⟩
  · intro p e s m args below meth c s₁ B hml hP _
    have hh0 : s₁.heap = s.heap := by rw [B.state]; rfl
    have X := Stand.of_body B
    obtain ⟨meth', c', h1, h2, -, -, -, -, h7⟩ := his args s m B.pre B.named
    cases Option.some.inj (h1.symm.trans B.method)
    cases Option.some.inj (h2.symm.trans X.code)
    obtain ⟨t, a1, o, b1, b2, b3⟩ := body p e s m args below meth c s₁ B hml h7 hP s₁ hh0 X
    exact ⟨t, o, a1, b1, b2, b3⟩
theorem his_code {y : MethodName} {ws ws' : List Cond} {cc : ByteArray} {maxL : Nat} {ret : Option FieldType} (hw : ws = Cond.code y cc maxL ret :: ws') : ∀ (args : Array Value) (s : State) (m : MethodId), (allAtoms ws).before args s = true → s.methodNamed? y = some m →
    ∃ meth c, s.vm.method? m = some meth ∧ meth.code = some c ∧ c.code = cc ∧ c.maxLocals = maxL ∧ meth.sig.returnType = ret ∧ meth.locks = false ∧ c.exceptionTable.toList.map (fun h => (h.startPc, h.endPc, h.handlerPc, h.catchType)) = [] := by
  intro args s m h hn
  obtain ⟨meth, c, h1, h2, h3, h4, h5, h6, h7, -⟩ := Cond.code_spec hn (atoms_spec (ws := ws) h _ (by rw [hw]; exact List.mem_cons_self))
  refine ⟨meth, c, h1, h2, h3, h4, h5, h6, ?_⟩
  have : c.exceptionTable.toList = [] := by
    rw [Array.isEmpty_iff] at h7; rw [h7]
  rw [this]; rfl
theorem his_with {y : MethodName} {ws ws' : List Cond} {cc : ByteArray} {maxL : Nat} {ret : Option FieldType} {hs : List (Nat × Nat × Nat × Nat)} (hw : ws = Cond.codeWith y cc maxL ret hs :: ws') : ∀ (args : Array Value) (s : State) (m : MethodId), (allAtoms ws).before args s = true → s.methodNamed? y = some m →
    ∃ meth c, s.vm.method? m = some meth ∧ meth.code = some c ∧ c.code = cc ∧ c.maxLocals = maxL ∧ meth.sig.returnType = ret ∧ meth.locks = false ∧ c.exceptionTable.toList.map (fun h => (h.startPc, h.endPc, h.handlerPc, h.catchType)) = hs := by
  intro args s m h hn
  obtain ⟨m', meth, c, h0, h1, h2, h3, h4, h5, h6, h7, -⟩ := Cond.codeWith_spec (atoms_spec (ws := ws) h _ (by rw [hw]; exact List.mem_cons_self))
  cases Option.some.inj (h0.symm.trans hn)
  exact ⟨meth, c, h1, h2, h3, h4, h6, h7, h5⟩
/-- no row of an empty table covers anything -/
theorem cov_none {c : Code} (h : c.exceptionTable.toList.map (fun h => (h.startPc, h.endPc, h.handlerPc, h.catchType)) = []) (pc : Nat) : ∀ x ∈ c.exceptionTable.toList, covers x pc = false := by
  intro x hx
  rw [List.map_eq_nil_iff] at h
  rw [h] at hx; cases hx
/-- a call, whatever its end -/
theorem callAny {T : State} (X : Stand p l e R s m args below meth c T locs cells slots) {y : MethodName} {ws : List Cond} {rm : Room} {Pc : Array Value → State → Prop} {Qf : Array Value → State → Outcome → State → Prop} (hM : MetF l y ws rm Pc Qf)
    {mk : MethodId} {methK : Method} {cK : Code} {maxL : Nat} (hn : T.methodNamed? y = some mk) (hm : T.vm.method? mk = some methK) (hc : methK.code = some cK) (hml : cK.maxLocals = maxL) {a : Array Value}
    (hfr : rm.frames + 1 ≤ R.frames) (hlo : 8 + (maxL + 11) + rm.locals ≤ R.locals) (hce : cells + rm.cells ≤ R.cells) (hsl : slots + rm.slots ≤ R.slots)
    (hws : ∀ w ∈ ws, w.before a T = true) (hini : (Cond.initialized y.cls).before a T = true) {g : JFrame} (hP : Pc a (T.calling g mk a)) (hg : g.method = m) (hsize : g.locals.size = c.maxLocals) {ig : Instr} {len : Nat} (hdg : decode c.code g.pc = .ok (ig, len))
    (hW : 2 * g.monitorRoom + (g.stack.map fun v => v.category).sum ≤ 8) :
    ∃ o t, Steps p.tables e below (doInvoke e (T.setTop g) [] mk a).1 t ∧ Ended t (.java g :: below) o ∧ Qf a (T.calling g mk a) o t := by
  obtain ⟨kY, hkY, -⟩ := className_of_methodNamed hn
  have hinitY : kY.init = .initialized := Cond.initialized_spec (findClass_of_methodNamed hn) hkY hini
  have hAt : At T g.method c below := by rw [hg]; exact X.here
  have happ : (headSpec ws rm).appliesLoose y e.platform (T.calling g mk a) = true :=
    Spec.appliesLoose_calling (g := g) hAt hdg hn hkY hinitY (X.room_calling (g := g) (R' := rm) hsize hm hc hfr (by rw [hml]; omega) hce hsl) (atoms_intro hws)
  obtain ⟨mid, hmid⟩ := hAt.above
  have hfrs : (T.setTop g).frames = (.java g :: mid) ++ below := by rw [State.frames_setTop' g hAt.top, hmid]; rfl
  obtain ⟨o, t, hst, -, hend, hq⟩ := Steps.callFree hM p X.admits X.cas X.clock (acts := []) hfrs happ hP trivial
  rw [State.frames_setTop' g hAt.top, X.tail] at hend
  exact ⟨o, t, hst, hend, hq⟩
/-- behind a callee that threw -/
theorem callT {T : State} (X : Stand p l e R s m args below meth c T locs cells slots) {y : MethodName} {ws : List Cond} {rm : Room} {Pc : Array Value → State → Prop} {E : String} (hM : MetT l y ws rm Pc E)
    {mk : MethodId} {methK : Method} {cK : Code} {maxL : Nat} (hn : T.methodNamed? y = some mk) (hm : T.vm.method? mk = some methK) (hc : methK.code = some cK) (hml : cK.maxLocals = maxL) {a : Array Value}
    (hfr : rm.frames + 1 ≤ R.frames) (hlo : 8 + (maxL + 11) + rm.locals ≤ R.locals) (hce : cells + rm.cells ≤ R.cells) (hsl : slots + rm.slots ≤ R.slots)
    (hws : ∀ w ∈ ws, w.before a T = true) (hini : (Cond.initialized y.cls).before a T = true) {g : JFrame} (hP : Pc a (T.calling g mk a)) (hg : g.method = m) (hsize : g.locals.size = c.maxLocals) {ig : Instr} {len : Nat} (hdg : decode c.code g.pc = .ok (ig, len))
    (hW : 2 * g.monitorRoom + (g.stack.map fun v => v.category).sum ≤ 8)
    (kk : ∀ (H1 : Heap) (x : Addr) (ce : Cell), x = T.heap.size → H1.size = T.heap.size + 1 → H1[x]? = some ce → ce.vm = .none → s.vm.findClass E = some ce.cls → (∀ q : Nat, q < T.heap.size → H1[q]? = T.heap[q]?) → WT p l e R s m args below meth c H1 locs (cells + 1) (slots + 6) Q g x) :
    ∃ t, Steps p.tables e below (doInvoke e (T.setTop g) [] mk a).1 t ∧ Q t := by
  obtain ⟨o, t, hst, hend, x, ce, rfl, hw, hsame, h1, h2, h3, h4, h5, h6⟩ := callAny X hM hn hm hc hml hfr hlo hce hsl hws hini hP hg hsize hdg hW
  obtain ⟨T', X', -, -, et⟩ := X.outOfThrown hg hend hw hsame
  have eh : T'.heap = t.heap := by rw [et, Stand.throwing_heap]
  rw [List.append_nil] at X'
  have hcl : s.vm.findClass E = some ce.cls := by
    have h5 : T.vm.findClass E = some ce.cls := h5
    rw [X.warmed.alike.findClass] at h5; exact h5
  obtain ⟨t2, a1, b1⟩ := kk t.heap x ce h1 h2 h3 h4 hcl h6 T' eh X'
  exact ⟨t2, hst.trans (by rw [et]; exact a1), b1⟩
variable {y : MethodName} {bytes cc : ByteArray} {maxL nL n index : Nat} {ret : Option FieldType} {ws : List Cond} {rm : Room} {Pc : Array Value → State → Prop} {E : String} {Ts : List Cond} {own C : String} {b : Addr} {As rest : List Value} {g : JFrame}
/-- a static callee that throws -/
theorem runTS (S : CallFix p m c cc nL s args Ts own) (hM : MetT l y ws rm Pc E) (cw : CallB R s args own index y bytes maxL ret ws rm 1 6 n ∧ (Cond.static y).before args s = true) (hp : PreS s H Pc As)
    (hg : g.method = m) (hn : As.length = n) (hsize : g.locals.size = nL) (hstack : g.stack = As.reverse ++ rest) (hW : 2 * g.monitorRoom + (rest.map fun v => v.category).sum ≤ 8) (hdg : decode cc g.pc = .ok (.invokestatic index, 3)) (hf : cells + 1 ≤ R.cells ∧ slots + 6 ≤ R.slots)
    (kk : ∀ (H1 : Heap) (x : Addr) (ce : Cell), x = H.size → H1.size = H.size + 1 → H1[x]? = some ce → ce.vm = .none → s.vm.findClass E = some ce.cls → (∀ q : Nat, q < H.size → H1[q]? = H[q]?) → WT p l e R s m args below meth c H1 locs (cells + 1) (slots + 6) Q { g with stack := rest } x) :
    W p l e R s m args below meth c H locs cells slots Q g := by
  obtain ⟨⟨hrc, hrs, hfr, hlo, hws, -, hcode, hini, hy, hlen, hl⟩, hstt⟩ := cw
  obtain ⟨hx, hb, hml, ho, -⟩ := S
  intro T hT X
  obtain ⟨mk, hnamed⟩ := Cond.code_named hcode
  obtain ⟨methM, cM, hmethM, hcM, -, hmlM, -, -, -, hsigM⟩ := Cond.code_spec hnamed hcode
  obtain ⟨kP, hkP, -⟩ := className_of_methodNamed hnamed
  have hinitP : kP.init = .initialized := Cond.initialized_spec (findClass_of_methodNamed hnamed) hkP hini
  obtain ⟨vm₁, X₁, hstep₁⟩ := X.invokestatic hx ho hl hnamed hmethM (Cond.static_spec hnamed hmethM hstt) hkP hinitP hy (g := g) hg (argsL := As) (rest := rest) (by rw [hn]; exact hlen _ hsigM) hstack (by rw [hb]; exact hdg)
  subst hT
  obtain ⟨t, a1, b1⟩ := callT X₁ hM (Q := Q) (X₁.named hnamed) (by rw [X₁.warmed.alike.method?]; exact hmethM) hcM hmlM (a := As.toArray) hfr hlo (by rw [hrc]; exact hf.1) (by rw [hrs]; exact hf.2)
    (fun w hw => hws w hw _ _ X₁.warmed) (word_at X₁.warmed (Or.inl (by first | rfl | simp [Cond.onTables, Cond.keeps, Cond.steady])) hini) (g := { g with stack := rest }) (hp.1 _ _ _ _ (hp.2 (T.setVm vm₁) rfl X₁.warmed)) hg (hsize.trans hml.symm) (by rw [hb]; exact hdg) hW kk
  exact ⟨t, hstep₁ t (fun acts => by rw [doInvoke_state]; exact a1), b1⟩
/-- a callee of an object's that throws -/
theorem runTV (S : CallFix p m c cc nL s args Ts own) (hM : MetT l y ws rm Pc E) (cw : CallW R s args own C index y bytes maxL ret ws rm 1 6 n) (hp : PreV s H C b Pc As)
    (hg : g.method = m) (hn : As.length = n) (hsize : g.locals.size = nL) (hstack : g.stack = As.reverse ++ .ref b :: rest) (hW : 2 * g.monitorRoom + (rest.map fun v => v.category).sum ≤ 8) (hdg : decode cc g.pc = .ok (.invokevirtual index, 3)) (hf : cells + 1 ≤ R.cells ∧ slots + 6 ≤ R.slots)
    (kk : ∀ (H1 : Heap) (x : Addr) (ce : Cell), x = H.size → H1.size = H.size + 1 → H1[x]? = some ce → ce.vm = .none → s.vm.findClass E = some ce.cls → (∀ q : Nat, q < H.size → H1[q]? = H[q]?) → WT p l e R s m args below meth c H1 locs (cells + 1) (slots + 6) Q { g with stack := rest } x) :
    W p l e R s m args below meth c H locs cells slots Q g := by
  obtain ⟨⟨hrc, hrs, hfr, hlo, hws, -, hcode, hini, hy, hlen, hl⟩, hin, hse⟩ := cw
  obtain ⟨hx, hb, hml, ho, -⟩ := S
  obtain ⟨hbl, ⟨cellB, hcB, hoB, hclB⟩, hPc⟩ := hp
  intro T hT X
  obtain ⟨mk, methM, hnamed, hmethM, hstM, habM⟩ := Cond.instanceMethod_spec hin
  obtain ⟨methM', cM, hmethM', hcM, -, hmlM, -, -, -, hsigM⟩ := Cond.code_spec hnamed hcode
  cases hmethM.symm.trans hmethM'
  obtain ⟨c2, r2, m2, q1, q2, q3, q4, kP, hkP, hkPi⟩ := Cond.selects_spec hse
  cases hclB.symm.trans q1
  cases (State.methodFound?_of_named hnamed hy).symm.trans q2
  cases hnamed.symm.trans q3
  have hselP : selectMethod e.platform s.vm cellB.cls mk = .method mk := by rw [Launch.admits_selectMethod X.admits]; exact q4
  subst hT
  obtain ⟨vm₁, X₁, hstep₁⟩ := X.invokevirtual hx ho hl hnamed hmethM hstM hkP hkPi hy (a := b) (cell := cellB) hcB
    (fun z h => by rw [h] at hoB; cases hoB) hselP hmethM habM hkP hkPi (g := g) hg (argsL := As) (rest := rest) (by rw [hn]; exact hlen _ hsigM) hstack (by rw [hb]; exact hdg)
  obtain ⟨t, a1, b1⟩ := callT X₁ hM (Q := Q) (X₁.named hnamed) (by rw [X₁.warmed.alike.method?]; exact hmethM) hcM hmlM (a := (Value.ref b :: As).toArray) hfr hlo (by rw [hrc]; exact hf.1) (by rw [hrs]; exact hf.2)
    (fun w hw => hws w hw _ _ X₁.warmed) (word_at X₁.warmed (Or.inl (by first | rfl | simp [Cond.onTables, Cond.keeps, Cond.steady])) hini) (g := { g with stack := rest }) (hbl _ _ _ _ (hPc (T.setVm vm₁) rfl X₁.warmed)) hg (hsize.trans hml.symm) (by rw [hb]; exact hdg) hW kk
  exact ⟨t, hstep₁ t (fun acts => by rw [doInvoke_state]; exact a1), b1⟩
/-- the exception goes on to the caller -/
theorem outT {x : Addr} {ce : Cell} {pc : Nat} {ls : Array Slot} (hout : ∀ z ∈ c.exceptionTable.toList, covers z pc = false) (hlocks : meth.locks = false) (hlocs : ∀ z ∈ locs, s.heap.size ≤ z.base) (hc : cells ≤ 1) (hs : slots ≤ 6) (hxs : x = s.heap.size) (hsz : H.size = s.heap.size + 1)
    (hce : H[x]? = some ce) (hvm : ce.vm = .none) (hcl : s.vm.findClass E = some ce.cls) : WT p l e R s m args below meth c H locs cells slots (MQF below (QT E) args s) (F0 m pc ls rest) x := by
  intro T hT X
  subst hT
  have X0 : Stand p l e R s m args below meth c T [] cells slots := Stand.forget (locs := []) (extra := locs) X hlocs
  obtain ⟨st, hrun, hend, hw, hsame⟩ := X0.leaveThrown x (g := F0 m pc ls rest) rfl rfl rfl hout hlocks
  have hsame1 : s.sameButNew ({ T.setFrames (.throwing x :: below) with vm := s.vm } : State) [] 1 6 := hsame.weaken (fun y hy _ => hy) hc hs
  exact ⟨_, st, .threw x, hrun, hend, x, ce, rfl, hw, hsame1, hxs, hsz, hce, hvm, hcl, same_old hsame1⟩
/-- an exception of its own: made, its constructor, thrown -/
theorem throwOwn {X : String} {names : List String} {ic pc : Nat} {ls : Array Slot} {kX : Class} {cX : ClassId} {H0 : Heap} (hexec : p.tables.exec = Jvm.exec) (hb : c.code = cc) (htr : ∀ e : Env, l.admits e → e.platform.stackTraces = false) (hown : s.vm.findClass own = some m.cls) (hX : Bundle.fit X = true) (hnames : ∀ n ∈ names, Bundle.fit n = true)
    (h : ∀ a ∈ Bundle.ownAtoms0 own ic X names, a.before args s = true) (hlocs : ∀ z ∈ locs, s.heap.size ≤ z.base) (hf : s.vm.findClass X = some cX) (hk : s.vm.classes[cX]? = some kX) (hH0 : H0.size = s.heap.size) (hold : H = H0.push { cls := cX, slots := kX.instanceTypes.map defaultValue, vm := .none })
    (hml : ls.size = c.maxLocals) (hd6 : decode cc pc = .ok (.invokespecial ic, 3)) (hd9 : decode cc (pc + 3) = .ok (.athrow, 1)) (hout : ∀ x ∈ c.exceptionTable.toList, covers x (pc + 3) = false) (hc : cells ≤ 1) (hs : slots ≤ 6)
    (hRf : names.length + 3 < R.frames) (hRl : 1 + (13 * (names.length + 1) + 41) ≤ R.locals) (hlocks : meth.locks = false) : W p l e R s m args below meth c H locs cells slots (MQF below (QT X) args s) (F0 m pc ls [.ref H0.size, .ref H0.size]) := by
  intro T hT Xs
  subst hb
  have X0 : Stand p l e R s m args below meth c T [] cells slots := Stand.forget (locs := []) (extra := locs) Xs hlocs
  have hcell : T.heap[H0.size]? = some (freshCell cX kX) := by rw [hT, hold, Array.getElem?_push_size]
  obtain ⟨U, st, hrun, hend, hw, hsame, ce, hce, hoc⟩ := X0.ctorThrow0 hexec (htr e Xs.admits) (own := own) (cls := X) (names := names) (ic := ic) hown hX hnames h (fun x hx => by cases hx) (a := H0.size) hf hk hcell (by rw [hH0]; exact Nat.le_refl _)
    (g := F0 m pc ls [.ref H0.size, .ref H0.size]) rfl hml rfl rfl (rest := []) rfl hd6 hd9 hout hRf (by
      show 2 * (F0 m pc ls [.ref H0.size, .ref H0.size]).monitorRoom + 1 + (13 * (names.length + 1) + 41) ≤ R.locals
      have : (F0 m pc ls [.ref H0.size, .ref H0.size]).monitorRoom = 0 := rfl
      rw [this]; omega) hlocks
  have hsame1 : s.sameButNew ({ U with vm := s.vm } : State) [] 1 6 := hsame.weaken (fun y hy _ => hy) hc hs
  have hsz1 : U.heap.size ≤ s.heap.size + 1 := hsame1.2.2.1
  have hlt : H0.size < U.heap.size := (Array.getElem?_eq_some_iff.mp hce).1
  exact ⟨U, st, .threw H0.size, hrun, hend, H0.size, ce, rfl, hw, hsame1, hH0, by omega, hce, hoc.vm, hoc.cls, same_old hsame1⟩
end TW
