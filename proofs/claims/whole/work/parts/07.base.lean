section Good
variable {R : Room} {s : State} {args : Array Value} {own C owner : String} {index maxL mc ms : Nat} {x y : MethodName} {bytes : ByteArray} {ret : Option FieldType} {rm : Room}
theorem gdt (hc : Cond.code y bytes maxL ret ∈ tb) : GoodIn tb (Cond.code y bytes maxL ret :: tb) := fun w hw => (List.mem_cons.mp hw).elim (fun e => by subst e; exact ⟨hc, tb_good hc⟩) (fun h => ⟨h, tb_good h⟩)
theorem gcons {w : Cond} {ws : List Cond} (h : w ∈ tb) (g : GoodIn tb ws) : GoodIn tb (w :: ws) := fun v hv => (List.mem_cons.mp hv).elim (fun e => by subst e; exact ⟨h, tb_good h⟩) (fun h => g v h)
theorem gU (h1 : Cond.methodLink own index x ∈ tb) (h2 : Cond.sameMethod x.cls owner x.name x.desc ∈ tb) (h3 : Cond.selects C x y ∈ tb) (h4 : Cond.instanceMethod y ∈ tb) (h5 : Cond.initialized y.cls ∈ tb) (hc : Cond.code y bytes maxL ret ∈ tb) : GoodIn tb (va_wsU own index C owner x y (Cond.code y bytes maxL ret :: tb)) :=
  gcons h1 (gcons h2 (gcons h3 (gcons h4 (gcons h5 (gdt hc)))))
theorem gO (h1 : Cond.methodLink own index x ∈ tb) (h2 : Cond.sameMethod x.cls owner x.name x.desc ∈ tb) (h0 : Cond.instanceMethod ⟨owner, x.name, x.desc⟩ ∈ tb) (h3 : Cond.selects C x y ∈ tb) (h4 : Cond.instanceMethod y ∈ tb) (h5 : Cond.initialized y.cls ∈ tb) (hc : Cond.code y bytes maxL ret ∈ tb) : GoodIn tb (va_wsO own index C owner x y (Cond.code y bytes maxL ret :: tb)) :=
  gcons h1 (gcons h2 (gcons h0 (gcons h3 (gcons h4 (gcons h5 (gdt hc))))))
theorem gSU (h1 : Cond.methodLink own index y ∈ tb) (h2 : Cond.sameMethod y.cls y.cls y.name y.desc ∈ tb) (h3 : Cond.superclass own y.cls ∈ tb) (h4 : Cond.instanceMethod y ∈ tb) (h5 : Cond.initialized y.cls ∈ tb) (hc : Cond.code y bytes maxL ret ∈ tb) : GoodIn tb (va_wsSU own index y (Cond.code y bytes maxL ret :: tb)) :=
  gcons h1 (gcons h2 (gcons h3 (gcons h4 (gcons h5 (gdt hc)))))
theorem cB (n : Nat) (ht : ∀ w ∈ tb, w.before args s = true) (hc : Cond.code y bytes maxL ret ∈ tb) (hini : Cond.initialized y.cls ∈ tb) (hl : Cond.methodLink own index y ∈ tb)
    (hd : y.cls ≠ "java/lang/invoke/MethodHandle" ∧ y.cls ≠ "java/lang/invoke/VarHandle" ∧ (parseMethodDescriptor y.desc).map (fun d => d.parameters.length) = some n) (hR : rm.frames + 1 ≤ R.frames ∧ 8 + (maxL + 11) + rm.locals ≤ R.locals) (hrc : rm.cells = mc) (hrs : rm.slots = ms) :
    CallB R s args own index y bytes maxL ret (Cond.code y bytes maxL ret :: tb) rm mc ms n := callB_of n ht (gdt hc) rfl hrc hrs (ht _ hini) (ht _ hl) hd hR
end Good
/-! own words: booleans as ints, the contracts' starts and ends -/
def bI : Bool → Int32
  | true => 1
  | false => 0
theorem bI_0 (b : Bool) : (bI b = 0) = (b = false) := by cases b <;> simp [bI]
theorem bI_1 (b : Bool) : (bI b = 1) = (b = true) := by cases b <;> simp [bI]
theorem bI_f {b : Bool} (h : bI b = 0) : b = false := by cases b <;> simp_all [bI]
theorem bI_t {b : Bool} (h : ¬ bI b = 0) : b = true := by cases b <;> simp_all [bI]
theorem nb_n (b : Bool) : narrow .boolean (.int (bI b)) = .int (bI b) := by cases b <;> rfl
theorem nb_f (b : Bool) : fits .boolean (.int (bI b)) = true := by cases b <;> rfl
theorem nI_inc (n : Nat) : nI n + Int32.ofInt 1 = nI (n + 1) := nI_1 n
theorem in255 (x : Int32) : vp_in (x &&& 255) 256 := pk_andIn x 8 (by decide) (by decide)
abbrev tyK (cI cZ : ClassId) : List (ClassId × FieldType) := [(cI, .int), (cZ, .boolean)]
def PcW (D : va_G) (cI cZ : ClassId) (av : List Value) (wc : va_W) (sz : Nat) : Array Value → State → Prop := va_Pc av (fun U => U.heap.size = sz ∧ va_P D vwCl wc U.heap ∧ va_K D vwCl (tyK cI cZ) U ∧ va_D (fun _ => True) wc ∧ NW U)
def PcR (D : va_G) (cI cZ : ClassId) (av : List Value) (wc : va_W) : Array Value → State → Prop := va_Pc av (fun U => va_P D vwCl wc U.heap ∧ va_K D vwCl (tyK cI cZ) U ∧ NW U)
abbrev BW (D : va_G) (cI cZ : ClassId) (A : Nat → Prop) (ws : va_W) (t : State) : Prop := va_P D vwCl ws t.heap ∧ va_K D vwCl (tyK cI cZ) t ∧ va_D A ws
abbrev QV (D : va_G) (cI cZ : ClassId) {S : Type} (post : S → Prop) (w2 : S → va_W) (A : Nat → Prop) : Array Value → State → Outcome → State → Prop := va_Qv post (fun u t => BW D cI cZ A (w2 u) t) A
abbrev QI (D : va_G) (cI cZ : ClassId) {S : Type} (post : Int32 → S → Prop) (w2 : S → va_W) (A : Nat → Prop) : Array Value → State → Outcome → State → Prop := va_Qi post (fun u t => BW D cI cZ A (w2 u) t) A
abbrev MetR (l : Launch) (y : MethodName) (ws : List Cond) (rm : Room) (D : va_G) (cI cZ : ClassId) (av : List Value) (wc : va_W) (post : Int32 → Prop) : Prop := Met l y ws rm (PcR D cI cZ av wc) (vp_Si post) 0 0 (fun _ => False)
abbrev MetV (l : Launch) (y : MethodName) (ws : List Cond) (rm : Room) (D : va_G) (cI cZ : ClassId) (av : List Value) (wc : va_W) (sz : Nat) {S : Type} (post : S → Prop) (w2 : S → va_W) (mc ms : Nat) : Prop := Met l y ws rm (PcW D cI cZ av wc sz) (QV D cI cZ post w2 (va_A wc sz)) mc ms (va_A wc sz)
abbrev MetI (l : Launch) (y : MethodName) (ws : List Cond) (rm : Room) (D : va_G) (cI cZ : ClassId) (av : List Value) (wc : va_W) (sz : Nat) {S : Type} (post : Int32 → S → Prop) (w2 : S → va_W) (mc ms : Nat) : Prop := Met l y ws rm (PcW D cI cZ av wc sz) (QI D cI cZ post w2 (va_A wc sz)) mc ms (va_A wc sz)
section Pre
variable {D : va_G} {cI cZ : ClassId} {av As : List Value} {wc : va_W} {sz : Nat} {s : State} {H : Heap} {A : Nat → Prop} {b : Addr} {C : String}
theorem PcW.blind : FrameBlind (PcW D cI cZ av wc sz) := fun a U g mk q => by
  obtain ⟨q0, q1, qP, qK, qD, qN⟩ := q
  exact ⟨q0, q1, qP, va_K.moved (u := U) (U := U.calling g mk a) (Vm.Alike.refl U.vm) qK, qD, NW.same (u := U) (U := U.calling g mk a) rfl qN⟩
theorem PcR.blind : FrameBlind (PcR D cI cZ av wc) := fun a U g mk q => by
  obtain ⟨q0, qP, qK, qN⟩ := q
  exact ⟨q0, qP, va_K.moved (u := U) (U := U.calling g mk a) (Vm.Alike.refl U.vm) qK, NW.same (u := U) (U := U.calling g mk a) rfl qN⟩
theorem PcW.preS (hP : va_P D vwCl wc H) (hK : va_K D vwCl (tyK cI cZ) s) (hD : va_D A wc) (hN : NW s) : PreS s H (PcW D cI cZ As wc H.size) As :=
  ⟨PcW.blind, fun U hU hW => ⟨rfl, by rw [hU], by rw [hU]; exact hP, va_K.moved hW.alike hK, hD.weaken (fun _ _ _ _ => trivial), NW.warm hW hN⟩⟩
theorem PcR.preS (hP : va_P D vwCl wc H) (hK : va_K D vwCl (tyK cI cZ) s) (hN : NW s) : PreS s H (PcR D cI cZ As wc) As :=
  ⟨PcR.blind, fun U hU hW => ⟨rfl, by rw [hU]; exact hP, va_K.moved hW.alike hK, NW.warm hW hN⟩⟩
theorem PcW.preV (hr : ∃ cell : Cell, H[b]? = some cell ∧ cell.vm.isStatics = false ∧ s.vm.findClass C = some cell.cls) (hP : va_P D vwCl wc H) (hK : va_K D vwCl (tyK cI cZ) s) (hD : va_D A wc) (hN : NW s) : PreV s H C b (PcW D cI cZ (.ref b :: As) wc H.size) As :=
  ⟨PcW.blind, hr, fun U hU hW => ⟨rfl, by rw [hU], by rw [hU]; exact hP, va_K.moved hW.alike hK, hD.weaken (fun _ _ _ _ => trivial), NW.warm hW hN⟩⟩
theorem PcR.preV (hr : ∃ cell : Cell, H[b]? = some cell ∧ cell.vm.isStatics = false ∧ s.vm.findClass C = some cell.cls) (hP : va_P D vwCl wc H) (hK : va_K D vwCl (tyK cI cZ) s) (hN : NW s) : PreV s H C b (PcR D cI cZ (.ref b :: As) wc) As :=
  ⟨PcR.blind, hr, fun U hU hW => ⟨rfl, by rw [hU]; exact hP, va_K.moved hW.alike hK, NW.warm hW hN⟩⟩
end Pre
section Of
variable {l : Launch} {D : va_G} {cI cZ : ClassId} {y : MethodName} {ws : List Cond} {rm : Room} {cc : ByteArray} {maxL mc ms sz : Nat} {ret : Option FieldType} {av : List Value} {wc : va_W} {S : Type}
theorem ofR {post : Int32 → Prop} (hy : plainName y.cls = true) (hw : ws = Cond.code y cc maxL ret :: tb) (hn : (lg_sl av).length ≤ maxL)
    (body : ∀ (p : Program) (e : Env) (s : State) (m : MethodId) (args : Array Value) (below : List Frame) (meth : Method) (c : Code) (H : Heap), s.heap = H → p.tables.exec = Jvm.exec → c.code = cc → meth.sig.returnType = ret → meth.locks = false → (∀ w ∈ tb, w.before args s = true) → s.vm.findClass y.cls = some m.cls → c.maxLocals = maxL →
      ∀ ls : Array Slot, lv_has ls maxL (lv_args 0 av) → va_P D vwCl wc H → va_K D vwCl (tyK cI cZ) s → NW s → W p l e rm s m args below meth c H [] 0 0 (MQ below (vp_Si post) args s 0 0 (fun _ => False)) (F0 m 0 ls [])) :
    MetR l y ws rm D cI cZ av wc post := by
  refine Met.ofW (cc := cc) (maxL := maxL) (ret := ret) hy hw ?_
  intro p e s m args below meth c s₁ B hml hv
  obtain ⟨rfl, hP, hK, hN⟩ := hv
  have hl := lv_entry av (n := maxL) hn
  rw [lg_entry_eq]
  generalize (lg_sl av ++ List.replicate (maxL - (lg_sl av).length) Slot.unset).toArray = ls at hl ⊢
  exact body p e s m _ below meth c s.heap rfl B.exec B.bytes B.returns B.notSynchronized (fun w h => atoms_spec (ws := ws) B.pre w (by rw [hw]; exact List.mem_cons_of_mem _ h)) (findClass_of_methodNamed B.named) hml ls hl hP hK hN
theorem ofV {post : S → Prop} {w2 : S → va_W} (hy : plainName y.cls = true) (hw : ws = Cond.code y cc maxL ret :: tb) (hn : (lg_sl av).length ≤ maxL)
    (body : ∀ (p : Program) (e : Env) (s : State) (m : MethodId) (args : Array Value) (below : List Frame) (meth : Method) (c : Code) (A : Nat → Prop) (H : Heap), s.heap = H → p.tables.exec = Jvm.exec → c.code = cc → meth.sig.returnType = ret → meth.locks = false → (∀ w ∈ tb, w.before args s = true) → s.vm.findClass y.cls = some m.cls → meth.name = y.name → c.maxLocals = maxL →
      ∀ ls : Array Slot, lv_has ls maxL (lv_args 0 av) → va_P D vwCl wc H → va_K D vwCl (tyK cI cZ) s → va_D A wc → (∀ q : Nat, s.heap.size ≤ q → A q) → va_S A s.heap H [] → NW s → W p l e rm s m args below meth c H [] 0 0 (MQ below (QV D cI cZ post w2 A) args s mc ms A) (F0 m 0 ls [])) :
    MetV l y ws rm D cI cZ av wc sz post w2 mc ms := by
  refine Met.ofW (cc := cc) (maxL := maxL) (ret := ret) hy hw ?_
  intro p e s m args below meth c s₁ B hml hv
  obtain ⟨rfl, hsz, hP, hK, hD0, hN⟩ := hv
  subst hsz
  have hl := lv_entry av (n := maxL) hn
  rw [lg_entry_eq]
  generalize (lg_sl av ++ List.replicate (maxL - (lg_sl av).length) Slot.unset).toArray = ls at hl ⊢
  exact body p e s m _ below meth c _ s.heap rfl B.exec B.bytes B.returns B.notSynchronized (fun w h => atoms_spec (ws := ws) B.pre w (by rw [hw]; exact List.mem_cons_of_mem _ h)) (findClass_of_methodNamed B.named) (name_of_methodNamed B.named B.method).1 hml ls hl hP hK (hD0.self (sz := s.heap.size)) (fun q h => Or.inr h) va_S.rf hN
theorem ofI {post : Int32 → S → Prop} {w2 : S → va_W} (hy : plainName y.cls = true) (hw : ws = Cond.code y cc maxL ret :: tb) (hn : (lg_sl av).length ≤ maxL)
    (body : ∀ (p : Program) (e : Env) (s : State) (m : MethodId) (args : Array Value) (below : List Frame) (meth : Method) (c : Code) (A : Nat → Prop) (H : Heap), s.heap = H → p.tables.exec = Jvm.exec → c.code = cc → meth.sig.returnType = ret → meth.locks = false → (∀ w ∈ tb, w.before args s = true) → s.vm.findClass y.cls = some m.cls → meth.name = y.name → c.maxLocals = maxL →
      ∀ ls : Array Slot, lv_has ls maxL (lv_args 0 av) → va_P D vwCl wc H → va_K D vwCl (tyK cI cZ) s → va_D A wc → (∀ q : Nat, s.heap.size ≤ q → A q) → va_S A s.heap H [] → NW s → W p l e rm s m args below meth c H [] 0 0 (MQ below (QI D cI cZ post w2 A) args s mc ms A) (F0 m 0 ls [])) :
    MetI l y ws rm D cI cZ av wc sz post w2 mc ms := by
  refine Met.ofW (cc := cc) (maxL := maxL) (ret := ret) hy hw ?_
  intro p e s m args below meth c s₁ B hml hv
  obtain ⟨rfl, hsz, hP, hK, hD0, hN⟩ := hv
  subst hsz
  have hl := lv_entry av (n := maxL) hn
  rw [lg_entry_eq]
  generalize (lg_sl av ++ List.replicate (maxL - (lg_sl av).length) Slot.unset).toArray = ls at hl ⊢
  exact body p e s m _ below meth c _ s.heap rfl B.exec B.bytes B.returns B.notSynchronized (fun w h => atoms_spec (ws := ws) B.pre w (by rw [hw]; exact List.mem_cons_of_mem _ h)) (findClass_of_methodNamed B.named) (name_of_methodNamed B.named B.method).1 hml ls hl hP hK (hD0.self (sz := s.heap.size)) (fun q h => Or.inr h) va_S.rf hN
end Of
theorem newa_ty {D : va_G} {cI cZ cN : ClassId} {s : State} (k : Nat) {t : FieldType} {c0 : ClassId} (hk : (tyK cI cZ)[k]? = some (c0, t)) (ht : ∀ C, t ≠ .object C) (h : va_K D vwCl (tyK cI cZ ++ [(cN, t)]) s) : cN = c0 := by
  have h1 := (h.2 k (c0, t) (by rw [List.getElem?_append_left (by have := (List.getElem?_eq_some_iff.mp hk).1; exact this)]; exact hk)).2
  have h2 := (h.2 2 (cN, t) rfl).2
  cases t <;> first | exact absurd rfl (ht _) | exact Option.some.inj (h2.symm.trans h1)
theorem newa_int {D : va_G} {cI cZ cN : ClassId} {s : State} (h : va_K D vwCl (tyK cI cZ ++ [(cN, .int)]) s) : cN = cI := newa_ty 0 rfl (fun _ h => by cases h) h
theorem newa_boolean {D : va_G} {cI cZ cN : ClassId} {s : State} (h : va_K D vwCl (tyK cI cZ ++ [(cN, .boolean)]) s) : cN = cZ := newa_ty 1 rfl (fun _ h => by cases h) h
/-- a switch's number: outside, or one of its labels -/
theorem sw_cases (x : Int32) (lo n : Nat) (hl : lo + n < 2 ^ 31 := by decide) : (x.toInt < (lo : Int) ∨ ((lo + n : Nat) : Int) - 1 < x.toInt) ∨ ∃ j : Nat, ∃ _ : j < n, x = nI (lo + j) := by
  by_cases h : x.toInt < (lo : Int) ∨ ((lo + n : Nat) : Int) - 1 < x.toInt
  · exact Or.inl h
  · refine Or.inr ⟨(x.toInt - lo).toNat, by omega, ?_⟩
    apply Int32.toInt_inj.mp
    rw [nI_toInt (by omega)]
    omega
