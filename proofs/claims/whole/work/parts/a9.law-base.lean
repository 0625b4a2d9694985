/-! the law's own methods: their worlds have a long array too -/
abbrev tyJ (cI cZ cJ : ClassId) : List (ClassId × FieldType) := [(cI, .int), (cZ, .boolean), (cJ, .long)]
def PcJ (D : va_G) (cI cZ cJ : ClassId) (av : List Value) (wc : va_W) (sz : Nat) : Array Value → State → Prop := va_Pc av (fun U => U.heap.size = sz ∧ va_P D vwCl wc U.heap ∧ va_K D vwCl (tyJ cI cZ cJ) U ∧ va_D (fun _ => True) wc ∧ NW U ∧ XZ U U.heap)
abbrev MetJ (l : Launch) (y : MethodName) (ws : List Cond) (rm : Room) (D : va_G) (cI cZ cJ : ClassId) (av : List Value) (wc : va_W) (sz : Nat) {S : Type} (post : Int32 → S → Prop) (w2 : S → va_W) (mc ms : Nat) : Prop := Met l y ws rm (PcJ D cI cZ cJ av wc sz) (QI D cI cZ post w2 (va_A wc sz)) mc ms (va_A wc sz)
section PJ
variable {l : Launch} {D : va_G} {cI cZ cJ : ClassId} {av As : List Value} {wc : va_W} {sz mc ms maxL : Nat} {s : State} {H : Heap} {A : Nat → Prop} {y : MethodName} {ws : List Cond} {rm : Room} {cc : ByteArray} {ret : Option FieldType} {hs : List (Nat × Nat × Nat × Nat)} {S : Type}
theorem PcJ.blind : FrameBlind (PcJ D cI cZ cJ av wc sz) := fun a U g mk q => by
  obtain ⟨q0, q1, qP, qK, qD, qN, qZ⟩ := q
  exact ⟨q0, q1, qP, va_K.moved (u := U) (U := U.calling g mk a) (Vm.Alike.refl U.vm) qK, qD, NW.same (u := U) (U := U.calling g mk a) rfl qN, XZ.same (u := U) (U := U.calling g mk a) rfl qZ⟩
theorem PcJ.preS (hP : va_P D vwCl wc H) (hK : va_K D vwCl (tyJ cI cZ cJ) s) (hD : va_D A wc) (hN : NW s) (hZ : XZ s H) : PreS s H (PcJ D cI cZ cJ As wc H.size) As :=
  ⟨PcJ.blind, fun U hU hW => ⟨rfl, by rw [hU], by rw [hU]; exact hP, va_K.moved hW.alike hK, hD.weaken (fun _ _ _ _ => trivial), NW.warm hW hN, by rw [hU]; exact hZ.warm hW⟩⟩
theorem gdw (hc : Cond.codeWith y cc maxL ret hs ∈ tb) : GoodIn tb (Cond.codeWith y cc maxL ret hs :: tb) := fun w hw => (List.mem_cons.mp hw).elim (fun e => by subst e; exact ⟨hc, tb_good hc⟩) (fun h => ⟨h, tb_good h⟩)
theorem ofJ {post : Int32 → S → Prop} {w2 : S → va_W} (hy : plainName y.cls = true) (hw : ws = Cond.codeWith y cc maxL ret hs :: tb) (hn : (lg_sl av).length ≤ maxL)
    (body : ∀ (p : Program) (e : Env) (s : State) (m : MethodId) (args : Array Value) (below : List Frame) (meth : Method) (c : Code) (A : Nat → Prop) (H : Heap), s.heap = H → p.tables.exec = Jvm.exec → c.code = cc → meth.sig.returnType = ret → meth.locks = false → (∀ w ∈ tb, w.before args s = true) → s.vm.findClass y.cls = some m.cls → c.maxLocals = maxL →
      c.exceptionTable.toList = hs.map (fun q => ⟨q.1, q.2.1, q.2.2.1, q.2.2.2⟩) → ∀ ls : Array Slot, lv_has ls maxL (lv_args 0 av) → va_P D vwCl wc H → va_K D vwCl (tyJ cI cZ cJ) s → va_D A wc → (∀ q : Nat, s.heap.size ≤ q → A q) → va_S A s.heap H [] → NW s → XZ s H → W p l e rm s m args below meth c H [] 0 0 (MQ below (QI D cI cZ post w2 A) args s mc ms A) (F0 m 0 ls [])) :
    MetJ l y ws rm D cI cZ cJ av wc sz post w2 mc ms := by
  refine MetF.of (cc := cc) (maxL := maxL) (ret := ret) (hs := hs) hy (his_with hw) ?_
  intro p e s m args below meth c s₁ B hml htab hv
  obtain ⟨rfl, hsz, hP, hK, hD0, hN, hZ⟩ := hv
  subst hsz
  have hl := lv_entry av (n := maxL) hn
  rw [lg_entry_eq]
  generalize (lg_sl av ++ List.replicate (maxL - (lg_sl av).length) Slot.unset).toArray = ls at hl ⊢
  exact body p e s m _ below meth c _ s.heap rfl B.exec B.bytes B.returns B.notSynchronized (fun w h => atoms_spec (ws := ws) B.pre w (by rw [hw]; exact List.mem_cons_of_mem _ h)) (findClass_of_methodNamed B.named) hml (tab_of htab) ls hl hP hK (hD0.self (sz := s.heap.size)) (fun q h => Or.inr h) va_S.rf hN hZ
end PJ
section LC
variable {p : Program} {l : Launch} {e : Env} {R : Room} {s : State} {m : MethodId} {args : Array Value} {below : List Frame} {meth : Method} {c : Code} {H : Heap} {locs : List Loc} {cells slots : Nat} {Q : State → Prop} {cc : ByteArray} {pc : Nat} {ls : Array Slot} {rest : List Value}
theorem lcmp0 (hexec : p.tables.exec = Jvm.exec) (hb : c.code = cc) {x y : Int64} (hdg : decode cc pc = .ok (.lcmp, 1)) (h : x = y) (k : W p l e R s m args below meth c H locs cells slots Q (F0 m (pc + 1) ls (.int 0 :: rest))) : W p l e R s m args below meth c H locs cells slots Q (F0 m pc ls (.long y :: .long x :: rest)) := by
  subst h
  have e1 : lg_cmp x x = 0 := by simp [lg_cmp]
  exact W.lcmp hexec hb hdg (by rw [e1]; exact k)
end LC
theorem updL_0 (f : Nat → Int64) (v : Int64) : vp_updL f 0 v 0 = v := if_pos rfl
theorem pos_nI {x : Int32} (h : ¬ x < 1) : ∃ M : Nat, M < 2 ^ 31 ∧ x = nI M := by
  rw [Int32.lt_iff_toInt_lt] at h
  have e1 : (1 : Int32).toInt = 1 := by decide
  have h2 := x.toInt_lt
  refine ⟨x.toInt.toNat, by omega, Int32.toInt_inj.mp ?_⟩
  rw [nI_toInt (by omega)]; omega
theorem va_S.grow {A : Nat → Prop} {H0 H H1 : Heap} {locs : List Loc} (hS : va_S A H0 H locs) (hz : H1.size = H.size + 1) (hq : ∀ q : Nat, q < H.size → H1[q]? = H[q]?) : va_S A H0 H1 locs :=
  ⟨Nat.le_trans hS.1 (by omega), fun q h1 h2 => (hq q (Nat.lt_of_lt_of_le h1 hS.1)).trans (hS.2.1 q h1 h2), hS.2.2⟩
theorem va_P.grow {D : va_G} {cl : List vw_C} {ws : va_W} {H H1 : Heap} (hP : va_P D cl ws H) (hq : ∀ q : Nat, q < H.size → H1[q]? = H[q]?) : va_P D cl ws H1 := hP.kept (fun k q hk => hq q.1 (hP k q hk).lt)
