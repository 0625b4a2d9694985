theorem ofRG {l : Launch} {D : va_G} {cI cZ : ClassId} {y : MethodName} {ws : List Cond} {rm : Room} {cc : ByteArray} {maxL : Nat} {ret : Option FieldType} {av : List Value} {wc : va_W} {Qc : Array Value → State → Outcome → State → Prop} (hy : plainName y.cls = true) (hw : ws = Cond.code y cc maxL ret :: tb) (hn : (lg_sl av).length ≤ maxL)
    (body : ∀ (p : Program) (e : Env) (s : State) (m : MethodId) (args : Array Value) (below : List Frame) (meth : Method) (c : Code) (H : Heap), s.heap = H → p.tables.exec = Jvm.exec → c.code = cc → meth.sig.returnType = ret → meth.locks = false → (∀ w ∈ tb, w.before args s = true) → s.vm.findClass y.cls = some m.cls → c.maxLocals = maxL →
      ∀ ls : Array Slot, lv_has ls maxL (lv_args 0 av) → va_P D vwCl wc H → va_K D vwCl (tyK cI cZ) s → NW s → W p l e rm s m args below meth c H [] 0 0 (MQ below Qc args s 0 0 (fun _ => False)) (F0 m 0 ls [])) :
    Met l y ws rm (PcR D cI cZ av wc) Qc 0 0 (fun _ => False) := by
  refine Met.ofW (cc := cc) (maxL := maxL) (ret := ret) hy hw ?_
  intro p e s m args below meth c s₁ B hml hv
  obtain ⟨rfl, hP, hK, hN⟩ := hv
  have hl := lv_entry av (n := maxL) hn
  rw [lg_entry_eq]
  generalize (lg_sl av ++ List.replicate (maxL - (lg_sl av).length) Slot.unset).toArray = ls at hl ⊢
  exact body p e s m _ below meth c s.heap rfl B.exec B.bytes B.returns B.notSynchronized (fun w h => atoms_spec (ws := ws) B.pre w (by rw [hw]; exact List.mem_cons_of_mem _ h)) (findClass_of_methodNamed B.named) hml ls hl hP hK hN
def alkC (S : Bool) (b p st su : Int32) : Bool := if b = -1 then false else if b = p then (if decide (st = 1) = decide (su = 1) then S else false) else false
