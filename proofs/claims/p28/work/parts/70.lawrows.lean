/-! rows for the law's own methods -/
section LAWROWS
variable {p : Program} {l : Launch} {e : Env} {R : Room} {s : State} {m : MethodId} {args : Array Value} {below : List Frame} {meth : Method} {c : Code} {H : Heap} {locs : List Loc} {cells slots : Nat} {Q : State → Prop}
variable {cc : ByteArray} {nL : Nat} {Ts : List Cond} {own : String} {D : va_G} {cI cG cL : ClassId} {A : Nat → Prop} {EN : State → Heap → Prop} {pc : Nat} {ls : Array Slot} {rest : List Value} {ws : va_W} {tys : List (ClassId × FieldType)}
theorem met_startW {y : MethodName} {wsY wsR : List Cond} {rm : Room} {ret : Option FieldType} {av : List Value} {Qc : Array Value → State → Outcome → State → Prop} {hh : List (Nat × Nat × Nat × Nat)} {mc ms : Nat} (hE : EnOK EN A) (hy : plainName y.cls = true) (hw : wsY = .codeWith y cc nL ret hh :: wsR) (hown : y.cls = own) (hlen : (lg_sl av).length ≤ nL)
    (body : ∀ (p : Program) (e : Env) (s : State) (m : MethodId) (args : Array Value) (below : List Frame) (meth : Method) (c : Code) (ls : Array Slot), Cx p s m args c cc nL wsY own D tys A EN → c.exceptionTable.toList = tableOf hh → HS D A ws s.heap s.heap [] → lv_has ls nL (lv_args 0 av) → meth.sig.returnType = ret → meth.locks = false → W p l e (headSpec wsY rm).room s m args below meth c s.heap [] 0 0 (MQ below Qc args s mc ms A) (F0 m 0 ls [])) : Met l y wsY rm (WPre D tys A EN ws av) Qc mc ms A := by
  refine va_MetW (cc := cc) (maxL := nL) (ret := ret) (hh := hh) hy hw ?_
  intro p e s m args below meth c s₁ B hml hv
  obtain ⟨rfl, hP, hK, hD0, hEN⟩ := hv
  have hts := atoms_spec (ws := wsY) B.pre
  have hown' : s.vm.findClass own = some m.cls := by rw [← hown]; exact findClass_of_methodNamed B.named
  have htab := vx_table (x := y) B (hts (.codeWith y cc nL ret hh) (by rw [hw]; exact List.mem_cons_self))
  rw [lg_entry_eq]
  exact body p e s m _ below meth c _ ⟨⟨B.exec, B.bytes, hml, hown', hts⟩, hK, hE, hEN⟩ htab ⟨hP, hD0, va_S.rf⟩ (lv_entry av hlen) B.returns B.notSynchronized
theorem r_iretN (X : Cx p s m args c cc nL Ts own D tys A EN) (hS : HS D A ws s.heap H locs) (hr : meth.sig.returnType = some .int) (hlk : meth.locks = false) {v : Int32} (hdg : decode cc pc = .ok (.ireturn, 1)) : W p l e R s m args below meth c H locs cells slots (MQ below (PI D A ws v) args s cells slots A) (F0 m pc ls [.int v]) :=
  W.iret X.1.1 X.1.2.1 hr (fun t ht hW => ⟨⟨v, (), rfl, rfl, by rw [ht]; exact hS.1, hS.2.1⟩, hS.2.2.F ht⟩) hS.2.2.2.2 hdg hlk
/-- a call that throws: the road goes on at the handler -/
theorem r_thr (X : Cx p s m args c cc nL Ts own D tys A EN) (hS : HS D A ws s.heap H locs) {y : MethodName} {bytes : ByteArray} {maxL n index : Nat} {ret : Option FieldType} {wsY : List Cond} {rm : Room} {C : String} {b : Addr} {As st : List Value} {r : Int32} (hM : vx_Met l y wsY rm (WPre D tys A EN ws (.ref b :: As)) PNo (XX D A ws r) 1 6 A) (cw : CallW R s args own C index y bytes maxL ret wsY rm 1 6 n) {q0 ci N : Nat} {fs : List Value} {T : u_T} (hc : vwCl[ci]? = some (C, T, N)) (hq : ws[q0]? = some (b, .inr (ci, fs))) (hn : As.length = n) (hl : ls.size = nL) (hst : st = As.reverse ++ .ref b :: rest) (hW : (rest.map fun v => v.category).sum ≤ 8) (hdg : decode cc pc = .ok (.invokevirtual index, 3)) (hf : cells + 1 ≤ R.cells ∧ slots + 6 ≤ R.slots)
    (pre : List ExceptionTableEntry) (x : ExceptionTableEntry) (suf : List ExceptionTableEntry) (hsplit : c.exceptionTable.toList = pre ++ x :: suf) (hpass : ∀ z ∈ pre, covers z pc = false ∨ (z.catchType ≠ 0 ∧ ∃ nm : String, (Cond.classLink own z.catchType nm).before args s = true ∧ va_Nc (exN r) nm s)) (hx : covers x pc = true) (h0 : x.catchType ≠ 0) (hlink : (Cond.classLink own x.catchType (exN r)).before args s = true) (hcast : (Cond.castable (exN r) (exN r)).before args s = true)
    (kk : ∀ (H : Heap) (locs : List Loc) (q9 : Nat), HS D A ws s.heap H locs → W p l e R s m args below meth c H locs (cells + 1) (slots + 6) Q (F0 m x.handlerPc ls [.ref q9])) : W p l e R s m args below meth c H locs cells slots Q (F0 m pc ls st) := by
  refine vx_callv (vx_runV (As := As) (rest := rest) X.1 hM cw ⟨WPre.blind X.2.2.1, va_recv X.2.1 hS.1 hc hq, WPre.gives X hS⟩ rfl hn hl hst (lv_room (m := m) (pc := pc) (ls := ls) (rest := st) (st := rest) hW) hdg hf) hS.2.2 (fun _ _ h => absurd h id) (fun _ h => h) (fun _ _ h => h) (fun E ce q9 u t H1 locs1 ht hvm _ hBX hz hk hS1 hc hv hcl => ?_) (fun u t H1 locs1 _ _ hpost => absurd hpost id)
  obtain ⟨rfl, hP, hD⟩ := hBX
  rw [ht] at hP
  exact vx_catch X.1.2.2.2.1 pre x suf hsplit hpass hx h0 hlink hcast hc hv hcl (kk _ _ q9 ⟨hP, hD, hS1⟩)
end LAWROWS
