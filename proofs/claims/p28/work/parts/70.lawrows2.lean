/-! rows for the law's own methods: what is made is counted -/
section LAWROWS2
variable {p : Program} {l : Launch} {e : Env} {R : Room} {s : State} {m : MethodId} {args : Array Value} {below : List Frame} {meth : Method} {c : Code} {H : Heap} {locs : List Loc} {cells slots : Nat} {Q : State → Prop}
variable {cc : ByteArray} {nL : Nat} {Ts : List Cond} {own : String} {D : va_G} {cI cG cL : ClassId} {A : Nat → Prop} {EN : State → Heap → Prop} {pc : Nat} {ls : Array Slot} {rest : List Value} {ws : va_W} {tys : List (ClassId × FieldType)}
theorem met_startM {y : MethodName} {wsY wsR : List Cond} {rm : Room} {ret : Option FieldType} {av : List Value} {Qc : Array Value → State → Outcome → State → Prop} {mc ms : Nat} (hE : EnOK EN A) (hy : plainName y.cls = true) (hw : wsY = .code y cc nL ret :: wsR) (hown : y.cls = own) (hlen : (lg_sl av).length ≤ nL)
    (body : ∀ (p : Program) (e : Env) (s : State) (m : MethodId) (args : Array Value) (below : List Frame) (meth : Method) (c : Code) (ls : Array Slot), Cx p s m args c cc nL wsY own D tys A EN → HS D A ws s.heap s.heap [] → lv_has ls nL (lv_args 0 av) → meth.sig.returnType = ret → meth.locks = false → W p l e (headSpec wsY rm).room s m args below meth c s.heap [] 0 0 (MQ below Qc args s mc ms A) (F0 m 0 ls [])) : Met l y wsY rm (WPre D tys A EN ws av) Qc mc ms A := by
  refine Met.ofW (cc := cc) (maxL := nL) (ret := ret) hy hw ?_
  intro p e s m args below meth c s₁ B hml hv
  obtain ⟨rfl, hP, hK, hD0, hEN⟩ := hv
  have hts := atoms_spec (ws := wsY) B.pre
  have hown' : s.vm.findClass own = some m.cls := by rw [← hown]; exact findClass_of_methodNamed B.named
  rw [lg_entry_eq]
  exact body p e s m _ below meth c _ ⟨⟨B.exec, B.bytes, hml, hown', hts⟩, hK, hE, hEN⟩ ⟨hP, hD0, va_S.rf⟩ (lv_entry av hlen) B.returns B.notSynchronized
theorem r_iretM (X : Cx p s m args c cc nL Ts own D tys A EN) (hS : HS D A ws s.heap H locs) (hr : meth.sig.returnType = some .int) (hlk : meth.locks = false) {v : Int32} {mc ms : Nat} (h1 : cells ≤ mc) (h2 : slots ≤ ms) (hdg : decode cc pc = .ok (.ireturn, 1)) : W p l e R s m args below meth c H locs cells slots (MQ below (PI D A ws v) args s mc ms A) (F0 m pc ls [.int v]) :=
  W.widen (k := mc) (n := ms) h1 h2 (W.iret X.1.1 X.1.2.1 hr (fun t ht hW => ⟨⟨v, (), rfl, rfl, by rw [ht]; exact hS.1, hS.2.1⟩, hS.2.2.F ht⟩) hS.2.2.2.2 hdg hlk)
theorem r_zretM (X : Cx p s m args c cc nL Ts own D tys A EN) (hS : HS D A ws s.heap H locs) (hr : meth.sig.returnType = some .boolean) (hlk : meth.locks = false) {v : Int32} (hv : v = 0 ∨ v = 1) {mc ms : Nat} (h1 : cells ≤ mc) (h2 : slots ≤ ms) (hdg : decode cc pc = .ok (.ireturn, 1)) : W p l e R s m args below meth c H locs cells slots (MQ below (PI D A ws v) args s mc ms A) (F0 m pc ls [.int v]) :=
  W.widen (k := mc) (n := ms) h1 h2 (W.zret X.1.1 X.1.2.1 hr (by rcases hv with rfl | rfl <;> rfl) (fun t ht hW => ⟨⟨v, (), rfl, rfl, by rw [ht]; exact hS.1, hS.2.1⟩, hS.2.2.F ht⟩) hS.2.2.2.2 hdg hlk)
theorem r_lretM (X : Cx p s m args c cc nL Ts own D tys A EN) (hS : HS D A ws s.heap H locs) (hr : meth.sig.returnType = some .long) (hlk : meth.locks = false) {v : Int64} {mc ms : Nat} (h1 : cells ≤ mc) (h2 : slots ≤ ms) (hdg : decode cc pc = .ok (.lreturn, 1)) : W p l e R s m args below meth c H locs cells slots (MQ below (PL D A ws v) args s mc ms A) (F0 m pc ls [.long v]) :=
  W.widen (k := mc) (n := ms) h1 h2 (W.lret X.1.1 X.1.2.1 hr (fun t ht hW => ⟨⟨v, (), rfl, rfl, by rw [ht]; exact hS.1, hS.2.1⟩, hS.2.2.F ht⟩) hS.2.2.2.2 hdg hlk)
theorem r_runSW {y : MethodName} {bytes : ByteArray} {maxL n index mc ms : Nat} {ret : Option FieldType} {hh : List (Nat × Nat × Nat × Nat)} {wsY : List Cond} {rm : Room} {Qc : Array Value → State → Outcome → State → Prop} {As st : List Value} (X : Cx p s m args c cc nL Ts own D tys A EN) (hS : HS D A ws s.heap H locs) (hM : Met l y wsY rm (WPre D tys A EN ws As) Qc mc ms A) (cw : vx_CSW R s args own index y bytes maxL ret hh wsY rm mc ms n) (hn : As.length = n) (hl : ls.size = nL) (hst : st = As.reverse ++ rest) (hW : (rest.map fun v => v.category).sum ≤ 8) (hdg : decode cc pc = .ok (.invokestatic index, 3)) (hf : cells + mc ≤ R.cells ∧ slots + ms ≤ R.slots) :
    va_Run p l e R s m args below meth c H locs cells slots mc ms (F0 m pc ls st) rest (Qc As.toArray) A :=
  vx_runSW (As := As) (rest := rest) X.1 hM cw ⟨WPre.blind X.2.2.1, WPre.gives X hS⟩ rfl hn hl hst (lv_room (m := m) (pc := pc) (ls := ls) (rest := st) (st := rest) hW) hdg hf
theorem r_runSm {y : MethodName} {bytes : ByteArray} {maxL n index mc ms : Nat} {ret : Option FieldType} {wsY : List Cond} {rm : Room} {Qc : Array Value → State → Outcome → State → Prop} {As st : List Value} (X : Cx p s m args c cc nL Ts own D tys A EN) (hS : HS D A ws s.heap H locs) (hM : Met l y wsY rm (WPre D tys A EN ws As) Qc mc ms A) (cw : CallB R s args own index y bytes maxL ret wsY rm mc ms n ∧ (Cond.static y).before args s = true) (hn : As.length = n) (hl : ls.size = nL) (hst : st = As.reverse ++ rest) (hW : (rest.map fun v => v.category).sum ≤ 8) (hdg : decode cc pc = .ok (.invokestatic index, 3)) (hf : cells + mc ≤ R.cells ∧ slots + ms ≤ R.slots) :
    va_Run p l e R s m args below meth c H locs cells slots mc ms (F0 m pc ls st) rest (Qc As.toArray) A :=
  va_runS (As := As) (rest := rest) X.1 hM cw ⟨WPre.blind X.2.2.1, WPre.gives X hS⟩ rfl hn hl hst (lv_room (m := m) (pc := pc) (ls := ls) (rest := st) (st := rest) hW) hdg hf
theorem r_runSmN {y : MethodName} {bytes : ByteArray} {maxL n index mc ms sz : Nat} {ret : Option FieldType} {wsY : List Cond} {rm : Room} {Qc : Array Value → State → Outcome → State → Prop} {As st : List Value} (X : Cx p s m args c cc nL Ts own D tys A EN) (hS : HS D A ws s.heap H locs) (hz : sz ≤ s.heap.size) (hM : Met l y wsY rm (WPreN D tys A EN sz ws As) Qc mc ms A) (cw : CallB R s args own index y bytes maxL ret wsY rm mc ms n ∧ (Cond.static y).before args s = true) (hn : As.length = n) (hl : ls.size = nL) (hst : st = As.reverse ++ rest) (hW : (rest.map fun v => v.category).sum ≤ 8) (hdg : decode cc pc = .ok (.invokestatic index, 3)) (hf : cells + mc ≤ R.cells ∧ slots + ms ≤ R.slots) :
    va_Run p l e R s m args below meth c H locs cells slots mc ms (F0 m pc ls st) rest (Qc As.toArray) A :=
  va_runS (As := As) (rest := rest) X.1 hM cw ⟨WPreN.blind X.2.2.1, WPreN.gives X hS hz⟩ rfl hn hl hst (lv_room (m := m) (pc := pc) (ls := ls) (rest := st) (st := rest) hW) hdg hf
theorem r_cim {mc ms : Nat} {a : Array Value} {st0 : List Value} {ws1 : va_W} {r : Int32} (hS : HS D A ws s.heap H locs) (hr : va_Run p l e R s m args below meth c H locs cells slots mc ms (F0 m pc ls st0) rest (PI D A ws1 r a) A)
    (kk : ∀ (H : Heap) (locs : List Loc), HS D A ws1 s.heap H locs → W p l e R s m args below meth c H locs (cells + mc) (slots + ms) Q (F0 m (pc + 3) ls (.int r :: rest))) : W p l e R s m args below meth c H locs cells slots Q (F0 m pc ls st0) := by
  refine va_calli hr hS.2.2 (fun _ _ h => h) (fun _ h => h) (fun r1 u t H1 locs ht hvm hw hB hz hk hS => ?_)
  obtain ⟨hP, hD⟩ := hB
  rw [ht] at hP
  cases hw
  exact kk H1 locs ⟨hP, hD, hS⟩
theorem r_clm {mc ms : Nat} {a : Array Value} {st0 : List Value} {ws1 : va_W} {r : Int64} (hS : HS D A ws s.heap H locs) (hr : va_Run p l e R s m args below meth c H locs cells slots mc ms (F0 m pc ls st0) rest (PL D A ws1 r a) A)
    (kk : ∀ (H : Heap) (locs : List Loc), HS D A ws1 s.heap H locs → W p l e R s m args below meth c H locs (cells + mc) (slots + ms) Q (F0 m (pc + 3) ls (.long r :: rest))) : W p l e R s m args below meth c H locs cells slots Q (F0 m pc ls st0) := by
  refine va_calll hr hS.2.2 (fun _ _ h => h) (fun _ h => h) (fun r1 u t H1 locs ht hvm hw hB hz hk hS => ?_)
  obtain ⟨hP, hD⟩ := hB
  rw [ht] at hP
  cases hw
  exact kk H1 locs ⟨hP, hD, hS⟩
/-- beside what stands outside of the worlds: the script -/
def ENX (b L : Nat) (xs : Nat → Int32) (EN : State → Heap → Prop) : State → Heap → Prop := fun U H => EN U H ∧ va_X b L xs U H
theorem ENX_ok {b L : Nat} {xs : Nat → Int32} (hbA : ¬ A b) (hE : EnOK EN A) : EnOK (ENX b L xs EN) A := by
  obtain ⟨h1, h2, h3, h4⟩ := hE
  refine ⟨fun s U H hW h => ⟨h1 s U H hW h.1, h.2.moved hW.alike⟩, fun U g mk a H h => ⟨h2 U g mk a H h.1, h.2.moved (U := U.calling g mk a) (Vm.Alike.refl U.vm)⟩, fun s H H1 h hq => ⟨h3 s H H1 h.1 hq, ?_⟩, fun s H h => h4 s H h.1⟩
  obtain ⟨scr, g1, g2⟩ := h.2
  have hlt : b < H.size := (Array.getElem?_eq_some_iff.mp g1).1
  exact h.2.kept (hq b hlt hbA)
/-- the script's number k, or one made of k -/
def f_L_lot (xs : Nat → Int32) (L : Nat) (k : Int32) : Option Int32 := if nI L ≤ k then some ((-1816802483) * (k + 2467) + 2273) else if k < 0 ∨ L ≤ k.toNatClampNeg then none else some (xs k.toNatClampNeg)
set_option maxHeartbeats 4000000 in
set_option maxRecDepth 100000 in
theorem c_L_lot (l : Launch) {b L : Nat} {xs : Nat → Int32} {w : Mem → va_W} {ad : Nat → Nat} {k r : Int32} {μ : Mem} (hbA : ¬ A b) (hE : EnOK EN A) (h : f_L_lot xs L k = some r) : Met l yL_lot wsL_lot (rmc 0 0 0 0) (WPre D (tyl cI cG cL) A (ENX b L xs EN) (w μ) [.ref b, .int k]) (PI D A (w μ) r) 0 0 A := by
  have mc7 : Cond.constant RL 7 (-1816802483) ∈ wsL_lot := by decide +kernel
  refine met_startM (cc := cL_lot) (nL := 2) (ret := (some .int)) (own := RL) (ENX_ok hbA hE) (by decide) rfl rfl (Nat.le_of_ble_eq_true rfl) (fun p e s m args below meth c ls X hS hl hr hlk => ?_)
  have hx := X.1.1
  have hb := X.1.2.1
  have hX : va_X b L xs s s.heap := X.2.2.2.2
  have hbl : b < s.heap.size := by
    obtain ⟨scr, g1, g2⟩ := hX
    exact (Array.getElem?_eq_some_iff.mp g1).1
  replace hl : lv_has ls 2 [(0, .ref b), (1, .int k)] := hl
  unfold f_L_lot at h
  refine lv_iload_n hx hb dL_lot_0 rfl (lv_at hl 1 rfl) ?_
  refine lv_aload_n hx hb dL_lot_1 rfl (lv_at hl 0 rfl) ?_
  refine va_slen hx hb hX hbl hbA hS.2.2 dL_lot_2 ?_
  refine lv_icmp_ge (tgt := 12) hx hb dL_lot_3 (by decide) (fun cc => ?_) (fun cc => ?_)
  · replace h := it h cc
    cases h
    refine lv_ldc (v := (-1816802483)) hx hb X.1.2.2.2.1 (X.1.2.2.2.2 _ mc7) dL_lot_12 ?_
    refine lv_iload_n hx hb dL_lot_14 rfl (lv_at hl 1 rfl) ?_
    refine lv_sipush (v := 2467) hx hb dL_lot_15 (by decide) ?_
    refine lv_iadd hx hb dL_lot_18 ?_
    refine lv_imul hx hb dL_lot_19 ?_
    refine lv_sipush (v := 2273) hx hb dL_lot_20 (by decide) ?_
    refine lv_iadd hx hb dL_lot_23 ?_
    exact r_iretM X hS hr hlk (by decide) (by decide) dL_lot_24
  · replace h := ie h cc
    have hin : vp_in k L := by
      intro z
      rw [if_pos z] at h
      cases h
    rw [if_neg hin] at h
    cases h
    refine lv_aload_n hx hb dL_lot_6 rfl (lv_at hl 0 rfl) ?_
    refine lv_iload_n hx hb dL_lot_7 rfl (lv_at hl 1 rfl) ?_
    refine va_sld hx hb hX hbl hbA hS.2.2 hin dL_lot_8 ?_
    refine lv_goto (tgt := 24) hx hb dL_lot_9 (by decide) ?_
    exact r_iretM X hS hr hlk (by decide) (by decide) dL_lot_24
def f_L_low (a0 a1 : Int32) : Option Int32 := if a1 = 0 then none else some ((a0 &&& 2147483647) - (a0 &&& 2147483647) / a1 * a1)
set_option maxHeartbeats 4000000 in
set_option maxRecDepth 100000 in
theorem c_L_low (l : Launch) (hE : EnOK EN A) {w : Mem → va_W} {ad : Nat → Nat} {a0 a1 r : Int32} {μ : Mem} (h : f_L_low a0 a1 = some r) : Met l yL_low wsL_low (rmc 0 0 0 0) (WPre D (tyl cI cG cL) A EN (w μ) [.int a0, .int a1]) (PI D A (w μ) r) 0 0 A := by
  have mc8 : Cond.constant RL 8 2147483647 ∈ wsL_low := by decide +kernel
  refine met_startM (cc := cL_low) (nL := 2) (ret := (some .int)) (own := RL) hE (by decide) rfl rfl (Nat.le_of_ble_eq_true rfl) (fun p e s m args below meth c ls X hS hl hr hlk => ?_)
  have hx := X.1.1
  have hb := X.1.2.1
  replace hl : lv_has ls 2 [(0, .int a0), (1, .int a1)] := hl
  unfold f_L_low at h
  have hne : ¬ a1 = 0 := by
    intro z
    rw [if_pos z] at h
    cases h
  rw [if_neg hne] at h
  cases h
  refine lv_iload_n hx hb dL_low_0 rfl (lv_at hl 0 rfl) ?_
  refine lv_ldc (v := 2147483647) hx hb X.1.2.2.2.1 (X.1.2.2.2.2 _ mc8) dL_low_1 ?_
  refine lv_iand hx hb dL_low_3 ?_
  refine lv_iload_n hx hb dL_low_4 rfl (lv_at hl 1 rfl) ?_
  refine lv_irem hx hb dL_low_5 hne ?_
  exact r_iretM X hS hr hlk (by decide) (by decide) dL_low_6
end LAWROWS2
