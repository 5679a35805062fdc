/-! refuse, which throws; the ends of what throws -/
section EXC2
def f_X6_refuse (a0 : Int32) : Option Unit := if a0 = 1 ∨ a0 = 2 ∨ a0 = 3 then none else some ()
def rfx (v : Int32) : Option Int32 := if v = 1 ∨ v = 2 ∨ v = 3 then some v else none
abbrev rmx (f L : Nat) : Room := { frames := f, cells := 1, slots := 6, locals := L }
def XX (D : va_G) (A : Nat → Prop) (ws : va_W) (r : Int32) : String → State → State → Prop := vx_X (fun (_ : Unit) => True) (fun E _ t => E = exN r ∧ va_P D vwCl ws t.heap ∧ va_D A ws) A
def PNo : Array Value → State → Outcome → State → Prop := va_Qv (fun (_ : Unit) => False) (fun _ _ => True) (fun _ => False)
set_option maxHeartbeats 4000000 in
set_option maxRecDepth 100000 in
theorem c_X6_refuse (l : Launch) {D : va_G} {cI cG cL : ClassId} {A : Nat → Prop} {EN : State → Heap → Prop} (hE : EnOK EN A) {w : Mem → va_W} {ad : Nat → Nat} {a0 : Int32} {μ : Mem} {u : Unit} (h : f_X6_refuse a0 = some u) : Met l yX6_refuse wsX6_refuse (rmk 0 0) (WPre D (tyl cI cG cL) A EN (w μ) [.int a0]) (PV D A (w μ)) 0 0 A := by
  have h0 : ¬ (a0 = 1 ∨ a0 = 2 ∨ a0 = 3) := fun c => by unfold f_X6_refuse at h; rw [if_pos c] at h; cases h
  refine met_start (cc := cX6_refuse) (nL := 1) (ret := none) (own := RX6) hE (by decide) rfl rfl (Nat.le_of_ble_eq_true rfl) (fun p e s m args below meth c ls X hS hl hr hlk => ?_)
  have hx := X.1.1
  have hb := X.1.2.1
  replace hl : lv_has ls 1 [(0, .int a0)] := hl
  refine lv_iload_n hx hb dX6_refuse_0 rfl (lv_at hl 0 rfl) ?_
  refine lv_iconst (v := 1) hx hb dX6_refuse_1 (by decide) ?_
  refine lv_icmp_ne (tgt := 15) hx hb dX6_refuse_2 (by decide) (fun _ => ?_) (fun cc => absurd (Or.inl cc) h0)
  refine lv_iload_n hx hb dX6_refuse_15 rfl (lv_at hl 0 rfl) ?_
  refine lv_iconst (v := 2) hx hb dX6_refuse_16 (by decide) ?_
  refine lv_icmp_ne (tgt := 30) hx hb dX6_refuse_17 (by decide) (fun _ => ?_) (fun cc => absurd (Or.inr (Or.inl cc)) h0)
  refine lv_iload_n hx hb dX6_refuse_30 rfl (lv_at hl 0 rfl) ?_
  refine lv_iconst (v := 3) hx hb dX6_refuse_31 (by decide) ?_
  refine lv_icmp_ne (tgt := 45) hx hb dX6_refuse_32 (by decide) (fun _ => ?_) (fun cc => absurd (Or.inr (Or.inr cc)) h0)
  exact r_vret X hS hr hlk dX6_refuse_45
section ROWS
variable {p : Program} {l : Launch} {e : Env} {R : Room} {s : State} {m : MethodId} {args : Array Value} {below : List Frame} {meth : Method} {c : Code} {H : Heap} {locs : List Loc} {cells slots : Nat} {Q : State → Prop}
variable {cc : ByteArray} {nL : Nat} {Ts : List Cond} {own : String} {D : va_G} {cI cG cL : ClassId} {A : Nat → Prop} {EN : State → Heap → Prop} {pc : Nat} {ls : Array Slot} {rest : List Value} {ws : va_W} {tys : List (ClassId × FieldType)}
theorem met_startX {y : MethodName} {wsY wsR : List Cond} {rm : Room} {ret : Option FieldType} {av : List Value} {Qc : Array Value → State → Outcome → State → Prop} {XC : String → State → State → Prop} {mc ms : Nat} (hE : EnOK EN A) (hy : plainName y.cls = true) (hw : wsY = .code y cc nL ret :: wsR) (hown : y.cls = own) (hlen : (lg_sl av).length ≤ nL)
    (body : ∀ (p : Program) (e : Env) (s : State) (m : MethodId) (args : Array Value) (below : List Frame) (meth : Method) (c : Code) (ls : Array Slot), Cx p s m args c cc nL wsY own D tys A EN → (∀ x ∈ c.exceptionTable.toList, False) → HS D A ws s.heap s.heap [] → lv_has ls nL (lv_args 0 av) → meth.sig.returnType = ret → meth.locks = false → W p l e (headSpec wsY rm).room s m args below meth c s.heap [] 0 0 (vx_MQ below Qc XC args s mc ms A) (F0 m 0 ls [])) : vx_Met l y wsY rm (WPre D tys A EN ws av) Qc XC mc ms A := by
  refine vx_ofW (cc := cc) (maxL := nL) (ret := ret) hy hw ?_
  intro p e s m args below meth c s₁ B hml hout hv
  obtain ⟨rfl, hP, hK, hD0, hEN⟩ := hv
  have hts := atoms_spec (ws := wsY) B.pre
  have hown' : s.vm.findClass own = some m.cls := by rw [← hown]; exact findClass_of_methodNamed B.named
  rw [lg_entry_eq]
  exact body p e s m _ below meth c _ ⟨⟨B.exec, B.bytes, hml, hown', hts⟩, hK, hE, hEN⟩ hout ⟨hP, hD0, va_S.rf⟩ (lv_entry av hlen) B.returns B.notSynchronized
theorem r_refX (X : Cx p s m args c cc nL Ts own D tys A EN) (hS : HS D A ws s.heap H locs) (hout : ∀ x ∈ c.exceptionTable.toList, False) {v r : Int32} {rm : Room} {bytes : ByteArray} {maxL index : Nat} {ret : Option FieldType} {st : List Value} (hM : vx_Met l yX6_refuse wsX6_refuse rm (WPre D tys A EN ws [.int v]) PNo (XX D A ws r) 1 6 A) (cw : CallB R s args own index yX6_refuse bytes maxL ret wsX6_refuse rm 1 6 1 ∧ (Cond.static yX6_refuse).before args s = true) (hl : ls.size = nL) (hst : st = .int v :: rest) (hW : (rest.map fun v => v.category).sum ≤ 8) (hdg : decode cc pc = .ok (.invokestatic index, 3)) (hf : 1 ≤ R.cells ∧ 6 ≤ R.slots) (hlk : meth.locks = false) :
    W p l e R s m args below meth c H locs 0 0 (vx_MQ below PNo (XX D A ws r) args s 1 6 A) (F0 m pc ls st) := by
  refine vx_callv (vx_runS (As := [.int v]) (rest := rest) X.1 hM cw ⟨WPre.blind X.2.2.1, WPre.gives X hS⟩ rfl rfl hl hst (lv_room (m := m) (pc := pc) (ls := ls) (rest := st) (st := rest) hW) hdg ⟨by omega, by omega⟩) hS.2.2 (fun _ _ h => absurd h id) (fun _ h => h) (fun _ _ h => h) (fun E ce q9 u t H1 locs1 ht hvm _ hBX hz hk hS1 hc hv hcl => ?_) (fun u t H1 locs1 _ _ hpost => absurd hpost id)
  obtain ⟨hE, hP, hD⟩ := hBX
  rw [ht] at hP
  exact vx_out (fun x hx => (hout x hx).elim) hlk hc hv hcl (fun t' ht' _ => ⟨(), trivial, ⟨hE, by rw [ht']; exact hP, hD⟩, hS1.F ht'⟩) hS1.2.2 (by omega) (by omega)
end ROWS
set_option maxHeartbeats 8000000 in
set_option maxRecDepth 100000 in
theorem t_X6_refuse (l : Launch) {D : va_G} {cI cG cL : ClassId} {A : Nat → Prop} {tC tS : Nat} {adE adK adV : Nat → Nat} (hE : EnOK (ENV tC tS adE adK adV A) A) {w : Mem → va_W} {ad : Nat → Nat} {a0 : Int32} {μ : Mem} {r : Int32} (hst : l.stackTraces = false) (h : rfx a0 = some r) : vx_Met l yX6_refuse wsX6_refuse (rmx 6 82) (WPre D (tyl cI cG cL) A (ENV tC tS adE adK adV A) (w μ) [.int a0]) PNo (XX D A (w μ) r) 1 6 A := by
  have h0 : (a0 = 1 ∨ a0 = 2 ∨ a0 = 3) ∧ a0 = r := by
    unfold rfx at h
    by_cases c : a0 = 1 ∨ a0 = 2 ∨ a0 = 3
    · rw [if_pos c] at h; exact ⟨c, Option.some.inj h⟩
    · rw [if_neg c] at h; cases h
  obtain ⟨h0, rfl⟩ := h0
  have m1 : ∀ w ∈ (vx_atS RX6 239 xIO ["java/lang/RuntimeException", "java/lang/Exception"]).filter goodWord, w ∈ wsX6_refuse := fun _ h => List.mem_cons_of_mem _ (List.mem_append_left _ (List.mem_append_left _ (List.mem_append_right _ h)))
  have m2 : ∀ w ∈ (vx_atS RX6 246 xIA ["java/lang/RuntimeException", "java/lang/Exception"]).filter goodWord, w ∈ wsX6_refuse := fun _ h => List.mem_cons_of_mem _ (List.mem_append_left _ (List.mem_append_right _ h))
  have m3 : ∀ w ∈ (vx_atS RX6 251 xIS ["java/lang/RuntimeException", "java/lang/Exception"]).filter goodWord, w ∈ wsX6_refuse := fun _ h => List.mem_cons_of_mem _ (List.mem_append_right _ h)
  refine met_startX (cc := cX6_refuse) (nL := 1) (ret := none) (own := RX6) hE (by decide) rfl rfl (Nat.le_of_ble_eq_true rfl) (fun p e s m args below meth c ls X hout hS hl hr hlk => ?_)
  have hx := X.1.1
  have hb := X.1.2.1
  have hcast : ∀ w ∈ castL, w.before args s = true := fun w hw => by
    have h1 := X.env.2.1 w hw
    have h2 := castL_ok w hw
    cases w <;> first | exact va_Nw.use rfl h1 | cases h2
  replace hl : lv_has ls 1 [(0, .int a0)] := hl
  have hend : ∀ (H : Heap) (locs : List Loc), HS D A (w μ) s.heap H locs → ∀ t : State, s.vm.Alike t.vm → H.size ≤ t.heap.size → (∀ q : Nat, q < H.size → t.heap[q]? = H[q]?) → ∀ E, E = exN a0 → XX D A (w μ) a0 E s t := by
    intro H locs hS t _ hz hq E hEE
    exact ⟨(), trivial, ⟨hEE, hS.1.kept (fun k q hk => hq q.1 (vx_lt hS.1 hk)), hS.2.1⟩, Nat.le_trans hS.2.2.1 hz, fun q h1 h2 => (hq q (Nat.lt_of_lt_of_le h1 hS.2.2.1)).trans (hS.2.2.2.1 q h1 h2)⟩
  obtain ⟨s1, s2, s3, g1, g2, g3⟩ := X.env.2.2.2.2.2.2.2.2.2
  obtain ⟨hU, hN⟩ := X.env.2.2.2.2.2.2.2.2.1
  refine lv_iload_n hx hb dX6_refuse_0 rfl (lv_at hl 0 rfl) ?_
  refine lv_iconst (v := 1) hx hb dX6_refuse_1 (by decide) ?_
  refine lv_icmp_ne (tgt := 15) hx hb dX6_refuse_2 (by decide) (fun k1 => ?_) (fun cc => ?_)
  · refine lv_iload_n hx hb dX6_refuse_15 rfl (lv_at hl 0 rfl) ?_
    refine lv_iconst (v := 2) hx hb dX6_refuse_16 (by decide) ?_
    refine lv_icmp_ne (tgt := 30) hx hb dX6_refuse_17 (by decide) (fun k2 => ?_) (fun cc => ?_)
    · have cc : a0 = 3 := by rcases h0 with h | h | h; exact absurd h k1; exact absurd h k2; exact h
      refine lv_iload_n hx hb dX6_refuse_30 rfl (lv_at hl 0 rfl) ?_
      refine lv_iconst (v := 3) hx hb dX6_refuse_31 (by decide) ?_
      refine lv_icmp_ne (tgt := 45) hx hb dX6_refuse_32 (by decide) (fun k3 => absurd cc k3) (fun _ => ?_)
      exact vx_throwS (own := RX6) (cls := xIS) (names := ["java/lang/RuntimeException", "java/lang/Exception"]) (A := A) hx hb hst X.1.2.2.2.1 (by decide +kernel) (by decide +kernel) (X.1.2.2.2.2 (.classLink RX6 247 xIS) (by decide +kernel)) (X.1.2.2.2.2 (.initialized xIS) (by decide +kernel)) g3 (vx_hat (B := castL) (fun w hw => X.1.2.2.2.2 w (m3 w hw)) (by decide +kernel) hcast) (by decide +kernel) hU hN hS.2.2 (hl.1.trans X.1.2.2.1.symm) dX6_refuse_35 dX6_refuse_38 dX6_refuse_39 dX6_refuse_41 dX6_refuse_44 (fun x hx => (hout x hx).elim) (Nat.le_of_ble_eq_true rfl) (Nat.le_of_ble_eq_true rfl) (Nat.le_of_ble_eq_true rfl) (Nat.le_of_ble_eq_true rfl) hlk (fun t h1 h2 h3 => hend _ _ hS t h1 h2 h3 xIS (by rw [cc]; rfl)) hS.2.2.2.2 (Nat.le_refl _) (Nat.le_refl _)
    · exact vx_throwS (own := RX6) (cls := xIA) (names := ["java/lang/RuntimeException", "java/lang/Exception"]) (A := A) hx hb hst X.1.2.2.2.1 (by decide +kernel) (by decide +kernel) (X.1.2.2.2.2 (.classLink RX6 242 xIA) (by decide +kernel)) (X.1.2.2.2.2 (.initialized xIA) (by decide +kernel)) g2 (vx_hat (B := castL) (fun w hw => X.1.2.2.2.2 w (m2 w hw)) (by decide +kernel) hcast) (by decide +kernel) hU hN hS.2.2 (hl.1.trans X.1.2.2.1.symm) dX6_refuse_20 dX6_refuse_23 dX6_refuse_24 dX6_refuse_26 dX6_refuse_29 (fun x hx => (hout x hx).elim) (Nat.le_of_ble_eq_true rfl) (Nat.le_of_ble_eq_true rfl) (Nat.le_of_ble_eq_true rfl) (Nat.le_of_ble_eq_true rfl) hlk (fun t h1 h2 h3 => hend _ _ hS t h1 h2 h3 xIA (by rw [cc]; rfl)) hS.2.2.2.2 (Nat.le_refl _) (Nat.le_refl _)
  · exact vx_throwS (own := RX6) (cls := xIO) (names := ["java/lang/RuntimeException", "java/lang/Exception"]) (A := A) hx hb hst X.1.2.2.2.1 (by decide +kernel) (by decide +kernel) (X.1.2.2.2.2 (.classLink RX6 235 xIO) (by decide +kernel)) (X.1.2.2.2.2 (.initialized xIO) (by decide +kernel)) g1 (vx_hat (B := castL) (fun w hw => X.1.2.2.2.2 w (m1 w hw)) (by decide +kernel) hcast) (by decide +kernel) hU hN hS.2.2 (hl.1.trans X.1.2.2.1.symm) dX6_refuse_5 dX6_refuse_8 dX6_refuse_9 dX6_refuse_11 dX6_refuse_14 (fun x hx => (hout x hx).elim) (Nat.le_of_ble_eq_true rfl) (Nat.le_of_ble_eq_true rfl) (Nat.le_of_ble_eq_true rfl) (Nat.le_of_ble_eq_true rfl) hlk (fun t h1 h2 h3 => hend _ _ hS t h1 h2 h3 xIO (by rw [cc]; rfl)) hS.2.2.2.2 (Nat.le_refl _) (Nat.le_refl _)
end EXC2
