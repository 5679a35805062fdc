/-! constructors: rows for objects and arrays that are made; a world is a prefix, the new object, and what it has made so far -/
section CTOR
variable {p : Program} {l : Launch} {e : Env} {R : Room} {s : State} {m : MethodId} {args : Array Value} {below : List Frame} {meth : Method} {c : Code} {H : Heap} {locs : List Loc} {cells slots : Nat} {Q : State → Prop}
variable {cc : ByteArray} {nL : Nat} {Ts : List Cond} {own : String} {D : va_G} {cI cG cL : ClassId} {A : Nat → Prop} {EN : State → Heap → Prop} {pc : Nat} {ls : Array Slot} {rest : List Value} {ws : va_W}
abbrev rmc (f cs sl L : Nat) : Room := { frames := f, cells := cs, slots := sl, locals := L }
def WPreN (D : va_G) (tys : List (ClassId × FieldType)) (A : Nat → Prop) (EN : State → Heap → Prop) (sz : Nat) (ws : va_W) (av : List Value) : Array Value → State → Prop := va_Pc av (fun U => sz ≤ U.heap.size ∧ va_P D vwCl ws U.heap ∧ va_K D vwCl tys U ∧ va_D A ws ∧ EN U U.heap)
def PN {S : Type} (D : va_G) (A : Nat → Prop) (post : S → Prop) (f : S → va_W) : Array Value → State → Outcome → State → Prop := va_Qv post (fun u t => va_P D vwCl (f u) t.heap ∧ va_D A (f u)) A
theorem WPreN.blind {tys : List (ClassId × FieldType)} {av : List Value} {sz : Nat} (hE : EnOK EN A) : FrameBlind (WPreN D tys A EN sz ws av) := fun a U g mk q => by
  obtain ⟨q0, qz, qP, qK, qD, qE⟩ := q
  exact ⟨q0, qz, qP, va_K.moved (u := U) (U := U.calling g mk a) (Vm.Alike.refl U.vm) qK, qD, hE.2.1 U g mk a _ qE⟩
theorem WPreN.gives {tys : List (ClassId × FieldType)} {av : List Value} {sz : Nat} (X : Cx p s m args c cc nL Ts own D tys A EN) (hS : HS D A ws s.heap H locs) (hz : sz ≤ s.heap.size) : ∀ U : State, U.heap = H → s.WarmedH U.vm → WPreN D tys A EN sz ws av av.toArray U := fun U hU hW =>
  ⟨rfl, by rw [hU]; exact Nat.le_trans hz hS.2.2.1, by rw [hU]; exact hS.1, va_K.moved hW.alike X.2.1, hS.2.1, by rw [hU]; exact X.2.2.1.1 s U H hW (hS.env X)⟩
theorem met_startN {y : MethodName} {wsY wsR : List Cond} {rm : Room} {mc ms sz : Nat} {tys : List (ClassId × FieldType)} {av : List Value} {Qc : Array Value → State → Outcome → State → Prop} (hE : EnOK EN A) (hy : plainName y.cls = true) (hw : wsY = .code y cc nL none :: wsR) (hown : y.cls = own) (hlen : (lg_sl av).length ≤ nL)
    (body : ∀ (p : Program) (e : Env) (s : State) (m : MethodId) (args : Array Value) (below : List Frame) (meth : Method) (c : Code) (ls : Array Slot), Cx p s m args c cc nL wsY own D tys A EN → sz ≤ s.heap.size → HS D A ws s.heap s.heap [] → lv_has ls nL (lv_args 0 av) → meth.sig.returnType = none → meth.locks = false → meth.name = y.name → W p l e (headSpec wsY rm).room s m args below meth c s.heap [] 0 0 (MQ below Qc args s mc ms A) (F0 m 0 ls [])) : Met l y wsY rm (WPreN D tys A EN sz ws av) Qc mc ms A := by
  refine Met.ofW (cc := cc) (maxL := nL) (ret := none) hy hw ?_
  intro p e s m args below meth c s₁ B hml hv
  obtain ⟨rfl, hz, hP, hK, hD0, hEN⟩ := hv
  have hts := atoms_spec (ws := wsY) B.pre
  have hown' : s.vm.findClass own = some m.cls := by rw [← hown]; exact findClass_of_methodNamed B.named
  rw [lg_entry_eq]
  exact body p e s m _ below meth c _ ⟨⟨B.exec, B.bytes, hml, hown', hts⟩, hK, hE, hEN⟩ hz ⟨hP, hD0, va_S.rf⟩ (lv_entry av hlen) B.returns B.notSynchronized (name_of_methodNamed B.named B.method).1
theorem r_oi {tys : List (ClassId × FieldType)} (X : Cx p s m args c cc nL Ts own D tys A EN) {idx a : Nat} (hlink : Cond.methodLink own idx Lib.objectInit ∈ Ts) (hinst : Cond.instanceMethod Lib.objectInit ∈ Ts) (hcode : Cond.code Lib.objectInit ⟨#[0xb1]⟩ 1 none ∈ Ts) (hl : ls.size = nL) (hdg : decode cc pc = .ok (.invokespecial idx, 3)) (hR : 1 ≤ R.frames ∧ 12 ≤ R.locals)
    (kk : W p l e R s m args below meth c H locs cells slots Q (F0 m (pc + 3) ls [])) : W p l e R s m args below meth c H locs cells slots Q (F0 m pc ls [.ref a]) :=
  W.objInit (rest := []) X.1.1 X.1.2.1 X.1.2.2.2.1 (X.1.2.2.2.2 _ hlink) (X.1.2.2.2.2 _ hinst) (X.1.2.2.2.2 _ hcode) rfl (by rw [X.1.2.2.1]; exact hl) rfl hdg hR.1 hR.2 kk
theorem r_newa (X : Cx p s m args c cc nL Ts own D (tyl cI cG cL) A EN) {pre tl : va_W} {x : Nat × va_E} (hS : HS D A (pre ++ x :: tl) s.heap H locs) (hA : ∀ q, s.heap.size ≤ q → A q) (harr : Cond.arrayClass .int ∈ Ts) {n : Int32} (N' : Nat) (hn : ¬ n < 0) (hN : n.toNatClampNeg = N') (hbytes : N' * 4 ≤ 536870912) (hcells : cells + 1 ≤ R.cells) (hslots : slots + N' ≤ R.slots) (hdg : decode cc pc = .ok (.newarray .int, 2))
    (kk : ∀ (q : Nat) (H : Heap), HS D A (pre ++ x :: (tl ++ [(q, .inl (cI, N', .inl (fun _ => 0)))])) s.heap H locs → W p l e R s m args below meth c H locs (cells + 1) (slots + N') Q (F0 m (pc + 2) ls (.ref q :: rest))) : W p l e R s m args below meth c H locs cells slots Q (F0 m pc ls (.int n :: rest)) := by
  refine va_newa (atype := .int) (ty := .int) (a0 := (N', .inl (fun _ => 0))) X.1.1 X.1.2.1 (X.1.2.2.2.2 _ harr) rfl X.2.1 hS.1 hS.2.1 hS.2.2 hA (fun _ => rfl) hn hN hbytes hcells hslots hdg (fun q cA H1 hK hP hD hS1 => ?_)
  have h1 : s.vm.findClass ("[" ++ FieldType.int.toString) = some cA := (hK.2 3 (cA, .int) rfl).2
  have h2 : s.vm.findClass ("[" ++ FieldType.int.toString) = some cI := (hK.2 0 (cI, .int) rfl).2
  rw [h1] at h2
  cases h2
  refine kk q H1 ?_
  have ee : pre ++ x :: (tl ++ [(q, .inl (cI, N', .inl (fun _ => 0)))]) = (pre ++ x :: tl) ++ [(q, .inl (cI, N', .inl (fun _ => 0)))] := by simp
  rw [ee]
  exact ⟨hP, hD, hS1⟩
theorem r_newg (X : Cx p s m args c cc nL Ts own D (tyl cI cG cL) A EN) {pre tl : va_W} {x : Nat × va_E} (hS : HS D A (pre ++ x :: tl) s.heap H locs) (hA : ∀ q, s.heap.size ≤ q → A q) {index : Nat} (hcl : Cond.classLink own index "PageGarden$Garden" ∈ Ts) (hao : va_AO "PageGarden$Garden" s) {n : Int32} (N' : Nat) (hn : ¬ n < 0) (hN : n.toNatClampNeg = N') (hbytes : N' * 4 ≤ 536870912) (hcells : cells + 1 ≤ R.cells) (hslots : slots + N' ≤ R.slots) (hdg : decode cc pc = .ok (.anewarray index, 3))
    (kk : ∀ (q : Nat) (H : Heap), HS D A (pre ++ x :: (tl ++ [(q, .inl (cG, N', .inr (.inr (.inr (.inr (fun _ => none))))))])) s.heap H locs → W p l e R s m args below meth c H locs (cells + 1) (slots + N') Q (F0 m (pc + 3) ls (.ref q :: rest))) : W p l e R s m args below meth c H locs cells slots Q (F0 m pc ls (.int n :: rest)) := by
  refine va_newq (C := "PageGarden$Garden") X.1.1 X.1.2.1 X.1.2.2.2.1 (X.1.2.2.2.2 _ hcl) hao X.2.1 hS.1 hS.2.1 hS.2.2 hA hn hN hbytes hcells hslots hdg (fun q cA H1 hK hP hD hS1 => ?_)
  obtain ⟨-, -, -, -, -, h1⟩ := (hK.2 3 (cA, .object "PageGarden$Garden") rfl).2
  obtain ⟨-, -, -, -, -, h2⟩ := (hK.2 1 (cG, .object "PageGarden$Garden") rfl).2
  rw [h1] at h2
  cases h2
  refine kk q H1 ?_
  have ee : pre ++ x :: (tl ++ [(q, .inl (cG, N', .inr (.inr (.inr (.inr (fun _ => none))))))]) = (pre ++ x :: tl) ++ [(q, .inl (cG, N', .inr (.inr (.inr (.inr (fun _ => none))))))] := by simp
  rw [ee]
  exact ⟨hP, hD, hS1⟩
theorem r_new {tys : List (ClassId × FieldType)} (X : Cx p s m args c cc nL Ts own D tys A EN) {pre tl : va_W} {x : Nat × va_E} (hS : HS D A (pre ++ x :: tl) s.heap H locs) (hA : ∀ q, s.heap.size ≤ q → A q) {C : String} {T : u_T} {N ci index : Nat} (hin : ∀ w ∈ u_ws C T N, w ∈ Ts) (ty : Nat → FieldType) (hty : ∀ k, k < N → parseFieldDescriptor (T k).2.2.1 = some (ty k)) (hcl : Cond.classLink own index C ∈ Ts) (hinst : Cond.instantiable C N ∈ Ts) (hini : Cond.initialized C ∈ Ts) (hc : vwCl[ci]? = some (C, T, N)) (fs : List Value) (hfs : ∀ j, j < N → defaultValue (ty j) = vp_V fs j) (hcells : cells + 1 ≤ R.cells) (hslots : slots + N ≤ R.slots) (hdg : decode cc pc = .ok (.new index, 3))
    (kk : ∀ (q : Nat) (H : Heap), HS D A (pre ++ x :: (tl ++ [(q, .inr (ci, fs))])) s.heap H locs → W p l e R s m args below meth c H locs (cells + 1) (slots + N) Q (F0 m (pc + 3) ls (.ref q :: rest))) : W p l e R s m args below meth c H locs cells slots Q (F0 m pc ls rest) := by
  refine va_new X.1.1 X.1.2.1 X.1.2.2.2.2 hin ty hty X.1.2.2.2.1 (X.1.2.2.2.2 _ hcl) (X.1.2.2.2.2 _ hinst) (X.1.2.2.2.2 _ hini) X.2.1 hS.1 hS.2.1 hS.2.2 hA hc hfs hcells hslots hdg (fun q H1 hP hD hS1 => ?_)
  refine kk q H1 ?_
  have ee : pre ++ x :: (tl ++ [(q, .inr (ci, fs))]) = (pre ++ x :: tl) ++ [(q, .inr (ci, fs))] := by simp
  rw [ee]
  exact ⟨hP, hD, hS1⟩
theorem gp0 {α : Type} {pre tl : List α} {x : α} : (pre ++ x :: tl)[pre.length]? = some x := by simp
theorem sp0 {α : Type} {pre tl : List α} {x y : α} : (pre ++ x :: tl).set pre.length y = pre ++ y :: tl := by simp
theorem gpk {α : Type} {pre tl : List α} (k : Nat) : (pre ++ tl)[pre.length + k]? = tl[k]? := by rw [List.getElem?_append_right (by omega)]; congr 1; omega
theorem spk {α : Type} {pre tl : List α} (k : Nat) (y : α) : (pre ++ tl).set (pre.length + k) y = pre ++ tl.set k y := by rw [List.set_append_right _ _ (by omega)]; congr 2; omega
theorem r_pF {tys : List (ClassId × FieldType)} (X : Cx p s m args c cc nL Ts own D tys A EN) {pre tl : va_W} {a ci : Nat} {fs : List Value} (hS : HS D A (pre ++ (a, .inr (ci, fs)) :: tl) s.heap H locs) {C : String} {T : u_T} {N k index : Nat} (hc : vwCl[ci]? = some (C, T, N)) (hin : ∀ w ∈ u_ws C T N, w ∈ Ts) (ty0 : Nat → FieldType) (hty : ∀ k, k < N → parseFieldDescriptor (T k).2.2.1 = some (ty0 k)) (hnm : ∀ a, a < N → ∀ b, b < N → a ≠ b → (T a).2.1 ≠ (T b).2.1) (hk : k < N) (hlink : Cond.fieldLink own index (T k).1 (T k).2.1 (T k).2.2.1 ∈ Ts) (hfin : (T k).2.2.2 = true) (hin2 : meth.name = "<init>") (hdecl : (T k).1 = own) {v : Value} (hn : narrow (ty0 k) v = v) (hfit : fits (ty0 k) v = true) (hl : k < fs.length) (hdg : decode cc pc = .ok (.putfield index, 3))
    (kk : ∀ (H : Heap) (locs : List Loc), HS D A (pre ++ (a, .inr (ci, fs.set k v)) :: tl) s.heap H locs → W p l e R s m args below meth c H locs cells slots Q (F0 m (pc + 3) ls rest)) : W p l e R s m args below meth c H locs cells slots Q (F0 m pc ls (v :: .ref a :: rest)) := by
  refine va_putF (ref := (T k).1) X.1.1 X.1.2.1 X.1.2.2.2.2 hin ty0 hty hnm X.1.2.2.2.1 X.2.1 hS.1 hS.2.1 hS.2.2 pre.length gp0 hc k hk (X.1.2.2.2.2 _ hlink) (fun _ h => h) hfin hin2 hdecl (hty k hk) hn hfit hl hdg (fun H locs hP hD hS => ?_)
  rw [sp0] at hP hD
  exact kk H locs ⟨hP, hD, hS⟩
theorem r_pL {tys : List (ClassId × FieldType)} (X : Cx p s m args c cc nL Ts own D tys A EN) {pre tl : va_W} {a ci : Nat} {fs : List Value} (hS : HS D A (pre ++ (a, .inr (ci, fs)) :: tl) s.heap H locs) {C : String} {T : u_T} {N k index : Nat} (hc : vwCl[ci]? = some (C, T, N)) (hin : ∀ w ∈ u_ws C T N, w ∈ Ts) (ty0 : Nat → FieldType) (hty : ∀ k, k < N → parseFieldDescriptor (T k).2.2.1 = some (ty0 k)) (hnm : ∀ a, a < N → ∀ b, b < N → a ≠ b → (T a).2.1 ≠ (T b).2.1) (hk : k < N) (hlink : Cond.fieldLink own index (T k).1 (T k).2.1 (T k).2.2.1 ∈ Ts) (hfin : (T k).2.2.2 = false) {v : Value} (hn : narrow (ty0 k) v = v) (hfit : fits (ty0 k) v = true) (hl : k < fs.length) (hdg : decode cc pc = .ok (.putfield index, 3))
    (kk : ∀ (H : Heap) (locs : List Loc), HS D A (pre ++ (a, .inr (ci, fs.set k v)) :: tl) s.heap H locs → W p l e R s m args below meth c H locs cells slots Q (F0 m (pc + 3) ls rest)) : W p l e R s m args below meth c H locs cells slots Q (F0 m pc ls (v :: .ref a :: rest)) := by
  refine va_put (ref := (T k).1) X.1.1 X.1.2.1 X.1.2.2.2.2 hin ty0 hty hnm X.1.2.2.2.1 X.2.1 hS.1 hS.2.1 hS.2.2 pre.length gp0 hc k hk (X.1.2.2.2.2 _ hlink) (fun _ h => h) hfin (hty k hk) hn hfit hl hdg (fun H locs hP hD hS => ?_)
  rw [sp0] at hP hD
  exact kk H locs ⟨hP, hD, hS⟩
theorem r_ast (X : Cx p s m args c cc nL Ts own D (tyl cI cG cL) A EN) {pre tl : va_W} {x : Nat × va_E} {a : Nat} {f : Nat → Option Nat} (hS : HS D A (pre ++ x :: (a, .inl (cG, 4, .inr (.inr (.inr (.inr f))))) :: tl) s.heap H locs) {k v : Nat} {vs : List Value} (hv : tl[k]? = some (v, .inr (2, vs))) {i : Int32} (hin : vp_in i 4) (hdg : decode cc pc = .ok (.aastore, 1))
    (kk : ∀ (H : Heap) (locs : List Loc), HS D A (pre ++ x :: (a, .inl (cG, 4, .inr (.inr (.inr (.inr (va_up f i.toNatClampNeg (some v))))))) :: tl) s.heap H locs → W p l e R s m args below meth c H locs cells slots Q (F0 m (pc + 1) ls rest)) : W p l e R s m args below meth c H locs cells slots Q (F0 m pc ls (.ref v :: .int i :: .ref a :: rest)) := by
  refine va_astq (r := (RX4, TX4, 10)) X.1.1 X.1.2.1 X.2.1 hS.1 hS.2.1 hS.2.2 (pre.length + 1) 1 (pre.length + (k + 2)) 2 ((gpk 1).trans rfl) rfl ((gpk (k + 2)).trans hv) rfl hin hdg (fun H1 locs1 hP hD hS => ?_)
  rw [spk] at hP hD
  exact kk H1 locs1 ⟨hP, hD, hS⟩
section RUNN
variable {y : MethodName} {bytes : ByteArray} {maxL index mc ms sz : Nat} {wsY : List Cond} {rm : Room} {Qc : Array Value → State → Outcome → State → Prop} {b : Addr} {tys : List (ClassId × FieldType)}
theorem r_runI (X : Cx p s m args c cc nL Ts own D tys A EN) (hS : HS D A ws s.heap H locs) (hz : sz ≤ s.heap.size) (hM : Met l y wsY rm (WPreN D tys A EN sz ws [.ref b]) Qc mc ms A) (cw : CallB R s args own index y bytes maxL none wsY rm mc ms 0 ∧ y.name = "<init>" ∧ (Cond.instanceMethod y).before args s = true) (hl : ls.size = nL) (hW : (rest.map fun v => v.category).sum ≤ 8) (hdg : decode cc pc = .ok (.invokespecial index, 3)) (hf : cells + mc ≤ R.cells ∧ slots + ms ≤ R.slots) :
    va_Run p l e R s m args below meth c H locs cells slots mc ms (F0 m pc ls (.ref b :: rest)) rest (Qc #[.ref b]) A :=
  va_runI (As := []) (rest := rest) X.1 hM cw ⟨WPreN.blind X.2.2.1, WPreN.gives X hS hz⟩ rfl rfl hl rfl (lv_room (m := m) (pc := pc) (ls := ls) (rest := .ref b :: rest) (st := rest) hW) hdg hf
theorem r_runIN {host : String} (X : Cx p s m args c cc nL Ts own D tys A EN) (hS : HS D A ws s.heap H locs) (hz : sz ≤ s.heap.size) (hM : Met l y wsY rm (WPreN D tys A EN sz ws [.ref b]) Qc mc ms A) (cw : va_CN R s args own index y host bytes maxL none wsY rm mc ms 0) (hn : y.name = "<init>") (hinst : (Cond.instanceMethod y).before args s = true) (hl : ls.size = nL) (hW : (rest.map fun v => v.category).sum ≤ 8) (hdg : decode cc pc = .ok (.invokespecial index, 3)) (hf : cells + mc ≤ R.cells ∧ slots + ms ≤ R.slots) :
    va_Run p l e R s m args below meth c H locs cells slots mc ms (F0 m pc ls (.ref b :: rest)) rest (Qc #[.ref b]) A :=
  va_runIN (As := []) (rest := rest) X.1 hM ⟨cw, hn, hinst⟩ ⟨WPreN.blind X.2.2.1, WPreN.gives X hS hz⟩ rfl rfl hl rfl (lv_room (m := m) (pc := pc) (ls := ls) (rest := .ref b :: rest) (st := rest) hW) hdg hf
theorem r_cN {S : Type} {post : S → Prop} {f : S → va_W} {a : Array Value} {st0 : List Value} (hS : HS D A ws s.heap H locs) (hr : va_Run p l e R s m args below meth c H locs cells slots mc ms (F0 m pc ls st0) rest (PN D A post f a) A)
    (kk : ∀ (u : S) (H : Heap) (locs : List Loc), post u → HS D A (f u) s.heap H locs → W p l e R s m args below meth c H locs (cells + mc) (slots + ms) Q (F0 m (pc + 3) ls rest)) : W p l e R s m args below meth c H locs cells slots Q (F0 m pc ls st0) := by
  refine va_callv hr hS.2.2 (fun _ _ h => h) (fun _ h => h) (fun u t H1 locs ht hvm hw hB hz hk hS => ?_)
  obtain ⟨hP, hD⟩ := hB
  rw [ht] at hP
  exact kk u H1 locs hw ⟨hP, hD, hS⟩
theorem r_retN {S : Type} {post : S → Prop} {f : S → va_W} (X : Cx p s m args c cc nL Ts own D tys A EN) (u : S) (hp : post u) (hS : HS D A (f u) s.heap H locs) (hr : meth.sig.returnType = none) (hlk : meth.locks = false) (hdg : decode cc pc = .ok (.return_, 1)) : W p l e R s m args below meth c H locs mc ms (MQ below (PN D A post f) args s mc ms A) (F0 m pc ls []) :=
  W.vret X.1.1 X.1.2.1 hr (fun t ht hW => ⟨⟨u, rfl, hp, by rw [ht]; exact hS.1, hS.2.1⟩, hS.2.2.F ht⟩) hS.2.2.2.2 hdg hlk
end RUNN
def adl (b : Nat) (L : List Nat) : Nat → Nat := fun k => L.getD (k - b) 0
theorem adl_0 {b : Nat} {L : List Nat} : adl b L b = L.getD 0 0 := by simp [adl]
theorem adl_i {b i : Nat} {L : List Nat} : adl b L (b + i) = L.getD i 0 := by simp [adl]
def pw {α : Type} (n : Nat) (f g : Nat → α) : Nat → α := fun k => if k < n then f k else g k
theorem pw_l {α : Type} {n k : Nat} {f g : Nat → α} (h : k < n) : pw n f g k = f k := if_pos h
theorem pw_r {α : Type} {n k : Nat} {f g : Nat → α} (h : n ≤ k) : pw n f g k = g k := if_neg (by omega)
def zμ : Mem := fun _ _ => 0
theorem HS.cast {w1 w2 : va_W} {H0 : Heap} (h : HS D A w1 H0 H locs) (e : w2 = w1) : HS D A w2 H0 H locs := e ▸ h
end CTOR
section CTORC
variable {cI cG : ClassId} {ad ad1 adE adE1 : Nat → Nat} {μ μ1 : Mem} {b : Nat}
set_option maxHeartbeats 2000000 in
theorem cBeds_cg (h : ∀ k, b ≤ k → k < b + 10 → ad k = ad1 k ∧ μ k = μ1 k) : cBeds cI ad b μ = cBeds cI ad1 b μ1 := by
  have e0 := h b (Nat.le_refl _) (by omega)
  have e1 := h (b + 1) (by omega) (by omega)
  have e2 := h (b + 2) (by omega) (by omega)
  have e3 := h (b + 3) (by omega) (by omega)
  have e4 := h (b + 4) (by omega) (by omega)
  have e5 := h (b + 5) (by omega) (by omega)
  have e6 := h (b + 6) (by omega) (by omega)
  have e7 := h (b + 7) (by omega) (by omega)
  have e8 := h (b + 8) (by omega) (by omega)
  have e9 := h (b + 9) (by omega) (by omega)
  unfold cBeds fsBeds
  rw [e0.1, e1.1, e2.1, e3.1, e4.1, e5.1, e6.1, e7.1, e8.1, e9.1, e1.2, e2.2, e3.2, e4.2, e5.2, e6.2, e7.2, e8.2, e9.2]
theorem cRows_cg (h : ∀ k, b ≤ k → k < b + 16 → ad k = ad1 k ∧ μ k = μ1 k) : cRows cI ad b μ = cRows cI ad1 b μ1 := by
  have e1 := h (b + 11) (by omega) (by omega)
  have e2 := h (b + 12) (by omega) (by omega)
  have e3 := h (b + 13) (by omega) (by omega)
  have e4 := h (b + 14) (by omega) (by omega)
  have e5 := h (b + 15) (by omega) (by omega)
  unfold cRows
  rw [e1.1, e2.1, e3.1, e4.1, e5.1, e1.2, e2.2, e3.2, e4.2, e5.2]
theorem cGarden_cg (h : ∀ k, b ≤ k → k < b + 16 → ad k = ad1 k ∧ μ k = μ1 k) : cGarden cI ad b μ = cGarden cI ad1 b μ1 := by
  have e0 := h b (Nat.le_refl _) (by omega)
  have eb := h (b + 1) (by omega) (by omega)
  have e1 := h (b + 11) (by omega) (by omega)
  have e2 := h (b + 12) (by omega) (by omega)
  have e3 := h (b + 13) (by omega) (by omega)
  have e4 := h (b + 14) (by omega) (by omega)
  have e5 := h (b + 15) (by omega) (by omega)
  unfold cGarden fsGarden
  rw [cRows_cg h, cBeds_cg (ad1 := ad1) (μ1 := μ1) (fun k h1 h2 => h k (by omega) (by omega)), e0.1, e0.2, eb.1, e1.1, e2.1, e3.1, e4.1, e5.1]
theorem cText_cg (h : ∀ k, b ≤ k → k < b + 2 → ad k = ad1 k ∧ μ k = μ1 k) : cText cI adE ad b μ = cText cI adE ad1 b μ1 := by
  have e0 := h b (Nat.le_refl _) (by omega)
  have e1 := h (b + 1) (by omega) (by omega)
  unfold cText fsText
  rw [e0.1, e0.2, e1.1, e1.2]
def cHistF (cI cG : ClassId) (F : Nat → Option Nat) (ad : Nat → Nat) (q : Nat) (μ : Mem) : va_W := (ad q, .inr (3, fsHist ad q (μ q))) :: (ad (q + 1), .inl (cG, 4, .inr (.inr (.inr (.inr F))))) :: (cGarden cI ad (q + 2) μ ++ (cGarden cI ad (q + 18) μ ++ (cGarden cI ad (q + 34) μ ++ cGarden cI ad (q + 50) μ)))
theorem cHistF_eq : cHistF cI cG (histRow ad b) ad b μ = cHist cI cG ad b μ := rfl
theorem cHistF_cg {F : Nat → Option Nat} (h : ∀ k, b ≤ k → k < b + 66 → ad k = ad1 k ∧ μ k = μ1 k) : cHistF cI cG F ad b μ = cHistF cI cG F ad1 b μ1 := by
  have e0 := h b (Nat.le_refl _) (by omega)
  have e1 := h (b + 1) (by omega) (by omega)
  unfold cHistF fsHist
  rw [cGarden_cg (b := b + 2) (ad1 := ad1) (μ1 := μ1) (fun k h1 h2 => h k (by omega) (by omega)), cGarden_cg (b := b + 18) (ad1 := ad1) (μ1 := μ1) (fun k h1 h2 => h k (by omega) (by omega)), cGarden_cg (b := b + 34) (ad1 := ad1) (μ1 := μ1) (fun k h1 h2 => h k (by omega) (by omega)), cGarden_cg (b := b + 50) (ad1 := ad1) (μ1 := μ1) (fun k h1 h2 => h k (by omega) (by omega)), e0.1, e0.2, e1.1]
theorem vp_refs_cg {cA : ClassId} {n : Nat} {f g : Nat → Option Nat} (h : ∀ j, j < n → f j = g j) : vp_cell cA (n, .inr (.inr (.inr (.inr f)))) = vp_cell cA (n, .inr (.inr (.inr (.inr g)))) := by
  have e : (Array.ofFn (n := n) fun j => va_rf (f j.val)) = Array.ofFn (n := n) fun j => va_rf (g j.val) := by
    congr 1
    funext j
    rw [h j.val j.isLt]
  show ({ cls := cA, slots := Array.ofFn (n := n) fun j => va_rf (f j.val), vm := .none } : Cell) = { cls := cA, slots := Array.ofFn (n := n) fun j => va_rf (g j.val), vm := .none }
  rw [e]
theorem HS.refs {D : va_G} {A : Nat → Prop} {H0 H : Heap} {locs : List Loc} {l1 l2 : va_W} {a n : Nat} {f g : Nat → Option Nat} (hS : HS D A (l1 ++ (a, .inl (cG, n, .inr (.inr (.inr (.inr f))))) :: l2) H0 H locs) (h : ∀ j, j < n → f j = g j) : HS D A (l1 ++ (a, .inl (cG, n, .inr (.inr (.inr (.inr g))))) :: l2) H0 H locs := by
  obtain ⟨hP, hD, hS⟩ := hS
  rw [← sp0 (x := (a, .inl (cG, n, .inr (.inr (.inr (.inr f))))))]
  refine ⟨fun k q hk => ?_, va_D.set hD gp0, hS⟩
  rw [List.getElem?_set] at hk
  by_cases c : l1.length = k
  · subst c
    rw [if_pos rfl] at hk
    split at hk
    · cases hk
      have q := hP l1.length _ gp0
      show H[a]? = some (vp_cell cG (n, .inr (.inr (.inr (.inr g)))))
      rw [← vp_refs_cg h]
      exact q
    · cases hk
  · rw [if_neg c] at hk
    exact hP k q hk
def gad (b h0 : Nat) (ad1 : Nat → Nat) (L : List Nat) : Nat → Nat := pw (b + 1) (fun _ => h0) (pw (b + 11) ad1 (adl (b + 11) L))
def gmem (b : Nat) (μb : Mem) : Mem := pw (b + 1) zμ (pw (b + 11) μb zμ)
theorem gad_0 {h0 : Nat} {L : List Nat} : gad b h0 ad1 L b = h0 := pw_l (by omega)
theorem cGarden_mk {h0 q1 q2 q3 q4 q5 : Nat} {μb : Mem} : cGarden cI (gad b h0 ad1 [q1, q2, q3, q4, q5]) b (gmem b μb) = (h0, .inr (2, [.ref (ad1 (b + 1)), .ref q1, .ref q2, .ref q3, .ref q4, .ref q5, .int 0, .int 0, .int 0, .int 0])) :: (cBeds cI ad1 (b + 1) μb ++ [(q1, .inl (cI, 2, .inl fun _ => 0)), (q2, .inl (cI, 2, .inl fun _ => 0)), (q3, .inl (cI, 2, .inl fun _ => 0)), (q4, .inl (cI, 4, .inl fun _ => 0)), (q5, .inl (cI, 4, .inl fun _ => 0))]) := by
  have hb : ∀ k, b + 1 ≤ k → k < b + 1 + 10 → gad b h0 ad1 [q1, q2, q3, q4, q5] k = ad1 k ∧ gmem b μb k = μb k := fun k h1 h2 => ⟨(pw_r h1).trans (pw_l (by omega)), (pw_r h1).trans (pw_l (by omega))⟩
  have hr : ∀ i, gad b h0 ad1 [q1, q2, q3, q4, q5] (b + 11 + i) = [q1, q2, q3, q4, q5].getD i 0 ∧ gmem b μb (b + 11 + i) = fun _ => 0 := fun i => ⟨(pw_r (by omega)).trans ((pw_r (by omega)).trans adl_i), (pw_r (by omega)).trans (pw_r (by omega))⟩
  have r0 := hr 0
  have r1 := hr 1
  have r2 := hr 2
  have r3 := hr 3
  have r4 := hr 4
  have z0 : gmem b μb b = fun _ => 0 := pw_l (by omega)
  unfold cGarden fsGarden cRows
  rw [cBeds_cg hb, gad_0, z0, (hb (b + 1) (Nat.le_refl _) (by omega)).1, show b + 11 = b + 11 + 0 from rfl, r0.1, r0.2, show b + 12 = b + 11 + 1 from rfl, r1.1, r1.2, show b + 13 = b + 11 + 2 from rfl, r2.1, r2.2, show b + 14 = b + 11 + 3 from rfl, r3.1, r3.2, show b + 15 = b + 11 + 4 from rfl, r4.1, r4.2]
  rfl
end CTORC
