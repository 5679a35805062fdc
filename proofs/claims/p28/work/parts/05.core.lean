/-! core: a world is a list of cells that is read off a memory; rows over it -/
abbrev vwCl : List vw_C := [(RX1, TX1, 9), (RX3, TX3, 7), (RX4, TX4, 10), (RX5, TX5, 3), (RX6, TX6, 3)]
section CORE
def FU : Nat := 4096
abbrev Mem : Type := Nat → Nat → Int32
def mst (μ : Mem) (q j : Nat) (x : Int32) : Mem := fun k => if k = q then upd (μ q) j x else μ k
def rd (n : Nat) (f : Nat → Int32) (i : Int32) : Option Int32 := if i < 0 ∨ n ≤ i.toNatClampNeg then none else some (f i.toNatClampNeg)
def wr (μ : Mem) (q n : Nat) (i x : Int32) : Option Mem := if i < 0 ∨ n ≤ i.toNatClampNeg then none else some (mst μ q i.toNatClampNeg x)
def bn2 {α β γ : Type} (x : Option (α × β)) (K : α → β → Option γ) : Option γ := x.bind fun z => K z.1 z.2
def pf (μ : Mem) (q k : Nat) (x : Int32) : Option Mem := some (mst μ q k x)
def zr (v : Int32) : Option Int32 := if v = 0 ∨ v = 1 then some v else none
theorem ob {α β : Type} {x : Option α} {K : α → Option β} {r : β} (h : x.bind K = some r) : ∃ v, x = some v ∧ K v = some r := by
  cases x with
  | none => cases h
  | some v => exact ⟨v, rfl, h⟩
theorem ob2 {α β γ : Type} {x : Option (α × β)} {K : α → β → Option γ} {r : γ} (h : bn2 x K = some r) : ∃ a b, x = some (a, b) ∧ K a b = some r := by
  cases x with
  | none => cases h
  | some v => exact ⟨v.1, v.2, rfl, h⟩
theorem rd_ok {n : Nat} {f : Nat → Int32} {i v : Int32} (h : rd n f i = some v) : vp_in i n ∧ f i.toNatClampNeg = v := by
  unfold rd at h
  by_cases c : i < 0 ∨ n ≤ i.toNatClampNeg
  · rw [if_pos c] at h; cases h
  · rw [if_neg c] at h; exact ⟨c, Option.some.inj h⟩
theorem wr_ok {μ μ1 : Mem} {q n : Nat} {i x : Int32} (h : wr μ q n i x = some μ1) : vp_in i n ∧ mst μ q i.toNatClampNeg x = μ1 := by
  unfold wr at h
  by_cases c : i < 0 ∨ n ≤ i.toNatClampNeg
  · rw [if_pos c] at h; cases h
  · rw [if_neg c] at h; exact ⟨c, Option.some.inj h⟩
theorem zr_ok {v r : Int32} (h : zr v = some r) : v = r ∧ (r = 0 ∨ r = 1) := by
  unfold zr at h
  by_cases c : v = 0 ∨ v = 1
  · rw [if_pos c] at h; cases h; exact ⟨rfl, c⟩
  · rw [if_neg c] at h; cases h
theorem it {α : Sort _} {c : Prop} [Decidable c] {a b r : α} (h : (if c then a else b) = r) (hc : c) : a = r := (if_pos hc).symm.trans h
theorem ie {α : Sort _} {c : Prop} [Decidable c] {a b r : α} (h : (if c then a else b) = r) (hc : ¬ c) : b = r := (if_neg hc).symm.trans h
abbrev tyl (cI cG cL : ClassId) : List (ClassId × FieldType) := [(cI, .int), (cG, .object "PageGarden$Garden"), (cL, .byte)]
def nestL : List Cond := [.methodLinkNest RX1 39 yX6_fillRow RX6, .methodLinkNest RX4 48 yX6_fillRow RX6, .methodLinkNest RX1 63 yX6_setCell RX6, .methodLinkNest RX4 59 yX6_setCell RX6, .methodLinkNest RX1 43 yX6_copyRow RX6, .methodLinkNest RX4 67 yX6_copyRow RX6, .methodLinkNest RX4 90 yX6_isBelow RX6, .methodLinkNest RX4 213 yX6_one RX6, .methodLinkNest RX1 55 yX6_one RX6, .methodLinkNest RX4 75 yX6_cell RX6, .methodLinkNest RX1 47 yX6_cell RX6, .methodLinkNest RX6 25 yX3_init RX6, .fieldLinkNest RX6 177 RX5 "count" "I" RX6, .fieldLinkNest RX6 124 RX3 "length" "I" RX6]
def EnOK (EN : State → Heap → Prop) (A : Nat → Prop) : Prop := (∀ (s U : State) (H : Heap), s.WarmedH U.vm → EN s H → EN U H) ∧ (∀ (U : State) (g : JFrame) (mk : MethodId) (a : Array Value) (H : Heap), EN U H → EN (U.calling g mk a) H) ∧ (∀ (s : State) (H H1 : Heap), EN s H → (∀ q : Nat, q < H.size → ¬ A q → H1[q]? = H[q]?) → EN s H1) ∧ (∀ (s : State) (H : Heap), EN s H → ∀ w ∈ nestL, va_Nw w s)
def HS (D : va_G) (A : Nat → Prop) (ws : va_W) (H0 H : Heap) (locs : List Loc) : Prop := va_P D vwCl ws H ∧ va_D A ws ∧ va_S A H0 H locs
def Cx (p : Program) (s : State) (m : MethodId) (args : Array Value) (c : Code) (cc : ByteArray) (nL : Nat) (Ts : List Cond) (own : String) (D : va_G) (tys : List (ClassId × FieldType)) (A : Nat → Prop) (EN : State → Heap → Prop) : Prop := CallFix p m c cc nL s args Ts own ∧ va_K D vwCl tys s ∧ EnOK EN A ∧ EN s s.heap
def WPre (D : va_G) (tys : List (ClassId × FieldType)) (A : Nat → Prop) (EN : State → Heap → Prop) (ws : va_W) (av : List Value) : Array Value → State → Prop := va_Pc av (fun U => va_P D vwCl ws U.heap ∧ va_K D vwCl tys U ∧ va_D A ws ∧ EN U U.heap)
def PI (D : va_G) (A : Nat → Prop) (ws : va_W) (v : Int32) : Array Value → State → Outcome → State → Prop := va_Qi (fun (x : Int32) (_ : Unit) => x = v) (fun _ t => va_P D vwCl ws t.heap ∧ va_D A ws) A
def PL (D : va_G) (A : Nat → Prop) (ws : va_W) (v : Int64) : Array Value → State → Outcome → State → Prop := va_Ql (fun (x : Int64) (_ : Unit) => x = v) (fun _ t => va_P D vwCl ws t.heap ∧ va_D A ws) A
def PV (D : va_G) (A : Nat → Prop) (ws : va_W) : Array Value → State → Outcome → State → Prop := va_Qv (fun (_ : Unit) => True) (fun _ t => va_P D vwCl ws t.heap ∧ va_D A ws) A
abbrev rmk (f L : Nat) : Room := { frames := f, cells := 0, slots := 0, locals := L }
def Arr (cI : ClassId) (w : Mem → va_W) (ad : Nat → Nat) (q n : Nat) : Prop := ∀ μ : Mem, (w μ)[q]? = some (ad q, .inl (cI, n, .inl (μ q))) ∧ ∀ (j : Nat) (x : Int32), (w μ).set q (ad q, .inl (cI, n, .inl (upd (μ q) j x))) = w (mst μ q j x)
def Obj (w : Mem → va_W) (ad : Nat → Nat) (q ci : Nat) (fs : (Nat → Int32) → List Value) : Prop := ∀ μ : Mem, (w μ)[q]? = some (ad q, .inr (ci, fs (μ q))) ∧ ∀ (j : Nat) (x : Int32), (w μ).set q (ad q, .inr (ci, fs (upd (μ q) j x))) = w (mst μ q j x)
def fsBeds (ad : Nat → Nat) (q : Nat) : (Nat → Int32) → List Value := fun _ => [.ref (ad (q + 1)), .ref (ad (q + 2)), .ref (ad (q + 3)), .ref (ad (q + 4)), .ref (ad (q + 5)), .ref (ad (q + 6)), .ref (ad (q + 7)), .ref (ad (q + 8)), .ref (ad (q + 9))]
def fsGarden (ad : Nat → Nat) (q : Nat) : (Nat → Int32) → List Value := fun f => [.ref (ad (q + 1)), .ref (ad (q + 11)), .ref (ad (q + 12)), .ref (ad (q + 13)), .ref (ad (q + 14)), .ref (ad (q + 15)), .int (f 6), .int (f 7), .int (f 8), .int (f 9)]
def fsHist (ad : Nat → Nat) (q : Nat) : (Nat → Int32) → List Value := fun f => [.ref (ad (q + 1)), .int (f 1), .int (f 2)]
def cmdv (adE : Nat → Nat) (x : Int32) : Value := if x = 0 then .null else .ref (adE (x.toNatClampNeg - 1))
def fsText (adE ad : Nat → Nat) (q : Nat) : (Nat → Int32) → List Value := fun f => [.ref (ad (q + 1)), .int (f 1), .int (f 2), .int (f 3), cmdv adE (f 4), .int (f 5), .int (f 6)]
def fsPG (ad : Nat → Nat) (q : Nat) : (Nat → Int32) → List Value := fun _ => [.ref (ad (q + 1)), .ref (ad (q + 17)), .ref (ad (q + 83))]
def fsModel (ad : Nat → Nat) (q : Nat) (h : Int64) : (Nat → Int32) → List Value := fun f => [.ref (ad (q + 1)), .ref (ad (q + 2)), .ref (ad (q + 3)), .int (f 3), .ref (ad (q + 4)), .int (f 5), .int (f 6), .int (f 7), .ref (ad (q + 5)), .int (f 9), .int (f 10), .ref (ad (q + 6)), .long h]
def BedsAt (cI : ClassId) (w : Mem → va_W) (ad : Nat → Nat) (q : Nat) : Prop := Obj w ad q 0 (fsBeds ad q) ∧ Arr cI w ad (q + 1) 32 ∧ Arr cI w ad (q + 2) 32 ∧ Arr cI w ad (q + 3) 32 ∧ Arr cI w ad (q + 4) 32 ∧ Arr cI w ad (q + 5) 32 ∧ Arr cI w ad (q + 6) 32 ∧ Arr cI w ad (q + 7) 160 ∧ Arr cI w ad (q + 8) 160 ∧ Arr cI w ad (q + 9) 192
def GardenAt (cI : ClassId) (w : Mem → va_W) (ad : Nat → Nat) (q : Nat) : Prop := Obj w ad q 2 (fsGarden ad q) ∧ BedsAt cI w ad (q + 1) ∧ Arr cI w ad (q + 11) 2 ∧ Arr cI w ad (q + 12) 2 ∧ Arr cI w ad (q + 13) 2 ∧ Arr cI w ad (q + 14) 4 ∧ Arr cI w ad (q + 15) 4
def histRow (ad : Nat → Nat) (q : Nat) : Nat → Option Nat := fun j => some (ad (q + 2 + 16 * j))
def HistAt (cI cG : ClassId) (w : Mem → va_W) (ad : Nat → Nat) (q : Nat) : Prop := Obj w ad q 3 (fsHist ad q) ∧ (∀ μ : Mem, (w μ)[q + 1]? = some (ad (q + 1), .inl (cG, 4, .inr (.inr (.inr (.inr (histRow ad q))))))) ∧ ∀ j, j < 4 → GardenAt cI w ad (q + 2 + 16 * j)
def TextAt (cI : ClassId) (adE : Nat → Nat) (w : Mem → va_W) (ad : Nat → Nat) (q : Nat) : Prop := Obj w ad q 1 (fsText adE ad q) ∧ Arr cI w ad (q + 1) 150
def PGAt (cI cG : ClassId) (adE : Nat → Nat) (w : Mem → va_W) (ad : Nat → Nat) (q : Nat) : Prop := Obj w ad q 4 (fsPG ad q) ∧ GardenAt cI w ad (q + 1) ∧ HistAt cI cG w ad (q + 17) ∧ TextAt cI adE w ad (q + 83)
def ModelAt (cI : ClassId) (w : Mem → va_W) (ad : Nat → Nat) (h : Int64) (q : Nat) : Prop := Obj w ad q 5 (fsModel ad q h) ∧ Arr cI w ad (q + 1) 470 ∧ Arr cI w ad (q + 2) 470 ∧ Arr cI w ad (q + 3) 1880 ∧ Arr cI w ad (q + 4) 150 ∧ Arr cI w ad (q + 5) 10 ∧ Arr cI w ad (q + 6) 2

variable {p : Program} {l : Launch} {e : Env} {R : Room} {s : State} {m : MethodId} {args : Array Value} {below : List Frame} {meth : Method} {c : Code} {H : Heap} {locs : List Loc} {cells slots : Nat} {Q : State → Prop}
variable {cc : ByteArray} {nL : Nat} {Ts : List Cond} {own : String} {D : va_G} {cI cG cL : ClassId} {A : Nat → Prop} {EN : State → Heap → Prop} {pc : Nat} {ls : Array Slot} {rest : List Value} {ws : va_W}

theorem HS.env {tys : List (ClassId × FieldType)} (X : Cx p s m args c cc nL Ts own D tys A EN) (hS : HS D A ws s.heap H locs) : EN s H := X.2.2.1.2.2.1 s s.heap H X.2.2.2 hS.2.2.2.1
theorem Cx.nest {tys : List (ClassId × FieldType)} (X : Cx p s m args c cc nL Ts own D tys A EN) (i : Nat) {w : Cond} (hi : nestL[i]? = some w) : va_Nw w s := X.2.2.1.2.2.2 s _ X.2.2.2 w (List.mem_of_getElem? hi)
theorem WPre.blind {tys : List (ClassId × FieldType)} {av : List Value} (hE : EnOK EN A) : FrameBlind (WPre D tys A EN ws av) := fun a U g mk q => by
  obtain ⟨q0, qP, qK, qD, qE⟩ := q
  exact ⟨q0, qP, va_K.moved (u := U) (U := U.calling g mk a) (Vm.Alike.refl U.vm) qK, qD, hE.2.1 U g mk a _ qE⟩
theorem WPre.gives {tys : List (ClassId × FieldType)} {av : List Value} (X : Cx p s m args c cc nL Ts own D tys A EN) (hS : HS D A ws s.heap H locs) : ∀ U : State, U.heap = H → s.WarmedH U.vm → WPre D tys A EN ws av av.toArray U := fun U hU hW =>
  ⟨rfl, by rw [hU]; exact hS.1, va_K.moved hW.alike X.2.1, hS.2.1, by rw [hU]; exact X.2.2.1.1 s U H hW (hS.env X)⟩
theorem met_start {y : MethodName} {wsY wsR : List Cond} {rm : Room} {ret : Option FieldType} {tys : List (ClassId × FieldType)} {av : List Value} {Qc : Array Value → State → Outcome → State → Prop} (hE : EnOK EN A) (hy : plainName y.cls = true) (hw : wsY = .code y cc nL ret :: wsR) (hown : y.cls = own) (hlen : (lg_sl av).length ≤ nL)
    (body : ∀ (p : Program) (e : Env) (s : State) (m : MethodId) (args : Array Value) (below : List Frame) (meth : Method) (c : Code) (ls : Array Slot), Cx p s m args c cc nL wsY own D tys A EN → HS D A ws s.heap s.heap [] → lv_has ls nL (lv_args 0 av) → meth.sig.returnType = ret → meth.locks = false → W p l e (headSpec wsY rm).room s m args below meth c s.heap [] 0 0 (MQ below Qc args s 0 0 A) (F0 m 0 ls [])) : Met l y wsY rm (WPre D tys A EN ws av) Qc 0 0 A := by
  refine Met.ofW (cc := cc) (maxL := nL) (ret := ret) hy hw ?_
  intro p e s m args below meth c s₁ B hml hv
  obtain ⟨rfl, hP, hK, hD0, hEN⟩ := hv
  have hts := atoms_spec (ws := wsY) B.pre
  have hown' : s.vm.findClass own = some m.cls := by rw [← hown]; exact findClass_of_methodNamed B.named
  rw [lg_entry_eq]
  exact body p e s m _ below meth c _ ⟨⟨B.exec, B.bytes, hml, hown', hts⟩, hK, hE, hEN⟩ ⟨hP, hD0, va_S.rf⟩ (lv_entry av hlen) B.returns B.notSynchronized
theorem r_iald (X : Cx p s m args c cc nL Ts own D (tyl cI cG cL) A EN) (hS : HS D A ws s.heap H locs) {q n a : Nat} {f : Nat → Int32} (ha : ws[q]? = some (a, .inl (cI, n, .inl f))) {i v : Int32} (hv : rd n f i = some v) (hdg : decode cc pc = .ok (.iaload, 1))
    (kk : W p l e R s m args below meth c H locs cells slots Q (F0 m (pc + 1) ls (.int v :: rest))) : W p l e R s m args below meth c H locs cells slots Q (F0 m pc ls (.int i :: .ref a :: rest)) := by
  obtain ⟨hin, rfl⟩ := rd_ok hv
  exact va_iald X.1.1 X.1.2.1 X.2.1 hS.1 q 0 ha rfl hin hdg kk
theorem r_iast (X : Cx p s m args c cc nL Ts own D (tyl cI cG cL) A EN) {w : Mem → va_W} {μ μ1 : Mem} {ad : Nat → Nat} (hS : HS D A (w μ) s.heap H locs) {q n : Nat} (ha : Arr cI w ad q n) {i x : Int32} (hv : wr μ q n i x = some μ1) (hdg : decode cc pc = .ok (.iastore, 1))
    (kk : ∀ (H : Heap) (locs : List Loc), HS D A (w μ1) s.heap H locs → W p l e R s m args below meth c H locs cells slots Q (F0 m (pc + 1) ls rest)) : W p l e R s m args below meth c H locs cells slots Q (F0 m pc ls (.int x :: .int i :: .ref (ad q) :: rest)) := by
  obtain ⟨hin, rfl⟩ := wr_ok hv
  refine va_iast X.1.1 X.1.2.1 X.2.1 hS.1 hS.2.1 hS.2.2 q 0 (ha μ).1 rfl hin hdg (fun H locs hP hD hS => ?_)
  rw [(ha μ).2] at hP hD
  exact kk H locs ⟨hP, hD, hS⟩
theorem r_alen (X : Cx p s m args c cc nL Ts own D (tyl cI cG cL) A EN) (hS : HS D A ws s.heap H locs) {q n a : Nat} {f : Nat → Int32} (ha : ws[q]? = some (a, .inl (cI, n, .inl f))) {v : Int32} (hv : Int32.ofNat n = v) (hdg : decode cc pc = .ok (.arraylength, 1))
    (kk : W p l e R s m args below meth c H locs cells slots Q (F0 m (pc + 1) ls (.int v :: rest))) : W p l e R s m args below meth c H locs cells slots Q (F0 m pc ls (.ref a :: rest)) :=
  va_alen X.1.1 X.1.2.1 X.2.1 hS.1 q 0 ha rfl hv hdg kk
theorem r_get {tys : List (ClassId × FieldType)} (X : Cx p s m args c cc nL Ts own D tys A EN) (hS : HS D A ws s.heap H locs) {q ci N k index a : Nat} {C : String} {T : u_T} {fs : List Value} {v : Value} (hq : ws[q]? = some (a, .inr (ci, fs))) (hc : vwCl[ci]? = some (C, T, N)) (hin : ∀ w ∈ u_ws C T N, w ∈ Ts) (hk : k < N) (hlink : Cond.fieldLink own index (T k).1 (T k).2.1 (T k).2.2.1 ∈ Ts) (hv : fs[k]? = some v) (hdg : decode cc pc = .ok (.getfield index, 3))
    (kk : W p l e R s m args below meth c H locs cells slots Q (F0 m (pc + 3) ls (v :: rest))) : W p l e R s m args below meth c H locs cells slots Q (F0 m pc ls (.ref a :: rest)) :=
  va_get (ref := (T k).1) X.1.1 X.1.2.1 X.1.2.2.2.2 hin X.1.2.2.2.1 X.2.1 hS.1 q hq hc k hk (X.1.2.2.2.2 _ hlink) (fun _ h => h) hv hdg kk
theorem r_getN {tys : List (ClassId × FieldType)} (X : Cx p s m args c cc nL Ts own D tys A EN) (hS : HS D A ws s.heap H locs) {q ci N k index a : Nat} {C host : String} {T : u_T} {fs : List Value} {v : Value} (hq : ws[q]? = some (a, .inr (ci, fs))) (hc : vwCl[ci]? = some (C, T, N)) (hin : ∀ w ∈ u_ws C T N, w ∈ Ts) (hk : k < N) (hlink : va_Nw (Cond.fieldLinkNest own index (T k).1 (T k).2.1 (T k).2.2.1 host) s) (hv : fs[k]? = some v) (hdg : decode cc pc = .ok (.getfield index, 3))
    (kk : W p l e R s m args below meth c H locs cells slots Q (F0 m (pc + 3) ls (v :: rest))) : W p l e R s m args below meth c H locs cells slots Q (F0 m pc ls (.ref a :: rest)) :=
  va_getN (ref := (T k).1) X.1.1 X.1.2.1 X.1.2.2.2.2 hin X.1.2.2.2.1 X.2.1 hS.1 q hq hc k hk (va_Nw.use rfl hlink) (fun _ h => h) hv hdg kk
theorem r_put {tys : List (ClassId × FieldType)} (X : Cx p s m args c cc nL Ts own D tys A EN) {w : Mem → va_W} {μ : Mem} {ad : Nat → Nat} (hS : HS D A (w μ) s.heap H locs) {q ci N k index : Nat} {C : String} {T : u_T} {fs : (Nat → Int32) → List Value} (ho : Obj w ad q ci fs) (hc : vwCl[ci]? = some (C, T, N)) (hin : ∀ w ∈ u_ws C T N, w ∈ Ts) (ty0 : Nat → FieldType) (hty : ∀ k, k < N → parseFieldDescriptor (T k).2.2.1 = some (ty0 k)) (hnm : ∀ a, a < N → ∀ b, b < N → a ≠ b → (T a).2.1 ≠ (T b).2.1) (hk : k < N) (hlink : Cond.fieldLink own index (T k).1 (T k).2.1 (T k).2.2.1 ∈ Ts) (hfin : (T k).2.2.2 = false) {v : Value} {x : Int32} (hn : narrow (ty0 k) v = v) (hfit : fits (ty0 k) v = true) (hl : k < (fs (μ q)).length) (hset : (fs (μ q)).set k v = fs (upd (μ q) k x)) (hdg : decode cc pc = .ok (.putfield index, 3))
    (kk : ∀ (H : Heap) (locs : List Loc), HS D A (w (mst μ q k x)) s.heap H locs → W p l e R s m args below meth c H locs cells slots Q (F0 m (pc + 3) ls rest)) : W p l e R s m args below meth c H locs cells slots Q (F0 m pc ls (v :: .ref (ad q) :: rest)) := by
  refine va_put (ref := (T k).1) X.1.1 X.1.2.1 X.1.2.2.2.2 hin ty0 hty hnm X.1.2.2.2.1 X.2.1 hS.1 hS.2.1 hS.2.2 q (ho μ).1 hc k hk (X.1.2.2.2.2 _ hlink) (fun _ h => h) hfin (hty k hk) hn hfit hl hdg (fun H locs hP hD hS => ?_)
  rw [hset, (ho μ).2] at hP hD
  exact kk H locs ⟨hP, hD, hS⟩
theorem r_putp {tys : List (ClassId × FieldType)} (X : Cx p s m args c cc nL Ts own D tys A EN) {w : Mem → va_W} {μ μ1 : Mem} {ad : Nat → Nat} (hS : HS D A (w μ) s.heap H locs) {q ci N k index : Nat} {C : String} {T : u_T} {fs : (Nat → Int32) → List Value} {x : Int32} (he : pf μ q k x = some μ1) (ho : Obj w ad q ci fs) (hc : vwCl[ci]? = some (C, T, N)) (hin : ∀ w ∈ u_ws C T N, w ∈ Ts) (ty0 : Nat → FieldType) (hty : ∀ k, k < N → parseFieldDescriptor (T k).2.2.1 = some (ty0 k)) (hnm : ∀ a, a < N → ∀ b, b < N → a ≠ b → (T a).2.1 ≠ (T b).2.1) (hk : k < N) (hlink : Cond.fieldLink own index (T k).1 (T k).2.1 (T k).2.2.1 ∈ Ts) (hfin : (T k).2.2.2 = false) {v : Value} (hn : narrow (ty0 k) v = v) (hfit : fits (ty0 k) v = true) (hl : k < (fs (μ q)).length) (hset : (fs (μ q)).set k v = fs (upd (μ q) k x)) (hdg : decode cc pc = .ok (.putfield index, 3))
    (kk : ∀ (H : Heap) (locs : List Loc), HS D A (w μ1) s.heap H locs → W p l e R s m args below meth c H locs cells slots Q (F0 m (pc + 3) ls rest)) : W p l e R s m args below meth c H locs cells slots Q (F0 m pc ls (v :: .ref (ad q) :: rest)) := by
  cases he
  exact r_put X hS ho hc hin ty0 hty hnm hk hlink hfin hn hfit hl hset hdg kk
section RUN
variable {y : MethodName} {bytes : ByteArray} {maxL n index : Nat} {ret : Option FieldType} {wsY : List Cond} {rm : Room} {Qc : Array Value → State → Outcome → State → Prop} {C : String} {b : Addr} {As st : List Value} {tys : List (ClassId × FieldType)}
theorem r_runV (X : Cx p s m args c cc nL Ts own D tys A EN) (hS : HS D A ws s.heap H locs) (hM : Met l y wsY rm (WPre D tys A EN ws (.ref b :: As)) Qc 0 0 A) (cw : CallW R s args own C index y bytes maxL ret wsY rm 0 0 n) {q0 ci N : Nat} {fs : List Value} {T : u_T} (hc : vwCl[ci]? = some (C, T, N)) (hq : ws[q0]? = some (b, .inr (ci, fs))) (hn : As.length = n) (hl : ls.size = nL) (hst : st = As.reverse ++ .ref b :: rest) (hW : (rest.map fun v => v.category).sum ≤ 8) (hdg : decode cc pc = .ok (.invokevirtual index, 3)) (hf : cells ≤ R.cells ∧ slots ≤ R.slots) :
    va_Run p l e R s m args below meth c H locs cells slots 0 0 (F0 m pc ls st) rest (Qc (Value.ref b :: As).toArray) A :=
  va_runV (As := As) (rest := rest) X.1 hM cw ⟨WPre.blind X.2.2.1, va_recv X.2.1 hS.1 hc hq, WPre.gives X hS⟩ rfl hn hl hst (lv_room (m := m) (pc := pc) (ls := ls) (rest := st) (st := rest) hW) hdg hf
theorem r_runS (X : Cx p s m args c cc nL Ts own D tys A EN) (hS : HS D A ws s.heap H locs) (hM : Met l y wsY rm (WPre D tys A EN ws As) Qc 0 0 A) (cw : CallB R s args own index y bytes maxL ret wsY rm 0 0 n ∧ (Cond.static y).before args s = true) (hn : As.length = n) (hl : ls.size = nL) (hst : st = As.reverse ++ rest) (hW : (rest.map fun v => v.category).sum ≤ 8) (hdg : decode cc pc = .ok (.invokestatic index, 3)) (hf : cells ≤ R.cells ∧ slots ≤ R.slots) :
    va_Run p l e R s m args below meth c H locs cells slots 0 0 (F0 m pc ls st) rest (Qc As.toArray) A :=
  va_runS (As := As) (rest := rest) X.1 hM cw ⟨WPre.blind X.2.2.1, WPre.gives X hS⟩ rfl hn hl hst (lv_room (m := m) (pc := pc) (ls := ls) (rest := st) (st := rest) hW) hdg hf
theorem r_runSN {host : String} (X : Cx p s m args c cc nL Ts own D tys A EN) (hS : HS D A ws s.heap H locs) (hM : Met l y wsY rm (WPre D tys A EN ws As) Qc 0 0 A) (cw : va_CN R s args own index y host bytes maxL ret wsY rm 0 0 n) (hstat : (Cond.static y).before args s = true) (hn : As.length = n) (hl : ls.size = nL) (hst : st = As.reverse ++ rest) (hW : (rest.map fun v => v.category).sum ≤ 8) (hdg : decode cc pc = .ok (.invokestatic index, 3)) (hf : cells ≤ R.cells ∧ slots ≤ R.slots) :
    va_Run p l e R s m args below meth c H locs cells slots 0 0 (F0 m pc ls st) rest (Qc As.toArray) A :=
  va_runSN (As := As) (rest := rest) X.1 hM ⟨cw, hstat, trivial⟩ ⟨WPre.blind X.2.2.1, WPre.gives X hS⟩ rfl hn hl hst (lv_room (m := m) (pc := pc) (ls := ls) (rest := st) (st := rest) hW) hdg hf
variable {a : Array Value} {st0 : List Value} {ws1 : va_W}
theorem r_ci {r : Int32} (hS : HS D A ws s.heap H locs) (hr : va_Run p l e R s m args below meth c H locs cells slots 0 0 (F0 m pc ls st0) rest (PI D A ws1 r a) A)
    (kk : ∀ (H : Heap) (locs : List Loc), HS D A ws1 s.heap H locs → W p l e R s m args below meth c H locs cells slots Q (F0 m (pc + 3) ls (.int r :: rest))) : W p l e R s m args below meth c H locs cells slots Q (F0 m pc ls st0) := by
  refine va_calli hr hS.2.2 (fun _ _ h => h) (fun _ h => h) (fun r1 u t H1 locs ht hvm hw hB hz hk hS => ?_)
  obtain ⟨hP, hD⟩ := hB
  rw [ht] at hP
  cases hw
  exact kk H1 locs ⟨hP, hD, hS⟩
theorem r_cl {r : Int64} (hS : HS D A ws s.heap H locs) (hr : va_Run p l e R s m args below meth c H locs cells slots 0 0 (F0 m pc ls st0) rest (PL D A ws1 r a) A)
    (kk : ∀ (H : Heap) (locs : List Loc), HS D A ws1 s.heap H locs → W p l e R s m args below meth c H locs cells slots Q (F0 m (pc + 3) ls (.long r :: rest))) : W p l e R s m args below meth c H locs cells slots Q (F0 m pc ls st0) := by
  refine va_calll hr hS.2.2 (fun _ _ h => h) (fun _ h => h) (fun r1 u t H1 locs ht hvm hw hB hz hk hS => ?_)
  obtain ⟨hP, hD⟩ := hB
  rw [ht] at hP
  cases hw
  exact kk H1 locs ⟨hP, hD, hS⟩
theorem r_cv (hS : HS D A ws s.heap H locs) (hr : va_Run p l e R s m args below meth c H locs cells slots 0 0 (F0 m pc ls st0) rest (PV D A ws1 a) A)
    (kk : ∀ (H : Heap) (locs : List Loc), HS D A ws1 s.heap H locs → W p l e R s m args below meth c H locs cells slots Q (F0 m (pc + 3) ls rest)) : W p l e R s m args below meth c H locs cells slots Q (F0 m pc ls st0) := by
  refine va_callv hr hS.2.2 (fun _ _ h => h) (fun _ h => h) (fun u t H1 locs ht hvm hw hB hz hk hS => ?_)
  obtain ⟨hP, hD⟩ := hB
  rw [ht] at hP
  exact kk H1 locs ⟨hP, hD, hS⟩
end RUN
theorem r_iret {tys : List (ClassId × FieldType)} (X : Cx p s m args c cc nL Ts own D tys A EN) (hS : HS D A ws s.heap H locs) (hr : meth.sig.returnType = some .int) (hlk : meth.locks = false) {v : Int32} (hdg : decode cc pc = .ok (.ireturn, 1)) : W p l e R s m args below meth c H locs 0 0 (MQ below (PI D A ws v) args s 0 0 A) (F0 m pc ls [.int v]) :=
  W.iret X.1.1 X.1.2.1 hr (fun t ht hW => ⟨⟨v, (), rfl, rfl, by rw [ht]; exact hS.1, hS.2.1⟩, hS.2.2.F ht⟩) hS.2.2.2.2 hdg hlk
theorem r_zret {tys : List (ClassId × FieldType)} (X : Cx p s m args c cc nL Ts own D tys A EN) (hS : HS D A ws s.heap H locs) (hr : meth.sig.returnType = some .boolean) (hlk : meth.locks = false) {v : Int32} (hv : v = 0 ∨ v = 1) (hdg : decode cc pc = .ok (.ireturn, 1)) : W p l e R s m args below meth c H locs 0 0 (MQ below (PI D A ws v) args s 0 0 A) (F0 m pc ls [.int v]) :=
  W.zret X.1.1 X.1.2.1 hr (by rcases hv with rfl | rfl <;> rfl) (fun t ht hW => ⟨⟨v, (), rfl, rfl, by rw [ht]; exact hS.1, hS.2.1⟩, hS.2.2.F ht⟩) hS.2.2.2.2 hdg hlk
theorem r_lret {tys : List (ClassId × FieldType)} (X : Cx p s m args c cc nL Ts own D tys A EN) (hS : HS D A ws s.heap H locs) (hr : meth.sig.returnType = some .long) (hlk : meth.locks = false) {v : Int64} (hdg : decode cc pc = .ok (.lreturn, 1)) : W p l e R s m args below meth c H locs 0 0 (MQ below (PL D A ws v) args s 0 0 A) (F0 m pc ls [.long v]) :=
  W.lret X.1.1 X.1.2.1 hr (fun t ht hW => ⟨⟨v, (), rfl, rfl, by rw [ht]; exact hS.1, hS.2.1⟩, hS.2.2.F ht⟩) hS.2.2.2.2 hdg hlk
theorem r_vret {tys : List (ClassId × FieldType)} (X : Cx p s m args c cc nL Ts own D tys A EN) (hS : HS D A ws s.heap H locs) (hr : meth.sig.returnType = none) (hlk : meth.locks = false) (hdg : decode cc pc = .ok (.return_, 1)) : W p l e R s m args below meth c H locs 0 0 (MQ below (PV D A ws) args s 0 0 A) (F0 m pc ls []) :=
  W.vret X.1.1 X.1.2.1 hr (fun t ht hW => ⟨⟨(), rfl, trivial, by rw [ht]; exact hS.1, hS.2.1⟩, hS.2.2.F ht⟩) hS.2.2.2.2 hdg hlk
theorem sw_0_2 {x : Int32} (h0 : ¬ x = 0) (h1 : ¬ x = 1) (h2 : ¬ x = 2) : x.toInt < 0 ∨ 2 < x.toInt := by
  have g0 : x.toInt ≠ 0 := fun h => h0 (by have q := Int32.ofInt_toInt x; rw [h] at q; exact q.symm)
  have g1 : x.toInt ≠ 1 := fun h => h1 (by have q := Int32.ofInt_toInt x; rw [h] at q; exact q.symm)
  have g2 : x.toInt ≠ 2 := fun h => h2 (by have q := Int32.ofInt_toInt x; rw [h] at q; exact q.symm)
  omega
theorem sw_0_3 {x : Int32} (h0 : ¬ x = 0) (h1 : ¬ x = 1) (h2 : ¬ x = 2) (h3 : ¬ x = 3) : x.toInt < 0 ∨ 3 < x.toInt := by
  have g0 : x.toInt ≠ 0 := fun h => h0 (by have q := Int32.ofInt_toInt x; rw [h] at q; exact q.symm)
  have g1 : x.toInt ≠ 1 := fun h => h1 (by have q := Int32.ofInt_toInt x; rw [h] at q; exact q.symm)
  have g2 : x.toInt ≠ 2 := fun h => h2 (by have q := Int32.ofInt_toInt x; rw [h] at q; exact q.symm)
  have g3 : x.toInt ≠ 3 := fun h => h3 (by have q := Int32.ofInt_toInt x; rw [h] at q; exact q.symm)
  omega
theorem sw_0_4 {x : Int32} (h0 : ¬ x = 0) (h1 : ¬ x = 1) (h2 : ¬ x = 2) (h3 : ¬ x = 3) (h4 : ¬ x = 4) : x.toInt < 0 ∨ 4 < x.toInt := by
  have g0 : x.toInt ≠ 0 := fun h => h0 (by have q := Int32.ofInt_toInt x; rw [h] at q; exact q.symm)
  have g1 : x.toInt ≠ 1 := fun h => h1 (by have q := Int32.ofInt_toInt x; rw [h] at q; exact q.symm)
  have g2 : x.toInt ≠ 2 := fun h => h2 (by have q := Int32.ofInt_toInt x; rw [h] at q; exact q.symm)
  have g3 : x.toInt ≠ 3 := fun h => h3 (by have q := Int32.ofInt_toInt x; rw [h] at q; exact q.symm)
  have g4 : x.toInt ≠ 4 := fun h => h4 (by have q := Int32.ofInt_toInt x; rw [h] at q; exact q.symm)
  omega
theorem sw_0_5 {x : Int32} (h0 : ¬ x = 0) (h1 : ¬ x = 1) (h2 : ¬ x = 2) (h3 : ¬ x = 3) (h4 : ¬ x = 4) (h5 : ¬ x = 5) : x.toInt < 0 ∨ 5 < x.toInt := by
  have g0 : x.toInt ≠ 0 := fun h => h0 (by have q := Int32.ofInt_toInt x; rw [h] at q; exact q.symm)
  have g1 : x.toInt ≠ 1 := fun h => h1 (by have q := Int32.ofInt_toInt x; rw [h] at q; exact q.symm)
  have g2 : x.toInt ≠ 2 := fun h => h2 (by have q := Int32.ofInt_toInt x; rw [h] at q; exact q.symm)
  have g3 : x.toInt ≠ 3 := fun h => h3 (by have q := Int32.ofInt_toInt x; rw [h] at q; exact q.symm)
  have g4 : x.toInt ≠ 4 := fun h => h4 (by have q := Int32.ofInt_toInt x; rw [h] at q; exact q.symm)
  have g5 : x.toInt ≠ 5 := fun h => h5 (by have q := Int32.ofInt_toInt x; rw [h] at q; exact q.symm)
  omega
theorem sw_0_13 {x : Int32} (h0 : ¬ x = 0) (h1 : ¬ x = 1) (h2 : ¬ x = 2) (h3 : ¬ x = 3) (h4 : ¬ x = 4) (h5 : ¬ x = 5) (h6 : ¬ x = 6) (h7 : ¬ x = 7) (h8 : ¬ x = 8) (h9 : ¬ x = 9) (h10 : ¬ x = 10) (h11 : ¬ x = 11) (h12 : ¬ x = 12) (h13 : ¬ x = 13) : x.toInt < 0 ∨ 13 < x.toInt := by
  have g0 : x.toInt ≠ 0 := fun h => h0 (by have q := Int32.ofInt_toInt x; rw [h] at q; exact q.symm)
  have g1 : x.toInt ≠ 1 := fun h => h1 (by have q := Int32.ofInt_toInt x; rw [h] at q; exact q.symm)
  have g2 : x.toInt ≠ 2 := fun h => h2 (by have q := Int32.ofInt_toInt x; rw [h] at q; exact q.symm)
  have g3 : x.toInt ≠ 3 := fun h => h3 (by have q := Int32.ofInt_toInt x; rw [h] at q; exact q.symm)
  have g4 : x.toInt ≠ 4 := fun h => h4 (by have q := Int32.ofInt_toInt x; rw [h] at q; exact q.symm)
  have g5 : x.toInt ≠ 5 := fun h => h5 (by have q := Int32.ofInt_toInt x; rw [h] at q; exact q.symm)
  have g6 : x.toInt ≠ 6 := fun h => h6 (by have q := Int32.ofInt_toInt x; rw [h] at q; exact q.symm)
  have g7 : x.toInt ≠ 7 := fun h => h7 (by have q := Int32.ofInt_toInt x; rw [h] at q; exact q.symm)
  have g8 : x.toInt ≠ 8 := fun h => h8 (by have q := Int32.ofInt_toInt x; rw [h] at q; exact q.symm)
  have g9 : x.toInt ≠ 9 := fun h => h9 (by have q := Int32.ofInt_toInt x; rw [h] at q; exact q.symm)
  have g10 : x.toInt ≠ 10 := fun h => h10 (by have q := Int32.ofInt_toInt x; rw [h] at q; exact q.symm)
  have g11 : x.toInt ≠ 11 := fun h => h11 (by have q := Int32.ofInt_toInt x; rw [h] at q; exact q.symm)
  have g12 : x.toInt ≠ 12 := fun h => h12 (by have q := Int32.ofInt_toInt x; rw [h] at q; exact q.symm)
  have g13 : x.toInt ≠ 13 := fun h => h13 (by have q := Int32.ofInt_toInt x; rw [h] at q; exact q.symm)
  omega
theorem sw_0_24 {x : Int32} (h0 : ¬ x = 0) (h1 : ¬ x = 1) (h2 : ¬ x = 2) (h3 : ¬ x = 3) (h4 : ¬ x = 4) (h5 : ¬ x = 5) (h6 : ¬ x = 6) (h7 : ¬ x = 7) (h8 : ¬ x = 8) (h9 : ¬ x = 9) (h10 : ¬ x = 10) (h11 : ¬ x = 11) (h12 : ¬ x = 12) (h13 : ¬ x = 13) (h14 : ¬ x = 14) (h15 : ¬ x = 15) (h16 : ¬ x = 16) (h17 : ¬ x = 17) (h18 : ¬ x = 18) (h19 : ¬ x = 19) (h20 : ¬ x = 20) (h21 : ¬ x = 21) (h22 : ¬ x = 22) (h23 : ¬ x = 23) (h24 : ¬ x = 24) : x.toInt < 0 ∨ 24 < x.toInt := by
  have g0 : x.toInt ≠ 0 := fun h => h0 (by have q := Int32.ofInt_toInt x; rw [h] at q; exact q.symm)
  have g1 : x.toInt ≠ 1 := fun h => h1 (by have q := Int32.ofInt_toInt x; rw [h] at q; exact q.symm)
  have g2 : x.toInt ≠ 2 := fun h => h2 (by have q := Int32.ofInt_toInt x; rw [h] at q; exact q.symm)
  have g3 : x.toInt ≠ 3 := fun h => h3 (by have q := Int32.ofInt_toInt x; rw [h] at q; exact q.symm)
  have g4 : x.toInt ≠ 4 := fun h => h4 (by have q := Int32.ofInt_toInt x; rw [h] at q; exact q.symm)
  have g5 : x.toInt ≠ 5 := fun h => h5 (by have q := Int32.ofInt_toInt x; rw [h] at q; exact q.symm)
  have g6 : x.toInt ≠ 6 := fun h => h6 (by have q := Int32.ofInt_toInt x; rw [h] at q; exact q.symm)
  have g7 : x.toInt ≠ 7 := fun h => h7 (by have q := Int32.ofInt_toInt x; rw [h] at q; exact q.symm)
  have g8 : x.toInt ≠ 8 := fun h => h8 (by have q := Int32.ofInt_toInt x; rw [h] at q; exact q.symm)
  have g9 : x.toInt ≠ 9 := fun h => h9 (by have q := Int32.ofInt_toInt x; rw [h] at q; exact q.symm)
  have g10 : x.toInt ≠ 10 := fun h => h10 (by have q := Int32.ofInt_toInt x; rw [h] at q; exact q.symm)
  have g11 : x.toInt ≠ 11 := fun h => h11 (by have q := Int32.ofInt_toInt x; rw [h] at q; exact q.symm)
  have g12 : x.toInt ≠ 12 := fun h => h12 (by have q := Int32.ofInt_toInt x; rw [h] at q; exact q.symm)
  have g13 : x.toInt ≠ 13 := fun h => h13 (by have q := Int32.ofInt_toInt x; rw [h] at q; exact q.symm)
  have g14 : x.toInt ≠ 14 := fun h => h14 (by have q := Int32.ofInt_toInt x; rw [h] at q; exact q.symm)
  have g15 : x.toInt ≠ 15 := fun h => h15 (by have q := Int32.ofInt_toInt x; rw [h] at q; exact q.symm)
  have g16 : x.toInt ≠ 16 := fun h => h16 (by have q := Int32.ofInt_toInt x; rw [h] at q; exact q.symm)
  have g17 : x.toInt ≠ 17 := fun h => h17 (by have q := Int32.ofInt_toInt x; rw [h] at q; exact q.symm)
  have g18 : x.toInt ≠ 18 := fun h => h18 (by have q := Int32.ofInt_toInt x; rw [h] at q; exact q.symm)
  have g19 : x.toInt ≠ 19 := fun h => h19 (by have q := Int32.ofInt_toInt x; rw [h] at q; exact q.symm)
  have g20 : x.toInt ≠ 20 := fun h => h20 (by have q := Int32.ofInt_toInt x; rw [h] at q; exact q.symm)
  have g21 : x.toInt ≠ 21 := fun h => h21 (by have q := Int32.ofInt_toInt x; rw [h] at q; exact q.symm)
  have g22 : x.toInt ≠ 22 := fun h => h22 (by have q := Int32.ofInt_toInt x; rw [h] at q; exact q.symm)
  have g23 : x.toInt ≠ 23 := fun h => h23 (by have q := Int32.ofInt_toInt x; rw [h] at q; exact q.symm)
  have g24 : x.toInt ≠ 24 := fun h => h24 (by have q := Int32.ofInt_toInt x; rw [h] at q; exact q.symm)
  omega
theorem sw_1_6 {x : Int32} (h1 : ¬ x = 1) (h2 : ¬ x = 2) (h3 : ¬ x = 3) (h4 : ¬ x = 4) (h5 : ¬ x = 5) (h6 : ¬ x = 6) : x.toInt < 1 ∨ 6 < x.toInt := by
  have g1 : x.toInt ≠ 1 := fun h => h1 (by have q := Int32.ofInt_toInt x; rw [h] at q; exact q.symm)
  have g2 : x.toInt ≠ 2 := fun h => h2 (by have q := Int32.ofInt_toInt x; rw [h] at q; exact q.symm)
  have g3 : x.toInt ≠ 3 := fun h => h3 (by have q := Int32.ofInt_toInt x; rw [h] at q; exact q.symm)
  have g4 : x.toInt ≠ 4 := fun h => h4 (by have q := Int32.ofInt_toInt x; rw [h] at q; exact q.symm)
  have g5 : x.toInt ≠ 5 := fun h => h5 (by have q := Int32.ofInt_toInt x; rw [h] at q; exact q.symm)
  have g6 : x.toInt ≠ 6 := fun h => h6 (by have q := Int32.ofInt_toInt x; rw [h] at q; exact q.symm)
  omega
theorem sw_1_7 {x : Int32} (h1 : ¬ x = 1) (h2 : ¬ x = 2) (h3 : ¬ x = 3) (h4 : ¬ x = 4) (h5 : ¬ x = 5) (h6 : ¬ x = 6) (h7 : ¬ x = 7) : x.toInt < 1 ∨ 7 < x.toInt := by
  have g1 : x.toInt ≠ 1 := fun h => h1 (by have q := Int32.ofInt_toInt x; rw [h] at q; exact q.symm)
  have g2 : x.toInt ≠ 2 := fun h => h2 (by have q := Int32.ofInt_toInt x; rw [h] at q; exact q.symm)
  have g3 : x.toInt ≠ 3 := fun h => h3 (by have q := Int32.ofInt_toInt x; rw [h] at q; exact q.symm)
  have g4 : x.toInt ≠ 4 := fun h => h4 (by have q := Int32.ofInt_toInt x; rw [h] at q; exact q.symm)
  have g5 : x.toInt ≠ 5 := fun h => h5 (by have q := Int32.ofInt_toInt x; rw [h] at q; exact q.symm)
  have g6 : x.toInt ≠ 6 := fun h => h6 (by have q := Int32.ofInt_toInt x; rw [h] at q; exact q.symm)
  have g7 : x.toInt ≠ 7 := fun h => h7 (by have q := Int32.ofInt_toInt x; rw [h] at q; exact q.symm)
  omega
end CORE
