/-! what stands outside of the worlds: links of nest mates, the commands and their texts, what a throw wants -/
section ENVS
def xIO : String := "java/lang/IndexOutOfBoundsException"
def xIA : String := "java/lang/IllegalArgumentException"
def xIS : String := "java/lang/IllegalStateException"
def exN (k : Int32) : String := if k = 1 then xIO else if k = 2 then xIA else xIS
def ordN : MethodName := ⟨"java/lang/Enum", "ordinal", "()I"⟩
/-- how many numbers a command takes, by its code 1 to 7 -/
def numb (x : Int32) : Int32 := if x = 2 then 2 else if x = 3 ∨ x = 4 ∨ x = 7 then 1 else 0
def en (x : Int32) : Option Int32 := if 1 ≤ x ∧ x ≤ 7 then some x else none
theorem en_ok {x v : Int32} (h : en x = some v) : x = v ∧ ∃ j, j < 7 ∧ v = nI (j + 1) ∧ v.toNatClampNeg - 1 = j := by
  unfold en at h
  by_cases c : 1 ≤ x ∧ x ≤ 7
  · rw [if_pos c] at h
    cases h
    have c1 : (1 : Int) ≤ x.toInt := Int32.le_iff_toInt_le.mp c.1
    have c0 : ¬ x < 0 := fun h => by
      have h2 : x.toInt < 0 := Int32.lt_iff_toInt_lt.mp h
      omega
    obtain ⟨j, hj, rfl⟩ := nI_of2 (n := 7) (M := 7) (by decide) c0 c.2
    rw [nI_toInt (by omega)] at c1
    refine ⟨rfl, j - 1, by omega, by rw [show j - 1 + 1 = j by omega], by rw [nI_clamp (by omega)]⟩
  · rw [if_neg c] at h; cases h
theorem cmdv_z {adE : Nat → Nat} {x : Int32} (h : x = 0) : cmdv adE x = .null := by unfold cmdv; rw [if_pos h]
theorem cmdv_n {adE : Nat → Nat} {x : Int32} (h : ¬ x = 0) : cmdv adE x = .ref (adE (x.toNatClampNeg - 1)) := by unfold cmdv; rw [if_neg h]
def wlen : List Nat := [5, 3, 4, 6, 5, 4, 5]
def wbyt : List (List Int32) := [[98, 101, 103, 105, 110], [112, 117, 116], [100, 114, 111, 112], [99, 111, 109, 109, 105, 116], [97, 98, 111, 114, 116], [111, 112, 101, 110], [99, 108, 111, 115, 101]]
def castL : List Cond := [.castable xIO xIO, .castable xIA xIA, .castable xIS xIS, .declares ordN, .declares ⟨"java/lang/RuntimeException", "<init>", "(Ljava/lang/String;)V"⟩, .declares ⟨"java/lang/Exception", "<init>", "(Ljava/lang/String;)V"⟩, .declares ⟨"java/lang/Throwable", "<init>", "(Ljava/lang/String;)V"⟩]
def ENV (tC tS : Nat) (adE adK adV : Nat → Nat) (A : Nat → Prop) (U : State) (H : Heap) : Prop :=
  (∀ w ∈ nestL, va_Nw w U) ∧ (∀ w ∈ castL, va_Nw w U) ∧ (va_Nc xIS xIA U ∧ va_Nc xIS xIO U ∧ va_Nc xIA xIO U) ∧
  (va_Z RX6 "COMMANDS" "[LPageGarden$Command;" (.ref tC) A U H ∧ va_T (.object RX2) tC 7 (fun j => .ref (adE j)) A U H) ∧
  (va_Z "PageGarden$1" "$SwitchMap$PageGarden$Command" "[I" (.ref tS) A U H ∧ va_T .int tS 7 (fun j => .int (nI (j + 1))) A U H) ∧
  (∀ i, i < 7 → va_O RX2 (adE i) A U H ∧ va_OF "java/lang/Enum" "ordinal" "I" (.int (nI i)) (adE i) A U H ∧ va_OF RX2 "numbers" "I" (.int (numb (nI (i + 1)))) (adE i) A U H ∧ va_OF RX2 "word" "Ljava/lang/String;" (.ref (adK i)) (adE i) A U H) ∧
  vk_S 7 wlen wbyt adK adV A U H ∧
  (va_Z "java/lang/String" "COMPACT_STRINGS" "Z" (.int 1) A U H ∧ va_Zq "jdk/internal/util/Preconditions" "SIOOBE_FORMATTER" "Ljava/util/function/BiFunction;" A U H) ∧
  (vx_Zq Bundle.tN "UNASSIGNED_STACK" Bundle.steD A U H ∧ vx_Zq Bundle.tN "SUPPRESSED_SENTINEL" Bundle.listD A U H) ∧
  ∃ s1 s2 s3 : Nat, vk_R RX6 237 "there is no such thing" s1 U ∧ vk_R RX6 244 "an argument is out of its range" s2 U ∧ vk_R RX6 249 "the garden's state does not allow it" s3 U
def isNest : Cond → Bool
  | .methodLinkNest .. => true
  | .fieldLinkNest .. => true
  | _ => false
def isCast : Cond → Bool
  | .castable .. => true
  | .declares .. => true
  | _ => false
theorem nest_warm {s U : State} (hW : s.WarmedH U.vm) : ∀ w : Cond, isNest w = true → va_Nw w s → va_Nw w U := by
  intro w h hZ
  cases w <;> first | exact va_Nw.warmM hW hZ | exact va_Nw.warmF hW hZ | cases h
theorem cast_warm {s U : State} (hW : s.vm.Alike U.vm) : ∀ w : Cond, isCast w = true → va_Nw w s → va_Nw w U := by
  intro w h hZ
  cases w with
  | castable a b => exact va_tabs (A := #[]) (u := s.setVm U.vm) rfl rfl (by rw [Cond.castable_setVm hW]; exact hZ)
  | declares x => exact va_tabs (A := #[]) (u := s.setVm U.vm) rfl rfl (by rw [Cond.declares_setVm hW]; exact hZ)
  | _ => cases h
theorem nestL_ok : ∀ w ∈ nestL, isNest w = true := by decide +kernel
theorem castL_ok : ∀ w ∈ castL, isCast w = true := by decide +kernel
variable {tC tS : Nat} {adE adK adV : Nat → Nat} {A : Nat → Prop}
theorem ENV_moved {u U : State} {H : Heap} (hvm : u.vm.Alike U.vm) (hn : ∀ w ∈ nestL, va_Nw w U) (hk : ∀ (k : Nat) (tx : String) (a : Nat), vk_R RX6 k tx a u → vk_R RX6 k tx a U) (h : ENV tC tS adE adK adV A u H) : ENV tC tS adE adK adV A U H := by
  obtain ⟨-, h2, ⟨n1, n2, n3⟩, ⟨c1, c2⟩, ⟨d1, d2⟩, h6, h7, ⟨e1, e2⟩, ⟨f1, f2⟩, s1, s2, s3, g1, g2, g3⟩ := h
  exact ⟨hn, fun w hw => cast_warm hvm w (castL_ok w hw) (h2 w hw), ⟨n1.moved hvm, n2.moved hvm, n3.moved hvm⟩, ⟨c1.moved hvm, c2.moved hvm⟩, ⟨d1.moved hvm, d2.moved hvm⟩, fun i hi => ⟨(h6 i hi).1.moved hvm, (h6 i hi).2.1.moved hvm, (h6 i hi).2.2.1.moved hvm, (h6 i hi).2.2.2.moved hvm⟩, h7.moved hvm, ⟨e1.moved hvm, e2.moved hvm⟩, ⟨f1.moved hvm, f2.moved hvm⟩, s1, s2, s3, hk _ _ _ g1, hk _ _ _ g2, hk _ _ _ g3⟩
theorem ENV_ok : EnOK (ENV tC tS adE adK adV A) A := by
  refine ⟨fun s U H hW h => ?_, fun U g mk a H h => ?_, fun s H H1 h hq => ?_, fun s H h => h.1⟩
  · exact ENV_moved hW.alike (fun w hw => nest_warm hW w (nestL_ok w hw) (h.1 w hw)) (fun _ _ _ q => q.warm hW) h
  · refine ENV_moved (U := U.calling g mk a) (Vm.Alike.refl U.vm) (fun w hw => ?_) (fun _ _ _ q => q.same rfl) h
    have hw1 := nestL_ok w hw
    have h1 := h.1 w hw
    cases w <;> first | exact va_Nw.same rfl rfl h1 | cases hw1
  · obtain ⟨h1, h2, h3, ⟨c1, c2⟩, ⟨d1, d2⟩, h6, h7, ⟨e1, e2⟩, ⟨f1, f2⟩, h10⟩ := h
    exact ⟨h1, h2, h3, ⟨c1.kept hq, c2.kept hq⟩, ⟨d1.kept hq, d2.kept hq⟩, fun i hi => ⟨(h6 i hi).1.kept hq, (h6 i hi).2.1.kept hq, (h6 i hi).2.2.1.kept hq, (h6 i hi).2.2.2.kept hq⟩, h7.kept hq, ⟨e1.kept hq, e2.kept hq⟩, ⟨f1.kept hq, f2.kept hq⟩, h10⟩
variable {p : Program} {l : Launch} {e : Env} {R : Room} {s : State} {m : MethodId} {args : Array Value} {below : List Frame} {meth : Method} {c : Code} {H : Heap} {locs : List Loc} {cells slots : Nat} {Q : State → Prop}
variable {cc : ByteArray} {nL : Nat} {Ts : List Cond} {own : String} {D : va_G} {cI cG cL : ClassId} {pc : Nat} {ls : Array Slot} {rest : List Value} {ws : va_W}
theorem r_ifnn {x : Int32} (hexec : p.tables.exec = Jvm.exec) (hb : c.code = cc) {off : Int} {tgt : Nat} (hdg : decode cc pc = .ok (.ifnonnull off, 3)) (ht : (pc : Int) + off = (tgt : Int)) (k0 : x = 0 → W p l e R s m args below meth c H locs cells slots Q (F0 m (pc + 3) ls rest)) (k1 : ¬ x = 0 → W p l e R s m args below meth c H locs cells slots Q (F0 m tgt ls rest)) : W p l e R s m args below meth c H locs cells slots Q (F0 m pc ls (cmdv adE x :: rest)) := by
  by_cases h : x = 0
  · rw [cmdv_z h]; exact lv_ifnonnullN hexec hb hdg (k0 h)
  · rw [cmdv_n h]; exact lv_ifnonnull hexec hb hdg ht (k1 h)
/-- a command, or null -/
def PE (adE : Nat → Nat) (D : va_G) (A : Nat → Prop) (ws : va_W) (v : Int32) : Array Value → State → Outcome → State → Prop := va_Qq (fun (x : Option Nat) (_ : Unit) => va_rf x = cmdv adE v) (fun _ t => va_P D vwCl ws t.heap ∧ va_D A ws) A
theorem r_ce {a : Array Value} {st0 : List Value} {ws1 : va_W} {r : Int32} (hS : HS D A ws s.heap H locs) (hr : va_Run p l e R s m args below meth c H locs cells slots 0 0 (F0 m pc ls st0) rest (PE adE D A ws1 r a) A)
    (kk : ∀ (H : Heap) (locs : List Loc), HS D A ws1 s.heap H locs → W p l e R s m args below meth c H locs cells slots Q (F0 m (pc + 3) ls (cmdv adE r :: rest))) : W p l e R s m args below meth c H locs cells slots Q (F0 m pc ls st0) := by
  refine va_callq hr hS.2.2 (fun _ _ h => h) (fun _ h => h) (fun r1 u t H1 locs ht hvm hw hB hz hk hS => ?_)
  obtain ⟨hP, hD⟩ := hB
  rw [ht] at hP
  rw [hw]
  exact kk H1 locs ⟨hP, hD, hS⟩
theorem r_putc {EN : State → Heap → Prop} {tys : List (ClassId × FieldType)} (X : Cx p s m args c cc nL Ts own D tys A EN) {w : Mem → va_W} {μ μ1 : Mem} {ad : Nat → Nat} (hS : HS D A (w μ) s.heap H locs) {q index : Nat} {x : Int32} (he : pf μ q 4 x = some μ1) (ho : Obj w ad q 1 (fsText adE ad q)) (hin : ∀ w ∈ u_ws RX3 TX3 7, w ∈ Ts) (hlink : Cond.fieldLink own index (TX3 4).1 (TX3 4).2.1 (TX3 4).2.2.1 ∈ Ts) (hdg : decode cc pc = .ok (.putfield index, 3))
    (kk : ∀ (H : Heap) (locs : List Loc), HS D A (w μ1) s.heap H locs → W p l e R s m args below meth c H locs cells slots Q (F0 m (pc + 3) ls rest)) : W p l e R s m args below meth c H locs cells slots Q (F0 m pc ls (cmdv adE x :: .ref (ad q) :: rest)) := by
  have hn : narrow (tyX3 4) (cmdv adE x) = cmdv adE x ∧ fits (tyX3 4) (cmdv adE x) = true := by
    by_cases h : x = 0
    · rw [cmdv_z h]; exact ⟨rfl, rfl⟩
    · rw [cmdv_n h]; exact ⟨rfl, rfl⟩
  exact r_putp X hS (T := TX3) (k := 4) he ho rfl hin tyX3 tyX3_ok nmX3 (by decide) hlink rfl hn.1 hn.2 (Nat.le_of_ble_eq_true rfl) rfl hdg kk
theorem Cx.env (X : Cx p s m args c cc nL Ts own D (tyl cI cG cL) A (ENV tC tS adE adK adV A)) : ENV tC tS adE adK adV A s s.heap := X.2.2.2
theorem r_numb (X : Cx p s m args c cc nL Ts own D (tyl cI cG cL) A (ENV tC tS adE adK adV A)) (hS : HS D A ws s.heap H locs) {x v : Int32} (hv : en x = some v) (hown : own = RX3) (hdg : decode cc pc = .ok (.getfield 67, 3))
    (kk : W p l e R s m args below meth c H locs cells slots Q (F0 m (pc + 3) ls (.int (numb v) :: rest))) : W p l e R s m args below meth c H locs cells slots Q (F0 m pc ls (cmdv adE x :: rest)) := by
  obtain ⟨rfl, j, hj, hvj, hcl⟩ := en_ok hv
  subst hown
  have h0 : ¬ x = 0 := by rw [hvj]; exact nI_ne0 (by omega) (by omega)
  rw [cmdv_n h0, hcl]
  obtain ⟨cf, k, fi, f, cell, h1, h2, h3, h4, h5, h6⟩ := (X.env.2.2.2.2.2.1 j hj).2.2.1.kept hS.2.2.2.1
  have hl : (Cond.fieldLinkNest RX3 67 RX2 "numbers" "I" RX6).before args s = true := va_Nw.use rfl (X.nest 21 rfl)
  exact va_Wgetf X.1.1 X.1.2.1 X.1.2.2.2.1 hl h1 h2 h3 h4 (v := .int (numb x)) (by rw [h5, hvj]) rfl rfl hdg kk
theorem r_swm (X : Cx p s m args c cc nL Ts own D (tyl cI cG cL) A (ENV tC tS adE adK adV A)) (hS : HS D A ws s.heap H locs) {index : Nat} (hlink : Cond.fieldLink own index "PageGarden$1" "$SwitchMap$PageGarden$Command" "[I" ∈ Ts) (hdg : decode cc pc = .ok (.getstatic index, 3))
    (kk : W p l e R s m args below meth c H locs cells slots Q (F0 m (pc + 3) ls (.ref tS :: rest))) : W p l e R s m args below meth c H locs cells slots Q (F0 m pc ls rest) :=
  va_gets X.1.1 X.1.2.1 X.env.2.2.2.2.1.1 hS.2.2 X.1.2.2.2.1 (X.1.2.2.2.2 _ hlink) (fun _ h => h) hdg kk
theorem r_swld (X : Cx p s m args c cc nL Ts own D (tyl cI cG cL) A (ENV tC tS adE adK adV A)) (hS : HS D A ws s.heap H locs) {x v : Int32} (hv : en x = some v) (hdg : decode cc pc = .ok (.iaload, 1))
    (kk : W p l e R s m args below meth c H locs cells slots Q (F0 m (pc + 1) ls (.int v :: rest))) : W p l e R s m args below meth c H locs cells slots Q (F0 m pc ls (.int (v - 1) :: .ref tS :: rest)) := by
  obtain ⟨rfl, j, hj, hvj, hcl⟩ := en_ok hv
  have e1 : x - 1 = nI j := by rw [hvj]; exact nI_pred j
  rw [e1]
  refine va_ti X.1.1 X.1.2.1 X.env.2.2.2.2.1.2 hS.2.2 (vp_in_nI hj (by decide)) (v := .int x) ?_ hdg kk
  rw [nI_clamp (by omega), hvj]
def ordW : Cond := .fieldLink RJx29ce0 7 "java/lang/Enum" "ordinal" "I"
theorem r_ord (X : Cx p s m args c cc nL Ts own D (tyl cI cG cL) A (ENV tC tS adE adK adV A)) (hS : HS D A ws s.heap H locs) {x v : Int32} (hv : en x = some v) (hw : ∀ w ∈ ([.methodLink own 224 ⟨RX2, "ordinal", "()I"⟩, .sameMethod RX2 "java/lang/Enum" "ordinal" "()I", .selects RX2 ⟨RX2, "ordinal", "()I"⟩ ordN, .instanceMethod ordN, .code ordN cJx29ce0_ordinal_8abf5 1 (some .int), ordW] : List Cond), w ∈ Ts) (hl : ls.size = nL) (hf : 1 ≤ R.frames ∧ cells ≤ R.cells ∧ slots ≤ R.slots) (hlo : 20 ≤ R.locals) (hW : (rest.map fun v => v.category).sum ≤ 8) (hdg : decode cc pc = .ok (.invokevirtual 224, 3))
    (kk : ∀ (H : Heap) (locs : List Loc), HS D A ws s.heap H locs → W p l e R s m args below meth c H locs cells slots Q (F0 m (pc + 3) ls (.int (v - 1) :: rest))) : W p l e R s m args below meth c H locs cells slots Q (F0 m pc ls (.ref (adE (x.toNatClampNeg - 1)) :: rest)) := by
  obtain ⟨rfl, j, hj, hvj, hcl⟩ := en_ok hv
  have e1 : x - 1 = nI j := by rw [hvj]; exact nI_pred j
  rw [hcl]
  rw [e1] at kk
  have wd : ∀ (i : Nat) (w : Cond), ([.methodLink own 224 ⟨RX2, "ordinal", "()I"⟩, .sameMethod RX2 "java/lang/Enum" "ordinal" "()I", .selects RX2 ⟨RX2, "ordinal", "()I"⟩ ordN, .instanceMethod ordN, .code ordN cJx29ce0_ordinal_8abf5 1 (some .int), ordW] : List Cond)[i]? = some w → w.before args s = true := fun i w h => X.1.2.2.2.2 w (hw w (List.mem_of_getElem? h))
  have w0 := wd 0 _ rfl
  have w1 := wd 1 _ rfl
  have w2 := wd 2 _ rfl
  have w3 := wd 3 _ rfl
  have w4 := wd 4 _ rfl
  have w5 := wd 5 _ rfl
  have hx := X.1.1
  have hK : Back l R p e below s args ordN 3 8 (PreOf R 0 0 (fun a U => WPre D (tyl cI cG cL) A (ENV tC tS adE adK adV A) ws [.ref (adE j)] a U ∧ ordW.before #[] U = true)) (PostOf (PI D A ws (nI j)) 0 0 A) := by
    refine nBack (rm := rmk 0 0) (bytes := cJx29ce0_ordinal_8abf5) (maxL := 1) (ret := some .int) (by decide) ?_ rfl rfl hf.1 hlo (fun a' U hW => word_at hW (Or.inl (by first | rfl | simp [Cond.onTables, Cond.keeps, Cond.steady])) w4) ?_
    · intro a U g mk h
      exact ⟨WPre.blind X.2.2.1 a U g mk h.1, va_tabs (A := #[]) (u := U) rfl rfl h.2⟩
    · intro s m args below meth c s₁ Y hh0 hn hb hml hr hlk hv
      obtain ⟨⟨rfl, hP, hK, hD0, hEN⟩, hfl⟩ := hv
      have hown' : s.vm.findClass "java/lang/Enum" = some m.cls := findClass_of_methodNamed hn
      have K : W p l e (rmk 0 0) s m ([Value.ref (adE j)] : List Value).toArray below meth c s.heap [] 0 0 (MQ below (PI D A ws (nI j)) ([Value.ref (adE j)] : List Value).toArray s 0 0 A) (entryFrame m ([Value.ref (adE j)] : List Value).toArray 1) := by
        rw [lg_entry_eq]
        have hl : lv_has _ 1 [(0, .ref (adE j))] := lv_entry ([.ref (adE j)]) (n := 1) (Nat.le_of_ble_eq_true rfl)
        generalize (lg_sl ([.ref (adE j)]) ++ List.replicate (1 - (lg_sl ([.ref (adE j)])).length) Slot.unset).toArray = ls at hl ⊢
        refine lv_aload_n hx hb dJx29ce0_ordinal_8abf5_0 rfl (lv_at hl 0 rfl) ?_
        refine vk_getf (ref := "java/lang/Enum") hx hb (hEN.2.2.2.2.2.1 j hj).2.1 va_S.rf hown' (va_tabs (A := #[]) rfl rfl hfl) (fun _ h => h) dJx29ce0_ordinal_8abf5_1 ?_
        exact W.iret hx hb hr (fun t ht hW => ⟨⟨nI j, (), rfl, rfl, by rw [ht]; exact hP, hD0⟩, va_S.rf.F ht⟩) (fun _ h => absurd h List.not_mem_nil) dJx29ce0_ordinal_8abf5_4 hlk
      exact K s₁ hh0 Y
  have run : va_Run p l e R s m args below meth c H locs cells slots 0 0 (F0 m pc ls (.ref (adE j) :: rest)) rest (PI D A ws (nI j) #[Value.ref (adE j)]) A := by
    obtain ⟨cellB, hcB, hoB, hclB, -⟩ := (X.env.2.2.2.2.2.1 j hj).1.kept hS.2.2.2.1
    intro T hT Y
    obtain ⟨v, vm₁, ⟨U', l2, c2, s2⟩, hW₁, X', ⟨g', mk, t, L, e1, e2, hq, h1, hL, h2, h3⟩, st⟩ := va_callVU Y hx (C := RX2) (owner := "java/lang/Enum") (x := ⟨RX2, "ordinal", "()I"⟩) (bytes := cJx29ce0_ordinal_8abf5) (maxL := 1) (ret := some .int) X.1.2.2.2.1 w0 w1 (va_Decl.of w3 w4) ⟨by decide, by decide⟩ w2 w3 w4 hK (by rw [hT]; exact hcB) hoB hclB (g := F0 m pc ls (.ref (adE j) :: rest)) rfl (hl.trans X.1.2.2.1.symm) (argsL := []) (rest := rest) (fun sig h => by
      have h2 : (parseMethodDescriptor "()I").map (fun d => d.parameters.length) = some 0 := by decide +kernel
      rw [h] at h2
      exact (Option.some.inj h2).symm) rfl (lv_room (m := m) (pc := pc) (ls := ls) (rest := .ref (adE j) :: rest) (st := rest) hW) (by rw [X.1.2.1]; exact hdg)
      (fun vm₁ hW₁ => ⟨hf.2.1, hf.2.2, WPre.gives X hS (T.setVm vm₁) hT hW₁, word_at (a' := #[]) (U := T.setVm vm₁) hW₁ (Or.inl (by first | rfl | simp [Cond.onTables, Cond.keeps, Cond.steady])) w5⟩)
    dsimp only [Pt.U, Pt.locs, Pt.cells, Pt.slots] at X' e1 e2 h1 h2 h3 st
    subst h1; subst h2; subst h3
    exact ⟨v, (T.setVm vm₁).calling g' mk #[Value.ref (adE j)], t, U', L, hT, X', hL, e1, e2, hq, st⟩
  exact r_ci hS run kk
end ENVS
