/-! the texts of the commands: String.length, String.charAt, isWord, commandNamed -/
section WORDS
variable {tC tS : Nat} {adE adK adV : Nat → Nat} {A : Nat → Prop} {D : va_G} {cI cG cL : ClassId}
def wch (i k : Nat) : Int32 := (wbyt.getD i []).getD k 0
theorem wall : ∀ i, i < 7 → wlen.getD i 0 < 7 ∧ ∀ k, k < 7 → (((wbyt.getD i []).getD k 0 &&& 255).toUInt32 % 65536).toInt32 = wch i k ∧ narrow .char (.int (wch i k)) = .int (wch i k) := by decide +kernel
section ROWS
variable {p : Program} {l : Launch} {e : Env} {R : Room} {s : State} {m : MethodId} {args : Array Value} {below : List Frame} {meth : Method} {c : Code} {H : Heap} {locs : List Loc} {cells slots : Nat} {Q : State → Prop}
variable {cc : ByteArray} {nL : Nat} {Ts : List Cond} {own : String} {EN : State → Heap → Prop} {pc : Nat} {ls : Array Slot} {rest : List Value} {ws : va_W}
variable {y : MethodName} {bytes : ByteArray} {maxL n index : Nat} {ret : Option FieldType} {wsY : List Cond} {rm : Room} {Qc : Array Value → State → Outcome → State → Prop} {C : String} {b : Addr} {As st : List Value} {tys : List (ClassId × FieldType)}
theorem r_runK (X : Cx p s m args c cc nL Ts own D tys A EN) (hS : HS D A ws s.heap H locs) (hM : Met l y wsY rm (WPre D tys A EN ws (.ref b :: As)) Qc 0 0 A) (cw : CallW R s args own C index y bytes maxL ret wsY rm 0 0 n) (hrecv : ∃ cell : Cell, H[b]? = some cell ∧ cell.vm.isStatics = false ∧ s.vm.findClass C = some cell.cls) (hn : As.length = n) (hl : ls.size = nL) (hst : st = As.reverse ++ .ref b :: rest) (hW : (rest.map fun v => v.category).sum ≤ 8) (hdg : decode cc pc = .ok (.invokevirtual index, 3)) (hf : cells ≤ R.cells ∧ slots ≤ R.slots) :
    va_Run p l e R s m args below meth c H locs cells slots 0 0 (F0 m pc ls st) rest (Qc (Value.ref b :: As).toArray) A :=
  va_runV (As := As) (rest := rest) X.1 hM cw ⟨WPre.blind X.2.2.1, hrecv, WPre.gives X hS⟩ rfl hn hl hst (lv_room (m := m) (pc := pc) (ls := ls) (rest := st) (st := rest) hW) hdg hf
theorem r_nret {ty : FieldType} (X : Cx p s m args c cc nL Ts own D tys A EN) (hS : HS D A ws s.heap H locs) (hr : meth.sig.returnType = some ty) (hlk : meth.locks = false) {v : Int32} (hv : narrow ty (.int v) = .int v) (hdg : decode cc pc = .ok (.ireturn, 1)) : W p l e R s m args below meth c H locs 0 0 (MQ below (PI D A ws v) args s 0 0 A) (F0 m pc ls [.int v]) :=
  W.zret X.1.1 X.1.2.1 hr hv (fun t ht hW => ⟨⟨v, (), rfl, rfl, by rw [ht]; exact hS.1, hS.2.1⟩, hS.2.2.F ht⟩) hS.2.2.2.2 hdg hlk
end ROWS
variable {w : Mem → va_W} {μ : Mem}
set_option maxHeartbeats 4000000 in
set_option maxRecDepth 100000 in
theorem c_J0_coder (l : Launch) (hE : EnOK (ENV tC tS adE adK adV A) A) {i : Nat} (hi : i < 7) : Met l yJ0_coder_7d493 wsJ0_coder_7d493 (rmk 0 0) (WPre D (tyl cI cG cL) A (ENV tC tS adE adK adV A) (w μ) [.ref (adK i)]) (PI D A (w μ) 0) 0 0 A := by
  refine met_start (cc := cJ0_coder_7d493) (nL := 1) (ret := some .byte) (own := RJ0) hE (by decide) rfl rfl (Nat.le_of_ble_eq_true rfl) (fun p e s m args below meth c ls X hS hl hr hlk => ?_)
  have hx := X.1.1
  have hb := X.1.2.1
  replace hl : lv_has ls 1 [(0, .ref (adK i))] := hl
  refine va_gets (ref := "java/lang/String") hx hb X.env.2.2.2.2.2.2.2.1.1 hS.2.2 X.1.2.2.2.1 (X.1.2.2.2.2 (.fieldLink RJ0 38 "java/lang/String" "COMPACT_STRINGS" "Z") (by decide +kernel)) (fun _ h => h) dJ0_coder_7d493_0 ?_
  refine lv_if_eq (tgt := 13) hx hb dJ0_coder_7d493_3 (by decide) (fun h => absurd h (by decide)) (fun _ => ?_)
  refine lv_aload_n hx hb dJ0_coder_7d493_6 rfl (lv_at hl 0 rfl) ?_
  refine vk_getf (ref := "java/lang/String") hx hb (X.env.2.2.2.2.2.2.1.1 i hi).2.1 hS.2.2 X.1.2.2.2.1 (X.1.2.2.2.2 (.fieldLink RJ0 15 "java/lang/String" "coder" "B") (by decide +kernel)) (fun _ h => h) dJ0_coder_7d493_7 ?_
  refine lv_goto (tgt := 14) hx hb dJ0_coder_7d493_10 (by decide) ?_
  exact r_nret X hS hr hlk rfl dJ0_coder_7d493_14
set_option maxHeartbeats 4000000 in
set_option maxRecDepth 100000 in
theorem c_J0_isLatin1 (l : Launch) (hE : EnOK (ENV tC tS adE adK adV A) A) {i : Nat} (hi : i < 7) : Met l yJ0_isLatin1_aae02 wsJ0_isLatin1_aae02 (rmk 0 0) (WPre D (tyl cI cG cL) A (ENV tC tS adE adK adV A) (w μ) [.ref (adK i)]) (PI D A (w μ) 1) 0 0 A := by
  refine met_start (cc := cJ0_isLatin1_aae02) (nL := 1) (ret := some .boolean) (own := RJ0) hE (by decide) rfl rfl (Nat.le_of_ble_eq_true rfl) (fun p e s m args below meth c ls X hS hl hr hlk => ?_)
  have hx := X.1.1
  have hb := X.1.2.1
  replace hl : lv_has ls 1 [(0, .ref (adK i))] := hl
  refine va_gets (ref := "java/lang/String") hx hb X.env.2.2.2.2.2.2.2.1.1 hS.2.2 X.1.2.2.2.1 (X.1.2.2.2.2 (.fieldLink RJ0 38 "java/lang/String" "COMPACT_STRINGS" "Z") (by decide +kernel)) (fun _ h => h) dJ0_isLatin1_aae02_0 ?_
  refine lv_if_eq (tgt := 17) hx hb dJ0_isLatin1_aae02_3 (by decide) (fun h => absurd h (by decide)) (fun _ => ?_)
  refine lv_aload_n hx hb dJ0_isLatin1_aae02_6 rfl (lv_at hl 0 rfl) ?_
  refine vk_getf (ref := "java/lang/String") hx hb (X.env.2.2.2.2.2.2.1.1 i hi).2.1 hS.2.2 X.1.2.2.2.1 (X.1.2.2.2.2 (.fieldLink RJ0 15 "java/lang/String" "coder" "B") (by decide +kernel)) (fun _ h => h) dJ0_isLatin1_aae02_7 ?_
  refine lv_if_ne (tgt := 17) hx hb dJ0_isLatin1_aae02_10 (by decide) (fun h => absurd rfl h) (fun _ => ?_)
  refine lv_iconst (v := 1) hx hb dJ0_isLatin1_aae02_13 (by decide) ?_
  refine lv_goto (tgt := 18) hx hb dJ0_isLatin1_aae02_14 (by decide) ?_
  exact r_zret X hS hr hlk (by decide) dJ0_isLatin1_aae02_18
set_option maxHeartbeats 4000000 in
set_option maxRecDepth 100000 in
theorem c_J0_length (l : Launch) (hE : EnOK (ENV tC tS adE adK adV A) A) {i : Nat} (hi : i < 7) : Met l yJ0_length_8abf5 wsJ0_length_8abf5 (rmk 1 20) (WPre D (tyl cI cG cL) A (ENV tC tS adE adK adV A) (w μ) [.ref (adK i)]) (PI D A (w μ) (nI (wlen.getD i 0))) 0 0 A := by
  refine met_start (cc := cJ0_length_8abf5) (nL := 1) (ret := some .int) (own := RJ0) hE (by decide) rfl rfl (Nat.le_of_ble_eq_true rfl) (fun p e s m args below meth c ls X hS hl hr hlk => ?_)
  have hx := X.1.1
  have hb := X.1.2.1
  replace hl : lv_has ls 1 [(0, .ref (adK i))] := hl
  refine lv_aload_n hx hb dJ0_length_8abf5_0 rfl (lv_at hl 0 rfl) ?_
  refine vk_getf (ref := "java/lang/String") hx hb (X.env.2.2.2.2.2.2.1.1 i hi).2.2.1 hS.2.2 X.1.2.2.2.1 (X.1.2.2.2.2 (.fieldLink RJ0 9 "java/lang/String" "value" "[B") (by decide +kernel)) (fun _ h => h) dJ0_length_8abf5_1 ?_
  refine va_tlen hx hb (X.env.2.2.2.2.2.2.1.1 i hi).2.2.2 hS.2.2 (v := nI (wlen.getD i 0)) rfl dJ0_length_8abf5_4 ?_
  refine lv_aload_n hx hb dJ0_length_8abf5_5 rfl (lv_at hl 0 rfl) ?_
  refine r_ci hS (r_runK (As := []) (rest := [.int (nI (wlen.getD i 0))]) X hS (c_J0_coder l hE (w := w) (μ := μ) (D := D) (cI := cI) (cG := cG) (cL := cL) hi) (cwV 0 X.1.2.2.2.2 gJ0_length_8abf5_J0_coder_7d493 rfl rfl rfl (by decide +kernel) ⟨Nat.le_of_ble_eq_true rfl, Nat.le_of_ble_eq_true rfl⟩) (vk_recv X.env.2.2.2.2.2.2.1 hi hS.2.2) rfl hl.1 rfl (Nat.le_of_ble_eq_true rfl) dJ0_length_8abf5_6 ⟨Nat.zero_le _, Nat.zero_le _⟩) (fun H locs hS => ?_)
  refine lv_ishr hx hb dJ0_length_8abf5_9 ?_
  rw [sc_shr0 (by have := (wall i hi).1; omega)]
  exact r_iret X hS hr hlk dJ0_length_8abf5_10
set_option maxHeartbeats 4000000 in
set_option maxRecDepth 100000 in
theorem c_J3_check (l : Launch) (hE : EnOK (ENV tC tS adE adK adV A) A) {k n : Nat} (hk : k < n) (hn : n < 2 ^ 31) {vv : Value} (hvv : vv = .null ∨ ∃ t, vv = .ref t) : Met l yJ3_checkIndex_8e157 wsJ3_checkIndex_8e157 (rmk 0 0) (WPre D (tyl cI cG cL) A (ENV tC tS adE adK adV A) (w μ) [.int (nI k), .int (nI n), vv]) (PI D A (w μ) (nI k)) 0 0 A := by
  refine met_start (cc := cJ3_checkIndex_8e157) (nL := 3) (ret := some .int) (own := RJ3) hE (by decide) rfl rfl (by rcases hvv with rfl | ⟨t, rfl⟩ <;> exact Nat.le_of_ble_eq_true rfl) (fun p e s m args below meth c ls X hS hl hr hlk => ?_)
  have hx := X.1.1
  have hb := X.1.2.1
  replace hl : lv_has ls 3 [(0, .int (nI k)), (1, .int (nI n))] := by
    rcases hvv with rfl | ⟨t, rfl⟩ <;> exact lv_sub hl [0, 1] rfl
  refine lv_iload_n hx hb dJ3_checkIndex_8e157_0 rfl (lv_at hl 0 rfl) ?_
  refine lv_if_lt (tgt := 9) hx hb dJ3_checkIndex_8e157_1 (by decide) (fun h => absurd h (nI_pos (by omega))) (fun _ => ?_)
  refine lv_iload_n hx hb dJ3_checkIndex_8e157_4 rfl (lv_at hl 0 rfl) ?_
  refine lv_iload_n hx hb dJ3_checkIndex_8e157_5 rfl (lv_at hl 1 rfl) ?_
  refine lv_icmp_lt (tgt := 16) hx hb dJ3_checkIndex_8e157_6 (by decide) (fun _ => ?_) (fun h => absurd (nI_lt hk hn) h)
  refine lv_iload_n hx hb dJ3_checkIndex_8e157_16 rfl (lv_at hl 0 rfl) ?_
  exact r_iret X hS hr hlk dJ3_checkIndex_8e157_17
set_option maxHeartbeats 4000000 in
set_option maxRecDepth 100000 in
theorem c_J0_check (l : Launch) (hE : EnOK (ENV tC tS adE adK adV A) A) {k n : Nat} (hk : k < n) (hn : n < 2 ^ 31) : Met l yJ0_checkIndex_df160 wsJ0_checkIndex_df160 (rmk 1 22) (WPre D (tyl cI cG cL) A (ENV tC tS adE adK adV A) (w μ) [.int (nI k), .int (nI n)]) (PV D A (w μ)) 0 0 A := by
  refine met_start (cc := cJ0_checkIndex_df160) (nL := 2) (ret := none) (own := RJ0) hE (by decide) rfl rfl (Nat.le_of_ble_eq_true rfl) (fun p e s m args below meth c ls X hS hl hr hlk => ?_)
  have hx := X.1.1
  have hb := X.1.2.1
  replace hl : lv_has ls 2 [(0, .int (nI k)), (1, .int (nI n))] := hl
  refine lv_iload_n hx hb dJ0_checkIndex_df160_0 rfl (lv_at hl 0 rfl) ?_
  refine lv_iload_n hx hb dJ0_checkIndex_df160_1 rfl (lv_at hl 1 rfl) ?_
  have key : ∀ vv : Value, (vv = .null ∨ ∃ t, vv = .ref t) → va_Z "jdk/internal/util/Preconditions" "SIOOBE_FORMATTER" "Ljava/util/function/BiFunction;" vv A s s.heap → W p l e (headSpec wsJ0_checkIndex_df160 (rmk 1 22)).room s m args below meth c s.heap [] 0 0 (MQ below (PV D A (w μ)) args s 0 0 A) (F0 m 2 ls [.int (nI n), .int (nI k)]) := by
    intro vv hvv hZ
    refine va_gets (ref := "jdk/internal/util/Preconditions") hx hb hZ hS.2.2 X.1.2.2.2.1 (X.1.2.2.2.2 (.fieldLink RJ0 1053 "jdk/internal/util/Preconditions" "SIOOBE_FORMATTER" "Ljava/util/function/BiFunction;") (by decide +kernel)) (fun _ h => h) dJ0_checkIndex_df160_2 ?_
    refine r_ci hS (r_runS (As := [.int (nI k), .int (nI n), vv]) (rest := []) X hS (c_J3_check l hE (w := w) (μ := μ) (D := D) (cI := cI) (cG := cG) (cL := cL) hk hn hvv) (va_cwS 3 X.1.2.2.2.2 gJ0_checkIndex_df160_J3_checkIndex_8e157 rfl rfl rfl (by decide +kernel) ⟨Nat.le_of_ble_eq_true rfl, Nat.le_of_ble_eq_true rfl⟩) rfl hl.1 rfl (Nat.le_of_ble_eq_true rfl) dJ0_checkIndex_df160_5 ⟨Nat.zero_le _, Nat.zero_le _⟩) (fun H locs hS => ?_)
    refine lv_pop hx hb dJ0_checkIndex_df160_8 rfl ?_
    exact r_vret X hS hr hlk dJ0_checkIndex_df160_9
  rcases X.env.2.2.2.2.2.2.2.1.2 with h | ⟨t, h⟩
  · exact key _ (Or.inl rfl) h
  · exact key _ (Or.inr ⟨t, rfl⟩) h
set_option maxHeartbeats 4000000 in
set_option maxRecDepth 100000 in
theorem c_J1_charAt (l : Launch) (hE : EnOK (ENV tC tS adE adK adV A) A) {i k : Nat} (hi : i < 7) (hk : k < wlen.getD i 0) : Met l yJ1_charAt_3b067 wsJ1_charAt_3b067 (rmk 2 43) (WPre D (tyl cI cG cL) A (ENV tC tS adE adK adV A) (w μ) [.ref (adV i), .int (nI k)]) (PI D A (w μ) (wch i k)) 0 0 A := by
  have h7 := (wall i hi).1
  refine met_start (cc := cJ1_charAt_3b067) (nL := 2) (ret := some .char) (own := RJ1) hE (by decide) rfl rfl (Nat.le_of_ble_eq_true rfl) (fun p e s m args below meth c ls X hS hl hr hlk => ?_)
  have hx := X.1.1
  have hb := X.1.2.1
  replace hl : lv_has ls 2 [(0, .ref (adV i)), (1, .int (nI k))] := hl
  refine lv_iload_n hx hb dJ1_charAt_3b067_0 rfl (lv_at hl 1 rfl) ?_
  refine lv_aload_n hx hb dJ1_charAt_3b067_1 rfl (lv_at hl 0 rfl) ?_
  refine va_tlen hx hb (X.env.2.2.2.2.2.2.1.1 i hi).2.2.2 hS.2.2 (v := nI (wlen.getD i 0)) rfl dJ1_charAt_3b067_2 ?_
  refine r_cv hS (r_runS (As := [.int (nI k), .int (nI (wlen.getD i 0))]) (rest := []) X hS (c_J0_check l hE (w := w) (μ := μ) (D := D) (cI := cI) (cG := cG) (cL := cL) hk (by omega)) (va_cwS 2 X.1.2.2.2.2 gJ1_charAt_3b067_J0_checkIndex_df160 rfl rfl rfl (by decide +kernel) ⟨Nat.le_of_ble_eq_true rfl, Nat.le_of_ble_eq_true rfl⟩) rfl hl.1 rfl (Nat.le_of_ble_eq_true rfl) dJ1_charAt_3b067_3 ⟨Nat.zero_le _, Nat.zero_le _⟩) (fun H locs hS => ?_)
  refine lv_aload_n hx hb dJ1_charAt_3b067_6 rfl (lv_at hl 0 rfl) ?_
  refine lv_iload_n hx hb dJ1_charAt_3b067_7 rfl (lv_at hl 1 rfl) ?_
  refine va_tb hx hb (X.env.2.2.2.2.2.2.1.1 i hi).2.2.2 hS.2.2 (vp_in_nI hk (by omega)) (v := .int ((wbyt.getD i []).getD k 0)) (by rw [nI_clamp (by omega)]) dJ1_charAt_3b067_8 ?_
  refine lv_sipush (v := 255) hx hb dJ1_charAt_3b067_9 (by decide) ?_
  refine lv_iand hx hb dJ1_charAt_3b067_12 ?_
  refine lv_i2c (v := wch i k) hx hb dJ1_charAt_3b067_13 ((wall i hi).2 k (by omega)).1 ?_
  exact r_nret X hS hr hlk ((wall i hi).2 k (by omega)).2 dJ1_charAt_3b067_14
set_option maxHeartbeats 4000000 in
set_option maxRecDepth 100000 in
theorem c_J0_charAt (l : Launch) (hE : EnOK (ENV tC tS adE adK adV A) A) {i k : Nat} (hi : i < 7) (hk : k < wlen.getD i 0) : Met l yJ0_charAt_5068e wsJ0_charAt_5068e (rmk 3 64) (WPre D (tyl cI cG cL) A (ENV tC tS adE adK adV A) (w μ) [.ref (adK i), .int (nI k)]) (PI D A (w μ) (wch i k)) 0 0 A := by
  have h7 := (wall i hi).1
  refine met_start (cc := cJ0_charAt_5068e) (nL := 2) (ret := some .char) (own := RJ0) hE (by decide) rfl rfl (Nat.le_of_ble_eq_true rfl) (fun p e s m args below meth c ls X hS hl hr hlk => ?_)
  have hx := X.1.1
  have hb := X.1.2.1
  replace hl : lv_has ls 2 [(0, .ref (adK i)), (1, .int (nI k))] := hl
  refine lv_aload_n hx hb dJ0_charAt_5068e_0 rfl (lv_at hl 0 rfl) ?_
  refine r_ci hS (r_runK (As := []) (rest := []) X hS (c_J0_isLatin1 l hE (w := w) (μ := μ) (D := D) (cI := cI) (cG := cG) (cL := cL) hi) (cwV 0 X.1.2.2.2.2 gJ0_charAt_5068e_J0_isLatin1_aae02 rfl rfl rfl (by decide +kernel) ⟨Nat.le_of_ble_eq_true rfl, Nat.le_of_ble_eq_true rfl⟩) (vk_recv X.env.2.2.2.2.2.2.1 hi hS.2.2) rfl hl.1 rfl (Nat.le_of_ble_eq_true rfl) dJ0_charAt_5068e_1 ⟨Nat.zero_le _, Nat.zero_le _⟩) (fun H locs hS => ?_)
  refine lv_if_eq (tgt := 16) hx hb dJ0_charAt_5068e_4 (by decide) (fun h => absurd h (by decide)) (fun _ => ?_)
  refine lv_aload_n hx hb dJ0_charAt_5068e_7 rfl (lv_at hl 0 rfl) ?_
  refine vk_getf (ref := "java/lang/String") hx hb (X.env.2.2.2.2.2.2.1.1 i hi).2.2.1 hS.2.2 X.1.2.2.2.1 (X.1.2.2.2.2 (.fieldLink RJ0 9 "java/lang/String" "value" "[B") (by decide +kernel)) (fun _ h => h) dJ0_charAt_5068e_8 ?_
  refine lv_iload_n hx hb dJ0_charAt_5068e_11 rfl (lv_at hl 1 rfl) ?_
  refine r_ci hS (r_runS (As := [.ref (adV i), .int (nI k)]) (rest := []) X hS (c_J1_charAt l hE (w := w) (μ := μ) (D := D) (cI := cI) (cG := cG) (cL := cL) hi hk) (va_cwS 2 X.1.2.2.2.2 gJ0_charAt_5068e_J1_charAt_3b067 rfl rfl rfl (by decide +kernel) ⟨Nat.le_of_ble_eq_true rfl, Nat.le_of_ble_eq_true rfl⟩) rfl hl.1 rfl (Nat.le_of_ble_eq_true rfl) dJ0_charAt_5068e_12 ⟨Nat.zero_le _, Nat.zero_le _⟩) (fun H locs hS => ?_)
  exact r_nret X hS hr hlk ((wall i hi).2 k (by omega)).2 dJ0_charAt_5068e_15
/-- isWord: the i-th word against the text from a2 on -/
def f_X3_isWord_b17 (q i : Nat) : Nat → Int32 → Int32 → Mem → Option Int32
  | 0, _, _, _ => none
  | fuel17 + 1, x2, x3, μ => if nI (wlen.getD i 0) ≤ x3 then some 1 else (rd (wlen.getD i 0) (wch i) x3).bind (fun v1 => (f_X3_byteAt q (x2 + x3) μ).bind (fun v2 => if v1 = v2 then f_X3_isWord_b17 q i fuel17 x2 (x3 + 1) μ else some 0))
def f_X3_isWord (q i : Nat) (a2 : Int32) (μ : Mem) : Option Int32 := if nI (wlen.getD i 0) = μ q 2 - a2 then f_X3_isWord_b17 q i FU a2 0 μ else some 0
set_option maxHeartbeats 4000000 in
set_option maxRecDepth 100000 in
theorem c_X3_isWord (l : Launch) (hE : EnOK (ENV tC tS adE adK adV A) A) {ad : Nat → Nat} {q i : Nat} (hi : i < 7) {a2 r : Int32} (hw : TextAt cI adE w ad q) (h : f_X3_isWord q i a2 μ = some r) : Met l yX3_isWord wsX3_isWord (rmk 4 85) (WPre D (tyl cI cG cL) A (ENV tC tS adE adK adV A) (w μ) [.ref (ad q), .ref (adK i), .int a2]) (PI D A (w μ) r) 0 0 A := by
  have hiX3 : ∀ w ∈ u_ws RX3 TX3 7, w ∈ wsX3_isWord := by decide +kernel
  have mf19 : Cond.fieldLink RX3 19 (TX3 2).1 (TX3 2).2.1 (TX3 2).2.2.1 ∈ wsX3_isWord := by decide +kernel
  refine met_start (cc := cX3_isWord) (nL := 4) (ret := some .boolean) (own := RX3) hE (by decide) rfl rfl (Nat.le_of_ble_eq_true rfl) (fun p e s m args below meth c ls X hS hl hr hlk => ?_)
  have hx := X.1.1
  have hb := X.1.2.1
  replace hl : lv_has ls 4 [(0, .ref (ad q)), (1, .ref (adK i)), (2, .int a2)] := hl
  have hb17 : ∀ (fu : Nat) (x2 x3 : Int32) (H : Heap) (locs : List Loc) (ls : Array Slot), HS D A (w μ) s.heap H locs → lv_has ls 4 [(0, .ref (ad q)), (1, .ref (adK i)), (2, .int x2), (3, .int x3)] → f_X3_isWord_b17 q i fu x2 x3 μ = some r → W p l e (headSpec wsX3_isWord (rmk 4 85)).room s m args below meth c H locs 0 0 (MQ below (PI D A (w μ) r) args s 0 0 A) (F0 m 17 ls []) := by
    intro fu
    induction fu with
    | zero =>
      intro x2 x3 H locs ls hS hl h
      rw [f_X3_isWord_b17] at h
      cases h
    | succ fuel17 ih17 =>
      intro x2 x3 H locs ls hS hl h
      rw [f_X3_isWord_b17] at h
      refine lv_iload_n hx hb dX3_isWord_17 rfl (lv_at hl 3 rfl) ?_
      refine lv_aload_n hx hb dX3_isWord_18 rfl (lv_at hl 1 rfl) ?_
      refine r_ci hS (r_runK (As := []) (rest := [.int x3]) X hS (c_J0_length l hE (w := w) (μ := μ) (D := D) (cI := cI) (cG := cG) (cL := cL) hi) (cwV 0 X.1.2.2.2.2 gX3_isWord_J0_length_8abf5 rfl rfl rfl (by decide +kernel) ⟨Nat.le_of_ble_eq_true rfl, Nat.le_of_ble_eq_true rfl⟩) (vk_recv X.env.2.2.2.2.2.2.1 hi hS.2.2) rfl hl.1 rfl (Nat.le_of_ble_eq_true rfl) dX3_isWord_19 ⟨Nat.zero_le _, Nat.zero_le _⟩) (fun H locs hS => ?_)
      refine lv_icmp_ge (tgt := 48) hx hb dX3_isWord_22 (by decide) (fun cc => ?_) (fun cc => ?_)
      · replace h := it h cc
        cases h
        refine lv_iconst (v := 1) hx hb dX3_isWord_48 (by decide) ?_
        exact r_zret X hS hr hlk (by decide) dX3_isWord_49
      · replace h := ie h cc
        obtain ⟨v1, ev1, h⟩ := ob h
        obtain ⟨hin, hv1⟩ := rd_ok ev1
        obtain ⟨k, hk, rfl⟩ := vp_in_of hin (by have := (wall i hi).1; omega)
        have h7 := (wall i hi).1
        rw [nI_clamp (by omega)] at hv1
        subst hv1
        refine lv_aload_n hx hb dX3_isWord_25 rfl (lv_at hl 1 rfl) ?_
        refine lv_iload_n hx hb dX3_isWord_26 rfl (lv_at hl 3 rfl) ?_
        refine r_ci hS (r_runK (As := [.int (nI k)]) (rest := []) X hS (c_J0_charAt l hE (w := w) (μ := μ) (D := D) (cI := cI) (cG := cG) (cL := cL) hi hk) (cwV 1 X.1.2.2.2.2 gX3_isWord_J0_charAt_5068e rfl rfl rfl (by decide +kernel) ⟨Nat.le_of_ble_eq_true rfl, Nat.le_of_ble_eq_true rfl⟩) (vk_recv X.env.2.2.2.2.2.2.1 hi hS.2.2) rfl hl.1 rfl (Nat.le_of_ble_eq_true rfl) dX3_isWord_27 ⟨Nat.zero_le _, Nat.zero_le _⟩) (fun H locs hS => ?_)
        refine lv_aload_n hx hb dX3_isWord_30 rfl (lv_at hl 0 rfl) ?_
        refine lv_iload_n hx hb dX3_isWord_31 rfl (lv_at hl 2 rfl) ?_
        refine lv_iload_n hx hb dX3_isWord_32 rfl (lv_at hl 3 rfl) ?_
        refine lv_iadd hx hb dX3_isWord_33 ?_
        obtain ⟨v2, ev2, h⟩ := ob h
        refine r_ci hS (r_runV (As := [.int (x2 + nI k)]) (rest := [.int (wch i k)]) X hS (c_X3_byteAt l hE (w := w) (ad := ad) (μ := μ) (D := D) (cI := cI) (cG := cG) (cL := cL) hw ev2) (cwV 1 X.1.2.2.2.2 gX3_isWord_X3_byteAt rfl rfl rfl (by decide +kernel) ⟨Nat.le_of_ble_eq_true rfl, Nat.le_of_ble_eq_true rfl⟩) (q0 := q) (ci := 1) rfl (hw.1 μ).1 rfl hl.1 rfl (Nat.le_of_ble_eq_true rfl) dX3_isWord_34 ⟨Nat.zero_le _, Nat.zero_le _⟩) (fun H locs hS => ?_)
        refine lv_icmp_eq (tgt := 42) hx hb dX3_isWord_37 (by decide) (fun cc => ?_) (fun cc => ?_)
        · replace h := it h cc
          refine lv_iinc (v := nI k + 1) (lv' := [(3, .int (nI k + 1)), (0, .ref (ad q)), (1, .ref (adK i)), (2, .int x2)]) hx hb dX3_isWord_42 hl (k := 3) rfl rfl (by decide) rfl (fun ls hl => ?_)
          refine lv_goto (tgt := 17) hx hb dX3_isWord_45 (by decide) ?_
          exact ih17 x2 (nI k + 1) _ _ _ hS (lv_sub hl [1, 2, 3, 0] rfl) h
        · replace h := ie h cc
          cases h
          refine lv_iconst (v := 0) hx hb dX3_isWord_40 (by decide) ?_
          exact r_zret X hS hr hlk (by decide) dX3_isWord_41
  unfold f_X3_isWord at h
  refine lv_aload_n hx hb dX3_isWord_0 rfl (lv_at hl 1 rfl) ?_
  refine r_ci hS (r_runK (As := []) (rest := []) X hS (c_J0_length l hE (w := w) (μ := μ) (D := D) (cI := cI) (cG := cG) (cL := cL) hi) (cwV 0 X.1.2.2.2.2 gX3_isWord_J0_length_8abf5 rfl rfl rfl (by decide +kernel) ⟨Nat.le_of_ble_eq_true rfl, Nat.le_of_ble_eq_true rfl⟩) (vk_recv X.env.2.2.2.2.2.2.1 hi hS.2.2) rfl hl.1 rfl (Nat.le_of_ble_eq_true rfl) dX3_isWord_1 ⟨Nat.zero_le _, Nat.zero_le _⟩) (fun H locs hS => ?_)
  refine lv_aload_n hx hb dX3_isWord_4 rfl (lv_at hl 0 rfl) ?_
  refine r_get X hS (T := TX3) (k := 2) (hw.1 μ).1 rfl hiX3 (by decide) mf19 rfl dX3_isWord_5 ?_
  refine lv_iload_n hx hb dX3_isWord_8 rfl (lv_at hl 2 rfl) ?_
  refine lv_isub hx hb dX3_isWord_9 ?_
  refine lv_icmp_eq (tgt := 15) hx hb dX3_isWord_10 (by decide) (fun cc => ?_) (fun cc => ?_)
  · replace h := it h cc
    refine lv_iconst (v := 0) hx hb dX3_isWord_15 (by decide) ?_
    refine lv_istore_n (lv' := [(3, .int 0), (0, .ref (ad q)), (1, .ref (adK i)), (2, .int a2)]) hx hb dX3_isWord_16 rfl hl (by decide) rfl (fun ls hl => ?_)
    exact hb17 FU a2 0 _ _ _ hS (lv_sub hl [1, 2, 3, 0] rfl) h
  · replace h := ie h cc
    cases h
    refine lv_iconst (v := 0) hx hb dX3_isWord_13 (by decide) ?_
    exact r_zret X hS hr hlk (by decide) dX3_isWord_14
/-- commandNamed: the first word that stands there, by its code; 0 if none -/
def f_X3_commandNamed_b10 (q : Nat) : Nat → Nat → Int32 → Mem → Option Int32
  | 0, _, _, _ => none
  | fuel10 + 1, i, x1, μ => if 7 ≤ i then some 0 else (f_X3_isWord q i x1 μ).bind (fun v => if v = 0 then f_X3_commandNamed_b10 q fuel10 (i + 1) x1 μ else some (nI (i + 1)))
def f_X3_commandNamed (q : Nat) (a1 : Int32) (μ : Mem) : Option Int32 := f_X3_commandNamed_b10 q FU 0 a1 μ
set_option maxHeartbeats 4000000 in
set_option maxRecDepth 100000 in
theorem c_X3_commandNamed (l : Launch) (hE : EnOK (ENV tC tS adE adK adV A) A) {ad : Nat → Nat} {q : Nat} {a1 r : Int32} (hw : TextAt cI adE w ad q) (h : f_X3_commandNamed q a1 μ = some r) : Met l yX3_commandNamed wsX3_commandNamed (rmk 5 108) (WPre D (tyl cI cG cL) A (ENV tC tS adE adK adV A) (w μ) [.ref (ad q), .int a1]) (PE adE D A (w μ) r) 0 0 A := by
  refine met_start (cc := cX3_commandNamed) (nL := 6) (ret := some (.object RX2)) (own := RX3) hE (by decide) rfl rfl (Nat.le_of_ble_eq_true rfl) (fun p e s m args below meth c ls X hS hl hr hlk => ?_)
  have hx := X.1.1
  have hb := X.1.2.1
  replace hl : lv_has ls 6 [(0, .ref (ad q)), (1, .int a1)] := hl
  have aret : ∀ (H : Heap) (locs : List Loc) (ls : Array Slot) (pc : Nat) (x : Int32) (y : Option Nat), HS D A (w μ) s.heap H locs → va_rf y = cmdv adE x → decode cX3_commandNamed pc = .ok (.areturn, 1) → r = x → W p l e (headSpec wsX3_commandNamed (rmk 5 108)).room s m args below meth c H locs 0 0 (MQ below (PE adE D A (w μ) r) args s 0 0 A) (F0 m pc ls [va_rf y]) := by
    intro H locs ls pc x y hS hy hd hx2
    subst hx2
    exact W.aret hx hb hr (Or.inl ⟨_, rfl⟩) (va_rf_or y) (fun t ht hW => ⟨⟨y, (), rfl, hy, by rw [ht]; exact hS.1, hS.2.1⟩, hS.2.2.F ht⟩) hS.2.2.2.2 hd hlk
  have hb10 : ∀ (fu i : Nat) (x1 : Int32) (H : Heap) (locs : List Loc) (ls : Array Slot), i ≤ 7 → HS D A (w μ) s.heap H locs → lv_has ls 6 [(0, .ref (ad q)), (1, .int x1), (2, .ref tC), (3, .int 7), (4, .int (nI i))] → f_X3_commandNamed_b10 q fu i x1 μ = some r → W p l e (headSpec wsX3_commandNamed (rmk 5 108)).room s m args below meth c H locs 0 0 (MQ below (PE adE D A (w μ) r) args s 0 0 A) (F0 m 10 ls []) := by
    intro fu
    induction fu with
    | zero =>
      intro i x1 H locs ls hi7 hS hl h
      rw [f_X3_commandNamed_b10] at h
      cases h
    | succ fuel10 ih10 =>
      intro i x1 H locs ls hi7 hS hl h
      rw [f_X3_commandNamed_b10] at h
      refine lv_iload hx hb dX3_commandNamed_10 (lv_at hl 4 rfl) ?_
      refine lv_iload_n hx hb dX3_commandNamed_12 rfl (lv_at hl 3 rfl) ?_
      refine lv_icmp_ge (tgt := 44) hx hb dX3_commandNamed_13 (by decide) (fun cc => ?_) (fun cc => ?_)
      · have h7 : 7 ≤ i := (nI_leI (a := 7) (b := i) (by omega) (by omega)).mp cc
        replace h := it h h7
        cases h
        refine lv_null hx hb dX3_commandNamed_44 ?_
        exact aret _ _ _ 45 0 none hS rfl dX3_commandNamed_45 rfl
      · have h7 : ¬ 7 ≤ i := fun z => cc ((nI_leI (a := 7) (b := i) (by omega) (by omega)).mpr z)
        replace h := ie h h7
        have hi : i < 7 := by omega
        refine lv_aload_n hx hb dX3_commandNamed_16 rfl (lv_at hl 2 rfl) ?_
        refine lv_iload hx hb dX3_commandNamed_17 (lv_at hl 4 rfl) ?_
        refine vb_tq hx hb X.env.2.2.2.1.2 hS.2.2 (vp_in_nI hi (by decide)) (v := .ref (adE i)) (by rw [nI_clamp (by omega)]) dX3_commandNamed_19 ?_
        refine lv_astore (lv' := [(5, .ref (adE i)), (0, .ref (ad q)), (1, .int x1), (2, .ref tC), (3, .int 7), (4, .int (nI i))]) hx hb dX3_commandNamed_20 hl (by decide) rfl (fun ls hl => ?_)
        refine lv_aload_n hx hb dX3_commandNamed_22 rfl (lv_at hl 1 rfl) ?_
        refine lv_aload hx hb dX3_commandNamed_23 (lv_at hl 0 rfl) ?_
        obtain ⟨cf, k, fi, f, cell, h1, h2, h3, h4, h5, h6⟩ := (X.env.2.2.2.2.2.1 i hi).2.2.2.kept hS.2.2.2.1
        have hlk2 : (Cond.fieldLinkNest RX3 89 RX2 "word" "Ljava/lang/String;" RX6).before args s = true := va_Nw.use rfl (X.nest 20 rfl)
        refine va_Wgetf hx hb X.1.2.2.2.1 hlk2 h1 h2 h3 h4 (v := .ref (adK i)) h5 rfl rfl dX3_commandNamed_25 ?_
        refine W.eq (g2 := F0 m 28 ls [.ref (adK i), .ref (ad q)]) rfl ?_
        refine lv_iload_n hx hb dX3_commandNamed_28 rfl (lv_at hl 2 rfl) ?_
        obtain ⟨v1, ev1, h⟩ := ob h
        refine r_ci hS (r_runV (As := [.ref (adK i), .int x1]) (rest := []) X hS (c_X3_isWord l hE (w := w) (ad := ad) (μ := μ) (D := D) (cI := cI) (cG := cG) (cL := cL) hi hw ev1) (cwV 2 X.1.2.2.2.2 gX3_commandNamed_X3_isWord rfl rfl rfl (by decide +kernel) ⟨Nat.le_of_ble_eq_true rfl, Nat.le_of_ble_eq_true rfl⟩) (q0 := q) (ci := 1) rfl (hw.1 μ).1 rfl hl.1 rfl (Nat.le_of_ble_eq_true rfl) dX3_commandNamed_29 ⟨Nat.zero_le _, Nat.zero_le _⟩) (fun H locs hS => ?_)
        refine lv_if_eq (tgt := 38) hx hb dX3_commandNamed_32 (by decide) (fun cc => ?_) (fun cc => ?_)
        · replace h := it h cc
          refine lv_iinc (v := nI (i + 1)) (lv' := [(4, .int (nI (i + 1))), (5, .ref (adE i)), (0, .ref (ad q)), (1, .int x1), (2, .ref tC), (3, .int 7)]) hx hb dX3_commandNamed_38 hl (k := 5) rfl (by rw [nI_succ]; rfl) (by decide) rfl (fun ls hl => ?_)
          refine lv_goto (tgt := 10) hx hb dX3_commandNamed_41 (by decide) ?_
          exact ih10 (i + 1) x1 _ _ _ (by omega) hS (lv_sub hl [2, 3, 4, 5, 0] rfl) h
        · replace h := ie h cc
          cases h
          refine lv_aload hx hb dX3_commandNamed_35 (lv_at hl 0 rfl) ?_
          refine aret _ _ _ 37 (nI (i + 1)) (some (adE i)) hS ?_ dX3_commandNamed_37 rfl
          rw [cmdv_n (nI_ne0 (by omega) (by omega)), nI_clamp (by omega)]
          rfl
  unfold f_X3_commandNamed at h
  refine va_getsN (C := RX6) (n := "COMMANDS") (d := "[LPageGarden$Command;") (ref := RX6) (host := RX6) hx hb X.env.2.2.2.1.1 hS.2.2 X.1.2.2.2.1 (va_Nw.use rfl (X.nest 19 rfl)) (fun _ h => h) dX3_commandNamed_0 ?_
  refine lv_astore_n (lv' := [(2, .ref tC), (0, .ref (ad q)), (1, .int a1)]) hx hb dX3_commandNamed_3 rfl hl (by decide) rfl (fun ls hl => ?_)
  refine lv_aload_n hx hb dX3_commandNamed_4 rfl (lv_at hl 0 rfl) ?_
  refine va_tlen hx hb X.env.2.2.2.1.2 hS.2.2 (v := 7) (by decide) dX3_commandNamed_5 ?_
  refine lv_istore_n (lv' := [(3, .int 7), (2, .ref tC), (0, .ref (ad q)), (1, .int a1)]) hx hb dX3_commandNamed_6 rfl hl (by decide) rfl (fun ls hl => ?_)
  refine lv_iconst (v := 0) hx hb dX3_commandNamed_7 (by decide) ?_
  refine lv_istore (lv' := [(4, .int 0), (3, .int 7), (2, .ref tC), (0, .ref (ad q)), (1, .int a1)]) hx hb dX3_commandNamed_8 hl (by decide) rfl (fun ls hl => ?_)
  exact hb10 FU 0 a1 _ _ _ (by omega) hS (lv_sub hl [3, 4, 2, 1, 0] rfl) h
end WORDS
