def f_X3_appendFault_b10 (q : Nat)  (μ : Mem) : Option Int32 := (some 2)
def f_X3_appendFault_b27 (q : Nat) (s0 : Int32) (μ : Mem) : Option Int32 := (some s0)
def f_X3_appendFault (q : Nat) (a1 : Int32) (μ : Mem) : Option Int32 := (if a1 < 0 then f_X3_appendFault_b10 q μ else (if a1 ≤ 127 then (if 150 ≤ (μ q 1) then f_X3_appendFault_b27 q 3 μ else f_X3_appendFault_b27 q 0 μ) else f_X3_appendFault_b10 q μ))
set_option maxHeartbeats 4000000 in
set_option maxRecDepth 100000 in
theorem c_X3_appendFault (l : Launch) {D : va_G} {cI cG cL : ClassId} {A : Nat → Prop} {EN : State → Heap → Prop} (hE : EnOK EN A) {w : Mem → va_W} {adE ad : Nat → Nat} {q : Nat} {a1 : Int32} {μ : Mem} {r : Int32} (hw : TextAt cI adE w ad q) (h : f_X3_appendFault q a1 μ = some r) : Met l yX3_appendFault wsX3_appendFault (rmk 0 0) (WPre D (tyl cI cG cL) A EN (w μ) [.ref (ad q), .int a1]) (PI D A (w μ) r) 0 0 A := by
  have hiX3 : ∀ w ∈ u_ws RX3 TX3 7, w ∈ wsX3_appendFault := by decide +kernel
  have mf15 : Cond.fieldLink RX3 15 (TX3 1).1 (TX3 1).2.1 (TX3 1).2.2.1 ∈ wsX3_appendFault := by decide +kernel
  refine met_start (cc := cX3_appendFault) (nL := 2) (ret := (some .int)) (own := RX3) hE (by decide) rfl rfl (Nat.le_of_ble_eq_true rfl) (fun p e s m args below meth c ls X hS hl hr hlk => ?_)
  have hx := X.1.1
  have hb := X.1.2.1
  replace hl : lv_has ls 2 [(0, .ref (ad q)), (1, .int a1)] := hl
  have hb10 : ∀  (H : Heap) (locs : List Loc) (ls : Array Slot), HS D A (w μ) s.heap H locs → lv_has ls 2 [] → f_X3_appendFault_b10 q μ = some r → W p l e (headSpec wsX3_appendFault (rmk 0 0)).room s m args below meth c H locs 0 0 (MQ below (PI D A (w μ) r) args s 0 0 A) (F0 m 10 ls []) := by
    intro H locs ls hS hl h
    unfold f_X3_appendFault_b10 at h
    refine lv_iconst (v := 2) hx hb dX3_appendFault_10 (by decide) ?_
    cases h
    exact r_iret X hS hr hlk dX3_appendFault_11
  have hb27 : ∀ (s0 : Int32) (H : Heap) (locs : List Loc) (ls : Array Slot), HS D A (w μ) s.heap H locs → lv_has ls 2 [] → f_X3_appendFault_b27 q s0 μ = some r → W p l e (headSpec wsX3_appendFault (rmk 0 0)).room s m args below meth c H locs 0 0 (MQ below (PI D A (w μ) r) args s 0 0 A) (F0 m 27 ls [.int s0]) := by
    intro s0 H locs ls hS hl h
    unfold f_X3_appendFault_b27 at h
    cases h
    exact r_iret X hS hr hlk dX3_appendFault_27
  unfold f_X3_appendFault at h
  refine lv_iload_n hx hb dX3_appendFault_0 rfl (lv_at hl 1 rfl) ?_
  refine lv_if_lt (tgt := 10) hx hb dX3_appendFault_1 (by decide) (fun cc => ?_) (fun cc => ?_)
  · replace h := it h cc
    exact hb10  _ _ _ hS (lv_sub hl [] rfl) h
  · replace h := ie h cc
    refine lv_iload_n hx hb dX3_appendFault_4 rfl (lv_at hl 1 rfl) ?_
    refine lv_bipush (v := 127) hx hb dX3_appendFault_5 (by decide) ?_
    refine lv_icmp_le (tgt := 12) hx hb dX3_appendFault_7 (by decide) (fun cc => ?_) (fun cc => ?_)
    · replace h := it h cc
      refine lv_aload_n hx hb dX3_appendFault_12 rfl (lv_at hl 0 rfl) ?_
      refine r_get X hS (T := TX3) (k := 1) (hw.1 μ).1 rfl hiX3 (by decide) mf15 rfl dX3_appendFault_13 ?_
      refine lv_sipush (v := 150) hx hb dX3_appendFault_16 (by decide) ?_
      refine lv_icmp_ge (tgt := 26) hx hb dX3_appendFault_19 (by decide) (fun cc => ?_) (fun cc => ?_)
      · replace h := it h cc
        refine lv_iconst (v := 3) hx hb dX3_appendFault_26 (by decide) ?_
        exact hb27 3 _ _ _ hS (lv_sub hl [] rfl) h
      · replace h := ie h cc
        refine lv_iconst (v := 0) hx hb dX3_appendFault_22 (by decide) ?_
        refine lv_goto (tgt := 27) hx hb dX3_appendFault_23 (by decide) ?_
        exact hb27 0 _ _ _ hS (lv_sub hl [] rfl) h
    · replace h := ie h cc
      exact hb10  _ _ _ hS (lv_sub hl [] rfl) h
def f_X3_append (q : Nat) (a1 : Int32) (μ : Mem) : Option (Int32 × Mem) := (f_X6_setCell (q + 1) 150 (μ q 1) a1 μ).bind (fun μ1 => (pf μ1 q 1 ((μ1 q 1) + 1)).bind (fun μ2 => (some (μ2 q 1, μ2))))
set_option maxHeartbeats 4000000 in
set_option maxRecDepth 100000 in
theorem c_X3_append (l : Launch) {D : va_G} {cI cG cL : ClassId} {A : Nat → Prop} {EN : State → Heap → Prop} (hE : EnOK EN A) {w : Mem → va_W} {adE ad : Nat → Nat} {q : Nat} {a1 : Int32} {μ : Mem} {r : Int32} {μ' : Mem} (hw : TextAt cI adE w ad q) (h : f_X3_append q a1 μ = some (r, μ')) : Met l yX3_append wsX3_append (rmk 1 22) (WPre D (tyl cI cG cL) A EN (w μ) [.ref (ad q), .int a1]) (PI D A (w μ') r) 0 0 A := by
  have hiX3 : ∀ w ∈ u_ws RX3 TX3 7, w ∈ wsX3_append := by decide +kernel
  have mf9 : Cond.fieldLink RX3 9 (TX3 0).1 (TX3 0).2.1 (TX3 0).2.2.1 ∈ wsX3_append := by decide +kernel
  have mf15 : Cond.fieldLink RX3 15 (TX3 1).1 (TX3 1).2.1 (TX3 1).2.2.1 ∈ wsX3_append := by decide +kernel
  have miX6 : Cond.initialized RX6 ∈ wsX3_append := by decide +kernel
  have ms35 : Cond.static yX6_setCell ∈ wsX3_append := by decide +kernel
  refine met_start (cc := cX3_append) (nL := 2) (ret := (some .int)) (own := RX3) hE (by decide) rfl rfl (Nat.le_of_ble_eq_true rfl) (fun p e s m args below meth c ls X hS hl hr hlk => ?_)
  have hx := X.1.1
  have hb := X.1.2.1
  replace hl : lv_has ls 2 [(0, .ref (ad q)), (1, .int a1)] := hl
  unfold f_X3_append at h
  refine lv_aload_n hx hb dX3_append_0 rfl (lv_at hl 0 rfl) ?_
  refine r_get X hS (T := TX3) (k := 0) (hw.1 μ).1 rfl hiX3 (by decide) mf9 rfl dX3_append_1 ?_
  refine lv_aload_n hx hb dX3_append_4 rfl (lv_at hl 0 rfl) ?_
  refine r_get X hS (T := TX3) (k := 1) (hw.1 μ).1 rfl hiX3 (by decide) mf15 rfl dX3_append_5 ?_
  refine lv_iload_n hx hb dX3_append_8 rfl (lv_at hl 1 rfl) ?_
  obtain ⟨μ1, eμ1, h⟩ := ob h
  refine r_cv hS (r_runSN (As := [.ref (ad (q + 1)), .int (μ q 1), .int a1]) (rest := []) (host := RX6) X hS (c_X6_setCell l hE (w := w) (ad := ad) (μ := μ) (D := D) (cI := cI) (cG := cG) (cL := cL) hw.2 eμ1) (va_cnB 3 X.1.2.2.2.2 gX3_append_X6_setCell_n35 rfl rfl rfl (X.nest 4 rfl) (X.1.2.2.2.2 _ miX6) (by decide +kernel) ⟨Nat.le_of_ble_eq_true rfl, Nat.le_of_ble_eq_true rfl⟩) (X.1.2.2.2.2 _ ms35) rfl hl.1 rfl (Nat.le_of_ble_eq_true rfl) dX3_append_9 ⟨Nat.zero_le _, Nat.zero_le _⟩) (fun H locs hS => ?_)
  refine lv_aload_n hx hb dX3_append_12 rfl (lv_at hl 0 rfl) ?_
  refine lv_dup hx hb dX3_append_13 rfl ?_
  refine r_get X hS (T := TX3) (k := 1) (hw.1 μ1).1 rfl hiX3 (by decide) mf15 rfl dX3_append_14 ?_
  refine lv_iconst (v := 1) hx hb dX3_append_17 (by decide) ?_
  refine lv_iadd hx hb dX3_append_18 ?_
  obtain ⟨μ2, eμ2, h⟩ := ob h
  refine r_putp (w := w) X hS (T := TX3) (k := 1) eμ2 hw.1 rfl hiX3 tyX3 tyX3_ok nmX3 (by decide) mf15 rfl rfl rfl (Nat.le_of_ble_eq_true rfl) rfl dX3_append_19 (fun H locs hS => ?_)
  refine lv_aload_n hx hb dX3_append_22 rfl (lv_at hl 0 rfl) ?_
  refine r_get X hS (T := TX3) (k := 1) (hw.1 μ2).1 rfl hiX3 (by decide) mf15 rfl dX3_append_23 ?_
  obtain ⟨rfl, rfl⟩ := pr2 h
  exact r_iret X hS hr hlk dX3_append_26
def f_X3_clear (q : Nat) (μ : Mem) : Option (Int32 × Mem) := (pf μ q 1 0).bind (fun μ1 => (some (μ q 1, μ1)))
set_option maxHeartbeats 4000000 in
set_option maxRecDepth 100000 in
theorem c_X3_clear (l : Launch) {D : va_G} {cI cG cL : ClassId} {A : Nat → Prop} {EN : State → Heap → Prop} (hE : EnOK EN A) {w : Mem → va_W} {adE ad : Nat → Nat} {q : Nat} {μ : Mem} {r : Int32} {μ' : Mem} (hw : TextAt cI adE w ad q) (h : f_X3_clear q μ = some (r, μ')) : Met l yX3_clear wsX3_clear (rmk 0 0) (WPre D (tyl cI cG cL) A EN (w μ) [.ref (ad q)]) (PI D A (w μ') r) 0 0 A := by
  have hiX3 : ∀ w ∈ u_ws RX3 TX3 7, w ∈ wsX3_clear := by decide +kernel
  have mf15 : Cond.fieldLink RX3 15 (TX3 1).1 (TX3 1).2.1 (TX3 1).2.2.1 ∈ wsX3_clear := by decide +kernel
  refine met_start (cc := cX3_clear) (nL := 2) (ret := (some .int)) (own := RX3) hE (by decide) rfl rfl (Nat.le_of_ble_eq_true rfl) (fun p e s m args below meth c ls X hS hl hr hlk => ?_)
  have hx := X.1.1
  have hb := X.1.2.1
  replace hl : lv_has ls 2 [(0, .ref (ad q))] := hl
  unfold f_X3_clear at h
  refine lv_aload_n hx hb dX3_clear_0 rfl (lv_at hl 0 rfl) ?_
  refine r_get X hS (T := TX3) (k := 1) (hw.1 μ).1 rfl hiX3 (by decide) mf15 rfl dX3_clear_1 ?_
  refine lv_istore_n (lv' := [(1, .int (μ q 1)), (0, .ref (ad q))]) hx hb dX3_clear_4 rfl hl (by decide) rfl (fun ls hl => ?_)
  refine lv_aload_n hx hb dX3_clear_5 rfl (lv_at hl 1 rfl) ?_
  refine lv_iconst (v := 0) hx hb dX3_clear_6 (by decide) ?_
  obtain ⟨μ1, eμ1, h⟩ := ob h
  refine r_putp (w := w) X hS (T := TX3) (k := 1) eμ1 hw.1 rfl hiX3 tyX3 tyX3_ok nmX3 (by decide) mf15 rfl rfl rfl (Nat.le_of_ble_eq_true rfl) rfl dX3_clear_7 (fun H locs hS => ?_)
  refine lv_iload_n hx hb dX3_clear_10 rfl (lv_at hl 0 rfl) ?_
  obtain ⟨rfl, rfl⟩ := pr2 h
  exact r_iret X hS hr hlk dX3_clear_11
def f_X3_rewind (q : Nat) (μ : Mem) : Option Mem := (pf μ q 2 0).bind (fun μ1 => (pf μ1 q 3 (-1000)).bind (fun μ2 => (some μ2)))
set_option maxHeartbeats 4000000 in
set_option maxRecDepth 100000 in
theorem c_X3_rewind (l : Launch) {D : va_G} {cI cG cL : ClassId} {A : Nat → Prop} {EN : State → Heap → Prop} (hE : EnOK EN A) {w : Mem → va_W} {adE ad : Nat → Nat} {q : Nat} {μ : Mem}  {μ' : Mem} (hw : TextAt cI adE w ad q) (h : f_X3_rewind q μ = some μ') : Met l yX3_rewind wsX3_rewind (rmk 0 0) (WPre D (tyl cI cG cL) A EN (w μ) [.ref (ad q)]) (PV D A (w μ')) 0 0 A := by
  have hiX3 : ∀ w ∈ u_ws RX3 TX3 7, w ∈ wsX3_rewind := by decide +kernel
  have mf19 : Cond.fieldLink RX3 19 (TX3 2).1 (TX3 2).2.1 (TX3 2).2.2.1 ∈ wsX3_rewind := by decide +kernel
  have mf22 : Cond.fieldLink RX3 22 (TX3 3).1 (TX3 3).2.1 (TX3 3).2.2.1 ∈ wsX3_rewind := by decide +kernel
  refine met_start (cc := cX3_rewind) (nL := 1) (ret := none) (own := RX3) hE (by decide) rfl rfl (Nat.le_of_ble_eq_true rfl) (fun p e s m args below meth c ls X hS hl hr hlk => ?_)
  have hx := X.1.1
  have hb := X.1.2.1
  replace hl : lv_has ls 1 [(0, .ref (ad q))] := hl
  unfold f_X3_rewind at h
  refine lv_aload_n hx hb dX3_rewind_0 rfl (lv_at hl 0 rfl) ?_
  refine lv_iconst (v := 0) hx hb dX3_rewind_1 (by decide) ?_
  obtain ⟨μ1, eμ1, h⟩ := ob h
  refine r_putp (w := w) X hS (T := TX3) (k := 2) eμ1 hw.1 rfl hiX3 tyX3 tyX3_ok nmX3 (by decide) mf19 rfl rfl rfl (Nat.le_of_ble_eq_true rfl) rfl dX3_rewind_2 (fun H locs hS => ?_)
  refine lv_aload_n hx hb dX3_rewind_5 rfl (lv_at hl 0 rfl) ?_
  refine lv_sipush (v := (-1000)) hx hb dX3_rewind_6 (by decide) ?_
  obtain ⟨μ2, eμ2, h⟩ := ob h
  refine r_putp (w := w) X hS (T := TX3) (k := 3) eμ2 hw.1 rfl hiX3 tyX3 tyX3_ok nmX3 (by decide) mf22 rfl rfl rfl (Nat.le_of_ble_eq_true rfl) rfl dX3_rewind_9 (fun H locs hS => ?_)
  cases h
  exact r_vret X hS hr hlk dX3_rewind_12
def f_X3_byteAt_b29 (q : Nat) (s0 : Int32) (μ : Mem) : Option Int32 := (some s0)
def f_X3_byteAt_b28 (q : Nat)  (μ : Mem) : Option Int32 := f_X3_byteAt_b29 q (-1) μ
def f_X3_byteAt (q : Nat) (a1 : Int32) (μ : Mem) : Option Int32 := (if a1 < 0 then f_X3_byteAt_b28 q μ else (if (μ q 1) ≤ a1 then f_X3_byteAt_b28 q μ else (if 150 ≤ a1 then f_X3_byteAt_b28 q μ else (rd 150 (μ (q + 1)) a1).bind (fun v1 => f_X3_byteAt_b29 q v1 μ))))
set_option maxHeartbeats 4000000 in
set_option maxRecDepth 100000 in
theorem c_X3_byteAt (l : Launch) {D : va_G} {cI cG cL : ClassId} {A : Nat → Prop} {EN : State → Heap → Prop} (hE : EnOK EN A) {w : Mem → va_W} {adE ad : Nat → Nat} {q : Nat} {a1 : Int32} {μ : Mem} {r : Int32} (hw : TextAt cI adE w ad q) (h : f_X3_byteAt q a1 μ = some r) : Met l yX3_byteAt wsX3_byteAt (rmk 0 0) (WPre D (tyl cI cG cL) A EN (w μ) [.ref (ad q), .int a1]) (PI D A (w μ) r) 0 0 A := by
  have hiX3 : ∀ w ∈ u_ws RX3 TX3 7, w ∈ wsX3_byteAt := by decide +kernel
  have mf15 : Cond.fieldLink RX3 15 (TX3 1).1 (TX3 1).2.1 (TX3 1).2.2.1 ∈ wsX3_byteAt := by decide +kernel
  have mf9 : Cond.fieldLink RX3 9 (TX3 0).1 (TX3 0).2.1 (TX3 0).2.2.1 ∈ wsX3_byteAt := by decide +kernel
  refine met_start (cc := cX3_byteAt) (nL := 2) (ret := (some .int)) (own := RX3) hE (by decide) rfl rfl (Nat.le_of_ble_eq_true rfl) (fun p e s m args below meth c ls X hS hl hr hlk => ?_)
  have hx := X.1.1
  have hb := X.1.2.1
  replace hl : lv_has ls 2 [(0, .ref (ad q)), (1, .int a1)] := hl
  have hb29 : ∀ (s0 : Int32) (H : Heap) (locs : List Loc) (ls : Array Slot), HS D A (w μ) s.heap H locs → lv_has ls 2 [] → f_X3_byteAt_b29 q s0 μ = some r → W p l e (headSpec wsX3_byteAt (rmk 0 0)).room s m args below meth c H locs 0 0 (MQ below (PI D A (w μ) r) args s 0 0 A) (F0 m 29 ls [.int s0]) := by
    intro s0 H locs ls hS hl h
    unfold f_X3_byteAt_b29 at h
    cases h
    exact r_iret X hS hr hlk dX3_byteAt_29
  have hb28 : ∀  (H : Heap) (locs : List Loc) (ls : Array Slot), HS D A (w μ) s.heap H locs → lv_has ls 2 [] → f_X3_byteAt_b28 q μ = some r → W p l e (headSpec wsX3_byteAt (rmk 0 0)).room s m args below meth c H locs 0 0 (MQ below (PI D A (w μ) r) args s 0 0 A) (F0 m 28 ls []) := by
    intro H locs ls hS hl h
    unfold f_X3_byteAt_b28 at h
    refine lv_iconst (v := (-1)) hx hb dX3_byteAt_28 (by decide) ?_
    exact hb29 (-1) _ _ _ hS (lv_sub hl [] rfl) h
  unfold f_X3_byteAt at h
  refine lv_iload_n hx hb dX3_byteAt_0 rfl (lv_at hl 1 rfl) ?_
  refine lv_if_lt (tgt := 28) hx hb dX3_byteAt_1 (by decide) (fun cc => ?_) (fun cc => ?_)
  · replace h := it h cc
    exact hb28  _ _ _ hS (lv_sub hl [] rfl) h
  · replace h := ie h cc
    refine lv_iload_n hx hb dX3_byteAt_4 rfl (lv_at hl 1 rfl) ?_
    refine lv_aload_n hx hb dX3_byteAt_5 rfl (lv_at hl 0 rfl) ?_
    refine r_get X hS (T := TX3) (k := 1) (hw.1 μ).1 rfl hiX3 (by decide) mf15 rfl dX3_byteAt_6 ?_
    refine lv_icmp_ge (tgt := 28) hx hb dX3_byteAt_9 (by decide) (fun cc => ?_) (fun cc => ?_)
    · replace h := it h cc
      exact hb28  _ _ _ hS (lv_sub hl [] rfl) h
    · replace h := ie h cc
      refine lv_iload_n hx hb dX3_byteAt_12 rfl (lv_at hl 1 rfl) ?_
      refine lv_sipush (v := 150) hx hb dX3_byteAt_13 (by decide) ?_
      refine lv_icmp_ge (tgt := 28) hx hb dX3_byteAt_16 (by decide) (fun cc => ?_) (fun cc => ?_)
      · replace h := it h cc
        exact hb28  _ _ _ hS (lv_sub hl [] rfl) h
      · replace h := ie h cc
        refine lv_aload_n hx hb dX3_byteAt_19 rfl (lv_at hl 0 rfl) ?_
        refine r_get X hS (T := TX3) (k := 0) (hw.1 μ).1 rfl hiX3 (by decide) mf9 rfl dX3_byteAt_20 ?_
        refine lv_iload_n hx hb dX3_byteAt_23 rfl (lv_at hl 1 rfl) ?_
        obtain ⟨v1, ev1, h⟩ := ob h
        refine r_iald X hS (hw.2 μ).1 ev1 dX3_byteAt_24 ?_
        refine lv_goto (tgt := 29) hx hb dX3_byteAt_25 (by decide) ?_
        exact hb29 v1 _ _ _ hS (lv_sub hl [] rfl) h
def f_X3_skipSpaces_b37 (q : Nat)  (μ : Mem) : Option Mem := (some μ)
def f_X3_skipSpaces_b0 (q : Nat)  : Nat → Mem → Option Mem
  | 0, _ => none
  | fuel0 + 1, μ => (if (μ q 1) ≤ (μ q 2) then f_X3_skipSpaces_b37 q μ else (f_X3_byteAt q (μ q 2) μ).bind (fun v1 => (if v1 = 32 then (pf μ q 2 ((μ q 2) + 1)).bind (fun μ2 => f_X3_skipSpaces_b0 q fuel0 μ2) else f_X3_skipSpaces_b37 q μ)))
def f_X3_skipSpaces (q : Nat) (μ : Mem) : Option Mem := f_X3_skipSpaces_b0 q FU μ
set_option maxHeartbeats 4000000 in
set_option maxRecDepth 100000 in
theorem c_X3_skipSpaces (l : Launch) {D : va_G} {cI cG cL : ClassId} {A : Nat → Prop} {EN : State → Heap → Prop} (hE : EnOK EN A) {w : Mem → va_W} {adE ad : Nat → Nat} {q : Nat} {μ : Mem}  {μ' : Mem} (hw : TextAt cI adE w ad q) (h : f_X3_skipSpaces q μ = some μ') : Met l yX3_skipSpaces wsX3_skipSpaces (rmk 1 21) (WPre D (tyl cI cG cL) A EN (w μ) [.ref (ad q)]) (PV D A (w μ')) 0 0 A := by
  have hiX3 : ∀ w ∈ u_ws RX3 TX3 7, w ∈ wsX3_skipSpaces := by decide +kernel
  have mf19 : Cond.fieldLink RX3 19 (TX3 2).1 (TX3 2).2.1 (TX3 2).2.2.1 ∈ wsX3_skipSpaces := by decide +kernel
  have mf15 : Cond.fieldLink RX3 15 (TX3 1).1 (TX3 1).2.1 (TX3 1).2.2.1 ∈ wsX3_skipSpaces := by decide +kernel
  refine met_start (cc := cX3_skipSpaces) (nL := 1) (ret := none) (own := RX3) hE (by decide) rfl rfl (Nat.le_of_ble_eq_true rfl) (fun p e s m args below meth c ls X hS hl hr hlk => ?_)
  have hx := X.1.1
  have hb := X.1.2.1
  replace hl : lv_has ls 1 [(0, .ref (ad q))] := hl
  have hb37 : ∀  (μ : Mem) (H : Heap) (locs : List Loc) (ls : Array Slot), HS D A (w μ) s.heap H locs → lv_has ls 1 [] → f_X3_skipSpaces_b37 q μ = some μ' → W p l e (headSpec wsX3_skipSpaces (rmk 1 21)).room s m args below meth c H locs 0 0 (MQ below (PV D A (w μ')) args s 0 0 A) (F0 m 37 ls []) := by
    intro μ H locs ls hS hl h
    unfold f_X3_skipSpaces_b37 at h
    cases h
    exact r_vret X hS hr hlk dX3_skipSpaces_37
  have hb0 : ∀ (fu : Nat)  (μ : Mem) (H : Heap) (locs : List Loc) (ls : Array Slot), HS D A (w μ) s.heap H locs → lv_has ls 1 [(0, .ref (ad q))] → f_X3_skipSpaces_b0 q fu μ = some μ' → W p l e (headSpec wsX3_skipSpaces (rmk 1 21)).room s m args below meth c H locs 0 0 (MQ below (PV D A (w μ')) args s 0 0 A) (F0 m 0 ls []) := by
    intro fu
    induction fu with
    | zero =>
      intro μ H locs ls hS hl h
      rw [f_X3_skipSpaces_b0] at h
      cases h
    | succ fuel0 ih0 =>
      intro μ H locs ls hS hl h
      rw [f_X3_skipSpaces_b0] at h
      refine lv_aload_n hx hb dX3_skipSpaces_0 rfl (lv_at hl 0 rfl) ?_
      refine r_get X hS (T := TX3) (k := 2) (hw.1 μ).1 rfl hiX3 (by decide) mf19 rfl dX3_skipSpaces_1 ?_
      refine lv_aload_n hx hb dX3_skipSpaces_4 rfl (lv_at hl 0 rfl) ?_
      refine r_get X hS (T := TX3) (k := 1) (hw.1 μ).1 rfl hiX3 (by decide) mf15 rfl dX3_skipSpaces_5 ?_
      refine lv_icmp_ge (tgt := 37) hx hb dX3_skipSpaces_8 (by decide) (fun cc => ?_) (fun cc => ?_)
      · replace h := it h cc
        exact hb37 μ _ _ _ hS (lv_sub hl [] rfl) h
      · replace h := ie h cc
        refine lv_aload_n hx hb dX3_skipSpaces_11 rfl (lv_at hl 0 rfl) ?_
        refine lv_aload_n hx hb dX3_skipSpaces_12 rfl (lv_at hl 0 rfl) ?_
        refine r_get X hS (T := TX3) (k := 2) (hw.1 μ).1 rfl hiX3 (by decide) mf19 rfl dX3_skipSpaces_13 ?_
        obtain ⟨v1, ev1, h⟩ := ob h
        refine r_ci hS (r_runV (As := [.int (μ q 2)]) (rest := []) X hS (c_X3_byteAt l hE (w := w) (ad := ad) (μ := μ) (D := D) (cI := cI) (cG := cG) (cL := cL) hw ev1) (cwV 1 X.1.2.2.2.2 gX3_skipSpaces_X3_byteAt rfl rfl rfl (by decide +kernel) ⟨Nat.le_of_ble_eq_true rfl, Nat.le_of_ble_eq_true rfl⟩) (q0 := q) (ci := 1) rfl (hw.1 μ).1 rfl hl.1 rfl (Nat.le_of_ble_eq_true rfl) dX3_skipSpaces_16 ⟨Nat.zero_le _, Nat.zero_le _⟩) (fun H locs hS => ?_)
        refine lv_bipush (v := 32) hx hb dX3_skipSpaces_19 (by decide) ?_
        refine lv_icmp_ne (tgt := 37) hx hb dX3_skipSpaces_21 (by decide) (fun cc => ?_) (fun cc => ?_)
        · replace h := ie h cc
          exact hb37 μ _ _ _ hS (lv_sub hl [] rfl) h
        · replace h := it h cc
          refine lv_aload_n hx hb dX3_skipSpaces_24 rfl (lv_at hl 0 rfl) ?_
          refine lv_dup hx hb dX3_skipSpaces_25 rfl ?_
          refine r_get X hS (T := TX3) (k := 2) (hw.1 μ).1 rfl hiX3 (by decide) mf19 rfl dX3_skipSpaces_26 ?_
          refine lv_iconst (v := 1) hx hb dX3_skipSpaces_29 (by decide) ?_
          refine lv_iadd hx hb dX3_skipSpaces_30 ?_
          obtain ⟨μ2, eμ2, h⟩ := ob h
          refine r_putp (w := w) X hS (T := TX3) (k := 2) eμ2 hw.1 rfl hiX3 tyX3 tyX3_ok nmX3 (by decide) mf19 rfl rfl rfl (Nat.le_of_ble_eq_true rfl) rfl dX3_skipSpaces_31 (fun H locs hS => ?_)
          refine lv_goto (tgt := 0) hx hb dX3_skipSpaces_34 (by decide) ?_
          exact ih0 μ2 _ _ _ hS (lv_sub hl [0] rfl) h
  unfold f_X3_skipSpaces at h
  exact hb0 FU μ _ _ _ hS (lv_sub hl [0] rfl) h
def f_X3_isLetter_b17  (s0 : Int32)  : Option Int32 := (zr s0).bind (fun v1 => (some v1))
def f_X3_isLetter_b16    : Option Int32 := f_X3_isLetter_b17 0
def f_X3_isLetter (a0 : Int32) : Option Int32 := (if a0 < 97 then f_X3_isLetter_b16  else (if 122 < a0 then f_X3_isLetter_b16  else f_X3_isLetter_b17 1))
set_option maxHeartbeats 4000000 in
set_option maxRecDepth 100000 in
theorem c_X3_isLetter (l : Launch) {D : va_G} {cI cG cL : ClassId} {A : Nat → Prop} {EN : State → Heap → Prop} (hE : EnOK EN A) {w : Mem → va_W} {ad : Nat → Nat} {a0 : Int32} {μ : Mem} {r : Int32}  (h : f_X3_isLetter a0 = some r) : Met l yX3_isLetter wsX3_isLetter (rmk 0 0) (WPre D (tyl cI cG cL) A EN (w μ) [.int a0]) (PI D A (w μ) r) 0 0 A := by
  refine met_start (cc := cX3_isLetter) (nL := 1) (ret := (some .boolean)) (own := RX3) hE (by decide) rfl rfl (Nat.le_of_ble_eq_true rfl) (fun p e s m args below meth c ls X hS hl hr hlk => ?_)
  have hx := X.1.1
  have hb := X.1.2.1
  replace hl : lv_has ls 1 [(0, .int a0)] := hl
  have hb17 : ∀ (s0 : Int32) (H : Heap) (locs : List Loc) (ls : Array Slot), HS D A (w μ) s.heap H locs → lv_has ls 1 [] → f_X3_isLetter_b17 s0 = some r → W p l e (headSpec wsX3_isLetter (rmk 0 0)).room s m args below meth c H locs 0 0 (MQ below (PI D A (w μ) r) args s 0 0 A) (F0 m 17 ls [.int s0]) := by
    intro s0 H locs ls hS hl h
    unfold f_X3_isLetter_b17 at h
    obtain ⟨v1, ev1, h⟩ := ob h
    obtain ⟨ezv1, eov1⟩ := zr_ok ev1
    rw [ezv1]
    cases h
    exact r_zret X hS hr hlk eov1 dX3_isLetter_17
  have hb16 : ∀  (H : Heap) (locs : List Loc) (ls : Array Slot), HS D A (w μ) s.heap H locs → lv_has ls 1 [] → f_X3_isLetter_b16  = some r → W p l e (headSpec wsX3_isLetter (rmk 0 0)).room s m args below meth c H locs 0 0 (MQ below (PI D A (w μ) r) args s 0 0 A) (F0 m 16 ls []) := by
    intro H locs ls hS hl h
    unfold f_X3_isLetter_b16 at h
    refine lv_iconst (v := 0) hx hb dX3_isLetter_16 (by decide) ?_
    exact hb17 0 _ _ _ hS (lv_sub hl [] rfl) h
  unfold f_X3_isLetter at h
  refine lv_iload_n hx hb dX3_isLetter_0 rfl (lv_at hl 0 rfl) ?_
  refine lv_bipush (v := 97) hx hb dX3_isLetter_1 (by decide) ?_
  refine lv_icmp_lt (tgt := 16) hx hb dX3_isLetter_3 (by decide) (fun cc => ?_) (fun cc => ?_)
  · replace h := it h cc
    exact hb16  _ _ _ hS (lv_sub hl [] rfl) h
  · replace h := ie h cc
    refine lv_iload_n hx hb dX3_isLetter_6 rfl (lv_at hl 0 rfl) ?_
    refine lv_bipush (v := 122) hx hb dX3_isLetter_7 (by decide) ?_
    refine lv_icmp_gt (tgt := 16) hx hb dX3_isLetter_9 (by decide) (fun cc => ?_) (fun cc => ?_)
    · replace h := it h cc
      exact hb16  _ _ _ hS (lv_sub hl [] rfl) h
    · replace h := ie h cc
      refine lv_iconst (v := 1) hx hb dX3_isLetter_12 (by decide) ?_
      refine lv_goto (tgt := 17) hx hb dX3_isLetter_13 (by decide) ?_
      exact hb17 1 _ _ _ hS (lv_sub hl [] rfl) h
def f_X3_failAt (q : Nat) (a1 : Int32) (μ : Mem) : Option (Int32 × Mem) := (pf μ q 3 a1).bind (fun μ1 => (some (0, μ1)))
set_option maxHeartbeats 4000000 in
set_option maxRecDepth 100000 in
theorem c_X3_failAt (l : Launch) {D : va_G} {cI cG cL : ClassId} {A : Nat → Prop} {EN : State → Heap → Prop} (hE : EnOK EN A) {w : Mem → va_W} {adE ad : Nat → Nat} {q : Nat} {a1 : Int32} {μ : Mem} {r : Int32} {μ' : Mem} (hw : TextAt cI adE w ad q) (h : f_X3_failAt q a1 μ = some (r, μ')) : Met l yX3_failAt wsX3_failAt (rmk 0 0) (WPre D (tyl cI cG cL) A EN (w μ) [.ref (ad q), .int a1]) (PI D A (w μ') r) 0 0 A := by
  have hiX3 : ∀ w ∈ u_ws RX3 TX3 7, w ∈ wsX3_failAt := by decide +kernel
  have mf22 : Cond.fieldLink RX3 22 (TX3 3).1 (TX3 3).2.1 (TX3 3).2.2.1 ∈ wsX3_failAt := by decide +kernel
  refine met_start (cc := cX3_failAt) (nL := 2) (ret := (some .boolean)) (own := RX3) hE (by decide) rfl rfl (Nat.le_of_ble_eq_true rfl) (fun p e s m args below meth c ls X hS hl hr hlk => ?_)
  have hx := X.1.1
  have hb := X.1.2.1
  replace hl : lv_has ls 2 [(0, .ref (ad q)), (1, .int a1)] := hl
  unfold f_X3_failAt at h
  refine lv_aload_n hx hb dX3_failAt_0 rfl (lv_at hl 0 rfl) ?_
  refine lv_iload_n hx hb dX3_failAt_1 rfl (lv_at hl 1 rfl) ?_
  obtain ⟨μ1, eμ1, h⟩ := ob h
  refine r_putp (w := w) X hS (T := TX3) (k := 3) eμ1 hw.1 rfl hiX3 tyX3 tyX3_ok nmX3 (by decide) mf22 rfl rfl rfl (Nat.le_of_ble_eq_true rfl) rfl dX3_failAt_2 (fun H locs hS => ?_)
  refine lv_iconst (v := 0) hx hb dX3_failAt_5 (by decide) ?_
  obtain ⟨rfl, rfl⟩ := pr2 h
  exact r_zret X hS hr hlk (by decide) dX3_failAt_6
def f_X3_skipLetters_b38 (q : Nat)  (μ : Mem) : Option Mem := (some μ)
def f_X3_skipLetters_b0 (q : Nat)  : Nat → Mem → Option Mem
  | 0, _ => none
  | fuel0 + 1, μ => (if (μ q 1) ≤ (μ q 2) then f_X3_skipLetters_b38 q μ else (f_X3_byteAt q (μ q 2) μ).bind (fun v1 => (f_X3_isLetter v1).bind (fun v2 => (if v2 = 0 then f_X3_skipLetters_b38 q μ else (pf μ q 2 ((μ q 2) + 1)).bind (fun μ3 => f_X3_skipLetters_b0 q fuel0 μ3)))))
def f_X3_skipLetters (q : Nat) (μ : Mem) : Option Mem := f_X3_skipLetters_b0 q FU μ
set_option maxHeartbeats 4000000 in
set_option maxRecDepth 100000 in
theorem c_X3_skipLetters (l : Launch) {D : va_G} {cI cG cL : ClassId} {A : Nat → Prop} {EN : State → Heap → Prop} (hE : EnOK EN A) {w : Mem → va_W} {adE ad : Nat → Nat} {q : Nat} {μ : Mem}  {μ' : Mem} (hw : TextAt cI adE w ad q) (h : f_X3_skipLetters q μ = some μ') : Met l yX3_skipLetters wsX3_skipLetters (rmk 1 21) (WPre D (tyl cI cG cL) A EN (w μ) [.ref (ad q)]) (PV D A (w μ')) 0 0 A := by
  have hiX3 : ∀ w ∈ u_ws RX3 TX3 7, w ∈ wsX3_skipLetters := by decide +kernel
  have mf19 : Cond.fieldLink RX3 19 (TX3 2).1 (TX3 2).2.1 (TX3 2).2.2.1 ∈ wsX3_skipLetters := by decide +kernel
  have mf15 : Cond.fieldLink RX3 15 (TX3 1).1 (TX3 1).2.1 (TX3 1).2.2.1 ∈ wsX3_skipLetters := by decide +kernel
  refine met_start (cc := cX3_skipLetters) (nL := 1) (ret := none) (own := RX3) hE (by decide) rfl rfl (Nat.le_of_ble_eq_true rfl) (fun p e s m args below meth c ls X hS hl hr hlk => ?_)
  have hx := X.1.1
  have hb := X.1.2.1
  replace hl : lv_has ls 1 [(0, .ref (ad q))] := hl
  have hb38 : ∀  (μ : Mem) (H : Heap) (locs : List Loc) (ls : Array Slot), HS D A (w μ) s.heap H locs → lv_has ls 1 [] → f_X3_skipLetters_b38 q μ = some μ' → W p l e (headSpec wsX3_skipLetters (rmk 1 21)).room s m args below meth c H locs 0 0 (MQ below (PV D A (w μ')) args s 0 0 A) (F0 m 38 ls []) := by
    intro μ H locs ls hS hl h
    unfold f_X3_skipLetters_b38 at h
    cases h
    exact r_vret X hS hr hlk dX3_skipLetters_38
  have hb0 : ∀ (fu : Nat)  (μ : Mem) (H : Heap) (locs : List Loc) (ls : Array Slot), HS D A (w μ) s.heap H locs → lv_has ls 1 [(0, .ref (ad q))] → f_X3_skipLetters_b0 q fu μ = some μ' → W p l e (headSpec wsX3_skipLetters (rmk 1 21)).room s m args below meth c H locs 0 0 (MQ below (PV D A (w μ')) args s 0 0 A) (F0 m 0 ls []) := by
    intro fu
    induction fu with
    | zero =>
      intro μ H locs ls hS hl h
      rw [f_X3_skipLetters_b0] at h
      cases h
    | succ fuel0 ih0 =>
      intro μ H locs ls hS hl h
      rw [f_X3_skipLetters_b0] at h
      refine lv_aload_n hx hb dX3_skipLetters_0 rfl (lv_at hl 0 rfl) ?_
      refine r_get X hS (T := TX3) (k := 2) (hw.1 μ).1 rfl hiX3 (by decide) mf19 rfl dX3_skipLetters_1 ?_
      refine lv_aload_n hx hb dX3_skipLetters_4 rfl (lv_at hl 0 rfl) ?_
      refine r_get X hS (T := TX3) (k := 1) (hw.1 μ).1 rfl hiX3 (by decide) mf15 rfl dX3_skipLetters_5 ?_
      refine lv_icmp_ge (tgt := 38) hx hb dX3_skipLetters_8 (by decide) (fun cc => ?_) (fun cc => ?_)
      · replace h := it h cc
        exact hb38 μ _ _ _ hS (lv_sub hl [] rfl) h
      · replace h := ie h cc
        refine lv_aload_n hx hb dX3_skipLetters_11 rfl (lv_at hl 0 rfl) ?_
        refine lv_aload_n hx hb dX3_skipLetters_12 rfl (lv_at hl 0 rfl) ?_
        refine r_get X hS (T := TX3) (k := 2) (hw.1 μ).1 rfl hiX3 (by decide) mf19 rfl dX3_skipLetters_13 ?_
        obtain ⟨v1, ev1, h⟩ := ob h
        refine r_ci hS (r_runV (As := [.int (μ q 2)]) (rest := []) X hS (c_X3_byteAt l hE (w := w) (ad := ad) (μ := μ) (D := D) (cI := cI) (cG := cG) (cL := cL) hw ev1) (cwV 1 X.1.2.2.2.2 gX3_skipLetters_X3_byteAt rfl rfl rfl (by decide +kernel) ⟨Nat.le_of_ble_eq_true rfl, Nat.le_of_ble_eq_true rfl⟩) (q0 := q) (ci := 1) rfl (hw.1 μ).1 rfl hl.1 rfl (Nat.le_of_ble_eq_true rfl) dX3_skipLetters_16 ⟨Nat.zero_le _, Nat.zero_le _⟩) (fun H locs hS => ?_)
        obtain ⟨v2, ev2, h⟩ := ob h
        refine r_ci hS (r_runS (As := [.int v1]) (rest := []) X hS (c_X3_isLetter l hE (w := w) (ad := ad) (μ := μ) (D := D) (cI := cI) (cG := cG) (cL := cL) ev2) (va_cwS 1 X.1.2.2.2.2 gX3_skipLetters_X3_isLetter rfl rfl rfl (by decide +kernel) ⟨Nat.le_of_ble_eq_true rfl, Nat.le_of_ble_eq_true rfl⟩) rfl hl.1 rfl (Nat.le_of_ble_eq_true rfl) dX3_skipLetters_19 ⟨Nat.zero_le _, Nat.zero_le _⟩) (fun H locs hS => ?_)
        refine lv_if_eq (tgt := 38) hx hb dX3_skipLetters_22 (by decide) (fun cc => ?_) (fun cc => ?_)
        · replace h := it h cc
          exact hb38 μ _ _ _ hS (lv_sub hl [] rfl) h
        · replace h := ie h cc
          refine lv_aload_n hx hb dX3_skipLetters_25 rfl (lv_at hl 0 rfl) ?_
          refine lv_dup hx hb dX3_skipLetters_26 rfl ?_
          refine r_get X hS (T := TX3) (k := 2) (hw.1 μ).1 rfl hiX3 (by decide) mf19 rfl dX3_skipLetters_27 ?_
          refine lv_iconst (v := 1) hx hb dX3_skipLetters_30 (by decide) ?_
          refine lv_iadd hx hb dX3_skipLetters_31 ?_
          obtain ⟨μ3, eμ3, h⟩ := ob h
          refine r_putp (w := w) X hS (T := TX3) (k := 2) eμ3 hw.1 rfl hiX3 tyX3 tyX3_ok nmX3 (by decide) mf19 rfl rfl rfl (Nat.le_of_ble_eq_true rfl) rfl dX3_skipLetters_32 (fun H locs hS => ?_)
          refine lv_goto (tgt := 0) hx hb dX3_skipLetters_35 (by decide) ?_
          exact ih0 μ3 _ _ _ hS (lv_sub hl [0] rfl) h
  unfold f_X3_skipLetters at h
  exact hb0 FU μ _ _ _ hS (lv_sub hl [0] rfl) h
def f_X3_isDigit_b17  (s0 : Int32)  : Option Int32 := (zr s0).bind (fun v1 => (some v1))
def f_X3_isDigit_b16    : Option Int32 := f_X3_isDigit_b17 0
def f_X3_isDigit (a0 : Int32) : Option Int32 := (if a0 < 48 then f_X3_isDigit_b16  else (if 57 < a0 then f_X3_isDigit_b16  else f_X3_isDigit_b17 1))
set_option maxHeartbeats 4000000 in
set_option maxRecDepth 100000 in
theorem c_X3_isDigit (l : Launch) {D : va_G} {cI cG cL : ClassId} {A : Nat → Prop} {EN : State → Heap → Prop} (hE : EnOK EN A) {w : Mem → va_W} {ad : Nat → Nat} {a0 : Int32} {μ : Mem} {r : Int32}  (h : f_X3_isDigit a0 = some r) : Met l yX3_isDigit wsX3_isDigit (rmk 0 0) (WPre D (tyl cI cG cL) A EN (w μ) [.int a0]) (PI D A (w μ) r) 0 0 A := by
  refine met_start (cc := cX3_isDigit) (nL := 1) (ret := (some .boolean)) (own := RX3) hE (by decide) rfl rfl (Nat.le_of_ble_eq_true rfl) (fun p e s m args below meth c ls X hS hl hr hlk => ?_)
  have hx := X.1.1
  have hb := X.1.2.1
  replace hl : lv_has ls 1 [(0, .int a0)] := hl
  have hb17 : ∀ (s0 : Int32) (H : Heap) (locs : List Loc) (ls : Array Slot), HS D A (w μ) s.heap H locs → lv_has ls 1 [] → f_X3_isDigit_b17 s0 = some r → W p l e (headSpec wsX3_isDigit (rmk 0 0)).room s m args below meth c H locs 0 0 (MQ below (PI D A (w μ) r) args s 0 0 A) (F0 m 17 ls [.int s0]) := by
    intro s0 H locs ls hS hl h
    unfold f_X3_isDigit_b17 at h
    obtain ⟨v1, ev1, h⟩ := ob h
    obtain ⟨ezv1, eov1⟩ := zr_ok ev1
    rw [ezv1]
    cases h
    exact r_zret X hS hr hlk eov1 dX3_isDigit_17
  have hb16 : ∀  (H : Heap) (locs : List Loc) (ls : Array Slot), HS D A (w μ) s.heap H locs → lv_has ls 1 [] → f_X3_isDigit_b16  = some r → W p l e (headSpec wsX3_isDigit (rmk 0 0)).room s m args below meth c H locs 0 0 (MQ below (PI D A (w μ) r) args s 0 0 A) (F0 m 16 ls []) := by
    intro H locs ls hS hl h
    unfold f_X3_isDigit_b16 at h
    refine lv_iconst (v := 0) hx hb dX3_isDigit_16 (by decide) ?_
    exact hb17 0 _ _ _ hS (lv_sub hl [] rfl) h
  unfold f_X3_isDigit at h
  refine lv_iload_n hx hb dX3_isDigit_0 rfl (lv_at hl 0 rfl) ?_
  refine lv_bipush (v := 48) hx hb dX3_isDigit_1 (by decide) ?_
  refine lv_icmp_lt (tgt := 16) hx hb dX3_isDigit_3 (by decide) (fun cc => ?_) (fun cc => ?_)
  · replace h := it h cc
    exact hb16  _ _ _ hS (lv_sub hl [] rfl) h
  · replace h := ie h cc
    refine lv_iload_n hx hb dX3_isDigit_6 rfl (lv_at hl 0 rfl) ?_
    refine lv_bipush (v := 57) hx hb dX3_isDigit_7 (by decide) ?_
    refine lv_icmp_gt (tgt := 16) hx hb dX3_isDigit_9 (by decide) (fun cc => ?_) (fun cc => ?_)
    · replace h := it h cc
      exact hb16  _ _ _ hS (lv_sub hl [] rfl) h
    · replace h := ie h cc
      refine lv_iconst (v := 1) hx hb dX3_isDigit_12 (by decide) ?_
      refine lv_goto (tgt := 17) hx hb dX3_isDigit_13 (by decide) ?_
      exact hb17 1 _ _ _ hS (lv_sub hl [] rfl) h
def f_X3_scanNumber_b109 (q : Nat) (x1 : Int32) (μ : Mem) : Option (Int32 × Mem) := (some (x1, μ))
def f_X3_scanNumber_b57 (q : Nat)  : Nat → Int32 → Int32 → Mem → Option (Int32 × Mem)
  | 0, _, _, _ => none
  | fuel57 + 1, x1, x2, μ => (if 3 ≤ x2 then f_X3_scanNumber_b109 q x1 μ else (f_X3_byteAt q (μ q 2) μ).bind (fun v5 => (f_X3_isDigit v5).bind (fun v6 => (if v6 = 0 then f_X3_scanNumber_b109 q x1 μ else (f_X3_byteAt q (μ q 2) μ).bind (fun v7 => (pf μ q 2 ((μ q 2) + 1)).bind (fun μ8 => f_X3_scanNumber_b57 q fuel57 (((10 * x1) + v7) - 48) (x2 + 1) μ8))))))
def f_X3_scanNumber (q : Nat) (μ : Mem) : Option (Int32 × Mem) := (f_X3_byteAt q (μ q 2) μ).bind (fun v1 => (if v1 = 32 then (f_X3_skipSpaces q μ).bind (fun μ2 => (f_X3_byteAt q (μ2 q 2) μ2).bind (fun v3 => (f_X3_isDigit v3).bind (fun v4 => (if v4 = 0 then bn2 (f_X3_failAt q (μ2 q 2) μ2) (fun v9 μ10 => (some (0, μ10))) else f_X3_scanNumber_b57 q FU 0 0 μ2)))) else bn2 (f_X3_failAt q (μ q 2) μ) (fun v11 μ12 => (some (0, μ12)))))
set_option maxHeartbeats 4000000 in
set_option maxRecDepth 100000 in
theorem c_X3_scanNumber (l : Launch) {D : va_G} {cI cG cL : ClassId} {A : Nat → Prop} {EN : State → Heap → Prop} (hE : EnOK EN A) {w : Mem → va_W} {adE ad : Nat → Nat} {q : Nat} {μ : Mem} {r : Int32} {μ' : Mem} (hw : TextAt cI adE w ad q) (h : f_X3_scanNumber q μ = some (r, μ')) : Met l yX3_scanNumber wsX3_scanNumber (rmk 2 41) (WPre D (tyl cI cG cL) A EN (w μ) [.ref (ad q)]) (PI D A (w μ') r) 0 0 A := by
  have hiX3 : ∀ w ∈ u_ws RX3 TX3 7, w ∈ wsX3_scanNumber := by decide +kernel
  have mf19 : Cond.fieldLink RX3 19 (TX3 2).1 (TX3 2).2.1 (TX3 2).2.2.1 ∈ wsX3_scanNumber := by decide +kernel
  refine met_start (cc := cX3_scanNumber) (nL := 3) (ret := (some .int)) (own := RX3) hE (by decide) rfl rfl (Nat.le_of_ble_eq_true rfl) (fun p e s m args below meth c ls X hS hl hr hlk => ?_)
  have hx := X.1.1
  have hb := X.1.2.1
  replace hl : lv_has ls 3 [(0, .ref (ad q))] := hl
  have hb109 : ∀ (x1 : Int32) (μ : Mem) (H : Heap) (locs : List Loc) (ls : Array Slot), HS D A (w μ) s.heap H locs → lv_has ls 3 [(1, .int x1)] → f_X3_scanNumber_b109 q x1 μ = some (r, μ') → W p l e (headSpec wsX3_scanNumber (rmk 2 41)).room s m args below meth c H locs 0 0 (MQ below (PI D A (w μ') r) args s 0 0 A) (F0 m 109 ls []) := by
    intro x1 μ H locs ls hS hl h
    unfold f_X3_scanNumber_b109 at h
    refine lv_iload_n hx hb dX3_scanNumber_109 rfl (lv_at hl 0 rfl) ?_
    obtain ⟨rfl, rfl⟩ := pr2 h
    exact r_iret X hS hr hlk dX3_scanNumber_110
  have hb57 : ∀ (fu : Nat) (x1 : Int32) (x2 : Int32) (μ : Mem) (H : Heap) (locs : List Loc) (ls : Array Slot), HS D A (w μ) s.heap H locs → lv_has ls 3 [(0, .ref (ad q)), (1, .int x1), (2, .int x2)] → f_X3_scanNumber_b57 q fu x1 x2 μ = some (r, μ') → W p l e (headSpec wsX3_scanNumber (rmk 2 41)).room s m args below meth c H locs 0 0 (MQ below (PI D A (w μ') r) args s 0 0 A) (F0 m 57 ls []) := by
    intro fu
    induction fu with
    | zero =>
      intro x1 x2 μ H locs ls hS hl h
      rw [f_X3_scanNumber_b57] at h
      cases h
    | succ fuel57 ih57 =>
      intro x1 x2 μ H locs ls hS hl h
      rw [f_X3_scanNumber_b57] at h
      refine lv_iload_n hx hb dX3_scanNumber_57 rfl (lv_at hl 2 rfl) ?_
      refine lv_iconst (v := 3) hx hb dX3_scanNumber_58 (by decide) ?_
      refine lv_icmp_ge (tgt := 109) hx hb dX3_scanNumber_59 (by decide) (fun cc => ?_) (fun cc => ?_)
      · replace h := it h cc
        exact hb109 x1 μ _ _ _ hS (lv_sub hl [1] rfl) h
      · replace h := ie h cc
        refine lv_aload_n hx hb dX3_scanNumber_62 rfl (lv_at hl 0 rfl) ?_
        refine lv_aload_n hx hb dX3_scanNumber_63 rfl (lv_at hl 0 rfl) ?_
        refine r_get X hS (T := TX3) (k := 2) (hw.1 μ).1 rfl hiX3 (by decide) mf19 rfl dX3_scanNumber_64 ?_
        obtain ⟨v5, ev5, h⟩ := ob h
        refine r_ci hS (r_runV (As := [.int (μ q 2)]) (rest := []) X hS (c_X3_byteAt l hE (w := w) (ad := ad) (μ := μ) (D := D) (cI := cI) (cG := cG) (cL := cL) hw ev5) (cwV 1 X.1.2.2.2.2 gX3_scanNumber_X3_byteAt rfl rfl rfl (by decide +kernel) ⟨Nat.le_of_ble_eq_true rfl, Nat.le_of_ble_eq_true rfl⟩) (q0 := q) (ci := 1) rfl (hw.1 μ).1 rfl hl.1 rfl (Nat.le_of_ble_eq_true rfl) dX3_scanNumber_67 ⟨Nat.zero_le _, Nat.zero_le _⟩) (fun H locs hS => ?_)
        obtain ⟨v6, ev6, h⟩ := ob h
        refine r_ci hS (r_runS (As := [.int v5]) (rest := []) X hS (c_X3_isDigit l hE (w := w) (ad := ad) (μ := μ) (D := D) (cI := cI) (cG := cG) (cL := cL) ev6) (va_cwS 1 X.1.2.2.2.2 gX3_scanNumber_X3_isDigit rfl rfl rfl (by decide +kernel) ⟨Nat.le_of_ble_eq_true rfl, Nat.le_of_ble_eq_true rfl⟩) rfl hl.1 rfl (Nat.le_of_ble_eq_true rfl) dX3_scanNumber_70 ⟨Nat.zero_le _, Nat.zero_le _⟩) (fun H locs hS => ?_)
        refine lv_if_eq (tgt := 109) hx hb dX3_scanNumber_73 (by decide) (fun cc => ?_) (fun cc => ?_)
        · replace h := it h cc
          exact hb109 x1 μ _ _ _ hS (lv_sub hl [1] rfl) h
        · replace h := ie h cc
          refine lv_bipush (v := 10) hx hb dX3_scanNumber_76 (by decide) ?_
          refine lv_iload_n hx hb dX3_scanNumber_78 rfl (lv_at hl 1 rfl) ?_
          refine lv_imul hx hb dX3_scanNumber_79 ?_
          refine lv_aload_n hx hb dX3_scanNumber_80 rfl (lv_at hl 0 rfl) ?_
          refine lv_aload_n hx hb dX3_scanNumber_81 rfl (lv_at hl 0 rfl) ?_
          refine r_get X hS (T := TX3) (k := 2) (hw.1 μ).1 rfl hiX3 (by decide) mf19 rfl dX3_scanNumber_82 ?_
          obtain ⟨v7, ev7, h⟩ := ob h
          refine r_ci hS (r_runV (As := [.int (μ q 2)]) (rest := [.int (10 * x1)]) X hS (c_X3_byteAt l hE (w := w) (ad := ad) (μ := μ) (D := D) (cI := cI) (cG := cG) (cL := cL) hw ev7) (cwV 1 X.1.2.2.2.2 gX3_scanNumber_X3_byteAt rfl rfl rfl (by decide +kernel) ⟨Nat.le_of_ble_eq_true rfl, Nat.le_of_ble_eq_true rfl⟩) (q0 := q) (ci := 1) rfl (hw.1 μ).1 rfl hl.1 rfl (Nat.le_of_ble_eq_true rfl) dX3_scanNumber_85 ⟨Nat.zero_le _, Nat.zero_le _⟩) (fun H locs hS => ?_)
          refine lv_iadd hx hb dX3_scanNumber_88 ?_
          refine lv_bipush (v := 48) hx hb dX3_scanNumber_89 (by decide) ?_
          refine lv_isub hx hb dX3_scanNumber_91 ?_
          refine lv_istore_n (lv' := [(1, .int (((10 * x1) + v7) - 48)), (0, .ref (ad q)), (2, .int x2)]) hx hb dX3_scanNumber_92 rfl hl (by decide) rfl (fun ls hl => ?_)
          refine lv_aload_n hx hb dX3_scanNumber_93 rfl (lv_at hl 1 rfl) ?_
          refine lv_dup hx hb dX3_scanNumber_94 rfl ?_
          refine r_get X hS (T := TX3) (k := 2) (hw.1 μ).1 rfl hiX3 (by decide) mf19 rfl dX3_scanNumber_95 ?_
          refine lv_iconst (v := 1) hx hb dX3_scanNumber_98 (by decide) ?_
          refine lv_iadd hx hb dX3_scanNumber_99 ?_
          obtain ⟨μ8, eμ8, h⟩ := ob h
          refine r_putp (w := w) X hS (T := TX3) (k := 2) eμ8 hw.1 rfl hiX3 tyX3 tyX3_ok nmX3 (by decide) mf19 rfl rfl rfl (Nat.le_of_ble_eq_true rfl) rfl dX3_scanNumber_100 (fun H locs hS => ?_)
          refine lv_iinc (v := x2 + 1) (lv' := [(2, .int (x2 + 1)), (1, .int (((10 * x1) + v7) - 48)), (0, .ref (ad q))]) hx hb dX3_scanNumber_103 hl (k := 2) rfl rfl (by decide) rfl (fun ls hl => ?_)
          refine lv_goto (tgt := 57) hx hb dX3_scanNumber_106 (by decide) ?_
          exact ih57 (((10 * x1) + v7) - 48) (x2 + 1) μ8 _ _ _ hS (lv_sub hl [2, 1, 0] rfl) h
  unfold f_X3_scanNumber at h
  refine lv_aload_n hx hb dX3_scanNumber_0 rfl (lv_at hl 0 rfl) ?_
  refine lv_aload_n hx hb dX3_scanNumber_1 rfl (lv_at hl 0 rfl) ?_
  refine r_get X hS (T := TX3) (k := 2) (hw.1 μ).1 rfl hiX3 (by decide) mf19 rfl dX3_scanNumber_2 ?_
  obtain ⟨v1, ev1, h⟩ := ob h
  refine r_ci hS (r_runV (As := [.int (μ q 2)]) (rest := []) X hS (c_X3_byteAt l hE (w := w) (ad := ad) (μ := μ) (D := D) (cI := cI) (cG := cG) (cL := cL) hw ev1) (cwV 1 X.1.2.2.2.2 gX3_scanNumber_X3_byteAt rfl rfl rfl (by decide +kernel) ⟨Nat.le_of_ble_eq_true rfl, Nat.le_of_ble_eq_true rfl⟩) (q0 := q) (ci := 1) rfl (hw.1 μ).1 rfl hl.1 rfl (Nat.le_of_ble_eq_true rfl) dX3_scanNumber_5 ⟨Nat.zero_le _, Nat.zero_le _⟩) (fun H locs hS => ?_)
  refine lv_bipush (v := 32) hx hb dX3_scanNumber_8 (by decide) ?_
  refine lv_icmp_eq (tgt := 24) hx hb dX3_scanNumber_10 (by decide) (fun cc => ?_) (fun cc => ?_)
  · replace h := it h cc
    refine lv_aload_n hx hb dX3_scanNumber_24 rfl (lv_at hl 0 rfl) ?_
    obtain ⟨μ2, eμ2, h⟩ := ob h
    refine r_cv hS (r_runV (As := []) (rest := []) X hS (c_X3_skipSpaces l hE (w := w) (ad := ad) (μ := μ) (D := D) (cI := cI) (cG := cG) (cL := cL) hw eμ2) (cwV 0 X.1.2.2.2.2 gX3_scanNumber_X3_skipSpaces rfl rfl rfl (by decide +kernel) ⟨Nat.le_of_ble_eq_true rfl, Nat.le_of_ble_eq_true rfl⟩) (q0 := q) (ci := 1) rfl (hw.1 μ).1 rfl hl.1 rfl (Nat.le_of_ble_eq_true rfl) dX3_scanNumber_25 ⟨Nat.zero_le _, Nat.zero_le _⟩) (fun H locs hS => ?_)
    refine lv_aload_n hx hb dX3_scanNumber_28 rfl (lv_at hl 0 rfl) ?_
    refine lv_aload_n hx hb dX3_scanNumber_29 rfl (lv_at hl 0 rfl) ?_
    refine r_get X hS (T := TX3) (k := 2) (hw.1 μ2).1 rfl hiX3 (by decide) mf19 rfl dX3_scanNumber_30 ?_
    obtain ⟨v3, ev3, h⟩ := ob h
    refine r_ci hS (r_runV (As := [.int (μ2 q 2)]) (rest := []) X hS (c_X3_byteAt l hE (w := w) (ad := ad) (μ := μ2) (D := D) (cI := cI) (cG := cG) (cL := cL) hw ev3) (cwV 1 X.1.2.2.2.2 gX3_scanNumber_X3_byteAt rfl rfl rfl (by decide +kernel) ⟨Nat.le_of_ble_eq_true rfl, Nat.le_of_ble_eq_true rfl⟩) (q0 := q) (ci := 1) rfl (hw.1 μ2).1 rfl hl.1 rfl (Nat.le_of_ble_eq_true rfl) dX3_scanNumber_33 ⟨Nat.zero_le _, Nat.zero_le _⟩) (fun H locs hS => ?_)
    obtain ⟨v4, ev4, h⟩ := ob h
    refine r_ci hS (r_runS (As := [.int v3]) (rest := []) X hS (c_X3_isDigit l hE (w := w) (ad := ad) (μ := μ2) (D := D) (cI := cI) (cG := cG) (cL := cL) ev4) (va_cwS 1 X.1.2.2.2.2 gX3_scanNumber_X3_isDigit rfl rfl rfl (by decide +kernel) ⟨Nat.le_of_ble_eq_true rfl, Nat.le_of_ble_eq_true rfl⟩) rfl hl.1 rfl (Nat.le_of_ble_eq_true rfl) dX3_scanNumber_36 ⟨Nat.zero_le _, Nat.zero_le _⟩) (fun H locs hS => ?_)
    refine lv_if_ne (tgt := 53) hx hb dX3_scanNumber_39 (by decide) (fun cc => ?_) (fun cc => ?_)
    · replace h := ie h cc
      refine lv_iconst (v := 0) hx hb dX3_scanNumber_53 (by decide) ?_
      refine lv_istore_n (lv' := [(1, .int 0), (0, .ref (ad q))]) hx hb dX3_scanNumber_54 rfl hl (by decide) rfl (fun ls hl => ?_)
      refine lv_iconst (v := 0) hx hb dX3_scanNumber_55 (by decide) ?_
      refine lv_istore_n (lv' := [(2, .int 0), (1, .int 0), (0, .ref (ad q))]) hx hb dX3_scanNumber_56 rfl hl (by decide) rfl (fun ls hl => ?_)
      exact hb57 FU 0 0 μ2 _ _ _ hS (lv_sub hl [2, 1, 0] rfl) h
    · replace h := it h cc
      refine lv_aload_n hx hb dX3_scanNumber_42 rfl (lv_at hl 0 rfl) ?_
      refine lv_aload_n hx hb dX3_scanNumber_43 rfl (lv_at hl 0 rfl) ?_
      refine r_get X hS (T := TX3) (k := 2) (hw.1 μ2).1 rfl hiX3 (by decide) mf19 rfl dX3_scanNumber_44 ?_
      obtain ⟨v9, μ10, ev9, h⟩ := ob2 h
      refine r_ci hS (r_runV (As := [.int (μ2 q 2)]) (rest := []) X hS (c_X3_failAt l hE (w := w) (ad := ad) (μ := μ2) (D := D) (cI := cI) (cG := cG) (cL := cL) hw ev9) (cwV 1 X.1.2.2.2.2 gX3_scanNumber_X3_failAt rfl rfl rfl (by decide +kernel) ⟨Nat.le_of_ble_eq_true rfl, Nat.le_of_ble_eq_true rfl⟩) (q0 := q) (ci := 1) rfl (hw.1 μ2).1 rfl hl.1 rfl (Nat.le_of_ble_eq_true rfl) dX3_scanNumber_47 ⟨Nat.zero_le _, Nat.zero_le _⟩) (fun H locs hS => ?_)
      refine lv_pop hx hb dX3_scanNumber_50 rfl ?_
      refine lv_iconst (v := 0) hx hb dX3_scanNumber_51 (by decide) ?_
      obtain ⟨rfl, rfl⟩ := pr2 h
      exact r_iret X hS hr hlk dX3_scanNumber_52
  · replace h := ie h cc
    refine lv_aload_n hx hb dX3_scanNumber_13 rfl (lv_at hl 0 rfl) ?_
    refine lv_aload_n hx hb dX3_scanNumber_14 rfl (lv_at hl 0 rfl) ?_
    refine r_get X hS (T := TX3) (k := 2) (hw.1 μ).1 rfl hiX3 (by decide) mf19 rfl dX3_scanNumber_15 ?_
    obtain ⟨v11, μ12, ev11, h⟩ := ob2 h
    refine r_ci hS (r_runV (As := [.int (μ q 2)]) (rest := []) X hS (c_X3_failAt l hE (w := w) (ad := ad) (μ := μ) (D := D) (cI := cI) (cG := cG) (cL := cL) hw ev11) (cwV 1 X.1.2.2.2.2 gX3_scanNumber_X3_failAt rfl rfl rfl (by decide +kernel) ⟨Nat.le_of_ble_eq_true rfl, Nat.le_of_ble_eq_true rfl⟩) (q0 := q) (ci := 1) rfl (hw.1 μ).1 rfl hl.1 rfl (Nat.le_of_ble_eq_true rfl) dX3_scanNumber_18 ⟨Nat.zero_le _, Nat.zero_le _⟩) (fun H locs hS => ?_)
    refine lv_pop hx hb dX3_scanNumber_21 rfl ?_
    refine lv_iconst (v := 0) hx hb dX3_scanNumber_22 (by decide) ?_
    obtain ⟨rfl, rfl⟩ := pr2 h
    exact r_iret X hS hr hlk dX3_scanNumber_23
def f_X3_scanNumbers_b50 (q : Nat) (s0 : Int32) (μ : Mem) : Option (Int32 × Mem) := (zr s0).bind (fun v1 => (some (v1, μ)))
def f_X3_scanNumbers_b35 (q : Nat)  (μ : Mem) : Option (Int32 × Mem) := (if (μ q 3) = (-1000) then f_X3_scanNumbers_b50 q 1 μ else f_X3_scanNumbers_b50 q 0 μ)
def f_X3_scanNumbers_b12 (q : Nat) (x1 : Int32) (μ : Mem) : Option (Int32 × Mem) := (if x1 ≤ 1 then f_X3_scanNumbers_b35 q μ else (if (μ q 3) = (-1000) then bn2 (f_X3_scanNumber q μ) (fun v2 μ3 => (pf μ3 q 6 v2).bind (fun μ4 => f_X3_scanNumbers_b35 q μ4)) else f_X3_scanNumbers_b35 q μ))
def f_X3_scanNumbers (q : Nat) (a1 : Int32) (μ : Mem) : Option (Int32 × Mem) := (if a1 ≤ 0 then f_X3_scanNumbers_b12 q a1 μ else bn2 (f_X3_scanNumber q μ) (fun v5 μ6 => (pf μ6 q 5 v5).bind (fun μ7 => f_X3_scanNumbers_b12 q a1 μ7)))
set_option maxHeartbeats 4000000 in
set_option maxRecDepth 100000 in
theorem c_X3_scanNumbers (l : Launch) {D : va_G} {cI cG cL : ClassId} {A : Nat → Prop} {EN : State → Heap → Prop} (hE : EnOK EN A) {w : Mem → va_W} {adE ad : Nat → Nat} {q : Nat} {a1 : Int32} {μ : Mem} {r : Int32} {μ' : Mem} (hw : TextAt cI adE w ad q) (h : f_X3_scanNumbers q a1 μ = some (r, μ')) : Met l yX3_scanNumbers wsX3_scanNumbers (rmk 3 63) (WPre D (tyl cI cG cL) A EN (w μ) [.ref (ad q), .int a1]) (PI D A (w μ') r) 0 0 A := by
  have hiX3 : ∀ w ∈ u_ws RX3 TX3 7, w ∈ wsX3_scanNumbers := by decide +kernel
  have mf22 : Cond.fieldLink RX3 22 (TX3 3).1 (TX3 3).2.1 (TX3 3).2.2.1 ∈ wsX3_scanNumbers := by decide +kernel
  have mf32 : Cond.fieldLink RX3 32 (TX3 6).1 (TX3 6).2.1 (TX3 6).2.2.1 ∈ wsX3_scanNumbers := by decide +kernel
  have mf29 : Cond.fieldLink RX3 29 (TX3 5).1 (TX3 5).2.1 (TX3 5).2.2.1 ∈ wsX3_scanNumbers := by decide +kernel
  refine met_start (cc := cX3_scanNumbers) (nL := 2) (ret := (some .boolean)) (own := RX3) hE (by decide) rfl rfl (Nat.le_of_ble_eq_true rfl) (fun p e s m args below meth c ls X hS hl hr hlk => ?_)
  have hx := X.1.1
  have hb := X.1.2.1
  replace hl : lv_has ls 2 [(0, .ref (ad q)), (1, .int a1)] := hl
  have hb50 : ∀ (s0 : Int32) (μ : Mem) (H : Heap) (locs : List Loc) (ls : Array Slot), HS D A (w μ) s.heap H locs → lv_has ls 2 [] → f_X3_scanNumbers_b50 q s0 μ = some (r, μ') → W p l e (headSpec wsX3_scanNumbers (rmk 3 63)).room s m args below meth c H locs 0 0 (MQ below (PI D A (w μ') r) args s 0 0 A) (F0 m 50 ls [.int s0]) := by
    intro s0 μ H locs ls hS hl h
    unfold f_X3_scanNumbers_b50 at h
    obtain ⟨v1, ev1, h⟩ := ob h
    obtain ⟨ezv1, eov1⟩ := zr_ok ev1
    rw [ezv1]
    obtain ⟨rfl, rfl⟩ := pr2 h
    exact r_zret X hS hr hlk eov1 dX3_scanNumbers_50
  have hb35 : ∀  (μ : Mem) (H : Heap) (locs : List Loc) (ls : Array Slot), HS D A (w μ) s.heap H locs → lv_has ls 2 [(0, .ref (ad q))] → f_X3_scanNumbers_b35 q μ = some (r, μ') → W p l e (headSpec wsX3_scanNumbers (rmk 3 63)).room s m args below meth c H locs 0 0 (MQ below (PI D A (w μ') r) args s 0 0 A) (F0 m 35 ls []) := by
    intro μ H locs ls hS hl h
    unfold f_X3_scanNumbers_b35 at h
    refine lv_aload_n hx hb dX3_scanNumbers_35 rfl (lv_at hl 0 rfl) ?_
    refine r_get X hS (T := TX3) (k := 3) (hw.1 μ).1 rfl hiX3 (by decide) mf22 rfl dX3_scanNumbers_36 ?_
    refine lv_sipush (v := (-1000)) hx hb dX3_scanNumbers_39 (by decide) ?_
    refine lv_icmp_ne (tgt := 49) hx hb dX3_scanNumbers_42 (by decide) (fun cc => ?_) (fun cc => ?_)
    · replace h := ie h cc
      refine lv_iconst (v := 0) hx hb dX3_scanNumbers_49 (by decide) ?_
      exact hb50 0 μ _ _ _ hS (lv_sub hl [] rfl) h
    · replace h := it h cc
      refine lv_iconst (v := 1) hx hb dX3_scanNumbers_45 (by decide) ?_
      refine lv_goto (tgt := 50) hx hb dX3_scanNumbers_46 (by decide) ?_
      exact hb50 1 μ _ _ _ hS (lv_sub hl [] rfl) h
  have hb12 : ∀ (x1 : Int32) (μ : Mem) (H : Heap) (locs : List Loc) (ls : Array Slot), HS D A (w μ) s.heap H locs → lv_has ls 2 [(0, .ref (ad q)), (1, .int x1)] → f_X3_scanNumbers_b12 q x1 μ = some (r, μ') → W p l e (headSpec wsX3_scanNumbers (rmk 3 63)).room s m args below meth c H locs 0 0 (MQ below (PI D A (w μ') r) args s 0 0 A) (F0 m 12 ls []) := by
    intro x1 μ H locs ls hS hl h
    unfold f_X3_scanNumbers_b12 at h
    refine lv_iload_n hx hb dX3_scanNumbers_12 rfl (lv_at hl 1 rfl) ?_
    refine lv_iconst (v := 1) hx hb dX3_scanNumbers_13 (by decide) ?_
    refine lv_icmp_le (tgt := 35) hx hb dX3_scanNumbers_14 (by decide) (fun cc => ?_) (fun cc => ?_)
    · replace h := it h cc
      exact hb35 μ _ _ _ hS (lv_sub hl [0] rfl) h
    · replace h := ie h cc
      refine lv_aload_n hx hb dX3_scanNumbers_17 rfl (lv_at hl 0 rfl) ?_
      refine r_get X hS (T := TX3) (k := 3) (hw.1 μ).1 rfl hiX3 (by decide) mf22 rfl dX3_scanNumbers_18 ?_
      refine lv_sipush (v := (-1000)) hx hb dX3_scanNumbers_21 (by decide) ?_
      refine lv_icmp_ne (tgt := 35) hx hb dX3_scanNumbers_24 (by decide) (fun cc => ?_) (fun cc => ?_)
      · replace h := ie h cc
        exact hb35 μ _ _ _ hS (lv_sub hl [0] rfl) h
      · replace h := it h cc
        refine lv_aload_n hx hb dX3_scanNumbers_27 rfl (lv_at hl 0 rfl) ?_
        refine lv_aload_n hx hb dX3_scanNumbers_28 rfl (lv_at hl 0 rfl) ?_
        obtain ⟨v2, μ3, ev2, h⟩ := ob2 h
        refine r_ci hS (r_runV (As := []) (rest := [.ref (ad q)]) X hS (c_X3_scanNumber l hE (w := w) (ad := ad) (μ := μ) (D := D) (cI := cI) (cG := cG) (cL := cL) hw ev2) (cwV 0 X.1.2.2.2.2 gX3_scanNumbers_X3_scanNumber rfl rfl rfl (by decide +kernel) ⟨Nat.le_of_ble_eq_true rfl, Nat.le_of_ble_eq_true rfl⟩) (q0 := q) (ci := 1) rfl (hw.1 μ).1 rfl hl.1 rfl (Nat.le_of_ble_eq_true rfl) dX3_scanNumbers_29 ⟨Nat.zero_le _, Nat.zero_le _⟩) (fun H locs hS => ?_)
        obtain ⟨μ4, eμ4, h⟩ := ob h
        refine r_putp (w := w) X hS (T := TX3) (k := 6) eμ4 hw.1 rfl hiX3 tyX3 tyX3_ok nmX3 (by decide) mf32 rfl rfl rfl (Nat.le_of_ble_eq_true rfl) rfl dX3_scanNumbers_32 (fun H locs hS => ?_)
        exact hb35 μ4 _ _ _ hS (lv_sub hl [0] rfl) h
  unfold f_X3_scanNumbers at h
  refine lv_iload_n hx hb dX3_scanNumbers_0 rfl (lv_at hl 1 rfl) ?_
  refine lv_if_le (tgt := 12) hx hb dX3_scanNumbers_1 (by decide) (fun cc => ?_) (fun cc => ?_)
  · replace h := it h cc
    exact hb12 a1 μ _ _ _ hS (lv_sub hl [0, 1] rfl) h
  · replace h := ie h cc
    refine lv_aload_n hx hb dX3_scanNumbers_4 rfl (lv_at hl 0 rfl) ?_
    refine lv_aload_n hx hb dX3_scanNumbers_5 rfl (lv_at hl 0 rfl) ?_
    obtain ⟨v5, μ6, ev5, h⟩ := ob2 h
    refine r_ci hS (r_runV (As := []) (rest := [.ref (ad q)]) X hS (c_X3_scanNumber l hE (w := w) (ad := ad) (μ := μ) (D := D) (cI := cI) (cG := cG) (cL := cL) hw ev5) (cwV 0 X.1.2.2.2.2 gX3_scanNumbers_X3_scanNumber rfl rfl rfl (by decide +kernel) ⟨Nat.le_of_ble_eq_true rfl, Nat.le_of_ble_eq_true rfl⟩) (q0 := q) (ci := 1) rfl (hw.1 μ).1 rfl hl.1 rfl (Nat.le_of_ble_eq_true rfl) dX3_scanNumbers_6 ⟨Nat.zero_le _, Nat.zero_le _⟩) (fun H locs hS => ?_)
    obtain ⟨μ7, eμ7, h⟩ := ob h
    refine r_putp (w := w) X hS (T := TX3) (k := 5) eμ7 hw.1 rfl hiX3 tyX3 tyX3_ok nmX3 (by decide) mf29 rfl rfl rfl (Nat.le_of_ble_eq_true rfl) rfl dX3_scanNumbers_9 (fun H locs hS => ?_)
    exact hb12 a1 μ7 _ _ _ hS (lv_sub hl [0, 1] rfl) h
def f_X3_scanSemicolon (q : Nat) (μ : Mem) : Option (Int32 × Mem) := (f_X3_skipSpaces q μ).bind (fun μ1 => (f_X3_byteAt q (μ1 q 2) μ1).bind (fun v2 => (if v2 = 59 then (pf μ1 q 2 ((μ1 q 2) + 1)).bind (fun μ3 => (some (1, μ3))) else bn2 (f_X3_failAt q (μ1 q 2) μ1) (fun v4 μ5 => (zr v4).bind (fun v6 => (some (v6, μ5)))))))
set_option maxHeartbeats 4000000 in
set_option maxRecDepth 100000 in
theorem c_X3_scanSemicolon (l : Launch) {D : va_G} {cI cG cL : ClassId} {A : Nat → Prop} {EN : State → Heap → Prop} (hE : EnOK EN A) {w : Mem → va_W} {adE ad : Nat → Nat} {q : Nat} {μ : Mem} {r : Int32} {μ' : Mem} (hw : TextAt cI adE w ad q) (h : f_X3_scanSemicolon q μ = some (r, μ')) : Met l yX3_scanSemicolon wsX3_scanSemicolon (rmk 2 41) (WPre D (tyl cI cG cL) A EN (w μ) [.ref (ad q)]) (PI D A (w μ') r) 0 0 A := by
  have hiX3 : ∀ w ∈ u_ws RX3 TX3 7, w ∈ wsX3_scanSemicolon := by decide +kernel
  have mf19 : Cond.fieldLink RX3 19 (TX3 2).1 (TX3 2).2.1 (TX3 2).2.2.1 ∈ wsX3_scanSemicolon := by decide +kernel
  refine met_start (cc := cX3_scanSemicolon) (nL := 1) (ret := (some .boolean)) (own := RX3) hE (by decide) rfl rfl (Nat.le_of_ble_eq_true rfl) (fun p e s m args below meth c ls X hS hl hr hlk => ?_)
  have hx := X.1.1
  have hb := X.1.2.1
  replace hl : lv_has ls 1 [(0, .ref (ad q))] := hl
  unfold f_X3_scanSemicolon at h
  refine lv_aload_n hx hb dX3_scanSemicolon_0 rfl (lv_at hl 0 rfl) ?_
  obtain ⟨μ1, eμ1, h⟩ := ob h
  refine r_cv hS (r_runV (As := []) (rest := []) X hS (c_X3_skipSpaces l hE (w := w) (ad := ad) (μ := μ) (D := D) (cI := cI) (cG := cG) (cL := cL) hw eμ1) (cwV 0 X.1.2.2.2.2 gX3_scanSemicolon_X3_skipSpaces rfl rfl rfl (by decide +kernel) ⟨Nat.le_of_ble_eq_true rfl, Nat.le_of_ble_eq_true rfl⟩) (q0 := q) (ci := 1) rfl (hw.1 μ).1 rfl hl.1 rfl (Nat.le_of_ble_eq_true rfl) dX3_scanSemicolon_1 ⟨Nat.zero_le _, Nat.zero_le _⟩) (fun H locs hS => ?_)
  refine lv_aload_n hx hb dX3_scanSemicolon_4 rfl (lv_at hl 0 rfl) ?_
  refine lv_aload_n hx hb dX3_scanSemicolon_5 rfl (lv_at hl 0 rfl) ?_
  refine r_get X hS (T := TX3) (k := 2) (hw.1 μ1).1 rfl hiX3 (by decide) mf19 rfl dX3_scanSemicolon_6 ?_
  obtain ⟨v2, ev2, h⟩ := ob h
  refine r_ci hS (r_runV (As := [.int (μ1 q 2)]) (rest := []) X hS (c_X3_byteAt l hE (w := w) (ad := ad) (μ := μ1) (D := D) (cI := cI) (cG := cG) (cL := cL) hw ev2) (cwV 1 X.1.2.2.2.2 gX3_scanSemicolon_X3_byteAt rfl rfl rfl (by decide +kernel) ⟨Nat.le_of_ble_eq_true rfl, Nat.le_of_ble_eq_true rfl⟩) (q0 := q) (ci := 1) rfl (hw.1 μ1).1 rfl hl.1 rfl (Nat.le_of_ble_eq_true rfl) dX3_scanSemicolon_9 ⟨Nat.zero_le _, Nat.zero_le _⟩) (fun H locs hS => ?_)
  refine lv_bipush (v := 59) hx hb dX3_scanSemicolon_12 (by decide) ?_
  refine lv_icmp_eq (tgt := 26) hx hb dX3_scanSemicolon_14 (by decide) (fun cc => ?_) (fun cc => ?_)
  · replace h := it h cc
    refine lv_aload_n hx hb dX3_scanSemicolon_26 rfl (lv_at hl 0 rfl) ?_
    refine lv_dup hx hb dX3_scanSemicolon_27 rfl ?_
    refine r_get X hS (T := TX3) (k := 2) (hw.1 μ1).1 rfl hiX3 (by decide) mf19 rfl dX3_scanSemicolon_28 ?_
    refine lv_iconst (v := 1) hx hb dX3_scanSemicolon_31 (by decide) ?_
    refine lv_iadd hx hb dX3_scanSemicolon_32 ?_
    obtain ⟨μ3, eμ3, h⟩ := ob h
    refine r_putp (w := w) X hS (T := TX3) (k := 2) eμ3 hw.1 rfl hiX3 tyX3 tyX3_ok nmX3 (by decide) mf19 rfl rfl rfl (Nat.le_of_ble_eq_true rfl) rfl dX3_scanSemicolon_33 (fun H locs hS => ?_)
    refine lv_iconst (v := 1) hx hb dX3_scanSemicolon_36 (by decide) ?_
    obtain ⟨rfl, rfl⟩ := pr2 h
    exact r_zret X hS hr hlk (by decide) dX3_scanSemicolon_37
  · replace h := ie h cc
    refine lv_aload_n hx hb dX3_scanSemicolon_17 rfl (lv_at hl 0 rfl) ?_
    refine lv_aload_n hx hb dX3_scanSemicolon_18 rfl (lv_at hl 0 rfl) ?_
    refine r_get X hS (T := TX3) (k := 2) (hw.1 μ1).1 rfl hiX3 (by decide) mf19 rfl dX3_scanSemicolon_19 ?_
    obtain ⟨v4, μ5, ev4, h⟩ := ob2 h
    refine r_ci hS (r_runV (As := [.int (μ1 q 2)]) (rest := []) X hS (c_X3_failAt l hE (w := w) (ad := ad) (μ := μ1) (D := D) (cI := cI) (cG := cG) (cL := cL) hw ev4) (cwV 1 X.1.2.2.2.2 gX3_scanSemicolon_X3_failAt rfl rfl rfl (by decide +kernel) ⟨Nat.le_of_ble_eq_true rfl, Nat.le_of_ble_eq_true rfl⟩) (q0 := q) (ci := 1) rfl (hw.1 μ1).1 rfl hl.1 rfl (Nat.le_of_ble_eq_true rfl) dX3_scanSemicolon_22 ⟨Nat.zero_le _, Nat.zero_le _⟩) (fun H locs hS => ?_)
    obtain ⟨v6, ev6, h⟩ := ob h
    obtain ⟨ezv6, eov6⟩ := zr_ok ev6
    rw [ezv6]
    obtain ⟨rfl, rfl⟩ := pr2 h
    exact r_zret X hS hr hlk eov6 dX3_scanSemicolon_25
