def f_X7_thrown (q : Nat) (μ : Mem) : Option Int32 := (some (μ q 6))
set_option maxHeartbeats 4000000 in
set_option maxRecDepth 100000 in
theorem c_X7_thrown (l : Launch) {D : va_G} {cI cG cL : ClassId} {A : Nat → Prop} {EN : State → Heap → Prop} (hE : EnOK EN A) {w : Mem → va_W} {ad : Nat → Nat} {hh : Int64} {q : Nat} {μ : Mem} {r : Int32} (hw : ModelAt cI w ad hh q) (h : f_X7_thrown q μ = some r) : Met l yX7_thrown wsX7_thrown (rmk 0 0) (WPre D (tyl cI cG cL) A EN (w μ) [.ref (ad q)]) (PI D A (w μ) r) 0 0 A := by
  have hiX7 : ∀ w ∈ u_ws RX7 TX7 13, w ∈ wsX7_thrown := by decide +kernel
  have mf28 : Cond.fieldLink RX7 28 (TX7 6).1 (TX7 6).2.1 (TX7 6).2.2.1 ∈ wsX7_thrown := by decide +kernel
  refine met_start (cc := cX7_thrown) (nL := 1) (ret := (some .int)) (own := RX7) hE (by decide) rfl rfl (Nat.le_of_ble_eq_true rfl) (fun p e s m args below meth c ls X hS hl hr hlk => ?_)
  have hx := X.1.1
  have hb := X.1.2.1
  replace hl : lv_has ls 1 [(0, .ref (ad q))] := hl
  unfold f_X7_thrown at h
  refine lv_aload_n hx hb dX7_thrown_0 rfl (lv_at hl 0 rfl) ?_
  refine r_get X hS (T := TX7) (k := 6) (hw.1 μ).1 rfl hiX7 (by decide) mf28 rfl dX7_thrown_1 ?_
  cases h
  exact r_iret X hS hr hlk dX7_thrown_4
def f_X7_in_b15  (s0 : Int32)  : Option Int32 := (zr s0).bind (fun v1 => (some v1))
def f_X7_in_b14    : Option Int32 := f_X7_in_b15 0
def f_X7_in (a0 : Int32) (a1 : Int32) (a2 : Int32) : Option Int32 := (if a0 < a1 then f_X7_in_b14  else (if a2 < a0 then f_X7_in_b14  else f_X7_in_b15 1))
set_option maxHeartbeats 4000000 in
set_option maxRecDepth 100000 in
theorem c_X7_in (l : Launch) {D : va_G} {cI cG cL : ClassId} {A : Nat → Prop} {EN : State → Heap → Prop} (hE : EnOK EN A) {w : Mem → va_W} {ad : Nat → Nat} {a0 : Int32} {a1 : Int32} {a2 : Int32} {μ : Mem} {r : Int32}  (h : f_X7_in a0 a1 a2 = some r) : Met l yX7_in wsX7_in (rmk 0 0) (WPre D (tyl cI cG cL) A EN (w μ) [.int a0, .int a1, .int a2]) (PI D A (w μ) r) 0 0 A := by
  refine met_start (cc := cX7_in) (nL := 3) (ret := (some .boolean)) (own := RX7) hE (by decide) rfl rfl (Nat.le_of_ble_eq_true rfl) (fun p e s m args below meth c ls X hS hl hr hlk => ?_)
  have hx := X.1.1
  have hb := X.1.2.1
  replace hl : lv_has ls 3 [(0, .int a0), (1, .int a1), (2, .int a2)] := hl
  have hb15 : ∀ (s0 : Int32) (H : Heap) (locs : List Loc) (ls : Array Slot), HS D A (w μ) s.heap H locs → lv_has ls 3 [] → f_X7_in_b15 s0 = some r → W p l e (headSpec wsX7_in (rmk 0 0)).room s m args below meth c H locs 0 0 (MQ below (PI D A (w μ) r) args s 0 0 A) (F0 m 15 ls [.int s0]) := by
    intro s0 H locs ls hS hl h
    unfold f_X7_in_b15 at h
    obtain ⟨v1, ev1, h⟩ := ob h
    obtain ⟨ezv1, eov1⟩ := zr_ok ev1
    rw [ezv1]
    cases h
    exact r_zret X hS hr hlk eov1 dX7_in_15
  have hb14 : ∀  (H : Heap) (locs : List Loc) (ls : Array Slot), HS D A (w μ) s.heap H locs → lv_has ls 3 [] → f_X7_in_b14  = some r → W p l e (headSpec wsX7_in (rmk 0 0)).room s m args below meth c H locs 0 0 (MQ below (PI D A (w μ) r) args s 0 0 A) (F0 m 14 ls []) := by
    intro H locs ls hS hl h
    unfold f_X7_in_b14 at h
    refine lv_iconst (v := 0) hx hb dX7_in_14 (by decide) ?_
    exact hb15 0 _ _ _ hS (lv_sub hl [] rfl) h
  unfold f_X7_in at h
  refine lv_iload_n hx hb dX7_in_0 rfl (lv_at hl 0 rfl) ?_
  refine lv_iload_n hx hb dX7_in_1 rfl (lv_at hl 1 rfl) ?_
  refine lv_icmp_lt (tgt := 14) hx hb dX7_in_2 (by decide) (fun cc => ?_) (fun cc => ?_)
  · replace h := it h cc
    exact hb14  _ _ _ hS (lv_sub hl [] rfl) h
  · replace h := ie h cc
    refine lv_iload_n hx hb dX7_in_5 rfl (lv_at hl 0 rfl) ?_
    refine lv_iload_n hx hb dX7_in_6 rfl (lv_at hl 2 rfl) ?_
    refine lv_icmp_gt (tgt := 14) hx hb dX7_in_7 (by decide) (fun cc => ?_) (fun cc => ?_)
    · replace h := it h cc
      exact hb14  _ _ _ hS (lv_sub hl [] rfl) h
    · replace h := ie h cc
      refine lv_iconst (v := 1) hx hb dX7_in_10 (by decide) ?_
      refine lv_goto (tgt := 15) hx hb dX7_in_11 (by decide) ?_
      exact hb15 1 _ _ _ hS (lv_sub hl [] rfl) h
def f_X7_bring_b3 (q0 n0 : Nat) (q2 n2 : Nat)  : Nat → Int32 → Int32 → Int32 → Mem → Option Mem
  | 0, _, _, _, _ => none
  | fuel3 + 1, x1, x3, x4, μ => (if 470 ≤ x4 then (some μ) else (rd n0 (μ q0) (x1 + x4)).bind (fun v1 => (wr μ q2 n2 (x3 + x4) v1).bind (fun μ2 => f_X7_bring_b3 q0 n0 q2 n2 fuel3 x1 x3 (x4 + 1) μ2)))
def f_X7_bring (q0 n0 : Nat) (a1 : Int32) (q2 n2 : Nat) (a3 : Int32) (μ : Mem) : Option Mem := f_X7_bring_b3 q0 n0 q2 n2 FU a1 a3 0 μ
set_option maxHeartbeats 4000000 in
set_option maxRecDepth 100000 in
theorem c_X7_bring (l : Launch) {D : va_G} {cI cG cL : ClassId} {A : Nat → Prop} {EN : State → Heap → Prop} (hE : EnOK EN A) {w : Mem → va_W} {ad : Nat → Nat} {q0 n0 : Nat} {a1 : Int32} {q2 n2 : Nat} {a3 : Int32} {μ : Mem}  {μ' : Mem} (hA0 : Arr cI w ad q0 n0) (hA2 : Arr cI w ad q2 n2) (h : f_X7_bring q0 n0 a1 q2 n2 a3 μ = some μ') : Met l yX7_bring wsX7_bring (rmk 0 0) (WPre D (tyl cI cG cL) A EN (w μ) [.ref (ad q0), .int a1, .ref (ad q2), .int a3]) (PV D A (w μ')) 0 0 A := by
  refine met_start (cc := cX7_bring) (nL := 5) (ret := none) (own := RX7) hE (by decide) rfl rfl (Nat.le_of_ble_eq_true rfl) (fun p e s m args below meth c ls X hS hl hr hlk => ?_)
  have hx := X.1.1
  have hb := X.1.2.1
  replace hl : lv_has ls 5 [(0, .ref (ad q0)), (1, .int a1), (2, .ref (ad q2)), (3, .int a3)] := hl
  have hb3 : ∀ (fu : Nat) (x1 : Int32) (x3 : Int32) (x4 : Int32) (μ : Mem) (H : Heap) (locs : List Loc) (ls : Array Slot), HS D A (w μ) s.heap H locs → lv_has ls 5 [(0, .ref (ad q0)), (1, .int x1), (2, .ref (ad q2)), (3, .int x3), (4, .int x4)] → f_X7_bring_b3 q0 n0 q2 n2 fu x1 x3 x4 μ = some μ' → W p l e (headSpec wsX7_bring (rmk 0 0)).room s m args below meth c H locs 0 0 (MQ below (PV D A (w μ')) args s 0 0 A) (F0 m 3 ls []) := by
    intro fu
    induction fu with
    | zero =>
      intro x1 x3 x4 μ H locs ls hS hl h
      rw [f_X7_bring_b3] at h
      cases h
    | succ fuel3 ih3 =>
      intro x1 x3 x4 μ H locs ls hS hl h
      rw [f_X7_bring_b3] at h
      refine lv_iload hx hb dX7_bring_3 (lv_at hl 4 rfl) ?_
      refine lv_sipush (v := 470) hx hb dX7_bring_5 (by decide) ?_
      refine lv_icmp_ge (tgt := 29) hx hb dX7_bring_8 (by decide) (fun cc => ?_) (fun cc => ?_)
      · replace h := it h cc
        cases h
        exact r_vret X hS hr hlk dX7_bring_29
      · replace h := ie h cc
        refine lv_aload_n hx hb dX7_bring_11 rfl (lv_at hl 2 rfl) ?_
        refine lv_iload_n hx hb dX7_bring_12 rfl (lv_at hl 3 rfl) ?_
        refine lv_iload hx hb dX7_bring_13 (lv_at hl 4 rfl) ?_
        refine lv_iadd hx hb dX7_bring_15 ?_
        refine lv_aload_n hx hb dX7_bring_16 rfl (lv_at hl 0 rfl) ?_
        refine lv_iload_n hx hb dX7_bring_17 rfl (lv_at hl 1 rfl) ?_
        refine lv_iload hx hb dX7_bring_18 (lv_at hl 4 rfl) ?_
        refine lv_iadd hx hb dX7_bring_20 ?_
        obtain ⟨v1, ev1, h⟩ := ob h
        refine r_iald X hS (hA0 μ).1 ev1 dX7_bring_21 ?_
        obtain ⟨μ2, eμ2, h⟩ := ob h
        refine r_iast X hS hA2 eμ2 dX7_bring_22 (fun H locs hS => ?_)
        refine lv_iinc (v := x4 + 1) (lv' := [(4, .int (x4 + 1)), (0, .ref (ad q0)), (1, .int x1), (2, .ref (ad q2)), (3, .int x3)]) hx hb dX7_bring_23 hl (k := 4) rfl rfl (by decide) rfl (fun ls hl => ?_)
        refine lv_goto (tgt := 3) hx hb dX7_bring_26 (by decide) ?_
        exact ih3 x1 x3 (x4 + 1) μ2 _ _ _ hS (lv_sub hl [1, 2, 3, 4, 0] rfl) h
  unfold f_X7_bring at h
  refine lv_iconst (v := 0) hx hb dX7_bring_0 (by decide) ?_
  refine lv_istore (lv' := [(4, .int 0), (0, .ref (ad q0)), (1, .int a1), (2, .ref (ad q2)), (3, .int a3)]) hx hb dX7_bring_1 hl (by decide) rfl (fun ls hl => ?_)
  exact hb3 FU a1 a3 0 μ _ _ _ hS (lv_sub hl [1, 2, 3, 4, 0] rfl) h
def f_X7_hold (q : Nat) (μ : Mem) : Option Mem := (pf μ q 7 0).bind (fun μ1 => (f_X7_bring (q + 1) 470 0 (q + 2) 470 0 μ1).bind (fun μ2 => (some μ2)))
set_option maxHeartbeats 4000000 in
set_option maxRecDepth 100000 in
theorem c_X7_hold (l : Launch) {D : va_G} {cI cG cL : ClassId} {A : Nat → Prop} {EN : State → Heap → Prop} (hE : EnOK EN A) {w : Mem → va_W} {ad : Nat → Nat} {hh : Int64} {q : Nat} {μ : Mem}  {μ' : Mem} (hw : ModelAt cI w ad hh q) (h : f_X7_hold q μ = some μ') : Met l yX7_hold wsX7_hold (rmk 1 24) (WPre D (tyl cI cG cL) A EN (w μ) [.ref (ad q)]) (PV D A (w μ')) 0 0 A := by
  have hiX7 : ∀ w ∈ u_ws RX7 TX7 13, w ∈ wsX7_hold := by decide +kernel
  have mf32 : Cond.fieldLink RX7 32 (TX7 7).1 (TX7 7).2.1 (TX7 7).2.2.1 ∈ wsX7_hold := by decide +kernel
  have mf7 : Cond.fieldLink RX7 7 (TX7 0).1 (TX7 0).2.1 (TX7 0).2.2.1 ∈ wsX7_hold := by decide +kernel
  have mf13 : Cond.fieldLink RX7 13 (TX7 1).1 (TX7 1).2.1 (TX7 1).2.2.1 ∈ wsX7_hold := by decide +kernel
  refine met_start (cc := cX7_hold) (nL := 1) (ret := none) (own := RX7) hE (by decide) rfl rfl (Nat.le_of_ble_eq_true rfl) (fun p e s m args below meth c ls X hS hl hr hlk => ?_)
  have hx := X.1.1
  have hb := X.1.2.1
  replace hl : lv_has ls 1 [(0, .ref (ad q))] := hl
  unfold f_X7_hold at h
  refine lv_aload_n hx hb dX7_hold_0 rfl (lv_at hl 0 rfl) ?_
  refine lv_iconst (v := 0) hx hb dX7_hold_1 (by decide) ?_
  obtain ⟨μ1, eμ1, h⟩ := ob h
  refine r_putp (w := w) X hS (T := TX7) (k := 7) eμ1 hw.1 rfl hiX7 tyX7 tyX7_ok nmX7 (by decide) mf32 rfl rfl rfl (Nat.le_of_ble_eq_true rfl) rfl dX7_hold_2 (fun H locs hS => ?_)
  refine lv_aload_n hx hb dX7_hold_5 rfl (lv_at hl 0 rfl) ?_
  refine r_get X hS (T := TX7) (k := 0) (hw.1 μ1).1 rfl hiX7 (by decide) mf7 rfl dX7_hold_6 ?_
  refine lv_iconst (v := 0) hx hb dX7_hold_9 (by decide) ?_
  refine lv_aload_n hx hb dX7_hold_10 rfl (lv_at hl 0 rfl) ?_
  refine r_get X hS (T := TX7) (k := 1) (hw.1 μ1).1 rfl hiX7 (by decide) mf13 rfl dX7_hold_11 ?_
  refine lv_iconst (v := 0) hx hb dX7_hold_14 (by decide) ?_
  obtain ⟨μ2, eμ2, h⟩ := ob h
  refine r_cv hS (r_runS (As := [.ref (ad (q + 1)), .int 0, .ref (ad (q + 2)), .int 0]) (rest := []) X hS (c_X7_bring l hE (w := w) (ad := ad) (μ := μ1) (D := D) (cI := cI) (cG := cG) (cL := cL) hw.2.1 hw.2.2.1 eμ2) (va_cwS 4 X.1.2.2.2.2 gX7_hold_X7_bring rfl rfl rfl (by decide +kernel) ⟨Nat.le_of_ble_eq_true rfl, Nat.le_of_ble_eq_true rfl⟩) rfl hl.1 rfl (Nat.le_of_ble_eq_true rfl) dX7_hold_15 ⟨Nat.zero_le _, Nat.zero_le _⟩) (fun H locs hS => ?_)
  cases h
  exact r_vret X hS hr hlk dX7_hold_18
def f_X7_ends_b66 (q : Nat) (x1 : Int32) (μ : Mem) : Option (Int32 × Mem) := (f_X7_bring (q + 2) 470 0 (q + 3) 1880 (470 * (μ q 3)) μ).bind (fun μ2 => (pf μ2 q 3 ((μ2 q 3) + 1)).bind (fun μ3 => (some (x1, μ3))))
def f_X7_ends_b27 (q : Nat)  : Nat → Int32 → Int32 → Mem → Option (Int32 × Mem)
  | 0, _, _, _ => none
  | fuel27 + 1, x1, x2, μ => (if 1410 ≤ x2 then (pf μ q 3 ((μ q 3) - 1)).bind (fun μ4 => f_X7_ends_b66 q x1 μ4) else (rd 1880 (μ (q + 3)) (x2 + 470)).bind (fun v5 => (wr μ (q + 3) 1880 x2 v5).bind (fun μ6 => f_X7_ends_b27 q fuel27 x1 (x2 + 1) μ6)))
def f_X7_ends (q : Nat) (a1 : Int32) (μ : Mem) : Option (Int32 × Mem) := (pf μ q 6 (μ q 7)).bind (fun μ1 => (if (μ1 q 7) = 0 then (if (μ1 q 3) = 4 then f_X7_ends_b27 q FU a1 0 μ1 else f_X7_ends_b66 q a1 μ1) else (some (0, μ1))))
set_option maxHeartbeats 4000000 in
set_option maxRecDepth 100000 in
theorem c_X7_ends (l : Launch) {D : va_G} {cI cG cL : ClassId} {A : Nat → Prop} {EN : State → Heap → Prop} (hE : EnOK EN A) {w : Mem → va_W} {ad : Nat → Nat} {hh : Int64} {q : Nat} {a1 : Int32} {μ : Mem} {r : Int32} {μ' : Mem} (hw : ModelAt cI w ad hh q) (h : f_X7_ends q a1 μ = some (r, μ')) : Met l yX7_ends wsX7_ends (rmk 1 24) (WPre D (tyl cI cG cL) A EN (w μ) [.ref (ad q), .int a1]) (PI D A (w μ') r) 0 0 A := by
  have hiX7 : ∀ w ∈ u_ws RX7 TX7 13, w ∈ wsX7_ends := by decide +kernel
  have mf32 : Cond.fieldLink RX7 32 (TX7 7).1 (TX7 7).2.1 (TX7 7).2.2.1 ∈ wsX7_ends := by decide +kernel
  have mf28 : Cond.fieldLink RX7 28 (TX7 6).1 (TX7 6).2.1 (TX7 6).2.2.1 ∈ wsX7_ends := by decide +kernel
  have mf39 : Cond.fieldLink RX7 39 (TX7 3).1 (TX7 3).2.1 (TX7 3).2.2.1 ∈ wsX7_ends := by decide +kernel
  have mf13 : Cond.fieldLink RX7 13 (TX7 1).1 (TX7 1).2.1 (TX7 1).2.2.1 ∈ wsX7_ends := by decide +kernel
  have mf16 : Cond.fieldLink RX7 16 (TX7 2).1 (TX7 2).2.1 (TX7 2).2.2.1 ∈ wsX7_ends := by decide +kernel
  refine met_start (cc := cX7_ends) (nL := 3) (ret := (some .int)) (own := RX7) hE (by decide) rfl rfl (Nat.le_of_ble_eq_true rfl) (fun p e s m args below meth c ls X hS hl hr hlk => ?_)
  have hx := X.1.1
  have hb := X.1.2.1
  replace hl : lv_has ls 3 [(0, .ref (ad q)), (1, .int a1)] := hl
  have hb66 : ∀ (x1 : Int32) (μ : Mem) (H : Heap) (locs : List Loc) (ls : Array Slot), HS D A (w μ) s.heap H locs → lv_has ls 3 [(0, .ref (ad q)), (1, .int x1)] → f_X7_ends_b66 q x1 μ = some (r, μ') → W p l e (headSpec wsX7_ends (rmk 1 24)).room s m args below meth c H locs 0 0 (MQ below (PI D A (w μ') r) args s 0 0 A) (F0 m 66 ls []) := by
    intro x1 μ H locs ls hS hl h
    unfold f_X7_ends_b66 at h
    refine lv_aload_n hx hb dX7_ends_66 rfl (lv_at hl 0 rfl) ?_
    refine r_get X hS (T := TX7) (k := 1) (hw.1 μ).1 rfl hiX7 (by decide) mf13 rfl dX7_ends_67 ?_
    refine lv_iconst (v := 0) hx hb dX7_ends_70 (by decide) ?_
    refine lv_aload_n hx hb dX7_ends_71 rfl (lv_at hl 0 rfl) ?_
    refine r_get X hS (T := TX7) (k := 2) (hw.1 μ).1 rfl hiX7 (by decide) mf16 rfl dX7_ends_72 ?_
    refine lv_sipush (v := 470) hx hb dX7_ends_75 (by decide) ?_
    refine lv_aload_n hx hb dX7_ends_78 rfl (lv_at hl 0 rfl) ?_
    refine r_get X hS (T := TX7) (k := 3) (hw.1 μ).1 rfl hiX7 (by decide) mf39 rfl dX7_ends_79 ?_
    refine lv_imul hx hb dX7_ends_82 ?_
    obtain ⟨μ2, eμ2, h⟩ := ob h
    refine r_cv hS (r_runS (As := [.ref (ad (q + 2)), .int 0, .ref (ad (q + 3)), .int (470 * (μ q 3))]) (rest := []) X hS (c_X7_bring l hE (w := w) (ad := ad) (μ := μ) (D := D) (cI := cI) (cG := cG) (cL := cL) hw.2.2.1 hw.2.2.2.1 eμ2) (va_cwS 4 X.1.2.2.2.2 gX7_ends_X7_bring rfl rfl rfl (by decide +kernel) ⟨Nat.le_of_ble_eq_true rfl, Nat.le_of_ble_eq_true rfl⟩) rfl hl.1 rfl (Nat.le_of_ble_eq_true rfl) dX7_ends_83 ⟨Nat.zero_le _, Nat.zero_le _⟩) (fun H locs hS => ?_)
    refine lv_aload_n hx hb dX7_ends_86 rfl (lv_at hl 0 rfl) ?_
    refine lv_dup hx hb dX7_ends_87 rfl ?_
    refine r_get X hS (T := TX7) (k := 3) (hw.1 μ2).1 rfl hiX7 (by decide) mf39 rfl dX7_ends_88 ?_
    refine lv_iconst (v := 1) hx hb dX7_ends_91 (by decide) ?_
    refine lv_iadd hx hb dX7_ends_92 ?_
    obtain ⟨μ3, eμ3, h⟩ := ob h
    refine r_putp (w := w) X hS (T := TX7) (k := 3) eμ3 hw.1 rfl hiX7 tyX7 tyX7_ok nmX7 (by decide) mf39 rfl rfl rfl (Nat.le_of_ble_eq_true rfl) rfl dX7_ends_93 (fun H locs hS => ?_)
    refine lv_iload_n hx hb dX7_ends_96 rfl (lv_at hl 1 rfl) ?_
    obtain ⟨rfl, rfl⟩ := pr2 h
    exact r_iret X hS hr hlk dX7_ends_97
  have hb27 : ∀ (fu : Nat) (x1 : Int32) (x2 : Int32) (μ : Mem) (H : Heap) (locs : List Loc) (ls : Array Slot), HS D A (w μ) s.heap H locs → lv_has ls 3 [(0, .ref (ad q)), (1, .int x1), (2, .int x2)] → f_X7_ends_b27 q fu x1 x2 μ = some (r, μ') → W p l e (headSpec wsX7_ends (rmk 1 24)).room s m args below meth c H locs 0 0 (MQ below (PI D A (w μ') r) args s 0 0 A) (F0 m 27 ls []) := by
    intro fu
    induction fu with
    | zero =>
      intro x1 x2 μ H locs ls hS hl h
      rw [f_X7_ends_b27] at h
      cases h
    | succ fuel27 ih27 =>
      intro x1 x2 μ H locs ls hS hl h
      rw [f_X7_ends_b27] at h
      refine lv_iload_n hx hb dX7_ends_27 rfl (lv_at hl 2 rfl) ?_
      refine lv_sipush (v := 1410) hx hb dX7_ends_28 (by decide) ?_
      refine lv_icmp_ge (tgt := 56) hx hb dX7_ends_31 (by decide) (fun cc => ?_) (fun cc => ?_)
      · replace h := it h cc
        refine lv_aload_n hx hb dX7_ends_56 rfl (lv_at hl 0 rfl) ?_
        refine lv_dup hx hb dX7_ends_57 rfl ?_
        refine r_get X hS (T := TX7) (k := 3) (hw.1 μ).1 rfl hiX7 (by decide) mf39 rfl dX7_ends_58 ?_
        refine lv_iconst (v := 1) hx hb dX7_ends_61 (by decide) ?_
        refine lv_isub hx hb dX7_ends_62 ?_
        obtain ⟨μ4, eμ4, h⟩ := ob h
        refine r_putp (w := w) X hS (T := TX7) (k := 3) eμ4 hw.1 rfl hiX7 tyX7 tyX7_ok nmX7 (by decide) mf39 rfl rfl rfl (Nat.le_of_ble_eq_true rfl) rfl dX7_ends_63 (fun H locs hS => ?_)
        exact hb66 x1 μ4 _ _ _ hS (lv_sub hl [0, 1] rfl) h
      · replace h := ie h cc
        refine lv_aload_n hx hb dX7_ends_34 rfl (lv_at hl 0 rfl) ?_
        refine r_get X hS (T := TX7) (k := 2) (hw.1 μ).1 rfl hiX7 (by decide) mf16 rfl dX7_ends_35 ?_
        refine lv_iload_n hx hb dX7_ends_38 rfl (lv_at hl 2 rfl) ?_
        refine lv_aload_n hx hb dX7_ends_39 rfl (lv_at hl 0 rfl) ?_
        refine r_get X hS (T := TX7) (k := 2) (hw.1 μ).1 rfl hiX7 (by decide) mf16 rfl dX7_ends_40 ?_
        refine lv_iload_n hx hb dX7_ends_43 rfl (lv_at hl 2 rfl) ?_
        refine lv_sipush (v := 470) hx hb dX7_ends_44 (by decide) ?_
        refine lv_iadd hx hb dX7_ends_47 ?_
        obtain ⟨v5, ev5, h⟩ := ob h
        refine r_iald X hS (hw.2.2.2.1 μ).1 ev5 dX7_ends_48 ?_
        obtain ⟨μ6, eμ6, h⟩ := ob h
        refine r_iast X hS hw.2.2.2.1 eμ6 dX7_ends_49 (fun H locs hS => ?_)
        refine lv_iinc (v := x2 + 1) (lv' := [(2, .int (x2 + 1)), (0, .ref (ad q)), (1, .int x1)]) hx hb dX7_ends_50 hl (k := 2) rfl rfl (by decide) rfl (fun ls hl => ?_)
        refine lv_goto (tgt := 27) hx hb dX7_ends_53 (by decide) ?_
        exact ih27 x1 (x2 + 1) μ6 _ _ _ hS (lv_sub hl [1, 2, 0] rfl) h
  unfold f_X7_ends at h
  refine lv_aload_n hx hb dX7_ends_0 rfl (lv_at hl 0 rfl) ?_
  refine lv_aload_n hx hb dX7_ends_1 rfl (lv_at hl 0 rfl) ?_
  refine r_get X hS (T := TX7) (k := 7) (hw.1 μ).1 rfl hiX7 (by decide) mf32 rfl dX7_ends_2 ?_
  obtain ⟨μ1, eμ1, h⟩ := ob h
  refine r_putp (w := w) X hS (T := TX7) (k := 6) eμ1 hw.1 rfl hiX7 tyX7 tyX7_ok nmX7 (by decide) mf28 rfl rfl rfl (Nat.le_of_ble_eq_true rfl) rfl dX7_ends_5 (fun H locs hS => ?_)
  refine lv_aload_n hx hb dX7_ends_8 rfl (lv_at hl 0 rfl) ?_
  refine r_get X hS (T := TX7) (k := 7) (hw.1 μ1).1 rfl hiX7 (by decide) mf32 rfl dX7_ends_9 ?_
  refine lv_if_eq (tgt := 17) hx hb dX7_ends_12 (by decide) (fun cc => ?_) (fun cc => ?_)
  · replace h := it h cc
    refine lv_aload_n hx hb dX7_ends_17 rfl (lv_at hl 0 rfl) ?_
    refine r_get X hS (T := TX7) (k := 3) (hw.1 μ1).1 rfl hiX7 (by decide) mf39 rfl dX7_ends_18 ?_
    refine lv_iconst (v := 4) hx hb dX7_ends_21 (by decide) ?_
    refine lv_icmp_ne (tgt := 66) hx hb dX7_ends_22 (by decide) (fun cc => ?_) (fun cc => ?_)
    · replace h := ie h cc
      exact hb66 a1 μ1 _ _ _ hS (lv_sub hl [0, 1] rfl) h
    · replace h := it h cc
      refine lv_iconst (v := 0) hx hb dX7_ends_25 (by decide) ?_
      refine lv_istore_n (lv' := [(2, .int 0), (0, .ref (ad q)), (1, .int a1)]) hx hb dX7_ends_26 rfl hl (by decide) rfl (fun ls hl => ?_)
      exact hb27 FU a1 0 μ1 _ _ _ hS (lv_sub hl [1, 2, 0] rfl) h
  · replace h := ie h cc
    refine lv_iconst (v := 0) hx hb dX7_ends_15 (by decide) ?_
    obtain ⟨rfl, rfl⟩ := pr2 h
    exact r_iret X hS hr hlk dX7_ends_16
def f_X7_refuse (q : Nat) (a1 : Int32) (μ : Mem) : Option (Int32 × Mem) := (pf μ q 7 a1).bind (fun μ1 => (some (0, μ1)))
set_option maxHeartbeats 4000000 in
set_option maxRecDepth 100000 in
theorem c_X7_refuse (l : Launch) {D : va_G} {cI cG cL : ClassId} {A : Nat → Prop} {EN : State → Heap → Prop} (hE : EnOK EN A) {w : Mem → va_W} {ad : Nat → Nat} {hh : Int64} {q : Nat} {a1 : Int32} {μ : Mem} {r : Int32} {μ' : Mem} (hw : ModelAt cI w ad hh q) (h : f_X7_refuse q a1 μ = some (r, μ')) : Met l yX7_refuse wsX7_refuse (rmk 0 0) (WPre D (tyl cI cG cL) A EN (w μ) [.ref (ad q), .int a1]) (PI D A (w μ') r) 0 0 A := by
  have hiX7 : ∀ w ∈ u_ws RX7 TX7 13, w ∈ wsX7_refuse := by decide +kernel
  have mf32 : Cond.fieldLink RX7 32 (TX7 7).1 (TX7 7).2.1 (TX7 7).2.2.1 ∈ wsX7_refuse := by decide +kernel
  refine met_start (cc := cX7_refuse) (nL := 2) (ret := (some .int)) (own := RX7) hE (by decide) rfl rfl (Nat.le_of_ble_eq_true rfl) (fun p e s m args below meth c ls X hS hl hr hlk => ?_)
  have hx := X.1.1
  have hb := X.1.2.1
  replace hl : lv_has ls 2 [(0, .ref (ad q)), (1, .int a1)] := hl
  unfold f_X7_refuse at h
  refine lv_aload_n hx hb dX7_refuse_0 rfl (lv_at hl 0 rfl) ?_
  refine lv_iload_n hx hb dX7_refuse_1 rfl (lv_at hl 1 rfl) ?_
  obtain ⟨μ1, eμ1, h⟩ := ob h
  refine r_putp (w := w) X hS (T := TX7) (k := 7) eμ1 hw.1 rfl hiX7 tyX7 tyX7_ok nmX7 (by decide) mf32 rfl rfl rfl (Nat.le_of_ble_eq_true rfl) rfl dX7_refuse_2 (fun H locs hS => ?_)
  refine lv_iconst (v := 0) hx hb dX7_refuse_5 (by decide) ?_
  obtain ⟨rfl, rfl⟩ := pr2 h
  exact r_iret X hS hr hlk dX7_refuse_6
def f_X7_fails (q : Nat) (a1 : Int32) (μ : Mem) : Option (Int32 × Mem) := (pf μ q 6 a1).bind (fun μ1 => (some (0, μ1)))
set_option maxHeartbeats 4000000 in
set_option maxRecDepth 100000 in
theorem c_X7_fails (l : Launch) {D : va_G} {cI cG cL : ClassId} {A : Nat → Prop} {EN : State → Heap → Prop} (hE : EnOK EN A) {w : Mem → va_W} {ad : Nat → Nat} {hh : Int64} {q : Nat} {a1 : Int32} {μ : Mem} {r : Int32} {μ' : Mem} (hw : ModelAt cI w ad hh q) (h : f_X7_fails q a1 μ = some (r, μ')) : Met l yX7_fails wsX7_fails (rmk 0 0) (WPre D (tyl cI cG cL) A EN (w μ) [.ref (ad q), .int a1]) (PI D A (w μ') r) 0 0 A := by
  have hiX7 : ∀ w ∈ u_ws RX7 TX7 13, w ∈ wsX7_fails := by decide +kernel
  have mf28 : Cond.fieldLink RX7 28 (TX7 6).1 (TX7 6).2.1 (TX7 6).2.2.1 ∈ wsX7_fails := by decide +kernel
  refine met_start (cc := cX7_fails) (nL := 2) (ret := (some .int)) (own := RX7) hE (by decide) rfl rfl (Nat.le_of_ble_eq_true rfl) (fun p e s m args below meth c ls X hS hl hr hlk => ?_)
  have hx := X.1.1
  have hb := X.1.2.1
  replace hl : lv_has ls 2 [(0, .ref (ad q)), (1, .int a1)] := hl
  unfold f_X7_fails at h
  refine lv_aload_n hx hb dX7_fails_0 rfl (lv_at hl 0 rfl) ?_
  refine lv_iload_n hx hb dX7_fails_1 rfl (lv_at hl 1 rfl) ?_
  obtain ⟨μ1, eμ1, h⟩ := ob h
  refine r_putp (w := w) X hS (T := TX7) (k := 6) eμ1 hw.1 rfl hiX7 tyX7 tyX7_ok nmX7 (by decide) mf28 rfl rfl rfl (Nat.le_of_ble_eq_true rfl) rfl dX7_fails_2 (fun H locs hS => ?_)
  refine lv_iconst (v := 0) hx hb dX7_fails_5 (by decide) ?_
  obtain ⟨rfl, rfl⟩ := pr2 h
  exact r_iret X hS hr hlk dX7_fails_6
def f_X7_of (q : Nat) (a1 : Int32) (a2 : Int32) (μ : Mem) : Option Int32 := (rd 470 (μ (q + 1)) ((0 + (14 * a1)) + a2)).bind (fun v1 => (some v1))
set_option maxHeartbeats 4000000 in
set_option maxRecDepth 100000 in
theorem c_X7_of (l : Launch) {D : va_G} {cI cG cL : ClassId} {A : Nat → Prop} {EN : State → Heap → Prop} (hE : EnOK EN A) {w : Mem → va_W} {ad : Nat → Nat} {hh : Int64} {q : Nat} {a1 : Int32} {a2 : Int32} {μ : Mem} {r : Int32} (hw : ModelAt cI w ad hh q) (h : f_X7_of q a1 a2 μ = some r) : Met l yX7_of wsX7_of (rmk 0 0) (WPre D (tyl cI cG cL) A EN (w μ) [.ref (ad q), .int a1, .int a2]) (PI D A (w μ) r) 0 0 A := by
  have hiX7 : ∀ w ∈ u_ws RX7 TX7 13, w ∈ wsX7_of := by decide +kernel
  have mf7 : Cond.fieldLink RX7 7 (TX7 0).1 (TX7 0).2.1 (TX7 0).2.2.1 ∈ wsX7_of := by decide +kernel
  refine met_start (cc := cX7_of) (nL := 3) (ret := (some .int)) (own := RX7) hE (by decide) rfl rfl (Nat.le_of_ble_eq_true rfl) (fun p e s m args below meth c ls X hS hl hr hlk => ?_)
  have hx := X.1.1
  have hb := X.1.2.1
  replace hl : lv_has ls 3 [(0, .ref (ad q)), (1, .int a1), (2, .int a2)] := hl
  unfold f_X7_of at h
  refine lv_aload_n hx hb dX7_of_0 rfl (lv_at hl 0 rfl) ?_
  refine r_get X hS (T := TX7) (k := 0) (hw.1 μ).1 rfl hiX7 (by decide) mf7 rfl dX7_of_1 ?_
  refine lv_iconst (v := 0) hx hb dX7_of_4 (by decide) ?_
  refine lv_bipush (v := 14) hx hb dX7_of_5 (by decide) ?_
  refine lv_iload_n hx hb dX7_of_7 rfl (lv_at hl 1 rfl) ?_
  refine lv_imul hx hb dX7_of_8 ?_
  refine lv_iadd hx hb dX7_of_9 ?_
  refine lv_iload_n hx hb dX7_of_10 rfl (lv_at hl 2 rfl) ?_
  refine lv_iadd hx hb dX7_of_11 ?_
  obtain ⟨v1, ev1, h⟩ := ob h
  refine r_iald X hS (hw.2.1 μ).1 ev1 dX7_of_12 ?_
  cases h
  exact r_iret X hS hr hlk dX7_of_13
def f_X7_lay (q : Nat) (a1 : Int32) (a2 : Int32) (a3 : Int32) (μ : Mem) : Option Mem := (wr μ (q + 1) 470 ((0 + (14 * a1)) + a2) a3).bind (fun μ1 => (some μ1))
set_option maxHeartbeats 4000000 in
set_option maxRecDepth 100000 in
theorem c_X7_lay (l : Launch) {D : va_G} {cI cG cL : ClassId} {A : Nat → Prop} {EN : State → Heap → Prop} (hE : EnOK EN A) {w : Mem → va_W} {ad : Nat → Nat} {hh : Int64} {q : Nat} {a1 : Int32} {a2 : Int32} {a3 : Int32} {μ : Mem}  {μ' : Mem} (hw : ModelAt cI w ad hh q) (h : f_X7_lay q a1 a2 a3 μ = some μ') : Met l yX7_lay wsX7_lay (rmk 0 0) (WPre D (tyl cI cG cL) A EN (w μ) [.ref (ad q), .int a1, .int a2, .int a3]) (PV D A (w μ')) 0 0 A := by
  have hiX7 : ∀ w ∈ u_ws RX7 TX7 13, w ∈ wsX7_lay := by decide +kernel
  have mf7 : Cond.fieldLink RX7 7 (TX7 0).1 (TX7 0).2.1 (TX7 0).2.2.1 ∈ wsX7_lay := by decide +kernel
  refine met_start (cc := cX7_lay) (nL := 4) (ret := none) (own := RX7) hE (by decide) rfl rfl (Nat.le_of_ble_eq_true rfl) (fun p e s m args below meth c ls X hS hl hr hlk => ?_)
  have hx := X.1.1
  have hb := X.1.2.1
  replace hl : lv_has ls 4 [(0, .ref (ad q)), (1, .int a1), (2, .int a2), (3, .int a3)] := hl
  unfold f_X7_lay at h
  refine lv_aload_n hx hb dX7_lay_0 rfl (lv_at hl 0 rfl) ?_
  refine r_get X hS (T := TX7) (k := 0) (hw.1 μ).1 rfl hiX7 (by decide) mf7 rfl dX7_lay_1 ?_
  refine lv_iconst (v := 0) hx hb dX7_lay_4 (by decide) ?_
  refine lv_bipush (v := 14) hx hb dX7_lay_5 (by decide) ?_
  refine lv_iload_n hx hb dX7_lay_7 rfl (lv_at hl 1 rfl) ?_
  refine lv_imul hx hb dX7_lay_8 ?_
  refine lv_iadd hx hb dX7_lay_9 ?_
  refine lv_iload_n hx hb dX7_lay_10 rfl (lv_at hl 2 rfl) ?_
  refine lv_iadd hx hb dX7_lay_11 ?_
  refine lv_iload_n hx hb dX7_lay_12 rfl (lv_at hl 3 rfl) ?_
  obtain ⟨μ1, eμ1, h⟩ := ob h
  refine r_iast X hS hw.2.1 eμ1 dX7_lay_13 (fun H locs hS => ?_)
  cases h
  exact r_vret X hS hr hlk dX7_lay_14
def f_X7_current_b57 (q : Nat) (s0 : Int32) (μ : Mem) : Option Int32 := (some s0)
def f_X7_current_b47 (q : Nat) (s0 : Int32) (μ : Mem) : Option Int32 := (if s0 = 0 then f_X7_current_b57 q 0 μ else f_X7_current_b57 q 1 μ)
def f_X7_current_b46 (q : Nat)  (μ : Mem) : Option Int32 := f_X7_current_b47 q 0 μ
def f_X7_current_b42 (q : Nat)  (μ : Mem) : Option Int32 := f_X7_current_b47 q 1 μ
def f_X7_current (q : Nat) (μ : Mem) : Option Int32 := (rd 470 (μ (q + 1)) 453).bind (fun v1 => (if v1 = 1 then (rd 470 (μ (q + 1)) 450).bind (fun v2 => (if v2 = 0 then f_X7_current_b42 q μ else (rd 470 (μ (q + 1)) 451).bind (fun v3 => (rd 470 (μ (q + 1)) 448).bind (fun v4 => (if v3 ≤ v4 then f_X7_current_b46 q μ else f_X7_current_b42 q μ))))) else f_X7_current_b46 q μ))
set_option maxHeartbeats 4000000 in
set_option maxRecDepth 100000 in
theorem c_X7_current (l : Launch) {D : va_G} {cI cG cL : ClassId} {A : Nat → Prop} {EN : State → Heap → Prop} (hE : EnOK EN A) {w : Mem → va_W} {ad : Nat → Nat} {hh : Int64} {q : Nat} {μ : Mem} {r : Int32} (hw : ModelAt cI w ad hh q) (h : f_X7_current q μ = some r) : Met l yX7_current wsX7_current (rmk 0 0) (WPre D (tyl cI cG cL) A EN (w μ) [.ref (ad q)]) (PI D A (w μ) r) 0 0 A := by
  have hiX7 : ∀ w ∈ u_ws RX7 TX7 13, w ∈ wsX7_current := by decide +kernel
  have mf7 : Cond.fieldLink RX7 7 (TX7 0).1 (TX7 0).2.1 (TX7 0).2.2.1 ∈ wsX7_current := by decide +kernel
  refine met_start (cc := cX7_current) (nL := 2) (ret := (some .int)) (own := RX7) hE (by decide) rfl rfl (Nat.le_of_ble_eq_true rfl) (fun p e s m args below meth c ls X hS hl hr hlk => ?_)
  have hx := X.1.1
  have hb := X.1.2.1
  replace hl : lv_has ls 2 [(0, .ref (ad q))] := hl
  have hb57 : ∀ (s0 : Int32) (H : Heap) (locs : List Loc) (ls : Array Slot), HS D A (w μ) s.heap H locs → lv_has ls 2 [] → f_X7_current_b57 q s0 μ = some r → W p l e (headSpec wsX7_current (rmk 0 0)).room s m args below meth c H locs 0 0 (MQ below (PI D A (w μ) r) args s 0 0 A) (F0 m 57 ls [.int s0]) := by
    intro s0 H locs ls hS hl h
    unfold f_X7_current_b57 at h
    cases h
    exact r_iret X hS hr hlk dX7_current_57
  have hb47 : ∀ (s0 : Int32) (H : Heap) (locs : List Loc) (ls : Array Slot), HS D A (w μ) s.heap H locs → lv_has ls 2 [] → f_X7_current_b47 q s0 μ = some r → W p l e (headSpec wsX7_current (rmk 0 0)).room s m args below meth c H locs 0 0 (MQ below (PI D A (w μ) r) args s 0 0 A) (F0 m 47 ls [.int s0]) := by
    intro s0 H locs ls hS hl h
    unfold f_X7_current_b47 at h
    refine lv_istore_n (lv' := [(1, .int s0)]) hx hb dX7_current_47 rfl hl (by decide) rfl (fun ls hl => ?_)
    refine lv_iload_n hx hb dX7_current_48 rfl (lv_at hl 0 rfl) ?_
    refine lv_if_eq (tgt := 56) hx hb dX7_current_49 (by decide) (fun cc => ?_) (fun cc => ?_)
    · replace h := it h cc
      refine lv_iconst (v := 0) hx hb dX7_current_56 (by decide) ?_
      exact hb57 0 _ _ _ hS (lv_sub hl [] rfl) h
    · replace h := ie h cc
      refine lv_iconst (v := 1) hx hb dX7_current_52 (by decide) ?_
      refine lv_goto (tgt := 57) hx hb dX7_current_53 (by decide) ?_
      exact hb57 1 _ _ _ hS (lv_sub hl [] rfl) h
  have hb46 : ∀  (H : Heap) (locs : List Loc) (ls : Array Slot), HS D A (w μ) s.heap H locs → lv_has ls 2 [] → f_X7_current_b46 q μ = some r → W p l e (headSpec wsX7_current (rmk 0 0)).room s m args below meth c H locs 0 0 (MQ below (PI D A (w μ) r) args s 0 0 A) (F0 m 46 ls []) := by
    intro H locs ls hS hl h
    unfold f_X7_current_b46 at h
    refine lv_iconst (v := 0) hx hb dX7_current_46 (by decide) ?_
    exact hb47 0 _ _ _ hS (lv_sub hl [] rfl) h
  have hb42 : ∀  (H : Heap) (locs : List Loc) (ls : Array Slot), HS D A (w μ) s.heap H locs → lv_has ls 2 [] → f_X7_current_b42 q μ = some r → W p l e (headSpec wsX7_current (rmk 0 0)).room s m args below meth c H locs 0 0 (MQ below (PI D A (w μ) r) args s 0 0 A) (F0 m 42 ls []) := by
    intro H locs ls hS hl h
    unfold f_X7_current_b42 at h
    refine lv_iconst (v := 1) hx hb dX7_current_42 (by decide) ?_
    refine lv_goto (tgt := 47) hx hb dX7_current_43 (by decide) ?_
    exact hb47 1 _ _ _ hS (lv_sub hl [] rfl) h
  unfold f_X7_current at h
  refine lv_aload_n hx hb dX7_current_0 rfl (lv_at hl 0 rfl) ?_
  refine r_get X hS (T := TX7) (k := 0) (hw.1 μ).1 rfl hiX7 (by decide) mf7 rfl dX7_current_1 ?_
  refine lv_sipush (v := 453) hx hb dX7_current_4 (by decide) ?_
  obtain ⟨v1, ev1, h⟩ := ob h
  refine r_iald X hS (hw.2.1 μ).1 ev1 dX7_current_7 ?_
  refine lv_iconst (v := 1) hx hb dX7_current_8 (by decide) ?_
  refine lv_icmp_ne (tgt := 46) hx hb dX7_current_9 (by decide) (fun cc => ?_) (fun cc => ?_)
  · replace h := ie h cc
    exact hb46  _ _ _ hS (lv_sub hl [] rfl) h
  · replace h := it h cc
    refine lv_aload_n hx hb dX7_current_12 rfl (lv_at hl 0 rfl) ?_
    refine r_get X hS (T := TX7) (k := 0) (hw.1 μ).1 rfl hiX7 (by decide) mf7 rfl dX7_current_13 ?_
    refine lv_sipush (v := 450) hx hb dX7_current_16 (by decide) ?_
    obtain ⟨v2, ev2, h⟩ := ob h
    refine r_iald X hS (hw.2.1 μ).1 ev2 dX7_current_19 ?_
    refine lv_if_eq (tgt := 42) hx hb dX7_current_20 (by decide) (fun cc => ?_) (fun cc => ?_)
    · replace h := it h cc
      exact hb42  _ _ _ hS (lv_sub hl [] rfl) h
    · replace h := ie h cc
      refine lv_aload_n hx hb dX7_current_23 rfl (lv_at hl 0 rfl) ?_
      refine r_get X hS (T := TX7) (k := 0) (hw.1 μ).1 rfl hiX7 (by decide) mf7 rfl dX7_current_24 ?_
      refine lv_sipush (v := 451) hx hb dX7_current_27 (by decide) ?_
      obtain ⟨v3, ev3, h⟩ := ob h
      refine r_iald X hS (hw.2.1 μ).1 ev3 dX7_current_30 ?_
      refine lv_aload_n hx hb dX7_current_31 rfl (lv_at hl 0 rfl) ?_
      refine r_get X hS (T := TX7) (k := 0) (hw.1 μ).1 rfl hiX7 (by decide) mf7 rfl dX7_current_32 ?_
      refine lv_sipush (v := 448) hx hb dX7_current_35 (by decide) ?_
      obtain ⟨v4, ev4, h⟩ := ob h
      refine r_iald X hS (hw.2.1 μ).1 ev4 dX7_current_38 ?_
      refine lv_icmp_le (tgt := 46) hx hb dX7_current_39 (by decide) (fun cc => ?_) (fun cc => ?_)
      · replace h := it h cc
        exact hb46  _ _ _ hS (lv_sub hl [] rfl) h
      · replace h := ie h cc
        exact hb42  _ _ _ hS (lv_sub hl [] rfl) h
def f_X7_ofRoot (q : Nat) (a1 : Int32) (a2 : Int32) (μ : Mem) : Option Int32 := (rd 470 (μ (q + 1)) ((448 + (3 * a1)) + a2)).bind (fun v1 => (some v1))
set_option maxHeartbeats 4000000 in
set_option maxRecDepth 100000 in
theorem c_X7_ofRoot (l : Launch) {D : va_G} {cI cG cL : ClassId} {A : Nat → Prop} {EN : State → Heap → Prop} (hE : EnOK EN A) {w : Mem → va_W} {ad : Nat → Nat} {hh : Int64} {q : Nat} {a1 : Int32} {a2 : Int32} {μ : Mem} {r : Int32} (hw : ModelAt cI w ad hh q) (h : f_X7_ofRoot q a1 a2 μ = some r) : Met l yX7_ofRoot wsX7_ofRoot (rmk 0 0) (WPre D (tyl cI cG cL) A EN (w μ) [.ref (ad q), .int a1, .int a2]) (PI D A (w μ) r) 0 0 A := by
  have hiX7 : ∀ w ∈ u_ws RX7 TX7 13, w ∈ wsX7_ofRoot := by decide +kernel
  have mf7 : Cond.fieldLink RX7 7 (TX7 0).1 (TX7 0).2.1 (TX7 0).2.2.1 ∈ wsX7_ofRoot := by decide +kernel
  refine met_start (cc := cX7_ofRoot) (nL := 3) (ret := (some .int)) (own := RX7) hE (by decide) rfl rfl (Nat.le_of_ble_eq_true rfl) (fun p e s m args below meth c ls X hS hl hr hlk => ?_)
  have hx := X.1.1
  have hb := X.1.2.1
  replace hl : lv_has ls 3 [(0, .ref (ad q)), (1, .int a1), (2, .int a2)] := hl
  unfold f_X7_ofRoot at h
  refine lv_aload_n hx hb dX7_ofRoot_0 rfl (lv_at hl 0 rfl) ?_
  refine r_get X hS (T := TX7) (k := 0) (hw.1 μ).1 rfl hiX7 (by decide) mf7 rfl dX7_ofRoot_1 ?_
  refine lv_sipush (v := 448) hx hb dX7_ofRoot_4 (by decide) ?_
  refine lv_iconst (v := 3) hx hb dX7_ofRoot_7 (by decide) ?_
  refine lv_iload_n hx hb dX7_ofRoot_8 rfl (lv_at hl 1 rfl) ?_
  refine lv_imul hx hb dX7_ofRoot_9 ?_
  refine lv_iadd hx hb dX7_ofRoot_10 ?_
  refine lv_iload_n hx hb dX7_ofRoot_11 rfl (lv_at hl 2 rfl) ?_
  refine lv_iadd hx hb dX7_ofRoot_12 ?_
  obtain ⟨v1, ev1, h⟩ := ob h
  refine r_iald X hS (hw.2.1 μ).1 ev1 dX7_ofRoot_13 ?_
  cases h
  exact r_iret X hS hr hlk dX7_ofRoot_14
def f_X7_ofReader (q : Nat) (a1 : Int32) (a2 : Int32) (μ : Mem) : Option Int32 := (rd 470 (μ (q + 1)) ((454 + (3 * a1)) + a2)).bind (fun v1 => (some v1))
set_option maxHeartbeats 4000000 in
set_option maxRecDepth 100000 in
theorem c_X7_ofReader (l : Launch) {D : va_G} {cI cG cL : ClassId} {A : Nat → Prop} {EN : State → Heap → Prop} (hE : EnOK EN A) {w : Mem → va_W} {ad : Nat → Nat} {hh : Int64} {q : Nat} {a1 : Int32} {a2 : Int32} {μ : Mem} {r : Int32} (hw : ModelAt cI w ad hh q) (h : f_X7_ofReader q a1 a2 μ = some r) : Met l yX7_ofReader wsX7_ofReader (rmk 0 0) (WPre D (tyl cI cG cL) A EN (w μ) [.ref (ad q), .int a1, .int a2]) (PI D A (w μ) r) 0 0 A := by
  have hiX7 : ∀ w ∈ u_ws RX7 TX7 13, w ∈ wsX7_ofReader := by decide +kernel
  have mf7 : Cond.fieldLink RX7 7 (TX7 0).1 (TX7 0).2.1 (TX7 0).2.2.1 ∈ wsX7_ofReader := by decide +kernel
  refine met_start (cc := cX7_ofReader) (nL := 3) (ret := (some .int)) (own := RX7) hE (by decide) rfl rfl (Nat.le_of_ble_eq_true rfl) (fun p e s m args below meth c ls X hS hl hr hlk => ?_)
  have hx := X.1.1
  have hb := X.1.2.1
  replace hl : lv_has ls 3 [(0, .ref (ad q)), (1, .int a1), (2, .int a2)] := hl
  unfold f_X7_ofReader at h
  refine lv_aload_n hx hb dX7_ofReader_0 rfl (lv_at hl 0 rfl) ?_
  refine r_get X hS (T := TX7) (k := 0) (hw.1 μ).1 rfl hiX7 (by decide) mf7 rfl dX7_ofReader_1 ?_
  refine lv_sipush (v := 454) hx hb dX7_ofReader_4 (by decide) ?_
  refine lv_iconst (v := 3) hx hb dX7_ofReader_7 (by decide) ?_
  refine lv_iload_n hx hb dX7_ofReader_8 rfl (lv_at hl 1 rfl) ?_
  refine lv_imul hx hb dX7_ofReader_9 ?_
  refine lv_iadd hx hb dX7_ofReader_10 ?_
  refine lv_iload_n hx hb dX7_ofReader_11 rfl (lv_at hl 2 rfl) ?_
  refine lv_iadd hx hb dX7_ofReader_12 ?_
  obtain ⟨v1, ev1, h⟩ := ob h
  refine r_iald X hS (hw.2.1 μ).1 ev1 dX7_ofReader_13 ?_
  cases h
  exact r_iret X hS hr hlk dX7_ofReader_14
def f_X7_needed_b120 (q : Nat) (k68 : Int32 → Int32 → Int32 → Mem → Option Int32) (x1 : Int32) (x3 : Int32) (s0 : Int32) (μ : Mem) : Option Int32 := k68 x1 s0 (x3 + 1) μ
def f_X7_needed_b103 (q : Nat) (k68 : Int32 → Int32 → Int32 → Mem → Option Int32) (x1 : Int32) (x2 : Int32) (x3 : Int32) (s0 : Int32) (μ : Mem) : Option Int32 := (if s0 = 0 then f_X7_needed_b120 q k68 x1 x3 x2 μ else (f_X7_ofReader q x3 1 μ).bind (fun v3 => f_X7_needed_b120 q k68 x1 x3 v3 μ))
def f_X7_needed_b102 (q : Nat) (k68 : Int32 → Int32 → Int32 → Mem → Option Int32) (x1 : Int32) (x2 : Int32) (x3 : Int32) (μ : Mem) : Option Int32 := f_X7_needed_b103 q k68 x1 x2 x3 0 μ
def f_X7_needed_b68 (q : Nat)  : Nat → Int32 → Int32 → Int32 → Mem → Option Int32
  | 0, _, _, _, _ => none
  | fuel68 + 1, x1, x2, x3, μ => (if 4 ≤ x3 then (some x2) else (if x3 = x1 then f_X7_needed_b102 q (f_X7_needed_b68 q fuel68) x1 x2 x3 μ else (f_X7_ofReader q x3 0 μ).bind (fun v4 => (if v4 = 1 then (f_X7_ofReader q x3 1 μ).bind (fun v5 => (if x2 ≤ v5 then f_X7_needed_b102 q (f_X7_needed_b68 q fuel68) x1 x2 x3 μ else f_X7_needed_b103 q (f_X7_needed_b68 q fuel68) x1 x2 x3 1 μ)) else f_X7_needed_b102 q (f_X7_needed_b68 q fuel68) x1 x2 x3 μ))))
def f_X7_needed_b59 (q : Nat) (k12 : Int32 → Int32 → Int32 → Mem → Option Int32) (x1 : Int32) (x3 : Int32) (s0 : Int32) (μ : Mem) : Option Int32 := k12 x1 s0 (x3 + 1) μ
def f_X7_needed_b42 (q : Nat) (k12 : Int32 → Int32 → Int32 → Mem → Option Int32) (x1 : Int32) (x2 : Int32) (x3 : Int32) (s0 : Int32) (μ : Mem) : Option Int32 := (if s0 = 0 then f_X7_needed_b59 q k12 x1 x3 x2 μ else (f_X7_ofRoot q x3 0 μ).bind (fun v7 => f_X7_needed_b59 q k12 x1 x3 v7 μ))
def f_X7_needed_b41 (q : Nat) (k12 : Int32 → Int32 → Int32 → Mem → Option Int32) (x1 : Int32) (x2 : Int32) (x3 : Int32) (μ : Mem) : Option Int32 := f_X7_needed_b42 q k12 x1 x2 x3 0 μ
def f_X7_needed_b12 (q : Nat)  : Nat → Int32 → Int32 → Int32 → Mem → Option Int32
  | 0, _, _, _, _ => none
  | fuel12 + 1, x1, x2, x3, μ => (if 2 ≤ x3 then f_X7_needed_b68 q FU x1 x2 0 μ else (f_X7_ofRoot q x3 2 μ).bind (fun v6 => (if v6 = 1 then (f_X7_ofRoot q x3 0 μ).bind (fun v8 => (if x2 ≤ v8 then f_X7_needed_b41 q (f_X7_needed_b12 q fuel12) x1 x2 x3 μ else f_X7_needed_b42 q (f_X7_needed_b12 q fuel12) x1 x2 x3 1 μ)) else f_X7_needed_b41 q (f_X7_needed_b12 q fuel12) x1 x2 x3 μ)))
def f_X7_needed (q : Nat) (a1 : Int32) (μ : Mem) : Option Int32 := (f_X7_current q μ).bind (fun v1 => (f_X7_ofRoot q v1 0 μ).bind (fun v2 => f_X7_needed_b12 q FU a1 v2 0 μ))
set_option maxHeartbeats 4000000 in
set_option maxRecDepth 100000 in
theorem c_X7_needed (l : Launch) {D : va_G} {cI cG cL : ClassId} {A : Nat → Prop} {EN : State → Heap → Prop} (hE : EnOK EN A) {w : Mem → va_W} {ad : Nat → Nat} {hh : Int64} {q : Nat} {a1 : Int32} {μ : Mem} {r : Int32} (hw : ModelAt cI w ad hh q) (h : f_X7_needed q a1 μ = some r) : Met l yX7_needed wsX7_needed (rmk 1 22) (WPre D (tyl cI cG cL) A EN (w μ) [.ref (ad q), .int a1]) (PI D A (w μ) r) 0 0 A := by
  refine met_start (cc := cX7_needed) (nL := 5) (ret := (some .int)) (own := RX7) hE (by decide) rfl rfl (Nat.le_of_ble_eq_true rfl) (fun p e s m args below meth c ls X hS hl hr hlk => ?_)
  have hx := X.1.1
  have hb := X.1.2.1
  replace hl : lv_has ls 5 [(0, .ref (ad q)), (1, .int a1)] := hl
  have hb120 : ∀ (k68 : Int32 → Int32 → Int32 → Mem → Option Int32), (∀ (x1 : Int32) (x2 : Int32) (x3 : Int32) (H : Heap) (locs : List Loc) (ls : Array Slot), HS D A (w μ) s.heap H locs → lv_has ls 5 [(0, .ref (ad q)), (1, .int x1), (2, .int x2), (3, .int x3)] → k68 x1 x2 x3 μ = some r → W p l e (headSpec wsX7_needed (rmk 1 22)).room s m args below meth c H locs 0 0 (MQ below (PI D A (w μ) r) args s 0 0 A) (F0 m 68 ls [])) → ∀ (x1 : Int32) (x3 : Int32) (s0 : Int32) (H : Heap) (locs : List Loc) (ls : Array Slot), HS D A (w μ) s.heap H locs → lv_has ls 5 [(0, .ref (ad q)), (1, .int x1), (3, .int x3)] → f_X7_needed_b120 q k68 x1 x3 s0 μ = some r → W p l e (headSpec wsX7_needed (rmk 1 22)).room s m args below meth c H locs 0 0 (MQ below (PI D A (w μ) r) args s 0 0 A) (F0 m 120 ls [.int s0]) := by
    intro k68 hk68 x1 x3 s0 H locs ls hS hl h
    unfold f_X7_needed_b120 at h
    refine lv_istore_n (lv' := [(2, .int s0), (0, .ref (ad q)), (1, .int x1), (3, .int x3)]) hx hb dX7_needed_120 rfl hl (by decide) rfl (fun ls hl => ?_)
    refine lv_iinc (v := x3 + 1) (lv' := [(3, .int (x3 + 1)), (2, .int s0), (0, .ref (ad q)), (1, .int x1)]) hx hb dX7_needed_121 hl (k := 3) rfl rfl (by decide) rfl (fun ls hl => ?_)
    refine lv_goto (tgt := 68) hx hb dX7_needed_124 (by decide) ?_
    exact hk68 x1 s0 (x3 + 1) _ _ _ hS (lv_sub hl [2, 3, 1, 0] rfl) h
  have hb103 : ∀ (k68 : Int32 → Int32 → Int32 → Mem → Option Int32), (∀ (x1 : Int32) (x2 : Int32) (x3 : Int32) (H : Heap) (locs : List Loc) (ls : Array Slot), HS D A (w μ) s.heap H locs → lv_has ls 5 [(0, .ref (ad q)), (1, .int x1), (2, .int x2), (3, .int x3)] → k68 x1 x2 x3 μ = some r → W p l e (headSpec wsX7_needed (rmk 1 22)).room s m args below meth c H locs 0 0 (MQ below (PI D A (w μ) r) args s 0 0 A) (F0 m 68 ls [])) → ∀ (x1 : Int32) (x2 : Int32) (x3 : Int32) (s0 : Int32) (H : Heap) (locs : List Loc) (ls : Array Slot), HS D A (w μ) s.heap H locs → lv_has ls 5 [(0, .ref (ad q)), (1, .int x1), (2, .int x2), (3, .int x3)] → f_X7_needed_b103 q k68 x1 x2 x3 s0 μ = some r → W p l e (headSpec wsX7_needed (rmk 1 22)).room s m args below meth c H locs 0 0 (MQ below (PI D A (w μ) r) args s 0 0 A) (F0 m 103 ls [.int s0]) := by
    intro k68 hk68 x1 x2 x3 s0 H locs ls hS hl h
    unfold f_X7_needed_b103 at h
    refine lv_istore (lv' := [(4, .int s0), (0, .ref (ad q)), (1, .int x1), (2, .int x2), (3, .int x3)]) hx hb dX7_needed_103 hl (by decide) rfl (fun ls hl => ?_)
    refine lv_iload hx hb dX7_needed_105 (lv_at hl 0 rfl) ?_
    refine lv_if_eq (tgt := 119) hx hb dX7_needed_107 (by decide) (fun cc => ?_) (fun cc => ?_)
    · replace h := it h cc
      refine lv_iload_n hx hb dX7_needed_119 rfl (lv_at hl 3 rfl) ?_
      exact hb120 k68 hk68 x1 x3 x2 _ _ _ hS (lv_sub hl [1, 2, 4] rfl) h
    · replace h := ie h cc
      refine lv_aload_n hx hb dX7_needed_110 rfl (lv_at hl 1 rfl) ?_
      refine lv_iload_n hx hb dX7_needed_111 rfl (lv_at hl 4 rfl) ?_
      refine lv_iconst (v := 1) hx hb dX7_needed_112 (by decide) ?_
      obtain ⟨v3, ev3, h⟩ := ob h
      refine r_ci hS (r_runV (As := [.int x3, .int 1]) (rest := []) X hS (c_X7_ofReader l hE (w := w) (ad := ad) (μ := μ) (D := D) (cI := cI) (cG := cG) (cL := cL) hw ev3) (cwV 2 X.1.2.2.2.2 gX7_needed_X7_ofReader rfl rfl rfl (by decide +kernel) ⟨Nat.le_of_ble_eq_true rfl, Nat.le_of_ble_eq_true rfl⟩) (q0 := q) (ci := 5) rfl (hw.1 μ).1 rfl hl.1 rfl (Nat.le_of_ble_eq_true rfl) dX7_needed_113 ⟨Nat.zero_le _, Nat.zero_le _⟩) (fun H locs hS => ?_)
      refine lv_goto (tgt := 120) hx hb dX7_needed_116 (by decide) ?_
      exact hb120 k68 hk68 x1 x3 v3 _ _ _ hS (lv_sub hl [1, 2, 4] rfl) h
  have hb102 : ∀ (k68 : Int32 → Int32 → Int32 → Mem → Option Int32), (∀ (x1 : Int32) (x2 : Int32) (x3 : Int32) (H : Heap) (locs : List Loc) (ls : Array Slot), HS D A (w μ) s.heap H locs → lv_has ls 5 [(0, .ref (ad q)), (1, .int x1), (2, .int x2), (3, .int x3)] → k68 x1 x2 x3 μ = some r → W p l e (headSpec wsX7_needed (rmk 1 22)).room s m args below meth c H locs 0 0 (MQ below (PI D A (w μ) r) args s 0 0 A) (F0 m 68 ls [])) → ∀ (x1 : Int32) (x2 : Int32) (x3 : Int32) (H : Heap) (locs : List Loc) (ls : Array Slot), HS D A (w μ) s.heap H locs → lv_has ls 5 [(0, .ref (ad q)), (1, .int x1), (2, .int x2), (3, .int x3)] → f_X7_needed_b102 q k68 x1 x2 x3 μ = some r → W p l e (headSpec wsX7_needed (rmk 1 22)).room s m args below meth c H locs 0 0 (MQ below (PI D A (w μ) r) args s 0 0 A) (F0 m 102 ls []) := by
    intro k68 hk68 x1 x2 x3 H locs ls hS hl h
    unfold f_X7_needed_b102 at h
    refine lv_iconst (v := 0) hx hb dX7_needed_102 (by decide) ?_
    exact hb103 k68 hk68 x1 x2 x3 0 _ _ _ hS (lv_sub hl [0, 1, 2, 3] rfl) h
  have hb68 : ∀ (fu : Nat) (x1 : Int32) (x2 : Int32) (x3 : Int32) (H : Heap) (locs : List Loc) (ls : Array Slot), HS D A (w μ) s.heap H locs → lv_has ls 5 [(0, .ref (ad q)), (1, .int x1), (2, .int x2), (3, .int x3)] → f_X7_needed_b68 q fu x1 x2 x3 μ = some r → W p l e (headSpec wsX7_needed (rmk 1 22)).room s m args below meth c H locs 0 0 (MQ below (PI D A (w μ) r) args s 0 0 A) (F0 m 68 ls []) := by
    intro fu
    induction fu with
    | zero =>
      intro x1 x2 x3 H locs ls hS hl h
      rw [f_X7_needed_b68] at h
      cases h
    | succ fuel68 ih68 =>
      intro x1 x2 x3 H locs ls hS hl h
      rw [f_X7_needed_b68] at h
      refine lv_iload_n hx hb dX7_needed_68 rfl (lv_at hl 3 rfl) ?_
      refine lv_iconst (v := 4) hx hb dX7_needed_69 (by decide) ?_
      refine lv_icmp_ge (tgt := 127) hx hb dX7_needed_70 (by decide) (fun cc => ?_) (fun cc => ?_)
      · replace h := it h cc
        refine lv_iload_n hx hb dX7_needed_127 rfl (lv_at hl 2 rfl) ?_
        cases h
        exact r_iret X hS hr hlk dX7_needed_128
      · replace h := ie h cc
        refine lv_iload_n hx hb dX7_needed_73 rfl (lv_at hl 3 rfl) ?_
        refine lv_iload_n hx hb dX7_needed_74 rfl (lv_at hl 1 rfl) ?_
        refine lv_icmp_eq (tgt := 102) hx hb dX7_needed_75 (by decide) (fun cc => ?_) (fun cc => ?_)
        · replace h := it h cc
          exact hb102 (f_X7_needed_b68 q fuel68) ih68 x1 x2 x3 _ _ _ hS (lv_sub hl [0, 1, 2, 3] rfl) h
        · replace h := ie h cc
          refine lv_aload_n hx hb dX7_needed_78 rfl (lv_at hl 0 rfl) ?_
          refine lv_iload_n hx hb dX7_needed_79 rfl (lv_at hl 3 rfl) ?_
          refine lv_iconst (v := 0) hx hb dX7_needed_80 (by decide) ?_
          obtain ⟨v4, ev4, h⟩ := ob h
          refine r_ci hS (r_runV (As := [.int x3, .int 0]) (rest := []) X hS (c_X7_ofReader l hE (w := w) (ad := ad) (μ := μ) (D := D) (cI := cI) (cG := cG) (cL := cL) hw ev4) (cwV 2 X.1.2.2.2.2 gX7_needed_X7_ofReader rfl rfl rfl (by decide +kernel) ⟨Nat.le_of_ble_eq_true rfl, Nat.le_of_ble_eq_true rfl⟩) (q0 := q) (ci := 5) rfl (hw.1 μ).1 rfl hl.1 rfl (Nat.le_of_ble_eq_true rfl) dX7_needed_81 ⟨Nat.zero_le _, Nat.zero_le _⟩) (fun H locs hS => ?_)
          refine lv_iconst (v := 1) hx hb dX7_needed_84 (by decide) ?_
          refine lv_icmp_ne (tgt := 102) hx hb dX7_needed_85 (by decide) (fun cc => ?_) (fun cc => ?_)
          · replace h := ie h cc
            exact hb102 (f_X7_needed_b68 q fuel68) ih68 x1 x2 x3 _ _ _ hS (lv_sub hl [0, 1, 2, 3] rfl) h
          · replace h := it h cc
            refine lv_aload_n hx hb dX7_needed_88 rfl (lv_at hl 0 rfl) ?_
            refine lv_iload_n hx hb dX7_needed_89 rfl (lv_at hl 3 rfl) ?_
            refine lv_iconst (v := 1) hx hb dX7_needed_90 (by decide) ?_
            obtain ⟨v5, ev5, h⟩ := ob h
            refine r_ci hS (r_runV (As := [.int x3, .int 1]) (rest := []) X hS (c_X7_ofReader l hE (w := w) (ad := ad) (μ := μ) (D := D) (cI := cI) (cG := cG) (cL := cL) hw ev5) (cwV 2 X.1.2.2.2.2 gX7_needed_X7_ofReader rfl rfl rfl (by decide +kernel) ⟨Nat.le_of_ble_eq_true rfl, Nat.le_of_ble_eq_true rfl⟩) (q0 := q) (ci := 5) rfl (hw.1 μ).1 rfl hl.1 rfl (Nat.le_of_ble_eq_true rfl) dX7_needed_91 ⟨Nat.zero_le _, Nat.zero_le _⟩) (fun H locs hS => ?_)
            refine lv_iload_n hx hb dX7_needed_94 rfl (lv_at hl 2 rfl) ?_
            refine lv_icmp_ge (tgt := 102) hx hb dX7_needed_95 (by decide) (fun cc => ?_) (fun cc => ?_)
            · replace h := it h cc
              exact hb102 (f_X7_needed_b68 q fuel68) ih68 x1 x2 x3 _ _ _ hS (lv_sub hl [0, 1, 2, 3] rfl) h
            · replace h := ie h cc
              refine lv_iconst (v := 1) hx hb dX7_needed_98 (by decide) ?_
              refine lv_goto (tgt := 103) hx hb dX7_needed_99 (by decide) ?_
              exact hb103 (f_X7_needed_b68 q fuel68) ih68 x1 x2 x3 1 _ _ _ hS (lv_sub hl [0, 1, 2, 3] rfl) h
  have hb59 : ∀ (k12 : Int32 → Int32 → Int32 → Mem → Option Int32), (∀ (x1 : Int32) (x2 : Int32) (x3 : Int32) (H : Heap) (locs : List Loc) (ls : Array Slot), HS D A (w μ) s.heap H locs → lv_has ls 5 [(0, .ref (ad q)), (1, .int x1), (2, .int x2), (3, .int x3)] → k12 x1 x2 x3 μ = some r → W p l e (headSpec wsX7_needed (rmk 1 22)).room s m args below meth c H locs 0 0 (MQ below (PI D A (w μ) r) args s 0 0 A) (F0 m 12 ls [])) → ∀ (x1 : Int32) (x3 : Int32) (s0 : Int32) (H : Heap) (locs : List Loc) (ls : Array Slot), HS D A (w μ) s.heap H locs → lv_has ls 5 [(0, .ref (ad q)), (1, .int x1), (3, .int x3)] → f_X7_needed_b59 q k12 x1 x3 s0 μ = some r → W p l e (headSpec wsX7_needed (rmk 1 22)).room s m args below meth c H locs 0 0 (MQ below (PI D A (w μ) r) args s 0 0 A) (F0 m 59 ls [.int s0]) := by
    intro k12 hk12 x1 x3 s0 H locs ls hS hl h
    unfold f_X7_needed_b59 at h
    refine lv_istore_n (lv' := [(2, .int s0), (0, .ref (ad q)), (1, .int x1), (3, .int x3)]) hx hb dX7_needed_59 rfl hl (by decide) rfl (fun ls hl => ?_)
    refine lv_iinc (v := x3 + 1) (lv' := [(3, .int (x3 + 1)), (2, .int s0), (0, .ref (ad q)), (1, .int x1)]) hx hb dX7_needed_60 hl (k := 3) rfl rfl (by decide) rfl (fun ls hl => ?_)
    refine lv_goto (tgt := 12) hx hb dX7_needed_63 (by decide) ?_
    exact hk12 x1 s0 (x3 + 1) _ _ _ hS (lv_sub hl [2, 3, 1, 0] rfl) h
  have hb42 : ∀ (k12 : Int32 → Int32 → Int32 → Mem → Option Int32), (∀ (x1 : Int32) (x2 : Int32) (x3 : Int32) (H : Heap) (locs : List Loc) (ls : Array Slot), HS D A (w μ) s.heap H locs → lv_has ls 5 [(0, .ref (ad q)), (1, .int x1), (2, .int x2), (3, .int x3)] → k12 x1 x2 x3 μ = some r → W p l e (headSpec wsX7_needed (rmk 1 22)).room s m args below meth c H locs 0 0 (MQ below (PI D A (w μ) r) args s 0 0 A) (F0 m 12 ls [])) → ∀ (x1 : Int32) (x2 : Int32) (x3 : Int32) (s0 : Int32) (H : Heap) (locs : List Loc) (ls : Array Slot), HS D A (w μ) s.heap H locs → lv_has ls 5 [(0, .ref (ad q)), (1, .int x1), (2, .int x2), (3, .int x3)] → f_X7_needed_b42 q k12 x1 x2 x3 s0 μ = some r → W p l e (headSpec wsX7_needed (rmk 1 22)).room s m args below meth c H locs 0 0 (MQ below (PI D A (w μ) r) args s 0 0 A) (F0 m 42 ls [.int s0]) := by
    intro k12 hk12 x1 x2 x3 s0 H locs ls hS hl h
    unfold f_X7_needed_b42 at h
    refine lv_istore (lv' := [(4, .int s0), (0, .ref (ad q)), (1, .int x1), (2, .int x2), (3, .int x3)]) hx hb dX7_needed_42 hl (by decide) rfl (fun ls hl => ?_)
    refine lv_iload hx hb dX7_needed_44 (lv_at hl 0 rfl) ?_
    refine lv_if_eq (tgt := 58) hx hb dX7_needed_46 (by decide) (fun cc => ?_) (fun cc => ?_)
    · replace h := it h cc
      refine lv_iload_n hx hb dX7_needed_58 rfl (lv_at hl 3 rfl) ?_
      exact hb59 k12 hk12 x1 x3 x2 _ _ _ hS (lv_sub hl [1, 2, 4] rfl) h
    · replace h := ie h cc
      refine lv_aload_n hx hb dX7_needed_49 rfl (lv_at hl 1 rfl) ?_
      refine lv_iload_n hx hb dX7_needed_50 rfl (lv_at hl 4 rfl) ?_
      refine lv_iconst (v := 0) hx hb dX7_needed_51 (by decide) ?_
      obtain ⟨v7, ev7, h⟩ := ob h
      refine r_ci hS (r_runV (As := [.int x3, .int 0]) (rest := []) X hS (c_X7_ofRoot l hE (w := w) (ad := ad) (μ := μ) (D := D) (cI := cI) (cG := cG) (cL := cL) hw ev7) (cwV 2 X.1.2.2.2.2 gX7_needed_X7_ofRoot rfl rfl rfl (by decide +kernel) ⟨Nat.le_of_ble_eq_true rfl, Nat.le_of_ble_eq_true rfl⟩) (q0 := q) (ci := 5) rfl (hw.1 μ).1 rfl hl.1 rfl (Nat.le_of_ble_eq_true rfl) dX7_needed_52 ⟨Nat.zero_le _, Nat.zero_le _⟩) (fun H locs hS => ?_)
      refine lv_goto (tgt := 59) hx hb dX7_needed_55 (by decide) ?_
      exact hb59 k12 hk12 x1 x3 v7 _ _ _ hS (lv_sub hl [1, 2, 4] rfl) h
  have hb41 : ∀ (k12 : Int32 → Int32 → Int32 → Mem → Option Int32), (∀ (x1 : Int32) (x2 : Int32) (x3 : Int32) (H : Heap) (locs : List Loc) (ls : Array Slot), HS D A (w μ) s.heap H locs → lv_has ls 5 [(0, .ref (ad q)), (1, .int x1), (2, .int x2), (3, .int x3)] → k12 x1 x2 x3 μ = some r → W p l e (headSpec wsX7_needed (rmk 1 22)).room s m args below meth c H locs 0 0 (MQ below (PI D A (w μ) r) args s 0 0 A) (F0 m 12 ls [])) → ∀ (x1 : Int32) (x2 : Int32) (x3 : Int32) (H : Heap) (locs : List Loc) (ls : Array Slot), HS D A (w μ) s.heap H locs → lv_has ls 5 [(0, .ref (ad q)), (1, .int x1), (2, .int x2), (3, .int x3)] → f_X7_needed_b41 q k12 x1 x2 x3 μ = some r → W p l e (headSpec wsX7_needed (rmk 1 22)).room s m args below meth c H locs 0 0 (MQ below (PI D A (w μ) r) args s 0 0 A) (F0 m 41 ls []) := by
    intro k12 hk12 x1 x2 x3 H locs ls hS hl h
    unfold f_X7_needed_b41 at h
    refine lv_iconst (v := 0) hx hb dX7_needed_41 (by decide) ?_
    exact hb42 k12 hk12 x1 x2 x3 0 _ _ _ hS (lv_sub hl [0, 1, 2, 3] rfl) h
  have hb12 : ∀ (fu : Nat) (x1 : Int32) (x2 : Int32) (x3 : Int32) (H : Heap) (locs : List Loc) (ls : Array Slot), HS D A (w μ) s.heap H locs → lv_has ls 5 [(0, .ref (ad q)), (1, .int x1), (2, .int x2), (3, .int x3)] → f_X7_needed_b12 q fu x1 x2 x3 μ = some r → W p l e (headSpec wsX7_needed (rmk 1 22)).room s m args below meth c H locs 0 0 (MQ below (PI D A (w μ) r) args s 0 0 A) (F0 m 12 ls []) := by
    intro fu
    induction fu with
    | zero =>
      intro x1 x2 x3 H locs ls hS hl h
      rw [f_X7_needed_b12] at h
      cases h
    | succ fuel12 ih12 =>
      intro x1 x2 x3 H locs ls hS hl h
      rw [f_X7_needed_b12] at h
      refine lv_iload_n hx hb dX7_needed_12 rfl (lv_at hl 3 rfl) ?_
      refine lv_iconst (v := 2) hx hb dX7_needed_13 (by decide) ?_
      refine lv_icmp_ge (tgt := 66) hx hb dX7_needed_14 (by decide) (fun cc => ?_) (fun cc => ?_)
      · replace h := it h cc
        refine lv_iconst (v := 0) hx hb dX7_needed_66 (by decide) ?_
        refine lv_istore_n (lv' := [(3, .int 0), (0, .ref (ad q)), (1, .int x1), (2, .int x2)]) hx hb dX7_needed_67 rfl hl (by decide) rfl (fun ls hl => ?_)
        exact hb68 FU x1 x2 0 _ _ _ hS (lv_sub hl [1, 2, 3, 0] rfl) h
      · replace h := ie h cc
        refine lv_aload_n hx hb dX7_needed_17 rfl (lv_at hl 0 rfl) ?_
        refine lv_iload_n hx hb dX7_needed_18 rfl (lv_at hl 3 rfl) ?_
        refine lv_iconst (v := 2) hx hb dX7_needed_19 (by decide) ?_
        obtain ⟨v6, ev6, h⟩ := ob h
        refine r_ci hS (r_runV (As := [.int x3, .int 2]) (rest := []) X hS (c_X7_ofRoot l hE (w := w) (ad := ad) (μ := μ) (D := D) (cI := cI) (cG := cG) (cL := cL) hw ev6) (cwV 2 X.1.2.2.2.2 gX7_needed_X7_ofRoot rfl rfl rfl (by decide +kernel) ⟨Nat.le_of_ble_eq_true rfl, Nat.le_of_ble_eq_true rfl⟩) (q0 := q) (ci := 5) rfl (hw.1 μ).1 rfl hl.1 rfl (Nat.le_of_ble_eq_true rfl) dX7_needed_20 ⟨Nat.zero_le _, Nat.zero_le _⟩) (fun H locs hS => ?_)
        refine lv_iconst (v := 1) hx hb dX7_needed_23 (by decide) ?_
        refine lv_icmp_ne (tgt := 41) hx hb dX7_needed_24 (by decide) (fun cc => ?_) (fun cc => ?_)
        · replace h := ie h cc
          exact hb41 (f_X7_needed_b12 q fuel12) ih12 x1 x2 x3 _ _ _ hS (lv_sub hl [0, 1, 2, 3] rfl) h
        · replace h := it h cc
          refine lv_aload_n hx hb dX7_needed_27 rfl (lv_at hl 0 rfl) ?_
          refine lv_iload_n hx hb dX7_needed_28 rfl (lv_at hl 3 rfl) ?_
          refine lv_iconst (v := 0) hx hb dX7_needed_29 (by decide) ?_
          obtain ⟨v8, ev8, h⟩ := ob h
          refine r_ci hS (r_runV (As := [.int x3, .int 0]) (rest := []) X hS (c_X7_ofRoot l hE (w := w) (ad := ad) (μ := μ) (D := D) (cI := cI) (cG := cG) (cL := cL) hw ev8) (cwV 2 X.1.2.2.2.2 gX7_needed_X7_ofRoot rfl rfl rfl (by decide +kernel) ⟨Nat.le_of_ble_eq_true rfl, Nat.le_of_ble_eq_true rfl⟩) (q0 := q) (ci := 5) rfl (hw.1 μ).1 rfl hl.1 rfl (Nat.le_of_ble_eq_true rfl) dX7_needed_30 ⟨Nat.zero_le _, Nat.zero_le _⟩) (fun H locs hS => ?_)
          refine lv_iload_n hx hb dX7_needed_33 rfl (lv_at hl 2 rfl) ?_
          refine lv_icmp_ge (tgt := 41) hx hb dX7_needed_34 (by decide) (fun cc => ?_) (fun cc => ?_)
          · replace h := it h cc
            exact hb41 (f_X7_needed_b12 q fuel12) ih12 x1 x2 x3 _ _ _ hS (lv_sub hl [0, 1, 2, 3] rfl) h
          · replace h := ie h cc
            refine lv_iconst (v := 1) hx hb dX7_needed_37 (by decide) ?_
            refine lv_goto (tgt := 42) hx hb dX7_needed_38 (by decide) ?_
            exact hb42 (f_X7_needed_b12 q fuel12) ih12 x1 x2 x3 1 _ _ _ hS (lv_sub hl [0, 1, 2, 3] rfl) h
  unfold f_X7_needed at h
  refine lv_aload_n hx hb dX7_needed_0 rfl (lv_at hl 0 rfl) ?_
  refine lv_aload_n hx hb dX7_needed_1 rfl (lv_at hl 0 rfl) ?_
  obtain ⟨v1, ev1, h⟩ := ob h
  refine r_ci hS (r_runV (As := []) (rest := [.ref (ad q)]) X hS (c_X7_current l hE (w := w) (ad := ad) (μ := μ) (D := D) (cI := cI) (cG := cG) (cL := cL) hw ev1) (cwV 0 X.1.2.2.2.2 gX7_needed_X7_current rfl rfl rfl (by decide +kernel) ⟨Nat.le_of_ble_eq_true rfl, Nat.le_of_ble_eq_true rfl⟩) (q0 := q) (ci := 5) rfl (hw.1 μ).1 rfl hl.1 rfl (Nat.le_of_ble_eq_true rfl) dX7_needed_2 ⟨Nat.zero_le _, Nat.zero_le _⟩) (fun H locs hS => ?_)
  refine lv_iconst (v := 0) hx hb dX7_needed_5 (by decide) ?_
  obtain ⟨v2, ev2, h⟩ := ob h
  refine r_ci hS (r_runV (As := [.int v1, .int 0]) (rest := []) X hS (c_X7_ofRoot l hE (w := w) (ad := ad) (μ := μ) (D := D) (cI := cI) (cG := cG) (cL := cL) hw ev2) (cwV 2 X.1.2.2.2.2 gX7_needed_X7_ofRoot rfl rfl rfl (by decide +kernel) ⟨Nat.le_of_ble_eq_true rfl, Nat.le_of_ble_eq_true rfl⟩) (q0 := q) (ci := 5) rfl (hw.1 μ).1 rfl hl.1 rfl (Nat.le_of_ble_eq_true rfl) dX7_needed_6 ⟨Nat.zero_le _, Nat.zero_le _⟩) (fun H locs hS => ?_)
  refine lv_istore_n (lv' := [(2, .int v2), (0, .ref (ad q)), (1, .int a1)]) hx hb dX7_needed_9 rfl hl (by decide) rfl (fun ls hl => ?_)
  refine lv_iconst (v := 0) hx hb dX7_needed_10 (by decide) ?_
  refine lv_istore_n (lv' := [(3, .int 0), (2, .int v2), (0, .ref (ad q)), (1, .int a1)]) hx hb dX7_needed_11 rfl hl (by decide) rfl (fun ls hl => ?_)
  exact hb12 FU a1 v2 0 _ _ _ hS (lv_sub hl [2, 3, 1, 0] rfl) h
def f_X7_canBeDug_b29 (q : Nat) (s0 : Int32) (μ : Mem) : Option Int32 := (zr s0).bind (fun v2 => (some v2))
def f_X7_canBeDug_b28 (q : Nat)  (μ : Mem) : Option Int32 := f_X7_canBeDug_b29 q 0 μ
def f_X7_canBeDug (q : Nat) (a1 : Int32) (μ : Mem) : Option Int32 := (f_X7_of q a1 0 μ).bind (fun v1 => (if v1 = 2 then (f_X7_of q a1 3 μ).bind (fun v3 => (f_X7_needed q (-1) μ).bind (fun v4 => (if v4 < v3 then f_X7_canBeDug_b28 q μ else f_X7_canBeDug_b29 q 1 μ))) else f_X7_canBeDug_b28 q μ))
set_option maxHeartbeats 4000000 in
set_option maxRecDepth 100000 in
theorem c_X7_canBeDug (l : Launch) {D : va_G} {cI cG cL : ClassId} {A : Nat → Prop} {EN : State → Heap → Prop} (hE : EnOK EN A) {w : Mem → va_W} {ad : Nat → Nat} {hh : Int64} {q : Nat} {a1 : Int32} {μ : Mem} {r : Int32} (hw : ModelAt cI w ad hh q) (h : f_X7_canBeDug q a1 μ = some r) : Met l yX7_canBeDug wsX7_canBeDug (rmk 2 46) (WPre D (tyl cI cG cL) A EN (w μ) [.ref (ad q), .int a1]) (PI D A (w μ) r) 0 0 A := by
  refine met_start (cc := cX7_canBeDug) (nL := 2) (ret := (some .boolean)) (own := RX7) hE (by decide) rfl rfl (Nat.le_of_ble_eq_true rfl) (fun p e s m args below meth c ls X hS hl hr hlk => ?_)
  have hx := X.1.1
  have hb := X.1.2.1
  replace hl : lv_has ls 2 [(0, .ref (ad q)), (1, .int a1)] := hl
  have hb29 : ∀ (s0 : Int32) (H : Heap) (locs : List Loc) (ls : Array Slot), HS D A (w μ) s.heap H locs → lv_has ls 2 [] → f_X7_canBeDug_b29 q s0 μ = some r → W p l e (headSpec wsX7_canBeDug (rmk 2 46)).room s m args below meth c H locs 0 0 (MQ below (PI D A (w μ) r) args s 0 0 A) (F0 m 29 ls [.int s0]) := by
    intro s0 H locs ls hS hl h
    unfold f_X7_canBeDug_b29 at h
    obtain ⟨v2, ev2, h⟩ := ob h
    obtain ⟨ezv2, eov2⟩ := zr_ok ev2
    rw [ezv2]
    cases h
    exact r_zret X hS hr hlk eov2 dX7_canBeDug_29
  have hb28 : ∀  (H : Heap) (locs : List Loc) (ls : Array Slot), HS D A (w μ) s.heap H locs → lv_has ls 2 [] → f_X7_canBeDug_b28 q μ = some r → W p l e (headSpec wsX7_canBeDug (rmk 2 46)).room s m args below meth c H locs 0 0 (MQ below (PI D A (w μ) r) args s 0 0 A) (F0 m 28 ls []) := by
    intro H locs ls hS hl h
    unfold f_X7_canBeDug_b28 at h
    refine lv_iconst (v := 0) hx hb dX7_canBeDug_28 (by decide) ?_
    exact hb29 0 _ _ _ hS (lv_sub hl [] rfl) h
  unfold f_X7_canBeDug at h
  refine lv_aload_n hx hb dX7_canBeDug_0 rfl (lv_at hl 0 rfl) ?_
  refine lv_iload_n hx hb dX7_canBeDug_1 rfl (lv_at hl 1 rfl) ?_
  refine lv_iconst (v := 0) hx hb dX7_canBeDug_2 (by decide) ?_
  obtain ⟨v1, ev1, h⟩ := ob h
  refine r_ci hS (r_runV (As := [.int a1, .int 0]) (rest := []) X hS (c_X7_of l hE (w := w) (ad := ad) (μ := μ) (D := D) (cI := cI) (cG := cG) (cL := cL) hw ev1) (cwV 2 X.1.2.2.2.2 gX7_canBeDug_X7_of rfl rfl rfl (by decide +kernel) ⟨Nat.le_of_ble_eq_true rfl, Nat.le_of_ble_eq_true rfl⟩) (q0 := q) (ci := 5) rfl (hw.1 μ).1 rfl hl.1 rfl (Nat.le_of_ble_eq_true rfl) dX7_canBeDug_3 ⟨Nat.zero_le _, Nat.zero_le _⟩) (fun H locs hS => ?_)
  refine lv_iconst (v := 2) hx hb dX7_canBeDug_6 (by decide) ?_
  refine lv_icmp_ne (tgt := 28) hx hb dX7_canBeDug_7 (by decide) (fun cc => ?_) (fun cc => ?_)
  · replace h := ie h cc
    exact hb28  _ _ _ hS (lv_sub hl [] rfl) h
  · replace h := it h cc
    refine lv_aload_n hx hb dX7_canBeDug_10 rfl (lv_at hl 0 rfl) ?_
    refine lv_iload_n hx hb dX7_canBeDug_11 rfl (lv_at hl 1 rfl) ?_
    refine lv_iconst (v := 3) hx hb dX7_canBeDug_12 (by decide) ?_
    obtain ⟨v3, ev3, h⟩ := ob h
    refine r_ci hS (r_runV (As := [.int a1, .int 3]) (rest := []) X hS (c_X7_of l hE (w := w) (ad := ad) (μ := μ) (D := D) (cI := cI) (cG := cG) (cL := cL) hw ev3) (cwV 2 X.1.2.2.2.2 gX7_canBeDug_X7_of rfl rfl rfl (by decide +kernel) ⟨Nat.le_of_ble_eq_true rfl, Nat.le_of_ble_eq_true rfl⟩) (q0 := q) (ci := 5) rfl (hw.1 μ).1 rfl hl.1 rfl (Nat.le_of_ble_eq_true rfl) dX7_canBeDug_13 ⟨Nat.zero_le _, Nat.zero_le _⟩) (fun H locs hS => ?_)
    refine lv_aload_n hx hb dX7_canBeDug_16 rfl (lv_at hl 0 rfl) ?_
    refine lv_iconst (v := (-1)) hx hb dX7_canBeDug_17 (by decide) ?_
    obtain ⟨v4, ev4, h⟩ := ob h
    refine r_ci hS (r_runV (As := [.int (-1)]) (rest := [.int v3]) X hS (c_X7_needed l hE (w := w) (ad := ad) (μ := μ) (D := D) (cI := cI) (cG := cG) (cL := cL) hw ev4) (cwV 1 X.1.2.2.2.2 gX7_canBeDug_X7_needed rfl rfl rfl (by decide +kernel) ⟨Nat.le_of_ble_eq_true rfl, Nat.le_of_ble_eq_true rfl⟩) (q0 := q) (ci := 5) rfl (hw.1 μ).1 rfl hl.1 rfl (Nat.le_of_ble_eq_true rfl) dX7_canBeDug_18 ⟨Nat.zero_le _, Nat.zero_le _⟩) (fun H locs hS => ?_)
    refine lv_icmp_gt (tgt := 28) hx hb dX7_canBeDug_21 (by decide) (fun cc => ?_) (fun cc => ?_)
    · replace h := it h cc
      exact hb28  _ _ _ hS (lv_sub hl [] rfl) h
    · replace h := ie h cc
      refine lv_iconst (v := 1) hx hb dX7_canBeDug_24 (by decide) ?_
      refine lv_goto (tgt := 29) hx hb dX7_canBeDug_25 (by decide) ?_
      exact hb29 1 _ _ _ hS (lv_sub hl [] rfl) h
def f_X7_nextNow_b100 (q : Nat) (x1 : Int32) (μ : Mem) : Option Int32 := (some x1)
def f_X7_nextNow_b93 (q : Nat) (k62 : Int32 → Int32 → Mem → Option Int32) (x2 : Int32) (s0 : Int32) (μ : Mem) : Option Int32 := k62 s0 (x2 + (-1)) μ
def f_X7_nextNow_b79 (q : Nat) (k62 : Int32 → Int32 → Mem → Option Int32) (x1 : Int32) (x2 : Int32) (μ : Mem) : Option Int32 := (f_X7_of q x2 0 μ).bind (fun v1 => (if v1 = 0 then f_X7_nextNow_b93 q k62 x2 x2 μ else f_X7_nextNow_b93 q k62 x2 x1 μ))
def f_X7_nextNow_b62 (q : Nat)  : Nat → Int32 → Int32 → Mem → Option Int32
  | 0, _, _, _ => none
  | fuel62 + 1, x1, x2, μ => (if x2 < 0 then f_X7_nextNow_b100 q x1 μ else (if x1 < 0 then f_X7_nextNow_b79 q (f_X7_nextNow_b62 q fuel62) x1 x2 μ else (f_X7_of q x1 0 μ).bind (fun v2 => (if v2 = 0 then f_X7_nextNow_b79 q (f_X7_nextNow_b62 q fuel62) x1 x2 μ else f_X7_nextNow_b100 q x1 μ))))
def f_X7_nextNow_b52 (q : Nat) (k4 : Int32 → Int32 → Mem → Option Int32) (x2 : Int32) (s0 : Int32) (μ : Mem) : Option Int32 := k4 s0 (x2 + 1) μ
def f_X7_nextNow_b42 (q : Nat) (k4 : Int32 → Int32 → Mem → Option Int32) (x1 : Int32) (x2 : Int32) (s0 : Int32) (μ : Mem) : Option Int32 := (if s0 = 0 then f_X7_nextNow_b52 q k4 x2 x1 μ else f_X7_nextNow_b52 q k4 x2 x2 μ)
def f_X7_nextNow_b41 (q : Nat) (k4 : Int32 → Int32 → Mem → Option Int32) (x1 : Int32) (x2 : Int32) (μ : Mem) : Option Int32 := f_X7_nextNow_b42 q k4 x1 x2 0 μ
def f_X7_nextNow_b37 (q : Nat) (k4 : Int32 → Int32 → Mem → Option Int32) (x1 : Int32) (x2 : Int32) (μ : Mem) : Option Int32 := f_X7_nextNow_b42 q k4 x1 x2 1 μ
def f_X7_nextNow_b4 (q : Nat)  : Nat → Int32 → Int32 → Mem → Option Int32
  | 0, _, _, _ => none
  | fuel4 + 1, x1, x2, μ => (if 32 ≤ x2 then f_X7_nextNow_b62 q FU x1 31 μ else (f_X7_canBeDug q x2 μ).bind (fun v3 => (if v3 = 0 then f_X7_nextNow_b41 q (f_X7_nextNow_b4 q fuel4) x1 x2 μ else (if x1 < 0 then f_X7_nextNow_b37 q (f_X7_nextNow_b4 q fuel4) x1 x2 μ else (f_X7_of q x2 3 μ).bind (fun v4 => (f_X7_of q x1 3 μ).bind (fun v5 => (if v5 ≤ v4 then f_X7_nextNow_b41 q (f_X7_nextNow_b4 q fuel4) x1 x2 μ else f_X7_nextNow_b37 q (f_X7_nextNow_b4 q fuel4) x1 x2 μ)))))))
def f_X7_nextNow (q : Nat) (μ : Mem) : Option Int32 := f_X7_nextNow_b4 q FU (-1) 0 μ
set_option maxHeartbeats 4000000 in
set_option maxRecDepth 100000 in
theorem c_X7_nextNow (l : Launch) {D : va_G} {cI cG cL : ClassId} {A : Nat → Prop} {EN : State → Heap → Prop} (hE : EnOK EN A) {w : Mem → va_W} {ad : Nat → Nat} {hh : Int64} {q : Nat} {μ : Mem} {r : Int32} (hw : ModelAt cI w ad hh q) (h : f_X7_nextNow q μ = some r) : Met l yX7_nextNow wsX7_nextNow (rmk 3 67) (WPre D (tyl cI cG cL) A EN (w μ) [.ref (ad q)]) (PI D A (w μ) r) 0 0 A := by
  refine met_start (cc := cX7_nextNow) (nL := 4) (ret := (some .int)) (own := RX7) hE (by decide) rfl rfl (Nat.le_of_ble_eq_true rfl) (fun p e s m args below meth c ls X hS hl hr hlk => ?_)
  have hx := X.1.1
  have hb := X.1.2.1
  replace hl : lv_has ls 4 [(0, .ref (ad q))] := hl
  have hb100 : ∀ (x1 : Int32) (H : Heap) (locs : List Loc) (ls : Array Slot), HS D A (w μ) s.heap H locs → lv_has ls 4 [(1, .int x1)] → f_X7_nextNow_b100 q x1 μ = some r → W p l e (headSpec wsX7_nextNow (rmk 3 67)).room s m args below meth c H locs 0 0 (MQ below (PI D A (w μ) r) args s 0 0 A) (F0 m 100 ls []) := by
    intro x1 H locs ls hS hl h
    unfold f_X7_nextNow_b100 at h
    refine lv_iload_n hx hb dX7_nextNow_100 rfl (lv_at hl 0 rfl) ?_
    cases h
    exact r_iret X hS hr hlk dX7_nextNow_101
  have hb93 : ∀ (k62 : Int32 → Int32 → Mem → Option Int32), (∀ (x1 : Int32) (x2 : Int32) (H : Heap) (locs : List Loc) (ls : Array Slot), HS D A (w μ) s.heap H locs → lv_has ls 4 [(0, .ref (ad q)), (1, .int x1), (2, .int x2)] → k62 x1 x2 μ = some r → W p l e (headSpec wsX7_nextNow (rmk 3 67)).room s m args below meth c H locs 0 0 (MQ below (PI D A (w μ) r) args s 0 0 A) (F0 m 62 ls [])) → ∀ (x2 : Int32) (s0 : Int32) (H : Heap) (locs : List Loc) (ls : Array Slot), HS D A (w μ) s.heap H locs → lv_has ls 4 [(0, .ref (ad q)), (2, .int x2)] → f_X7_nextNow_b93 q k62 x2 s0 μ = some r → W p l e (headSpec wsX7_nextNow (rmk 3 67)).room s m args below meth c H locs 0 0 (MQ below (PI D A (w μ) r) args s 0 0 A) (F0 m 93 ls [.int s0]) := by
    intro k62 hk62 x2 s0 H locs ls hS hl h
    unfold f_X7_nextNow_b93 at h
    refine lv_istore_n (lv' := [(1, .int s0), (0, .ref (ad q)), (2, .int x2)]) hx hb dX7_nextNow_93 rfl hl (by decide) rfl (fun ls hl => ?_)
    refine lv_iinc (v := x2 + (-1)) (lv' := [(2, .int (x2 + (-1))), (1, .int s0), (0, .ref (ad q))]) hx hb dX7_nextNow_94 hl (k := 2) rfl rfl (by decide) rfl (fun ls hl => ?_)
    refine lv_goto (tgt := 62) hx hb dX7_nextNow_97 (by decide) ?_
    exact hk62 s0 (x2 + (-1)) _ _ _ hS (lv_sub hl [2, 1, 0] rfl) h
  have hb79 : ∀ (k62 : Int32 → Int32 → Mem → Option Int32), (∀ (x1 : Int32) (x2 : Int32) (H : Heap) (locs : List Loc) (ls : Array Slot), HS D A (w μ) s.heap H locs → lv_has ls 4 [(0, .ref (ad q)), (1, .int x1), (2, .int x2)] → k62 x1 x2 μ = some r → W p l e (headSpec wsX7_nextNow (rmk 3 67)).room s m args below meth c H locs 0 0 (MQ below (PI D A (w μ) r) args s 0 0 A) (F0 m 62 ls [])) → ∀ (x1 : Int32) (x2 : Int32) (H : Heap) (locs : List Loc) (ls : Array Slot), HS D A (w μ) s.heap H locs → lv_has ls 4 [(0, .ref (ad q)), (1, .int x1), (2, .int x2)] → f_X7_nextNow_b79 q k62 x1 x2 μ = some r → W p l e (headSpec wsX7_nextNow (rmk 3 67)).room s m args below meth c H locs 0 0 (MQ below (PI D A (w μ) r) args s 0 0 A) (F0 m 79 ls []) := by
    intro k62 hk62 x1 x2 H locs ls hS hl h
    unfold f_X7_nextNow_b79 at h
    refine lv_aload_n hx hb dX7_nextNow_79 rfl (lv_at hl 0 rfl) ?_
    refine lv_iload_n hx hb dX7_nextNow_80 rfl (lv_at hl 2 rfl) ?_
    refine lv_iconst (v := 0) hx hb dX7_nextNow_81 (by decide) ?_
    obtain ⟨v1, ev1, h⟩ := ob h
    refine r_ci hS (r_runV (As := [.int x2, .int 0]) (rest := []) X hS (c_X7_of l hE (w := w) (ad := ad) (μ := μ) (D := D) (cI := cI) (cG := cG) (cL := cL) hw ev1) (cwV 2 X.1.2.2.2.2 gX7_nextNow_X7_of rfl rfl rfl (by decide +kernel) ⟨Nat.le_of_ble_eq_true rfl, Nat.le_of_ble_eq_true rfl⟩) (q0 := q) (ci := 5) rfl (hw.1 μ).1 rfl hl.1 rfl (Nat.le_of_ble_eq_true rfl) dX7_nextNow_82 ⟨Nat.zero_le _, Nat.zero_le _⟩) (fun H locs hS => ?_)
    refine lv_if_ne (tgt := 92) hx hb dX7_nextNow_85 (by decide) (fun cc => ?_) (fun cc => ?_)
    · replace h := ie h cc
      refine lv_iload_n hx hb dX7_nextNow_92 rfl (lv_at hl 1 rfl) ?_
      exact hb93 k62 hk62 x2 x1 _ _ _ hS (lv_sub hl [0, 2] rfl) h
    · replace h := it h cc
      refine lv_iload_n hx hb dX7_nextNow_88 rfl (lv_at hl 2 rfl) ?_
      refine lv_goto (tgt := 93) hx hb dX7_nextNow_89 (by decide) ?_
      exact hb93 k62 hk62 x2 x2 _ _ _ hS (lv_sub hl [0, 2] rfl) h
  have hb62 : ∀ (fu : Nat) (x1 : Int32) (x2 : Int32) (H : Heap) (locs : List Loc) (ls : Array Slot), HS D A (w μ) s.heap H locs → lv_has ls 4 [(0, .ref (ad q)), (1, .int x1), (2, .int x2)] → f_X7_nextNow_b62 q fu x1 x2 μ = some r → W p l e (headSpec wsX7_nextNow (rmk 3 67)).room s m args below meth c H locs 0 0 (MQ below (PI D A (w μ) r) args s 0 0 A) (F0 m 62 ls []) := by
    intro fu
    induction fu with
    | zero =>
      intro x1 x2 H locs ls hS hl h
      rw [f_X7_nextNow_b62] at h
      cases h
    | succ fuel62 ih62 =>
      intro x1 x2 H locs ls hS hl h
      rw [f_X7_nextNow_b62] at h
      refine lv_iload_n hx hb dX7_nextNow_62 rfl (lv_at hl 2 rfl) ?_
      refine lv_if_lt (tgt := 100) hx hb dX7_nextNow_63 (by decide) (fun cc => ?_) (fun cc => ?_)
      · replace h := it h cc
        exact hb100 x1 _ _ _ hS (lv_sub hl [1] rfl) h
      · replace h := ie h cc
        refine lv_iload_n hx hb dX7_nextNow_66 rfl (lv_at hl 1 rfl) ?_
        refine lv_if_lt (tgt := 79) hx hb dX7_nextNow_67 (by decide) (fun cc => ?_) (fun cc => ?_)
        · replace h := it h cc
          exact hb79 (f_X7_nextNow_b62 q fuel62) ih62 x1 x2 _ _ _ hS (lv_sub hl [0, 1, 2] rfl) h
        · replace h := ie h cc
          refine lv_aload_n hx hb dX7_nextNow_70 rfl (lv_at hl 0 rfl) ?_
          refine lv_iload_n hx hb dX7_nextNow_71 rfl (lv_at hl 1 rfl) ?_
          refine lv_iconst (v := 0) hx hb dX7_nextNow_72 (by decide) ?_
          obtain ⟨v2, ev2, h⟩ := ob h
          refine r_ci hS (r_runV (As := [.int x1, .int 0]) (rest := []) X hS (c_X7_of l hE (w := w) (ad := ad) (μ := μ) (D := D) (cI := cI) (cG := cG) (cL := cL) hw ev2) (cwV 2 X.1.2.2.2.2 gX7_nextNow_X7_of rfl rfl rfl (by decide +kernel) ⟨Nat.le_of_ble_eq_true rfl, Nat.le_of_ble_eq_true rfl⟩) (q0 := q) (ci := 5) rfl (hw.1 μ).1 rfl hl.1 rfl (Nat.le_of_ble_eq_true rfl) dX7_nextNow_73 ⟨Nat.zero_le _, Nat.zero_le _⟩) (fun H locs hS => ?_)
          refine lv_if_ne (tgt := 100) hx hb dX7_nextNow_76 (by decide) (fun cc => ?_) (fun cc => ?_)
          · replace h := ie h cc
            exact hb100 x1 _ _ _ hS (lv_sub hl [1] rfl) h
          · replace h := it h cc
            exact hb79 (f_X7_nextNow_b62 q fuel62) ih62 x1 x2 _ _ _ hS (lv_sub hl [0, 1, 2] rfl) h
  have hb52 : ∀ (k4 : Int32 → Int32 → Mem → Option Int32), (∀ (x1 : Int32) (x2 : Int32) (H : Heap) (locs : List Loc) (ls : Array Slot), HS D A (w μ) s.heap H locs → lv_has ls 4 [(0, .ref (ad q)), (1, .int x1), (2, .int x2)] → k4 x1 x2 μ = some r → W p l e (headSpec wsX7_nextNow (rmk 3 67)).room s m args below meth c H locs 0 0 (MQ below (PI D A (w μ) r) args s 0 0 A) (F0 m 4 ls [])) → ∀ (x2 : Int32) (s0 : Int32) (H : Heap) (locs : List Loc) (ls : Array Slot), HS D A (w μ) s.heap H locs → lv_has ls 4 [(0, .ref (ad q)), (2, .int x2)] → f_X7_nextNow_b52 q k4 x2 s0 μ = some r → W p l e (headSpec wsX7_nextNow (rmk 3 67)).room s m args below meth c H locs 0 0 (MQ below (PI D A (w μ) r) args s 0 0 A) (F0 m 52 ls [.int s0]) := by
    intro k4 hk4 x2 s0 H locs ls hS hl h
    unfold f_X7_nextNow_b52 at h
    refine lv_istore_n (lv' := [(1, .int s0), (0, .ref (ad q)), (2, .int x2)]) hx hb dX7_nextNow_52 rfl hl (by decide) rfl (fun ls hl => ?_)
    refine lv_iinc (v := x2 + 1) (lv' := [(2, .int (x2 + 1)), (1, .int s0), (0, .ref (ad q))]) hx hb dX7_nextNow_53 hl (k := 2) rfl rfl (by decide) rfl (fun ls hl => ?_)
    refine lv_goto (tgt := 4) hx hb dX7_nextNow_56 (by decide) ?_
    exact hk4 s0 (x2 + 1) _ _ _ hS (lv_sub hl [2, 1, 0] rfl) h
  have hb42 : ∀ (k4 : Int32 → Int32 → Mem → Option Int32), (∀ (x1 : Int32) (x2 : Int32) (H : Heap) (locs : List Loc) (ls : Array Slot), HS D A (w μ) s.heap H locs → lv_has ls 4 [(0, .ref (ad q)), (1, .int x1), (2, .int x2)] → k4 x1 x2 μ = some r → W p l e (headSpec wsX7_nextNow (rmk 3 67)).room s m args below meth c H locs 0 0 (MQ below (PI D A (w μ) r) args s 0 0 A) (F0 m 4 ls [])) → ∀ (x1 : Int32) (x2 : Int32) (s0 : Int32) (H : Heap) (locs : List Loc) (ls : Array Slot), HS D A (w μ) s.heap H locs → lv_has ls 4 [(0, .ref (ad q)), (1, .int x1), (2, .int x2)] → f_X7_nextNow_b42 q k4 x1 x2 s0 μ = some r → W p l e (headSpec wsX7_nextNow (rmk 3 67)).room s m args below meth c H locs 0 0 (MQ below (PI D A (w μ) r) args s 0 0 A) (F0 m 42 ls [.int s0]) := by
    intro k4 hk4 x1 x2 s0 H locs ls hS hl h
    unfold f_X7_nextNow_b42 at h
    refine lv_istore_n (lv' := [(3, .int s0), (0, .ref (ad q)), (1, .int x1), (2, .int x2)]) hx hb dX7_nextNow_42 rfl hl (by decide) rfl (fun ls hl => ?_)
    refine lv_iload_n hx hb dX7_nextNow_43 rfl (lv_at hl 0 rfl) ?_
    refine lv_if_eq (tgt := 51) hx hb dX7_nextNow_44 (by decide) (fun cc => ?_) (fun cc => ?_)
    · replace h := it h cc
      refine lv_iload_n hx hb dX7_nextNow_51 rfl (lv_at hl 2 rfl) ?_
      exact hb52 k4 hk4 x2 x1 _ _ _ hS (lv_sub hl [1, 3] rfl) h
    · replace h := ie h cc
      refine lv_iload_n hx hb dX7_nextNow_47 rfl (lv_at hl 3 rfl) ?_
      refine lv_goto (tgt := 52) hx hb dX7_nextNow_48 (by decide) ?_
      exact hb52 k4 hk4 x2 x2 _ _ _ hS (lv_sub hl [1, 3] rfl) h
  have hb41 : ∀ (k4 : Int32 → Int32 → Mem → Option Int32), (∀ (x1 : Int32) (x2 : Int32) (H : Heap) (locs : List Loc) (ls : Array Slot), HS D A (w μ) s.heap H locs → lv_has ls 4 [(0, .ref (ad q)), (1, .int x1), (2, .int x2)] → k4 x1 x2 μ = some r → W p l e (headSpec wsX7_nextNow (rmk 3 67)).room s m args below meth c H locs 0 0 (MQ below (PI D A (w μ) r) args s 0 0 A) (F0 m 4 ls [])) → ∀ (x1 : Int32) (x2 : Int32) (H : Heap) (locs : List Loc) (ls : Array Slot), HS D A (w μ) s.heap H locs → lv_has ls 4 [(0, .ref (ad q)), (1, .int x1), (2, .int x2)] → f_X7_nextNow_b41 q k4 x1 x2 μ = some r → W p l e (headSpec wsX7_nextNow (rmk 3 67)).room s m args below meth c H locs 0 0 (MQ below (PI D A (w μ) r) args s 0 0 A) (F0 m 41 ls []) := by
    intro k4 hk4 x1 x2 H locs ls hS hl h
    unfold f_X7_nextNow_b41 at h
    refine lv_iconst (v := 0) hx hb dX7_nextNow_41 (by decide) ?_
    exact hb42 k4 hk4 x1 x2 0 _ _ _ hS (lv_sub hl [0, 1, 2] rfl) h
  have hb37 : ∀ (k4 : Int32 → Int32 → Mem → Option Int32), (∀ (x1 : Int32) (x2 : Int32) (H : Heap) (locs : List Loc) (ls : Array Slot), HS D A (w μ) s.heap H locs → lv_has ls 4 [(0, .ref (ad q)), (1, .int x1), (2, .int x2)] → k4 x1 x2 μ = some r → W p l e (headSpec wsX7_nextNow (rmk 3 67)).room s m args below meth c H locs 0 0 (MQ below (PI D A (w μ) r) args s 0 0 A) (F0 m 4 ls [])) → ∀ (x1 : Int32) (x2 : Int32) (H : Heap) (locs : List Loc) (ls : Array Slot), HS D A (w μ) s.heap H locs → lv_has ls 4 [(0, .ref (ad q)), (1, .int x1), (2, .int x2)] → f_X7_nextNow_b37 q k4 x1 x2 μ = some r → W p l e (headSpec wsX7_nextNow (rmk 3 67)).room s m args below meth c H locs 0 0 (MQ below (PI D A (w μ) r) args s 0 0 A) (F0 m 37 ls []) := by
    intro k4 hk4 x1 x2 H locs ls hS hl h
    unfold f_X7_nextNow_b37 at h
    refine lv_iconst (v := 1) hx hb dX7_nextNow_37 (by decide) ?_
    refine lv_goto (tgt := 42) hx hb dX7_nextNow_38 (by decide) ?_
    exact hb42 k4 hk4 x1 x2 1 _ _ _ hS (lv_sub hl [0, 1, 2] rfl) h
  have hb4 : ∀ (fu : Nat) (x1 : Int32) (x2 : Int32) (H : Heap) (locs : List Loc) (ls : Array Slot), HS D A (w μ) s.heap H locs → lv_has ls 4 [(0, .ref (ad q)), (1, .int x1), (2, .int x2)] → f_X7_nextNow_b4 q fu x1 x2 μ = some r → W p l e (headSpec wsX7_nextNow (rmk 3 67)).room s m args below meth c H locs 0 0 (MQ below (PI D A (w μ) r) args s 0 0 A) (F0 m 4 ls []) := by
    intro fu
    induction fu with
    | zero =>
      intro x1 x2 H locs ls hS hl h
      rw [f_X7_nextNow_b4] at h
      cases h
    | succ fuel4 ih4 =>
      intro x1 x2 H locs ls hS hl h
      rw [f_X7_nextNow_b4] at h
      refine lv_iload_n hx hb dX7_nextNow_4 rfl (lv_at hl 2 rfl) ?_
      refine lv_bipush (v := 32) hx hb dX7_nextNow_5 (by decide) ?_
      refine lv_icmp_ge (tgt := 59) hx hb dX7_nextNow_7 (by decide) (fun cc => ?_) (fun cc => ?_)
      · replace h := it h cc
        refine lv_bipush (v := 31) hx hb dX7_nextNow_59 (by decide) ?_
        refine lv_istore_n (lv' := [(2, .int 31), (0, .ref (ad q)), (1, .int x1)]) hx hb dX7_nextNow_61 rfl hl (by decide) rfl (fun ls hl => ?_)
        exact hb62 FU x1 31 _ _ _ hS (lv_sub hl [1, 2, 0] rfl) h
      · replace h := ie h cc
        refine lv_aload_n hx hb dX7_nextNow_10 rfl (lv_at hl 0 rfl) ?_
        refine lv_iload_n hx hb dX7_nextNow_11 rfl (lv_at hl 2 rfl) ?_
        obtain ⟨v3, ev3, h⟩ := ob h
        refine r_ci hS (r_runV (As := [.int x2]) (rest := []) X hS (c_X7_canBeDug l hE (w := w) (ad := ad) (μ := μ) (D := D) (cI := cI) (cG := cG) (cL := cL) hw ev3) (cwV 1 X.1.2.2.2.2 gX7_nextNow_X7_canBeDug rfl rfl rfl (by decide +kernel) ⟨Nat.le_of_ble_eq_true rfl, Nat.le_of_ble_eq_true rfl⟩) (q0 := q) (ci := 5) rfl (hw.1 μ).1 rfl hl.1 rfl (Nat.le_of_ble_eq_true rfl) dX7_nextNow_12 ⟨Nat.zero_le _, Nat.zero_le _⟩) (fun H locs hS => ?_)
        refine lv_if_eq (tgt := 41) hx hb dX7_nextNow_15 (by decide) (fun cc => ?_) (fun cc => ?_)
        · replace h := it h cc
          exact hb41 (f_X7_nextNow_b4 q fuel4) ih4 x1 x2 _ _ _ hS (lv_sub hl [0, 1, 2] rfl) h
        · replace h := ie h cc
          refine lv_iload_n hx hb dX7_nextNow_18 rfl (lv_at hl 1 rfl) ?_
          refine lv_if_lt (tgt := 37) hx hb dX7_nextNow_19 (by decide) (fun cc => ?_) (fun cc => ?_)
          · replace h := it h cc
            exact hb37 (f_X7_nextNow_b4 q fuel4) ih4 x1 x2 _ _ _ hS (lv_sub hl [0, 1, 2] rfl) h
          · replace h := ie h cc
            refine lv_aload_n hx hb dX7_nextNow_22 rfl (lv_at hl 0 rfl) ?_
            refine lv_iload_n hx hb dX7_nextNow_23 rfl (lv_at hl 2 rfl) ?_
            refine lv_iconst (v := 3) hx hb dX7_nextNow_24 (by decide) ?_
            obtain ⟨v4, ev4, h⟩ := ob h
            refine r_ci hS (r_runV (As := [.int x2, .int 3]) (rest := []) X hS (c_X7_of l hE (w := w) (ad := ad) (μ := μ) (D := D) (cI := cI) (cG := cG) (cL := cL) hw ev4) (cwV 2 X.1.2.2.2.2 gX7_nextNow_X7_of rfl rfl rfl (by decide +kernel) ⟨Nat.le_of_ble_eq_true rfl, Nat.le_of_ble_eq_true rfl⟩) (q0 := q) (ci := 5) rfl (hw.1 μ).1 rfl hl.1 rfl (Nat.le_of_ble_eq_true rfl) dX7_nextNow_25 ⟨Nat.zero_le _, Nat.zero_le _⟩) (fun H locs hS => ?_)
            refine lv_aload_n hx hb dX7_nextNow_28 rfl (lv_at hl 0 rfl) ?_
            refine lv_iload_n hx hb dX7_nextNow_29 rfl (lv_at hl 1 rfl) ?_
            refine lv_iconst (v := 3) hx hb dX7_nextNow_30 (by decide) ?_
            obtain ⟨v5, ev5, h⟩ := ob h
            refine r_ci hS (r_runV (As := [.int x1, .int 3]) (rest := [.int v4]) X hS (c_X7_of l hE (w := w) (ad := ad) (μ := μ) (D := D) (cI := cI) (cG := cG) (cL := cL) hw ev5) (cwV 2 X.1.2.2.2.2 gX7_nextNow_X7_of rfl rfl rfl (by decide +kernel) ⟨Nat.le_of_ble_eq_true rfl, Nat.le_of_ble_eq_true rfl⟩) (q0 := q) (ci := 5) rfl (hw.1 μ).1 rfl hl.1 rfl (Nat.le_of_ble_eq_true rfl) dX7_nextNow_31 ⟨Nat.zero_le _, Nat.zero_le _⟩) (fun H locs hS => ?_)
            refine lv_icmp_ge (tgt := 41) hx hb dX7_nextNow_34 (by decide) (fun cc => ?_) (fun cc => ?_)
            · replace h := it h cc
              exact hb41 (f_X7_nextNow_b4 q fuel4) ih4 x1 x2 _ _ _ hS (lv_sub hl [0, 1, 2] rfl) h
            · replace h := ie h cc
              exact hb37 (f_X7_nextNow_b4 q fuel4) ih4 x1 x2 _ _ _ hS (lv_sub hl [0, 1, 2] rfl) h
  unfold f_X7_nextNow at h
  refine lv_iconst (v := (-1)) hx hb dX7_nextNow_0 (by decide) ?_
  refine lv_istore_n (lv' := [(1, .int (-1)), (0, .ref (ad q))]) hx hb dX7_nextNow_1 rfl hl (by decide) rfl (fun ls hl => ?_)
  refine lv_iconst (v := 0) hx hb dX7_nextNow_2 (by decide) ?_
  refine lv_istore_n (lv' := [(2, .int 0), (1, .int (-1)), (0, .ref (ad q))]) hx hb dX7_nextNow_3 rfl hl (by decide) rfl (fun ls hl => ?_)
  exact hb4 FU (-1) 0 _ _ _ hS (lv_sub hl [2, 1, 0] rfl) h
def f_X7_manyToDig_b33 (q : Nat) (k4 : Int32 → Int32 → Mem → Option Int32) (x2 : Int32) (s0 : Int32) (s1 : Int32) (μ : Mem) : Option Int32 := k4 (s1 + s0) (x2 + 1) μ
def f_X7_manyToDig_b28 (q : Nat) (k4 : Int32 → Int32 → Mem → Option Int32) (x2 : Int32) (s0 : Int32) (μ : Mem) : Option Int32 := f_X7_manyToDig_b33 q k4 x2 1 s0 μ
def f_X7_manyToDig_b4 (q : Nat)  : Nat → Int32 → Int32 → Mem → Option Int32
  | 0, _, _, _ => none
  | fuel4 + 1, x1, x2, μ => (if 32 ≤ x2 then (some x1) else (f_X7_canBeDug q x2 μ).bind (fun v1 => (if v1 = 0 then (f_X7_of q x2 0 μ).bind (fun v2 => (if v2 = 0 then f_X7_manyToDig_b28 q (f_X7_manyToDig_b4 q fuel4) x2 x1 μ else f_X7_manyToDig_b33 q (f_X7_manyToDig_b4 q fuel4) x2 0 x1 μ)) else f_X7_manyToDig_b28 q (f_X7_manyToDig_b4 q fuel4) x2 x1 μ)))
def f_X7_manyToDig (q : Nat) (μ : Mem) : Option Int32 := f_X7_manyToDig_b4 q FU 0 0 μ
set_option maxHeartbeats 4000000 in
set_option maxRecDepth 100000 in
theorem c_X7_manyToDig (l : Launch) {D : va_G} {cI cG cL : ClassId} {A : Nat → Prop} {EN : State → Heap → Prop} (hE : EnOK EN A) {w : Mem → va_W} {ad : Nat → Nat} {hh : Int64} {q : Nat} {μ : Mem} {r : Int32} (hw : ModelAt cI w ad hh q) (h : f_X7_manyToDig q μ = some r) : Met l yX7_manyToDig wsX7_manyToDig (rmk 3 67) (WPre D (tyl cI cG cL) A EN (w μ) [.ref (ad q)]) (PI D A (w μ) r) 0 0 A := by
  refine met_start (cc := cX7_manyToDig) (nL := 3) (ret := (some .int)) (own := RX7) hE (by decide) rfl rfl (Nat.le_of_ble_eq_true rfl) (fun p e s m args below meth c ls X hS hl hr hlk => ?_)
  have hx := X.1.1
  have hb := X.1.2.1
  replace hl : lv_has ls 3 [(0, .ref (ad q))] := hl
  have hb33 : ∀ (k4 : Int32 → Int32 → Mem → Option Int32), (∀ (x1 : Int32) (x2 : Int32) (H : Heap) (locs : List Loc) (ls : Array Slot), HS D A (w μ) s.heap H locs → lv_has ls 3 [(0, .ref (ad q)), (1, .int x1), (2, .int x2)] → k4 x1 x2 μ = some r → W p l e (headSpec wsX7_manyToDig (rmk 3 67)).room s m args below meth c H locs 0 0 (MQ below (PI D A (w μ) r) args s 0 0 A) (F0 m 4 ls [])) → ∀ (x2 : Int32) (s0 : Int32) (s1 : Int32) (H : Heap) (locs : List Loc) (ls : Array Slot), HS D A (w μ) s.heap H locs → lv_has ls 3 [(0, .ref (ad q)), (2, .int x2)] → f_X7_manyToDig_b33 q k4 x2 s0 s1 μ = some r → W p l e (headSpec wsX7_manyToDig (rmk 3 67)).room s m args below meth c H locs 0 0 (MQ below (PI D A (w μ) r) args s 0 0 A) (F0 m 33 ls [.int s0, .int s1]) := by
    intro k4 hk4 x2 s0 s1 H locs ls hS hl h
    unfold f_X7_manyToDig_b33 at h
    refine lv_iadd hx hb dX7_manyToDig_33 ?_
    refine lv_istore_n (lv' := [(1, .int (s1 + s0)), (0, .ref (ad q)), (2, .int x2)]) hx hb dX7_manyToDig_34 rfl hl (by decide) rfl (fun ls hl => ?_)
    refine lv_iinc (v := x2 + 1) (lv' := [(2, .int (x2 + 1)), (1, .int (s1 + s0)), (0, .ref (ad q))]) hx hb dX7_manyToDig_35 hl (k := 2) rfl rfl (by decide) rfl (fun ls hl => ?_)
    refine lv_goto (tgt := 4) hx hb dX7_manyToDig_38 (by decide) ?_
    exact hk4 (s1 + s0) (x2 + 1) _ _ _ hS (lv_sub hl [2, 1, 0] rfl) h
  have hb28 : ∀ (k4 : Int32 → Int32 → Mem → Option Int32), (∀ (x1 : Int32) (x2 : Int32) (H : Heap) (locs : List Loc) (ls : Array Slot), HS D A (w μ) s.heap H locs → lv_has ls 3 [(0, .ref (ad q)), (1, .int x1), (2, .int x2)] → k4 x1 x2 μ = some r → W p l e (headSpec wsX7_manyToDig (rmk 3 67)).room s m args below meth c H locs 0 0 (MQ below (PI D A (w μ) r) args s 0 0 A) (F0 m 4 ls [])) → ∀ (x2 : Int32) (s0 : Int32) (H : Heap) (locs : List Loc) (ls : Array Slot), HS D A (w μ) s.heap H locs → lv_has ls 3 [(0, .ref (ad q)), (2, .int x2)] → f_X7_manyToDig_b28 q k4 x2 s0 μ = some r → W p l e (headSpec wsX7_manyToDig (rmk 3 67)).room s m args below meth c H locs 0 0 (MQ below (PI D A (w μ) r) args s 0 0 A) (F0 m 28 ls [.int s0]) := by
    intro k4 hk4 x2 s0 H locs ls hS hl h
    unfold f_X7_manyToDig_b28 at h
    refine lv_iconst (v := 1) hx hb dX7_manyToDig_28 (by decide) ?_
    refine lv_goto (tgt := 33) hx hb dX7_manyToDig_29 (by decide) ?_
    exact hb33 k4 hk4 x2 1 s0 _ _ _ hS (lv_sub hl [0, 1] rfl) h
  have hb4 : ∀ (fu : Nat) (x1 : Int32) (x2 : Int32) (H : Heap) (locs : List Loc) (ls : Array Slot), HS D A (w μ) s.heap H locs → lv_has ls 3 [(0, .ref (ad q)), (1, .int x1), (2, .int x2)] → f_X7_manyToDig_b4 q fu x1 x2 μ = some r → W p l e (headSpec wsX7_manyToDig (rmk 3 67)).room s m args below meth c H locs 0 0 (MQ below (PI D A (w μ) r) args s 0 0 A) (F0 m 4 ls []) := by
    intro fu
    induction fu with
    | zero =>
      intro x1 x2 H locs ls hS hl h
      rw [f_X7_manyToDig_b4] at h
      cases h
    | succ fuel4 ih4 =>
      intro x1 x2 H locs ls hS hl h
      rw [f_X7_manyToDig_b4] at h
      refine lv_iload_n hx hb dX7_manyToDig_4 rfl (lv_at hl 2 rfl) ?_
      refine lv_bipush (v := 32) hx hb dX7_manyToDig_5 (by decide) ?_
      refine lv_icmp_ge (tgt := 41) hx hb dX7_manyToDig_7 (by decide) (fun cc => ?_) (fun cc => ?_)
      · replace h := it h cc
        refine lv_iload_n hx hb dX7_manyToDig_41 rfl (lv_at hl 1 rfl) ?_
        cases h
        exact r_iret X hS hr hlk dX7_manyToDig_42
      · replace h := ie h cc
        refine lv_iload_n hx hb dX7_manyToDig_10 rfl (lv_at hl 1 rfl) ?_
        refine lv_aload_n hx hb dX7_manyToDig_11 rfl (lv_at hl 0 rfl) ?_
        refine lv_iload_n hx hb dX7_manyToDig_12 rfl (lv_at hl 2 rfl) ?_
        obtain ⟨v1, ev1, h⟩ := ob h
        refine r_ci hS (r_runV (As := [.int x2]) (rest := [.int x1]) X hS (c_X7_canBeDug l hE (w := w) (ad := ad) (μ := μ) (D := D) (cI := cI) (cG := cG) (cL := cL) hw ev1) (cwV 1 X.1.2.2.2.2 gX7_manyToDig_X7_canBeDug rfl rfl rfl (by decide +kernel) ⟨Nat.le_of_ble_eq_true rfl, Nat.le_of_ble_eq_true rfl⟩) (q0 := q) (ci := 5) rfl (hw.1 μ).1 rfl hl.1 rfl (Nat.le_of_ble_eq_true rfl) dX7_manyToDig_13 ⟨Nat.zero_le _, Nat.zero_le _⟩) (fun H locs hS => ?_)
        refine lv_if_ne (tgt := 28) hx hb dX7_manyToDig_16 (by decide) (fun cc => ?_) (fun cc => ?_)
        · replace h := ie h cc
          exact hb28 (f_X7_manyToDig_b4 q fuel4) ih4 x2 x1 _ _ _ hS (lv_sub hl [0, 2] rfl) h
        · replace h := it h cc
          refine lv_aload_n hx hb dX7_manyToDig_19 rfl (lv_at hl 0 rfl) ?_
          refine lv_iload_n hx hb dX7_manyToDig_20 rfl (lv_at hl 2 rfl) ?_
          refine lv_iconst (v := 0) hx hb dX7_manyToDig_21 (by decide) ?_
          obtain ⟨v2, ev2, h⟩ := ob h
          refine r_ci hS (r_runV (As := [.int x2, .int 0]) (rest := [.int x1]) X hS (c_X7_of l hE (w := w) (ad := ad) (μ := μ) (D := D) (cI := cI) (cG := cG) (cL := cL) hw ev2) (cwV 2 X.1.2.2.2.2 gX7_manyToDig_X7_of rfl rfl rfl (by decide +kernel) ⟨Nat.le_of_ble_eq_true rfl, Nat.le_of_ble_eq_true rfl⟩) (q0 := q) (ci := 5) rfl (hw.1 μ).1 rfl hl.1 rfl (Nat.le_of_ble_eq_true rfl) dX7_manyToDig_22 ⟨Nat.zero_le _, Nat.zero_le _⟩) (fun H locs hS => ?_)
          refine lv_if_ne (tgt := 32) hx hb dX7_manyToDig_25 (by decide) (fun cc => ?_) (fun cc => ?_)
          · replace h := ie h cc
            refine lv_iconst (v := 0) hx hb dX7_manyToDig_32 (by decide) ?_
            exact hb33 (f_X7_manyToDig_b4 q fuel4) ih4 x2 0 x1 _ _ _ hS (lv_sub hl [0, 2] rfl) h
          · replace h := it h cc
            exact hb28 (f_X7_manyToDig_b4 q fuel4) ih4 x2 x1 _ _ _ hS (lv_sub hl [0, 2] rfl) h
  unfold f_X7_manyToDig at h
  refine lv_iconst (v := 0) hx hb dX7_manyToDig_0 (by decide) ?_
  refine lv_istore_n (lv' := [(1, .int 0), (0, .ref (ad q))]) hx hb dX7_manyToDig_1 rfl hl (by decide) rfl (fun ls hl => ?_)
  refine lv_iconst (v := 0) hx hb dX7_manyToDig_2 (by decide) ?_
  refine lv_istore_n (lv' := [(2, .int 0), (1, .int 0), (0, .ref (ad q))]) hx hb dX7_manyToDig_3 rfl hl (by decide) rfl (fun ls hl => ?_)
  exact hb4 FU 0 0 _ _ _ hS (lv_sub hl [2, 1, 0] rfl) h
def f_X7_dig (q : Nat) (a1 : Int32) (μ : Mem) : Option (Int32 × Mem) := (f_X7_nextNow q μ).bind (fun v1 => (f_X7_lay q v1 0 1 μ).bind (fun μ2 => (f_X7_lay q v1 1 a1 μ2).bind (fun μ3 => (f_X7_lay q v1 2 0 μ3).bind (fun μ4 => (f_X7_lay q v1 3 0 μ4).bind (fun μ5 => (f_X7_lay q v1 4 1 μ5).bind (fun μ6 => (f_X7_lay q v1 5 0 μ6).bind (fun μ7 => (some (v1, μ7)))))))))
set_option maxHeartbeats 4000000 in
set_option maxRecDepth 100000 in
theorem c_X7_dig (l : Launch) {D : va_G} {cI cG cL : ClassId} {A : Nat → Prop} {EN : State → Heap → Prop} (hE : EnOK EN A) {w : Mem → va_W} {ad : Nat → Nat} {hh : Int64} {q : Nat} {a1 : Int32} {μ : Mem} {r : Int32} {μ' : Mem} (hw : ModelAt cI w ad hh q) (h : f_X7_dig q a1 μ = some (r, μ')) : Met l yX7_dig wsX7_dig (rmk 4 90) (WPre D (tyl cI cG cL) A EN (w μ) [.ref (ad q), .int a1]) (PI D A (w μ') r) 0 0 A := by
  refine met_start (cc := cX7_dig) (nL := 3) (ret := (some .int)) (own := RX7) hE (by decide) rfl rfl (Nat.le_of_ble_eq_true rfl) (fun p e s m args below meth c ls X hS hl hr hlk => ?_)
  have hx := X.1.1
  have hb := X.1.2.1
  replace hl : lv_has ls 3 [(0, .ref (ad q)), (1, .int a1)] := hl
  unfold f_X7_dig at h
  refine lv_aload_n hx hb dX7_dig_0 rfl (lv_at hl 0 rfl) ?_
  obtain ⟨v1, ev1, h⟩ := ob h
  refine r_ci hS (r_runV (As := []) (rest := []) X hS (c_X7_nextNow l hE (w := w) (ad := ad) (μ := μ) (D := D) (cI := cI) (cG := cG) (cL := cL) hw ev1) (cwV 0 X.1.2.2.2.2 gX7_dig_X7_nextNow rfl rfl rfl (by decide +kernel) ⟨Nat.le_of_ble_eq_true rfl, Nat.le_of_ble_eq_true rfl⟩) (q0 := q) (ci := 5) rfl (hw.1 μ).1 rfl hl.1 rfl (Nat.le_of_ble_eq_true rfl) dX7_dig_1 ⟨Nat.zero_le _, Nat.zero_le _⟩) (fun H locs hS => ?_)
  refine lv_istore_n (lv' := [(2, .int v1), (0, .ref (ad q)), (1, .int a1)]) hx hb dX7_dig_4 rfl hl (by decide) rfl (fun ls hl => ?_)
  refine lv_aload_n hx hb dX7_dig_5 rfl (lv_at hl 1 rfl) ?_
  refine lv_iload_n hx hb dX7_dig_6 rfl (lv_at hl 0 rfl) ?_
  refine lv_iconst (v := 0) hx hb dX7_dig_7 (by decide) ?_
  refine lv_iconst (v := 1) hx hb dX7_dig_8 (by decide) ?_
  obtain ⟨μ2, eμ2, h⟩ := ob h
  refine r_cv hS (r_runV (As := [.int v1, .int 0, .int 1]) (rest := []) X hS (c_X7_lay l hE (w := w) (ad := ad) (μ := μ) (D := D) (cI := cI) (cG := cG) (cL := cL) hw eμ2) (cwV 3 X.1.2.2.2.2 gX7_dig_X7_lay rfl rfl rfl (by decide +kernel) ⟨Nat.le_of_ble_eq_true rfl, Nat.le_of_ble_eq_true rfl⟩) (q0 := q) (ci := 5) rfl (hw.1 μ).1 rfl hl.1 rfl (Nat.le_of_ble_eq_true rfl) dX7_dig_9 ⟨Nat.zero_le _, Nat.zero_le _⟩) (fun H locs hS => ?_)
  refine lv_aload_n hx hb dX7_dig_12 rfl (lv_at hl 1 rfl) ?_
  refine lv_iload_n hx hb dX7_dig_13 rfl (lv_at hl 0 rfl) ?_
  refine lv_iconst (v := 1) hx hb dX7_dig_14 (by decide) ?_
  refine lv_iload_n hx hb dX7_dig_15 rfl (lv_at hl 2 rfl) ?_
  obtain ⟨μ3, eμ3, h⟩ := ob h
  refine r_cv hS (r_runV (As := [.int v1, .int 1, .int a1]) (rest := []) X hS (c_X7_lay l hE (w := w) (ad := ad) (μ := μ2) (D := D) (cI := cI) (cG := cG) (cL := cL) hw eμ3) (cwV 3 X.1.2.2.2.2 gX7_dig_X7_lay rfl rfl rfl (by decide +kernel) ⟨Nat.le_of_ble_eq_true rfl, Nat.le_of_ble_eq_true rfl⟩) (q0 := q) (ci := 5) rfl (hw.1 μ2).1 rfl hl.1 rfl (Nat.le_of_ble_eq_true rfl) dX7_dig_16 ⟨Nat.zero_le _, Nat.zero_le _⟩) (fun H locs hS => ?_)
  refine lv_aload_n hx hb dX7_dig_19 rfl (lv_at hl 1 rfl) ?_
  refine lv_iload_n hx hb dX7_dig_20 rfl (lv_at hl 0 rfl) ?_
  refine lv_iconst (v := 2) hx hb dX7_dig_21 (by decide) ?_
  refine lv_iconst (v := 0) hx hb dX7_dig_22 (by decide) ?_
  obtain ⟨μ4, eμ4, h⟩ := ob h
  refine r_cv hS (r_runV (As := [.int v1, .int 2, .int 0]) (rest := []) X hS (c_X7_lay l hE (w := w) (ad := ad) (μ := μ3) (D := D) (cI := cI) (cG := cG) (cL := cL) hw eμ4) (cwV 3 X.1.2.2.2.2 gX7_dig_X7_lay rfl rfl rfl (by decide +kernel) ⟨Nat.le_of_ble_eq_true rfl, Nat.le_of_ble_eq_true rfl⟩) (q0 := q) (ci := 5) rfl (hw.1 μ3).1 rfl hl.1 rfl (Nat.le_of_ble_eq_true rfl) dX7_dig_23 ⟨Nat.zero_le _, Nat.zero_le _⟩) (fun H locs hS => ?_)
  refine lv_aload_n hx hb dX7_dig_26 rfl (lv_at hl 1 rfl) ?_
  refine lv_iload_n hx hb dX7_dig_27 rfl (lv_at hl 0 rfl) ?_
  refine lv_iconst (v := 3) hx hb dX7_dig_28 (by decide) ?_
  refine lv_iconst (v := 0) hx hb dX7_dig_29 (by decide) ?_
  obtain ⟨μ5, eμ5, h⟩ := ob h
  refine r_cv hS (r_runV (As := [.int v1, .int 3, .int 0]) (rest := []) X hS (c_X7_lay l hE (w := w) (ad := ad) (μ := μ4) (D := D) (cI := cI) (cG := cG) (cL := cL) hw eμ5) (cwV 3 X.1.2.2.2.2 gX7_dig_X7_lay rfl rfl rfl (by decide +kernel) ⟨Nat.le_of_ble_eq_true rfl, Nat.le_of_ble_eq_true rfl⟩) (q0 := q) (ci := 5) rfl (hw.1 μ4).1 rfl hl.1 rfl (Nat.le_of_ble_eq_true rfl) dX7_dig_30 ⟨Nat.zero_le _, Nat.zero_le _⟩) (fun H locs hS => ?_)
  refine lv_aload_n hx hb dX7_dig_33 rfl (lv_at hl 1 rfl) ?_
  refine lv_iload_n hx hb dX7_dig_34 rfl (lv_at hl 0 rfl) ?_
  refine lv_iconst (v := 4) hx hb dX7_dig_35 (by decide) ?_
  refine lv_iconst (v := 1) hx hb dX7_dig_36 (by decide) ?_
  obtain ⟨μ6, eμ6, h⟩ := ob h
  refine r_cv hS (r_runV (As := [.int v1, .int 4, .int 1]) (rest := []) X hS (c_X7_lay l hE (w := w) (ad := ad) (μ := μ5) (D := D) (cI := cI) (cG := cG) (cL := cL) hw eμ6) (cwV 3 X.1.2.2.2.2 gX7_dig_X7_lay rfl rfl rfl (by decide +kernel) ⟨Nat.le_of_ble_eq_true rfl, Nat.le_of_ble_eq_true rfl⟩) (q0 := q) (ci := 5) rfl (hw.1 μ5).1 rfl hl.1 rfl (Nat.le_of_ble_eq_true rfl) dX7_dig_37 ⟨Nat.zero_le _, Nat.zero_le _⟩) (fun H locs hS => ?_)
  refine lv_aload_n hx hb dX7_dig_40 rfl (lv_at hl 1 rfl) ?_
  refine lv_iload_n hx hb dX7_dig_41 rfl (lv_at hl 0 rfl) ?_
  refine lv_iconst (v := 5) hx hb dX7_dig_42 (by decide) ?_
  refine lv_iconst (v := 0) hx hb dX7_dig_43 (by decide) ?_
  obtain ⟨μ7, eμ7, h⟩ := ob h
  refine r_cv hS (r_runV (As := [.int v1, .int 5, .int 0]) (rest := []) X hS (c_X7_lay l hE (w := w) (ad := ad) (μ := μ6) (D := D) (cI := cI) (cG := cG) (cL := cL) hw eμ7) (cwV 3 X.1.2.2.2.2 gX7_dig_X7_lay rfl rfl rfl (by decide +kernel) ⟨Nat.le_of_ble_eq_true rfl, Nat.le_of_ble_eq_true rfl⟩) (q0 := q) (ci := 5) rfl (hw.1 μ6).1 rfl hl.1 rfl (Nat.le_of_ble_eq_true rfl) dX7_dig_44 ⟨Nat.zero_le _, Nat.zero_le _⟩) (fun H locs hS => ?_)
  refine lv_iload_n hx hb dX7_dig_47 rfl (lv_at hl 0 rfl) ?_
  obtain ⟨rfl, rfl⟩ := pr2 h
  exact r_iret X hS hr hlk dX7_dig_48
def f_X7_becomesWild_b2 (q : Nat)  : Nat → Int32 → Int32 → Mem → Option Mem
  | 0, _, _, _ => none
  | fuel2 + 1, x1, x2, μ => (if 14 ≤ x2 then (some μ) else (f_X7_lay q x1 x2 0 μ).bind (fun μ1 => f_X7_becomesWild_b2 q fuel2 x1 (x2 + 1) μ1))
def f_X7_becomesWild (q : Nat) (a1 : Int32) (μ : Mem) : Option Mem := f_X7_becomesWild_b2 q FU a1 0 μ
set_option maxHeartbeats 4000000 in
set_option maxRecDepth 100000 in
theorem c_X7_becomesWild (l : Launch) {D : va_G} {cI cG cL : ClassId} {A : Nat → Prop} {EN : State → Heap → Prop} (hE : EnOK EN A) {w : Mem → va_W} {ad : Nat → Nat} {hh : Int64} {q : Nat} {a1 : Int32} {μ : Mem}  {μ' : Mem} (hw : ModelAt cI w ad hh q) (h : f_X7_becomesWild q a1 μ = some μ') : Met l yX7_becomesWild wsX7_becomesWild (rmk 1 23) (WPre D (tyl cI cG cL) A EN (w μ) [.ref (ad q), .int a1]) (PV D A (w μ')) 0 0 A := by
  refine met_start (cc := cX7_becomesWild) (nL := 3) (ret := none) (own := RX7) hE (by decide) rfl rfl (Nat.le_of_ble_eq_true rfl) (fun p e s m args below meth c ls X hS hl hr hlk => ?_)
  have hx := X.1.1
  have hb := X.1.2.1
  replace hl : lv_has ls 3 [(0, .ref (ad q)), (1, .int a1)] := hl
  have hb2 : ∀ (fu : Nat) (x1 : Int32) (x2 : Int32) (μ : Mem) (H : Heap) (locs : List Loc) (ls : Array Slot), HS D A (w μ) s.heap H locs → lv_has ls 3 [(0, .ref (ad q)), (1, .int x1), (2, .int x2)] → f_X7_becomesWild_b2 q fu x1 x2 μ = some μ' → W p l e (headSpec wsX7_becomesWild (rmk 1 23)).room s m args below meth c H locs 0 0 (MQ below (PV D A (w μ')) args s 0 0 A) (F0 m 2 ls []) := by
    intro fu
    induction fu with
    | zero =>
      intro x1 x2 μ H locs ls hS hl h
      rw [f_X7_becomesWild_b2] at h
      cases h
    | succ fuel2 ih2 =>
      intro x1 x2 μ H locs ls hS hl h
      rw [f_X7_becomesWild_b2] at h
      refine lv_iload_n hx hb dX7_becomesWild_2 rfl (lv_at hl 2 rfl) ?_
      refine lv_bipush (v := 14) hx hb dX7_becomesWild_3 (by decide) ?_
      refine lv_icmp_ge (tgt := 21) hx hb dX7_becomesWild_5 (by decide) (fun cc => ?_) (fun cc => ?_)
      · replace h := it h cc
        cases h
        exact r_vret X hS hr hlk dX7_becomesWild_21
      · replace h := ie h cc
        refine lv_aload_n hx hb dX7_becomesWild_8 rfl (lv_at hl 0 rfl) ?_
        refine lv_iload_n hx hb dX7_becomesWild_9 rfl (lv_at hl 1 rfl) ?_
        refine lv_iload_n hx hb dX7_becomesWild_10 rfl (lv_at hl 2 rfl) ?_
        refine lv_iconst (v := 0) hx hb dX7_becomesWild_11 (by decide) ?_
        obtain ⟨μ1, eμ1, h⟩ := ob h
        refine r_cv hS (r_runV (As := [.int x1, .int x2, .int 0]) (rest := []) X hS (c_X7_lay l hE (w := w) (ad := ad) (μ := μ) (D := D) (cI := cI) (cG := cG) (cL := cL) hw eμ1) (cwV 3 X.1.2.2.2.2 gX7_becomesWild_X7_lay rfl rfl rfl (by decide +kernel) ⟨Nat.le_of_ble_eq_true rfl, Nat.le_of_ble_eq_true rfl⟩) (q0 := q) (ci := 5) rfl (hw.1 μ).1 rfl hl.1 rfl (Nat.le_of_ble_eq_true rfl) dX7_becomesWild_12 ⟨Nat.zero_le _, Nat.zero_le _⟩) (fun H locs hS => ?_)
        refine lv_iinc (v := x2 + 1) (lv' := [(2, .int (x2 + 1)), (0, .ref (ad q)), (1, .int x1)]) hx hb dX7_becomesWild_15 hl (k := 2) rfl rfl (by decide) rfl (fun ls hl => ?_)
        refine lv_goto (tgt := 2) hx hb dX7_becomesWild_18 (by decide) ?_
        exact ih2 x1 (x2 + 1) μ1 _ _ _ hS (lv_sub hl [1, 2, 0] rfl) h
  unfold f_X7_becomesWild at h
  refine lv_iconst (v := 0) hx hb dX7_becomesWild_0 (by decide) ?_
  refine lv_istore_n (lv' := [(2, .int 0), (0, .ref (ad q)), (1, .int a1)]) hx hb dX7_becomesWild_1 rfl hl (by decide) rfl (fun ls hl => ?_)
  exact hb2 FU a1 0 μ _ _ _ hS (lv_sub hl [1, 2, 0] rfl) h
def f_X7_leaves_b25 (q : Nat)  (μ : Mem) : Option Mem := (some μ)
def f_X7_leaves (q : Nat) (a1 : Int32) (μ : Mem) : Option Mem := (f_X7_of q a1 4 μ).bind (fun v1 => (if v1 = 1 then (f_X7_becomesWild q a1 μ).bind (fun μ3 => f_X7_leaves_b25 q μ3) else (f_X7_lay q a1 5 1 μ).bind (fun μ2 => f_X7_leaves_b25 q μ2)))
set_option maxHeartbeats 4000000 in
set_option maxRecDepth 100000 in
theorem c_X7_leaves (l : Launch) {D : va_G} {cI cG cL : ClassId} {A : Nat → Prop} {EN : State → Heap → Prop} (hE : EnOK EN A) {w : Mem → va_W} {ad : Nat → Nat} {hh : Int64} {q : Nat} {a1 : Int32} {μ : Mem}  {μ' : Mem} (hw : ModelAt cI w ad hh q) (h : f_X7_leaves q a1 μ = some μ') : Met l yX7_leaves wsX7_leaves (rmk 2 45) (WPre D (tyl cI cG cL) A EN (w μ) [.ref (ad q), .int a1]) (PV D A (w μ')) 0 0 A := by
  refine met_start (cc := cX7_leaves) (nL := 2) (ret := none) (own := RX7) hE (by decide) rfl rfl (Nat.le_of_ble_eq_true rfl) (fun p e s m args below meth c ls X hS hl hr hlk => ?_)
  have hx := X.1.1
  have hb := X.1.2.1
  replace hl : lv_has ls 2 [(0, .ref (ad q)), (1, .int a1)] := hl
  have hb25 : ∀  (μ : Mem) (H : Heap) (locs : List Loc) (ls : Array Slot), HS D A (w μ) s.heap H locs → lv_has ls 2 [] → f_X7_leaves_b25 q μ = some μ' → W p l e (headSpec wsX7_leaves (rmk 2 45)).room s m args below meth c H locs 0 0 (MQ below (PV D A (w μ')) args s 0 0 A) (F0 m 25 ls []) := by
    intro μ H locs ls hS hl h
    unfold f_X7_leaves_b25 at h
    cases h
    exact r_vret X hS hr hlk dX7_leaves_25
  unfold f_X7_leaves at h
  refine lv_aload_n hx hb dX7_leaves_0 rfl (lv_at hl 0 rfl) ?_
  refine lv_iload_n hx hb dX7_leaves_1 rfl (lv_at hl 1 rfl) ?_
  refine lv_iconst (v := 4) hx hb dX7_leaves_2 (by decide) ?_
  obtain ⟨v1, ev1, h⟩ := ob h
  refine r_ci hS (r_runV (As := [.int a1, .int 4]) (rest := []) X hS (c_X7_of l hE (w := w) (ad := ad) (μ := μ) (D := D) (cI := cI) (cG := cG) (cL := cL) hw ev1) (cwV 2 X.1.2.2.2.2 gX7_leaves_X7_of rfl rfl rfl (by decide +kernel) ⟨Nat.le_of_ble_eq_true rfl, Nat.le_of_ble_eq_true rfl⟩) (q0 := q) (ci := 5) rfl (hw.1 μ).1 rfl hl.1 rfl (Nat.le_of_ble_eq_true rfl) dX7_leaves_3 ⟨Nat.zero_le _, Nat.zero_le _⟩) (fun H locs hS => ?_)
  refine lv_iconst (v := 1) hx hb dX7_leaves_6 (by decide) ?_
  refine lv_icmp_ne (tgt := 18) hx hb dX7_leaves_7 (by decide) (fun cc => ?_) (fun cc => ?_)
  · replace h := ie h cc
    refine lv_aload_n hx hb dX7_leaves_18 rfl (lv_at hl 0 rfl) ?_
    refine lv_iload_n hx hb dX7_leaves_19 rfl (lv_at hl 1 rfl) ?_
    refine lv_iconst (v := 5) hx hb dX7_leaves_20 (by decide) ?_
    refine lv_iconst (v := 1) hx hb dX7_leaves_21 (by decide) ?_
    obtain ⟨μ2, eμ2, h⟩ := ob h
    refine r_cv hS (r_runV (As := [.int a1, .int 5, .int 1]) (rest := []) X hS (c_X7_lay l hE (w := w) (ad := ad) (μ := μ) (D := D) (cI := cI) (cG := cG) (cL := cL) hw eμ2) (cwV 3 X.1.2.2.2.2 gX7_leaves_X7_lay rfl rfl rfl (by decide +kernel) ⟨Nat.le_of_ble_eq_true rfl, Nat.le_of_ble_eq_true rfl⟩) (q0 := q) (ci := 5) rfl (hw.1 μ).1 rfl hl.1 rfl (Nat.le_of_ble_eq_true rfl) dX7_leaves_22 ⟨Nat.zero_le _, Nat.zero_le _⟩) (fun H locs hS => ?_)
    exact hb25 μ2 _ _ _ hS (lv_sub hl [] rfl) h
  · replace h := it h cc
    refine lv_aload_n hx hb dX7_leaves_10 rfl (lv_at hl 0 rfl) ?_
    refine lv_iload_n hx hb dX7_leaves_11 rfl (lv_at hl 1 rfl) ?_
    obtain ⟨μ3, eμ3, h⟩ := ob h
    refine r_cv hS (r_runV (As := [.int a1]) (rest := []) X hS (c_X7_becomesWild l hE (w := w) (ad := ad) (μ := μ) (D := D) (cI := cI) (cG := cG) (cL := cL) hw eμ3) (cwV 1 X.1.2.2.2.2 gX7_leaves_X7_becomesWild rfl rfl rfl (by decide +kernel) ⟨Nat.le_of_ble_eq_true rfl, Nat.le_of_ble_eq_true rfl⟩) (q0 := q) (ci := 5) rfl (hw.1 μ).1 rfl hl.1 rfl (Nat.le_of_ble_eq_true rfl) dX7_leaves_12 ⟨Nat.zero_le _, Nat.zero_le _⟩) (fun H locs hS => ?_)
    refine lv_goto (tgt := 25) hx hb dX7_leaves_15 (by decide) ?_
    exact hb25 μ3 _ _ _ hS (lv_sub hl [] rfl) h
def f_X7_copies_b3 (q : Nat)  : Nat → Int32 → Int32 → Int32 → Mem → Option Mem
  | 0, _, _, _, _ => none
  | fuel3 + 1, x1, x2, x3, μ => (if 14 ≤ x3 then (f_X7_of q x1 2 μ).bind (fun v1 => (f_X7_lay q x2 2 v1 μ).bind (fun μ2 => (some μ2))) else (f_X7_of q x1 x3 μ).bind (fun v3 => (f_X7_lay q x2 x3 v3 μ).bind (fun μ4 => f_X7_copies_b3 q fuel3 x1 x2 (x3 + 1) μ4)))
def f_X7_copies (q : Nat) (a1 : Int32) (a2 : Int32) (μ : Mem) : Option Mem := f_X7_copies_b3 q FU a1 a2 6 μ
set_option maxHeartbeats 4000000 in
set_option maxRecDepth 100000 in
theorem c_X7_copies (l : Launch) {D : va_G} {cI cG cL : ClassId} {A : Nat → Prop} {EN : State → Heap → Prop} (hE : EnOK EN A) {w : Mem → va_W} {ad : Nat → Nat} {hh : Int64} {q : Nat} {a1 : Int32} {a2 : Int32} {μ : Mem}  {μ' : Mem} (hw : ModelAt cI w ad hh q) (h : f_X7_copies q a1 a2 μ = some μ') : Met l yX7_copies wsX7_copies (rmk 1 23) (WPre D (tyl cI cG cL) A EN (w μ) [.ref (ad q), .int a1, .int a2]) (PV D A (w μ')) 0 0 A := by
  refine met_start (cc := cX7_copies) (nL := 4) (ret := none) (own := RX7) hE (by decide) rfl rfl (Nat.le_of_ble_eq_true rfl) (fun p e s m args below meth c ls X hS hl hr hlk => ?_)
  have hx := X.1.1
  have hb := X.1.2.1
  replace hl : lv_has ls 4 [(0, .ref (ad q)), (1, .int a1), (2, .int a2)] := hl
  have hb3 : ∀ (fu : Nat) (x1 : Int32) (x2 : Int32) (x3 : Int32) (μ : Mem) (H : Heap) (locs : List Loc) (ls : Array Slot), HS D A (w μ) s.heap H locs → lv_has ls 4 [(0, .ref (ad q)), (1, .int x1), (2, .int x2), (3, .int x3)] → f_X7_copies_b3 q fu x1 x2 x3 μ = some μ' → W p l e (headSpec wsX7_copies (rmk 1 23)).room s m args below meth c H locs 0 0 (MQ below (PV D A (w μ')) args s 0 0 A) (F0 m 3 ls []) := by
    intro fu
    induction fu with
    | zero =>
      intro x1 x2 x3 μ H locs ls hS hl h
      rw [f_X7_copies_b3] at h
      cases h
    | succ fuel3 ih3 =>
      intro x1 x2 x3 μ H locs ls hS hl h
      rw [f_X7_copies_b3] at h
      refine lv_iload_n hx hb dX7_copies_3 rfl (lv_at hl 3 rfl) ?_
      refine lv_bipush (v := 14) hx hb dX7_copies_4 (by decide) ?_
      refine lv_icmp_ge (tgt := 27) hx hb dX7_copies_6 (by decide) (fun cc => ?_) (fun cc => ?_)
      · replace h := it h cc
        refine lv_aload_n hx hb dX7_copies_27 rfl (lv_at hl 0 rfl) ?_
        refine lv_iload_n hx hb dX7_copies_28 rfl (lv_at hl 2 rfl) ?_
        refine lv_iconst (v := 2) hx hb dX7_copies_29 (by decide) ?_
        refine lv_aload_n hx hb dX7_copies_30 rfl (lv_at hl 0 rfl) ?_
        refine lv_iload_n hx hb dX7_copies_31 rfl (lv_at hl 1 rfl) ?_
        refine lv_iconst (v := 2) hx hb dX7_copies_32 (by decide) ?_
        obtain ⟨v1, ev1, h⟩ := ob h
        refine r_ci hS (r_runV (As := [.int x1, .int 2]) (rest := [.int 2, .int x2, .ref (ad q)]) X hS (c_X7_of l hE (w := w) (ad := ad) (μ := μ) (D := D) (cI := cI) (cG := cG) (cL := cL) hw ev1) (cwV 2 X.1.2.2.2.2 gX7_copies_X7_of rfl rfl rfl (by decide +kernel) ⟨Nat.le_of_ble_eq_true rfl, Nat.le_of_ble_eq_true rfl⟩) (q0 := q) (ci := 5) rfl (hw.1 μ).1 rfl hl.1 rfl (Nat.le_of_ble_eq_true rfl) dX7_copies_33 ⟨Nat.zero_le _, Nat.zero_le _⟩) (fun H locs hS => ?_)
        obtain ⟨μ2, eμ2, h⟩ := ob h
        refine r_cv hS (r_runV (As := [.int x2, .int 2, .int v1]) (rest := []) X hS (c_X7_lay l hE (w := w) (ad := ad) (μ := μ) (D := D) (cI := cI) (cG := cG) (cL := cL) hw eμ2) (cwV 3 X.1.2.2.2.2 gX7_copies_X7_lay rfl rfl rfl (by decide +kernel) ⟨Nat.le_of_ble_eq_true rfl, Nat.le_of_ble_eq_true rfl⟩) (q0 := q) (ci := 5) rfl (hw.1 μ).1 rfl hl.1 rfl (Nat.le_of_ble_eq_true rfl) dX7_copies_36 ⟨Nat.zero_le _, Nat.zero_le _⟩) (fun H locs hS => ?_)
        cases h
        exact r_vret X hS hr hlk dX7_copies_39
      · replace h := ie h cc
        refine lv_aload_n hx hb dX7_copies_9 rfl (lv_at hl 0 rfl) ?_
        refine lv_iload_n hx hb dX7_copies_10 rfl (lv_at hl 2 rfl) ?_
        refine lv_iload_n hx hb dX7_copies_11 rfl (lv_at hl 3 rfl) ?_
        refine lv_aload_n hx hb dX7_copies_12 rfl (lv_at hl 0 rfl) ?_
        refine lv_iload_n hx hb dX7_copies_13 rfl (lv_at hl 1 rfl) ?_
        refine lv_iload_n hx hb dX7_copies_14 rfl (lv_at hl 3 rfl) ?_
        obtain ⟨v3, ev3, h⟩ := ob h
        refine r_ci hS (r_runV (As := [.int x1, .int x3]) (rest := [.int x3, .int x2, .ref (ad q)]) X hS (c_X7_of l hE (w := w) (ad := ad) (μ := μ) (D := D) (cI := cI) (cG := cG) (cL := cL) hw ev3) (cwV 2 X.1.2.2.2.2 gX7_copies_X7_of rfl rfl rfl (by decide +kernel) ⟨Nat.le_of_ble_eq_true rfl, Nat.le_of_ble_eq_true rfl⟩) (q0 := q) (ci := 5) rfl (hw.1 μ).1 rfl hl.1 rfl (Nat.le_of_ble_eq_true rfl) dX7_copies_15 ⟨Nat.zero_le _, Nat.zero_le _⟩) (fun H locs hS => ?_)
        obtain ⟨μ4, eμ4, h⟩ := ob h
        refine r_cv hS (r_runV (As := [.int x2, .int x3, .int v3]) (rest := []) X hS (c_X7_lay l hE (w := w) (ad := ad) (μ := μ) (D := D) (cI := cI) (cG := cG) (cL := cL) hw eμ4) (cwV 3 X.1.2.2.2.2 gX7_copies_X7_lay rfl rfl rfl (by decide +kernel) ⟨Nat.le_of_ble_eq_true rfl, Nat.le_of_ble_eq_true rfl⟩) (q0 := q) (ci := 5) rfl (hw.1 μ).1 rfl hl.1 rfl (Nat.le_of_ble_eq_true rfl) dX7_copies_18 ⟨Nat.zero_le _, Nat.zero_le _⟩) (fun H locs hS => ?_)
        refine lv_iinc (v := x3 + 1) (lv' := [(3, .int (x3 + 1)), (0, .ref (ad q)), (1, .int x1), (2, .int x2)]) hx hb dX7_copies_21 hl (k := 3) rfl rfl (by decide) rfl (fun ls hl => ?_)
        refine lv_goto (tgt := 3) hx hb dX7_copies_24 (by decide) ?_
        exact ih3 x1 x2 (x3 + 1) μ4 _ _ _ hS (lv_sub hl [1, 2, 3, 0] rfl) h
  unfold f_X7_copies at h
  refine lv_bipush (v := 6) hx hb dX7_copies_0 (by decide) ?_
  refine lv_istore_n (lv' := [(3, .int 6), (0, .ref (ad q)), (1, .int a1), (2, .int a2)]) hx hb dX7_copies_2 rfl hl (by decide) rfl (fun ls hl => ?_)
  exact hb3 FU a1 a2 6 μ _ _ _ hS (lv_sub hl [1, 2, 3, 0] rfl) h
def f_X7_leafAt (q : Nat) (a1 : Int32) (a2 : Int32) (μ : Mem) : Option Int32 := (f_X7_of q a1 (6 + a2) μ).bind (fun v1 => (some v1))
set_option maxHeartbeats 4000000 in
set_option maxRecDepth 100000 in
theorem c_X7_leafAt (l : Launch) {D : va_G} {cI cG cL : ClassId} {A : Nat → Prop} {EN : State → Heap → Prop} (hE : EnOK EN A) {w : Mem → va_W} {ad : Nat → Nat} {hh : Int64} {q : Nat} {a1 : Int32} {a2 : Int32} {μ : Mem} {r : Int32} (hw : ModelAt cI w ad hh q) (h : f_X7_leafAt q a1 a2 μ = some r) : Met l yX7_leafAt wsX7_leafAt (rmk 1 22) (WPre D (tyl cI cG cL) A EN (w μ) [.ref (ad q), .int a1, .int a2]) (PI D A (w μ) r) 0 0 A := by
  refine met_start (cc := cX7_leafAt) (nL := 3) (ret := (some .int)) (own := RX7) hE (by decide) rfl rfl (Nat.le_of_ble_eq_true rfl) (fun p e s m args below meth c ls X hS hl hr hlk => ?_)
  have hx := X.1.1
  have hb := X.1.2.1
  replace hl : lv_has ls 3 [(0, .ref (ad q)), (1, .int a1), (2, .int a2)] := hl
  unfold f_X7_leafAt at h
  refine lv_aload_n hx hb dX7_leafAt_0 rfl (lv_at hl 0 rfl) ?_
  refine lv_iload_n hx hb dX7_leafAt_1 rfl (lv_at hl 1 rfl) ?_
  refine lv_bipush (v := 6) hx hb dX7_leafAt_2 (by decide) ?_
  refine lv_iload_n hx hb dX7_leafAt_4 rfl (lv_at hl 2 rfl) ?_
  refine lv_iadd hx hb dX7_leafAt_5 ?_
  obtain ⟨v1, ev1, h⟩ := ob h
  refine r_ci hS (r_runV (As := [.int a1, .int (6 + a2)]) (rest := []) X hS (c_X7_of l hE (w := w) (ad := ad) (μ := μ) (D := D) (cI := cI) (cG := cG) (cL := cL) hw ev1) (cwV 2 X.1.2.2.2.2 gX7_leafAt_X7_of rfl rfl rfl (by decide +kernel) ⟨Nat.le_of_ble_eq_true rfl, Nat.le_of_ble_eq_true rfl⟩) (q0 := q) (ci := 5) rfl (hw.1 μ).1 rfl hl.1 rfl (Nat.le_of_ble_eq_true rfl) dX7_leafAt_6 ⟨Nat.zero_le _, Nat.zero_le _⟩) (fun H locs hS => ?_)
  cases h
  exact r_iret X hS hr hlk dX7_leafAt_9
def f_X7_keyAt (q : Nat) (a1 : Int32) (a2 : Int32) (μ : Mem) : Option Int32 := (f_X7_of q a1 (6 + (2 * a2)) μ).bind (fun v1 => (some v1))
set_option maxHeartbeats 4000000 in
set_option maxRecDepth 100000 in
theorem c_X7_keyAt (l : Launch) {D : va_G} {cI cG cL : ClassId} {A : Nat → Prop} {EN : State → Heap → Prop} (hE : EnOK EN A) {w : Mem → va_W} {ad : Nat → Nat} {hh : Int64} {q : Nat} {a1 : Int32} {a2 : Int32} {μ : Mem} {r : Int32} (hw : ModelAt cI w ad hh q) (h : f_X7_keyAt q a1 a2 μ = some r) : Met l yX7_keyAt wsX7_keyAt (rmk 1 22) (WPre D (tyl cI cG cL) A EN (w μ) [.ref (ad q), .int a1, .int a2]) (PI D A (w μ) r) 0 0 A := by
  refine met_start (cc := cX7_keyAt) (nL := 3) (ret := (some .int)) (own := RX7) hE (by decide) rfl rfl (Nat.le_of_ble_eq_true rfl) (fun p e s m args below meth c ls X hS hl hr hlk => ?_)
  have hx := X.1.1
  have hb := X.1.2.1
  replace hl : lv_has ls 3 [(0, .ref (ad q)), (1, .int a1), (2, .int a2)] := hl
  unfold f_X7_keyAt at h
  refine lv_aload_n hx hb dX7_keyAt_0 rfl (lv_at hl 0 rfl) ?_
  refine lv_iload_n hx hb dX7_keyAt_1 rfl (lv_at hl 1 rfl) ?_
  refine lv_bipush (v := 6) hx hb dX7_keyAt_2 (by decide) ?_
  refine lv_iconst (v := 2) hx hb dX7_keyAt_4 (by decide) ?_
  refine lv_iload_n hx hb dX7_keyAt_5 rfl (lv_at hl 2 rfl) ?_
  refine lv_imul hx hb dX7_keyAt_6 ?_
  refine lv_iadd hx hb dX7_keyAt_7 ?_
  obtain ⟨v1, ev1, h⟩ := ob h
  refine r_ci hS (r_runV (As := [.int a1, .int (6 + (2 * a2))]) (rest := []) X hS (c_X7_of l hE (w := w) (ad := ad) (μ := μ) (D := D) (cI := cI) (cG := cG) (cL := cL) hw ev1) (cwV 2 X.1.2.2.2.2 gX7_keyAt_X7_of rfl rfl rfl (by decide +kernel) ⟨Nat.le_of_ble_eq_true rfl, Nat.le_of_ble_eq_true rfl⟩) (q0 := q) (ci := 5) rfl (hw.1 μ).1 rfl hl.1 rfl (Nat.le_of_ble_eq_true rfl) dX7_keyAt_8 ⟨Nat.zero_le _, Nat.zero_le _⟩) (fun H locs hS => ?_)
  cases h
  exact r_iret X hS hr hlk dX7_keyAt_11
def f_X7_valueAt (q : Nat) (a1 : Int32) (a2 : Int32) (μ : Mem) : Option Int32 := (f_X7_of q a1 ((6 + (2 * a2)) + 1) μ).bind (fun v1 => (some v1))
set_option maxHeartbeats 4000000 in
set_option maxRecDepth 100000 in
theorem c_X7_valueAt (l : Launch) {D : va_G} {cI cG cL : ClassId} {A : Nat → Prop} {EN : State → Heap → Prop} (hE : EnOK EN A) {w : Mem → va_W} {ad : Nat → Nat} {hh : Int64} {q : Nat} {a1 : Int32} {a2 : Int32} {μ : Mem} {r : Int32} (hw : ModelAt cI w ad hh q) (h : f_X7_valueAt q a1 a2 μ = some r) : Met l yX7_valueAt wsX7_valueAt (rmk 1 22) (WPre D (tyl cI cG cL) A EN (w μ) [.ref (ad q), .int a1, .int a2]) (PI D A (w μ) r) 0 0 A := by
  refine met_start (cc := cX7_valueAt) (nL := 3) (ret := (some .int)) (own := RX7) hE (by decide) rfl rfl (Nat.le_of_ble_eq_true rfl) (fun p e s m args below meth c ls X hS hl hr hlk => ?_)
  have hx := X.1.1
  have hb := X.1.2.1
  replace hl : lv_has ls 3 [(0, .ref (ad q)), (1, .int a1), (2, .int a2)] := hl
  unfold f_X7_valueAt at h
  refine lv_aload_n hx hb dX7_valueAt_0 rfl (lv_at hl 0 rfl) ?_
  refine lv_iload_n hx hb dX7_valueAt_1 rfl (lv_at hl 1 rfl) ?_
  refine lv_bipush (v := 6) hx hb dX7_valueAt_2 (by decide) ?_
  refine lv_iconst (v := 2) hx hb dX7_valueAt_4 (by decide) ?_
  refine lv_iload_n hx hb dX7_valueAt_5 rfl (lv_at hl 2 rfl) ?_
  refine lv_imul hx hb dX7_valueAt_6 ?_
  refine lv_iadd hx hb dX7_valueAt_7 ?_
  refine lv_iconst (v := 1) hx hb dX7_valueAt_8 (by decide) ?_
  refine lv_iadd hx hb dX7_valueAt_9 ?_
  obtain ⟨v1, ev1, h⟩ := ob h
  refine r_ci hS (r_runV (As := [.int a1, .int ((6 + (2 * a2)) + 1)]) (rest := []) X hS (c_X7_of l hE (w := w) (ad := ad) (μ := μ) (D := D) (cI := cI) (cG := cG) (cL := cL) hw ev1) (cwV 2 X.1.2.2.2.2 gX7_valueAt_X7_of rfl rfl rfl (by decide +kernel) ⟨Nat.le_of_ble_eq_true rfl, Nat.le_of_ble_eq_true rfl⟩) (q0 := q) (ci := 5) rfl (hw.1 μ).1 rfl hl.1 rfl (Nat.le_of_ble_eq_true rfl) dX7_valueAt_10 ⟨Nat.zero_le _, Nat.zero_le _⟩) (fun H locs hS => ?_)
  cases h
  exact r_iret X hS hr hlk dX7_valueAt_13
def f_X7_placeFor_b51 (q : Nat) (k18 : Int32 → Int32 → Int32 → Int32 → Mem → Option Int32) (x1 : Int32) (x2 : Int32) (x4 : Int32) (s0 : Int32) (μ : Mem) : Option Int32 := k18 x1 x2 s0 (x4 + 1) μ
def f_X7_placeFor_b18 (q : Nat)  : Nat → Int32 → Int32 → Int32 → Int32 → Mem → Option Int32
  | 0, _, _, _, _, _ => none
  | fuel18 + 1, x1, x2, x3, x4, μ => (f_X7_of q x1 2 μ).bind (fun v2 => (if v2 ≤ x4 then (some x3) else (f_X7_leafAt q x1 x4 μ).bind (fun v3 => (f_X7_keyAt q v3 0 μ).bind (fun v4 => (if x2 < v4 then f_X7_placeFor_b51 q (f_X7_placeFor_b18 q fuel18) x1 x2 x4 x3 μ else f_X7_placeFor_b51 q (f_X7_placeFor_b18 q fuel18) x1 x2 x4 x4 μ)))))
def f_X7_placeFor_b14 (q : Nat) (x1 : Int32) (x2 : Int32) (s0 : Int32) (μ : Mem) : Option Int32 := f_X7_placeFor_b18 q FU x1 x2 s0 0 μ
def f_X7_placeFor (q : Nat) (a1 : Int32) (a2 : Int32) (μ : Mem) : Option Int32 := (f_X7_of q a1 2 μ).bind (fun v1 => (if v1 = 0 then f_X7_placeFor_b14 q a1 a2 (-1) μ else f_X7_placeFor_b14 q a1 a2 0 μ))
set_option maxHeartbeats 4000000 in
set_option maxRecDepth 100000 in
theorem c_X7_placeFor (l : Launch) {D : va_G} {cI cG cL : ClassId} {A : Nat → Prop} {EN : State → Heap → Prop} (hE : EnOK EN A) {w : Mem → va_W} {ad : Nat → Nat} {hh : Int64} {q : Nat} {a1 : Int32} {a2 : Int32} {μ : Mem} {r : Int32} (hw : ModelAt cI w ad hh q) (h : f_X7_placeFor q a1 a2 μ = some r) : Met l yX7_placeFor wsX7_placeFor (rmk 2 44) (WPre D (tyl cI cG cL) A EN (w μ) [.ref (ad q), .int a1, .int a2]) (PI D A (w μ) r) 0 0 A := by
  refine met_start (cc := cX7_placeFor) (nL := 5) (ret := (some .int)) (own := RX7) hE (by decide) rfl rfl (Nat.le_of_ble_eq_true rfl) (fun p e s m args below meth c ls X hS hl hr hlk => ?_)
  have hx := X.1.1
  have hb := X.1.2.1
  replace hl : lv_has ls 5 [(0, .ref (ad q)), (1, .int a1), (2, .int a2)] := hl
  have hb51 : ∀ (k18 : Int32 → Int32 → Int32 → Int32 → Mem → Option Int32), (∀ (x1 : Int32) (x2 : Int32) (x3 : Int32) (x4 : Int32) (H : Heap) (locs : List Loc) (ls : Array Slot), HS D A (w μ) s.heap H locs → lv_has ls 5 [(0, .ref (ad q)), (1, .int x1), (2, .int x2), (3, .int x3), (4, .int x4)] → k18 x1 x2 x3 x4 μ = some r → W p l e (headSpec wsX7_placeFor (rmk 2 44)).room s m args below meth c H locs 0 0 (MQ below (PI D A (w μ) r) args s 0 0 A) (F0 m 18 ls [])) → ∀ (x1 : Int32) (x2 : Int32) (x4 : Int32) (s0 : Int32) (H : Heap) (locs : List Loc) (ls : Array Slot), HS D A (w μ) s.heap H locs → lv_has ls 5 [(0, .ref (ad q)), (1, .int x1), (2, .int x2), (4, .int x4)] → f_X7_placeFor_b51 q k18 x1 x2 x4 s0 μ = some r → W p l e (headSpec wsX7_placeFor (rmk 2 44)).room s m args below meth c H locs 0 0 (MQ below (PI D A (w μ) r) args s 0 0 A) (F0 m 51 ls [.int s0]) := by
    intro k18 hk18 x1 x2 x4 s0 H locs ls hS hl h
    unfold f_X7_placeFor_b51 at h
    refine lv_istore_n (lv' := [(3, .int s0), (0, .ref (ad q)), (1, .int x1), (2, .int x2), (4, .int x4)]) hx hb dX7_placeFor_51 rfl hl (by decide) rfl (fun ls hl => ?_)
    refine lv_iinc (v := x4 + 1) (lv' := [(4, .int (x4 + 1)), (3, .int s0), (0, .ref (ad q)), (1, .int x1), (2, .int x2)]) hx hb dX7_placeFor_52 hl (k := 4) rfl rfl (by decide) rfl (fun ls hl => ?_)
    refine lv_goto (tgt := 18) hx hb dX7_placeFor_55 (by decide) ?_
    exact hk18 x1 x2 s0 (x4 + 1) _ _ _ hS (lv_sub hl [2, 3, 4, 1, 0] rfl) h
  have hb18 : ∀ (fu : Nat) (x1 : Int32) (x2 : Int32) (x3 : Int32) (x4 : Int32) (H : Heap) (locs : List Loc) (ls : Array Slot), HS D A (w μ) s.heap H locs → lv_has ls 5 [(0, .ref (ad q)), (1, .int x1), (2, .int x2), (3, .int x3), (4, .int x4)] → f_X7_placeFor_b18 q fu x1 x2 x3 x4 μ = some r → W p l e (headSpec wsX7_placeFor (rmk 2 44)).room s m args below meth c H locs 0 0 (MQ below (PI D A (w μ) r) args s 0 0 A) (F0 m 18 ls []) := by
    intro fu
    induction fu with
    | zero =>
      intro x1 x2 x3 x4 H locs ls hS hl h
      rw [f_X7_placeFor_b18] at h
      cases h
    | succ fuel18 ih18 =>
      intro x1 x2 x3 x4 H locs ls hS hl h
      rw [f_X7_placeFor_b18] at h
      refine lv_iload hx hb dX7_placeFor_18 (lv_at hl 4 rfl) ?_
      refine lv_aload_n hx hb dX7_placeFor_20 rfl (lv_at hl 0 rfl) ?_
      refine lv_iload_n hx hb dX7_placeFor_21 rfl (lv_at hl 1 rfl) ?_
      refine lv_iconst (v := 2) hx hb dX7_placeFor_22 (by decide) ?_
      obtain ⟨v2, ev2, h⟩ := ob h
      refine r_ci hS (r_runV (As := [.int x1, .int 2]) (rest := [.int x4]) X hS (c_X7_of l hE (w := w) (ad := ad) (μ := μ) (D := D) (cI := cI) (cG := cG) (cL := cL) hw ev2) (cwV 2 X.1.2.2.2.2 gX7_placeFor_X7_of rfl rfl rfl (by decide +kernel) ⟨Nat.le_of_ble_eq_true rfl, Nat.le_of_ble_eq_true rfl⟩) (q0 := q) (ci := 5) rfl (hw.1 μ).1 rfl hl.1 rfl (Nat.le_of_ble_eq_true rfl) dX7_placeFor_23 ⟨Nat.zero_le _, Nat.zero_le _⟩) (fun H locs hS => ?_)
      refine lv_icmp_ge (tgt := 58) hx hb dX7_placeFor_26 (by decide) (fun cc => ?_) (fun cc => ?_)
      · replace h := it h cc
        refine lv_iload_n hx hb dX7_placeFor_58 rfl (lv_at hl 3 rfl) ?_
        cases h
        exact r_iret X hS hr hlk dX7_placeFor_59
      · replace h := ie h cc
        refine lv_aload_n hx hb dX7_placeFor_29 rfl (lv_at hl 0 rfl) ?_
        refine lv_aload_n hx hb dX7_placeFor_30 rfl (lv_at hl 0 rfl) ?_
        refine lv_iload_n hx hb dX7_placeFor_31 rfl (lv_at hl 1 rfl) ?_
        refine lv_iload hx hb dX7_placeFor_32 (lv_at hl 4 rfl) ?_
        obtain ⟨v3, ev3, h⟩ := ob h
        refine r_ci hS (r_runV (As := [.int x1, .int x4]) (rest := [.ref (ad q)]) X hS (c_X7_leafAt l hE (w := w) (ad := ad) (μ := μ) (D := D) (cI := cI) (cG := cG) (cL := cL) hw ev3) (cwV 2 X.1.2.2.2.2 gX7_placeFor_X7_leafAt rfl rfl rfl (by decide +kernel) ⟨Nat.le_of_ble_eq_true rfl, Nat.le_of_ble_eq_true rfl⟩) (q0 := q) (ci := 5) rfl (hw.1 μ).1 rfl hl.1 rfl (Nat.le_of_ble_eq_true rfl) dX7_placeFor_34 ⟨Nat.zero_le _, Nat.zero_le _⟩) (fun H locs hS => ?_)
        refine lv_iconst (v := 0) hx hb dX7_placeFor_37 (by decide) ?_
        obtain ⟨v4, ev4, h⟩ := ob h
        refine r_ci hS (r_runV (As := [.int v3, .int 0]) (rest := []) X hS (c_X7_keyAt l hE (w := w) (ad := ad) (μ := μ) (D := D) (cI := cI) (cG := cG) (cL := cL) hw ev4) (cwV 2 X.1.2.2.2.2 gX7_placeFor_X7_keyAt rfl rfl rfl (by decide +kernel) ⟨Nat.le_of_ble_eq_true rfl, Nat.le_of_ble_eq_true rfl⟩) (q0 := q) (ci := 5) rfl (hw.1 μ).1 rfl hl.1 rfl (Nat.le_of_ble_eq_true rfl) dX7_placeFor_38 ⟨Nat.zero_le _, Nat.zero_le _⟩) (fun H locs hS => ?_)
        refine lv_iload_n hx hb dX7_placeFor_41 rfl (lv_at hl 2 rfl) ?_
        refine lv_icmp_gt (tgt := 50) hx hb dX7_placeFor_42 (by decide) (fun cc => ?_) (fun cc => ?_)
        · replace h := it h cc
          refine lv_iload_n hx hb dX7_placeFor_50 rfl (lv_at hl 3 rfl) ?_
          exact hb51 (f_X7_placeFor_b18 q fuel18) ih18 x1 x2 x4 x3 _ _ _ hS (lv_sub hl [0, 1, 2, 4] rfl) h
        · replace h := ie h cc
          refine lv_iload hx hb dX7_placeFor_45 (lv_at hl 4 rfl) ?_
          refine lv_goto (tgt := 51) hx hb dX7_placeFor_47 (by decide) ?_
          exact hb51 (f_X7_placeFor_b18 q fuel18) ih18 x1 x2 x4 x4 _ _ _ hS (lv_sub hl [0, 1, 2, 4] rfl) h
  have hb14 : ∀ (x1 : Int32) (x2 : Int32) (s0 : Int32) (H : Heap) (locs : List Loc) (ls : Array Slot), HS D A (w μ) s.heap H locs → lv_has ls 5 [(0, .ref (ad q)), (1, .int x1), (2, .int x2)] → f_X7_placeFor_b14 q x1 x2 s0 μ = some r → W p l e (headSpec wsX7_placeFor (rmk 2 44)).room s m args below meth c H locs 0 0 (MQ below (PI D A (w μ) r) args s 0 0 A) (F0 m 14 ls [.int s0]) := by
    intro x1 x2 s0 H locs ls hS hl h
    unfold f_X7_placeFor_b14 at h
    refine lv_istore_n (lv' := [(3, .int s0), (0, .ref (ad q)), (1, .int x1), (2, .int x2)]) hx hb dX7_placeFor_14 rfl hl (by decide) rfl (fun ls hl => ?_)
    refine lv_iconst (v := 0) hx hb dX7_placeFor_15 (by decide) ?_
    refine lv_istore (lv' := [(4, .int 0), (3, .int s0), (0, .ref (ad q)), (1, .int x1), (2, .int x2)]) hx hb dX7_placeFor_16 hl (by decide) rfl (fun ls hl => ?_)
    exact hb18 FU x1 x2 s0 0 _ _ _ hS (lv_sub hl [2, 3, 4, 1, 0] rfl) h
  unfold f_X7_placeFor at h
  refine lv_aload_n hx hb dX7_placeFor_0 rfl (lv_at hl 0 rfl) ?_
  refine lv_iload_n hx hb dX7_placeFor_1 rfl (lv_at hl 1 rfl) ?_
  refine lv_iconst (v := 2) hx hb dX7_placeFor_2 (by decide) ?_
  obtain ⟨v1, ev1, h⟩ := ob h
  refine r_ci hS (r_runV (As := [.int a1, .int 2]) (rest := []) X hS (c_X7_of l hE (w := w) (ad := ad) (μ := μ) (D := D) (cI := cI) (cG := cG) (cL := cL) hw ev1) (cwV 2 X.1.2.2.2.2 gX7_placeFor_X7_of rfl rfl rfl (by decide +kernel) ⟨Nat.le_of_ble_eq_true rfl, Nat.le_of_ble_eq_true rfl⟩) (q0 := q) (ci := 5) rfl (hw.1 μ).1 rfl hl.1 rfl (Nat.le_of_ble_eq_true rfl) dX7_placeFor_3 ⟨Nat.zero_le _, Nat.zero_le _⟩) (fun H locs hS => ?_)
  refine lv_if_ne (tgt := 13) hx hb dX7_placeFor_6 (by decide) (fun cc => ?_) (fun cc => ?_)
  · replace h := ie h cc
    refine lv_iconst (v := 0) hx hb dX7_placeFor_13 (by decide) ?_
    exact hb14 a1 a2 0 _ _ _ hS (lv_sub hl [0, 1, 2] rfl) h
  · replace h := it h cc
    refine lv_iconst (v := (-1)) hx hb dX7_placeFor_9 (by decide) ?_
    refine lv_goto (tgt := 14) hx hb dX7_placeFor_10 (by decide) ?_
    exact hb14 a1 a2 (-1) _ _ _ hS (lv_sub hl [0, 1, 2] rfl) h
def f_X7_placeIn_b2 (q : Nat)  : Nat → Int32 → Int32 → Int32 → Mem → Option Int32
  | 0, _, _, _, _ => none
  | fuel2 + 1, x1, x2, x3, μ => (f_X7_of q x1 2 μ).bind (fun v1 => (if v1 ≤ x3 then (some (-1)) else (f_X7_keyAt q x1 x3 μ).bind (fun v2 => (if v2 = x2 then (some x3) else f_X7_placeIn_b2 q fuel2 x1 x2 (x3 + 1) μ))))
def f_X7_placeIn (q : Nat) (a1 : Int32) (a2 : Int32) (μ : Mem) : Option Int32 := f_X7_placeIn_b2 q FU a1 a2 0 μ
set_option maxHeartbeats 4000000 in
set_option maxRecDepth 100000 in
theorem c_X7_placeIn (l : Launch) {D : va_G} {cI cG cL : ClassId} {A : Nat → Prop} {EN : State → Heap → Prop} (hE : EnOK EN A) {w : Mem → va_W} {ad : Nat → Nat} {hh : Int64} {q : Nat} {a1 : Int32} {a2 : Int32} {μ : Mem} {r : Int32} (hw : ModelAt cI w ad hh q) (h : f_X7_placeIn q a1 a2 μ = some r) : Met l yX7_placeIn wsX7_placeIn (rmk 2 44) (WPre D (tyl cI cG cL) A EN (w μ) [.ref (ad q), .int a1, .int a2]) (PI D A (w μ) r) 0 0 A := by
  refine met_start (cc := cX7_placeIn) (nL := 4) (ret := (some .int)) (own := RX7) hE (by decide) rfl rfl (Nat.le_of_ble_eq_true rfl) (fun p e s m args below meth c ls X hS hl hr hlk => ?_)
  have hx := X.1.1
  have hb := X.1.2.1
  replace hl : lv_has ls 4 [(0, .ref (ad q)), (1, .int a1), (2, .int a2)] := hl
  have hb2 : ∀ (fu : Nat) (x1 : Int32) (x2 : Int32) (x3 : Int32) (H : Heap) (locs : List Loc) (ls : Array Slot), HS D A (w μ) s.heap H locs → lv_has ls 4 [(0, .ref (ad q)), (1, .int x1), (2, .int x2), (3, .int x3)] → f_X7_placeIn_b2 q fu x1 x2 x3 μ = some r → W p l e (headSpec wsX7_placeIn (rmk 2 44)).room s m args below meth c H locs 0 0 (MQ below (PI D A (w μ) r) args s 0 0 A) (F0 m 2 ls []) := by
    intro fu
    induction fu with
    | zero =>
      intro x1 x2 x3 H locs ls hS hl h
      rw [f_X7_placeIn_b2] at h
      cases h
    | succ fuel2 ih2 =>
      intro x1 x2 x3 H locs ls hS hl h
      rw [f_X7_placeIn_b2] at h
      refine lv_iload_n hx hb dX7_placeIn_2 rfl (lv_at hl 3 rfl) ?_
      refine lv_aload_n hx hb dX7_placeIn_3 rfl (lv_at hl 0 rfl) ?_
      refine lv_iload_n hx hb dX7_placeIn_4 rfl (lv_at hl 1 rfl) ?_
      refine lv_iconst (v := 2) hx hb dX7_placeIn_5 (by decide) ?_
      obtain ⟨v1, ev1, h⟩ := ob h
      refine r_ci hS (r_runV (As := [.int x1, .int 2]) (rest := [.int x3]) X hS (c_X7_of l hE (w := w) (ad := ad) (μ := μ) (D := D) (cI := cI) (cG := cG) (cL := cL) hw ev1) (cwV 2 X.1.2.2.2.2 gX7_placeIn_X7_of rfl rfl rfl (by decide +kernel) ⟨Nat.le_of_ble_eq_true rfl, Nat.le_of_ble_eq_true rfl⟩) (q0 := q) (ci := 5) rfl (hw.1 μ).1 rfl hl.1 rfl (Nat.le_of_ble_eq_true rfl) dX7_placeIn_6 ⟨Nat.zero_le _, Nat.zero_le _⟩) (fun H locs hS => ?_)
      refine lv_icmp_ge (tgt := 30) hx hb dX7_placeIn_9 (by decide) (fun cc => ?_) (fun cc => ?_)
      · replace h := it h cc
        refine lv_iconst (v := (-1)) hx hb dX7_placeIn_30 (by decide) ?_
        cases h
        exact r_iret X hS hr hlk dX7_placeIn_31
      · replace h := ie h cc
        refine lv_aload_n hx hb dX7_placeIn_12 rfl (lv_at hl 0 rfl) ?_
        refine lv_iload_n hx hb dX7_placeIn_13 rfl (lv_at hl 1 rfl) ?_
        refine lv_iload_n hx hb dX7_placeIn_14 rfl (lv_at hl 3 rfl) ?_
        obtain ⟨v2, ev2, h⟩ := ob h
        refine r_ci hS (r_runV (As := [.int x1, .int x3]) (rest := []) X hS (c_X7_keyAt l hE (w := w) (ad := ad) (μ := μ) (D := D) (cI := cI) (cG := cG) (cL := cL) hw ev2) (cwV 2 X.1.2.2.2.2 gX7_placeIn_X7_keyAt rfl rfl rfl (by decide +kernel) ⟨Nat.le_of_ble_eq_true rfl, Nat.le_of_ble_eq_true rfl⟩) (q0 := q) (ci := 5) rfl (hw.1 μ).1 rfl hl.1 rfl (Nat.le_of_ble_eq_true rfl) dX7_placeIn_15 ⟨Nat.zero_le _, Nat.zero_le _⟩) (fun H locs hS => ?_)
        refine lv_iload_n hx hb dX7_placeIn_18 rfl (lv_at hl 2 rfl) ?_
        refine lv_icmp_ne (tgt := 24) hx hb dX7_placeIn_19 (by decide) (fun cc => ?_) (fun cc => ?_)
        · replace h := ie h cc
          refine lv_iinc (v := x3 + 1) (lv' := [(3, .int (x3 + 1)), (0, .ref (ad q)), (1, .int x1), (2, .int x2)]) hx hb dX7_placeIn_24 hl (k := 3) rfl rfl (by decide) rfl (fun ls hl => ?_)
          refine lv_goto (tgt := 2) hx hb dX7_placeIn_27 (by decide) ?_
          exact ih2 x1 x2 (x3 + 1) _ _ _ hS (lv_sub hl [1, 2, 3, 0] rfl) h
        · replace h := it h cc
          refine lv_iload_n hx hb dX7_placeIn_22 rfl (lv_at hl 3 rfl) ?_
          cases h
          exact r_iret X hS hr hlk dX7_placeIn_23
  unfold f_X7_placeIn at h
  refine lv_iconst (v := 0) hx hb dX7_placeIn_0 (by decide) ?_
  refine lv_istore_n (lv' := [(3, .int 0), (0, .ref (ad q)), (1, .int a1), (2, .int a2)]) hx hb dX7_placeIn_1 rfl hl (by decide) rfl (fun ls hl => ?_)
  exact hb2 FU a1 a2 0 _ _ _ hS (lv_sub hl [1, 2, 3, 0] rfl) h
def f_X7_valueBy_b51 (q : Nat) (s0 : Int32) (μ : Mem) : Option Int32 := (some s0)
def f_X7_valueBy_b26 (q : Nat) (x1 : Int32) (x3 : Int32) (s0 : Int32) (μ : Mem) : Option Int32 := (if (0 : Int32) ≤ s0 then (f_X7_leafAt q x1 x3 μ).bind (fun v4 => (f_X7_valueAt q v4 s0 μ).bind (fun v5 => f_X7_valueBy_b51 q v5 μ)) else f_X7_valueBy_b51 q (-1000) μ)
def f_X7_valueBy (q : Nat) (a1 : Int32) (a2 : Int32) (μ : Mem) : Option Int32 := (f_X7_placeFor q a1 a2 μ).bind (fun v1 => (if (0 : Int32) ≤ v1 then (f_X7_leafAt q a1 v1 μ).bind (fun v2 => (f_X7_placeIn q v2 a2 μ).bind (fun v3 => f_X7_valueBy_b26 q a1 v1 v3 μ)) else f_X7_valueBy_b26 q a1 v1 (-1) μ))
set_option maxHeartbeats 4000000 in
set_option maxRecDepth 100000 in
theorem c_X7_valueBy (l : Launch) {D : va_G} {cI cG cL : ClassId} {A : Nat → Prop} {EN : State → Heap → Prop} (hE : EnOK EN A) {w : Mem → va_W} {ad : Nat → Nat} {hh : Int64} {q : Nat} {a1 : Int32} {a2 : Int32} {μ : Mem} {r : Int32} (hw : ModelAt cI w ad hh q) (h : f_X7_valueBy q a1 a2 μ = some r) : Met l yX7_valueBy wsX7_valueBy (rmk 3 68) (WPre D (tyl cI cG cL) A EN (w μ) [.ref (ad q), .int a1, .int a2]) (PI D A (w μ) r) 0 0 A := by
  refine met_start (cc := cX7_valueBy) (nL := 5) (ret := (some .int)) (own := RX7) hE (by decide) rfl rfl (Nat.le_of_ble_eq_true rfl) (fun p e s m args below meth c ls X hS hl hr hlk => ?_)
  have hx := X.1.1
  have hb := X.1.2.1
  replace hl : lv_has ls 5 [(0, .ref (ad q)), (1, .int a1), (2, .int a2)] := hl
  have hb51 : ∀ (s0 : Int32) (H : Heap) (locs : List Loc) (ls : Array Slot), HS D A (w μ) s.heap H locs → lv_has ls 5 [] → f_X7_valueBy_b51 q s0 μ = some r → W p l e (headSpec wsX7_valueBy (rmk 3 68)).room s m args below meth c H locs 0 0 (MQ below (PI D A (w μ) r) args s 0 0 A) (F0 m 51 ls [.int s0]) := by
    intro s0 H locs ls hS hl h
    unfold f_X7_valueBy_b51 at h
    cases h
    exact r_iret X hS hr hlk dX7_valueBy_51
  have hb26 : ∀ (x1 : Int32) (x3 : Int32) (s0 : Int32) (H : Heap) (locs : List Loc) (ls : Array Slot), HS D A (w μ) s.heap H locs → lv_has ls 5 [(0, .ref (ad q)), (1, .int x1), (3, .int x3)] → f_X7_valueBy_b26 q x1 x3 s0 μ = some r → W p l e (headSpec wsX7_valueBy (rmk 3 68)).room s m args below meth c H locs 0 0 (MQ below (PI D A (w μ) r) args s 0 0 A) (F0 m 26 ls [.int s0]) := by
    intro x1 x3 s0 H locs ls hS hl h
    unfold f_X7_valueBy_b26 at h
    refine lv_istore (lv' := [(4, .int s0), (0, .ref (ad q)), (1, .int x1), (3, .int x3)]) hx hb dX7_valueBy_26 hl (by decide) rfl (fun ls hl => ?_)
    refine lv_iload hx hb dX7_valueBy_28 (lv_at hl 0 rfl) ?_
    refine lv_if_ge (tgt := 39) hx hb dX7_valueBy_30 (by decide) (fun cc => ?_) (fun cc => ?_)
    · replace h := it h cc
      refine lv_aload_n hx hb dX7_valueBy_39 rfl (lv_at hl 1 rfl) ?_
      refine lv_aload_n hx hb dX7_valueBy_40 rfl (lv_at hl 1 rfl) ?_
      refine lv_iload_n hx hb dX7_valueBy_41 rfl (lv_at hl 2 rfl) ?_
      refine lv_iload_n hx hb dX7_valueBy_42 rfl (lv_at hl 3 rfl) ?_
      obtain ⟨v4, ev4, h⟩ := ob h
      refine r_ci hS (r_runV (As := [.int x1, .int x3]) (rest := [.ref (ad q)]) X hS (c_X7_leafAt l hE (w := w) (ad := ad) (μ := μ) (D := D) (cI := cI) (cG := cG) (cL := cL) hw ev4) (cwV 2 X.1.2.2.2.2 gX7_valueBy_X7_leafAt rfl rfl rfl (by decide +kernel) ⟨Nat.le_of_ble_eq_true rfl, Nat.le_of_ble_eq_true rfl⟩) (q0 := q) (ci := 5) rfl (hw.1 μ).1 rfl hl.1 rfl (Nat.le_of_ble_eq_true rfl) dX7_valueBy_43 ⟨Nat.zero_le _, Nat.zero_le _⟩) (fun H locs hS => ?_)
      refine lv_iload hx hb dX7_valueBy_46 (lv_at hl 0 rfl) ?_
      obtain ⟨v5, ev5, h⟩ := ob h
      refine r_ci hS (r_runV (As := [.int v4, .int s0]) (rest := []) X hS (c_X7_valueAt l hE (w := w) (ad := ad) (μ := μ) (D := D) (cI := cI) (cG := cG) (cL := cL) hw ev5) (cwV 2 X.1.2.2.2.2 gX7_valueBy_X7_valueAt rfl rfl rfl (by decide +kernel) ⟨Nat.le_of_ble_eq_true rfl, Nat.le_of_ble_eq_true rfl⟩) (q0 := q) (ci := 5) rfl (hw.1 μ).1 rfl hl.1 rfl (Nat.le_of_ble_eq_true rfl) dX7_valueBy_48 ⟨Nat.zero_le _, Nat.zero_le _⟩) (fun H locs hS => ?_)
      exact hb51 v5 _ _ _ hS (lv_sub hl [] rfl) h
    · replace h := ie h cc
      refine lv_sipush (v := (-1000)) hx hb dX7_valueBy_33 (by decide) ?_
      refine lv_goto (tgt := 51) hx hb dX7_valueBy_36 (by decide) ?_
      exact hb51 (-1000) _ _ _ hS (lv_sub hl [] rfl) h
  unfold f_X7_valueBy at h
  refine lv_aload_n hx hb dX7_valueBy_0 rfl (lv_at hl 0 rfl) ?_
  refine lv_iload_n hx hb dX7_valueBy_1 rfl (lv_at hl 1 rfl) ?_
  refine lv_iload_n hx hb dX7_valueBy_2 rfl (lv_at hl 2 rfl) ?_
  obtain ⟨v1, ev1, h⟩ := ob h
  refine r_ci hS (r_runV (As := [.int a1, .int a2]) (rest := []) X hS (c_X7_placeFor l hE (w := w) (ad := ad) (μ := μ) (D := D) (cI := cI) (cG := cG) (cL := cL) hw ev1) (cwV 2 X.1.2.2.2.2 gX7_valueBy_X7_placeFor rfl rfl rfl (by decide +kernel) ⟨Nat.le_of_ble_eq_true rfl, Nat.le_of_ble_eq_true rfl⟩) (q0 := q) (ci := 5) rfl (hw.1 μ).1 rfl hl.1 rfl (Nat.le_of_ble_eq_true rfl) dX7_valueBy_3 ⟨Nat.zero_le _, Nat.zero_le _⟩) (fun H locs hS => ?_)
  refine lv_istore_n (lv' := [(3, .int v1), (0, .ref (ad q)), (1, .int a1), (2, .int a2)]) hx hb dX7_valueBy_6 rfl hl (by decide) rfl (fun ls hl => ?_)
  refine lv_iload_n hx hb dX7_valueBy_7 rfl (lv_at hl 0 rfl) ?_
  refine lv_if_ge (tgt := 15) hx hb dX7_valueBy_8 (by decide) (fun cc => ?_) (fun cc => ?_)
  · replace h := it h cc
    refine lv_aload_n hx hb dX7_valueBy_15 rfl (lv_at hl 1 rfl) ?_
    refine lv_aload_n hx hb dX7_valueBy_16 rfl (lv_at hl 1 rfl) ?_
    refine lv_iload_n hx hb dX7_valueBy_17 rfl (lv_at hl 2 rfl) ?_
    refine lv_iload_n hx hb dX7_valueBy_18 rfl (lv_at hl 0 rfl) ?_
    obtain ⟨v2, ev2, h⟩ := ob h
    refine r_ci hS (r_runV (As := [.int a1, .int v1]) (rest := [.ref (ad q)]) X hS (c_X7_leafAt l hE (w := w) (ad := ad) (μ := μ) (D := D) (cI := cI) (cG := cG) (cL := cL) hw ev2) (cwV 2 X.1.2.2.2.2 gX7_valueBy_X7_leafAt rfl rfl rfl (by decide +kernel) ⟨Nat.le_of_ble_eq_true rfl, Nat.le_of_ble_eq_true rfl⟩) (q0 := q) (ci := 5) rfl (hw.1 μ).1 rfl hl.1 rfl (Nat.le_of_ble_eq_true rfl) dX7_valueBy_19 ⟨Nat.zero_le _, Nat.zero_le _⟩) (fun H locs hS => ?_)
    refine lv_iload_n hx hb dX7_valueBy_22 rfl (lv_at hl 3 rfl) ?_
    obtain ⟨v3, ev3, h⟩ := ob h
    refine r_ci hS (r_runV (As := [.int v2, .int a2]) (rest := []) X hS (c_X7_placeIn l hE (w := w) (ad := ad) (μ := μ) (D := D) (cI := cI) (cG := cG) (cL := cL) hw ev3) (cwV 2 X.1.2.2.2.2 gX7_valueBy_X7_placeIn rfl rfl rfl (by decide +kernel) ⟨Nat.le_of_ble_eq_true rfl, Nat.le_of_ble_eq_true rfl⟩) (q0 := q) (ci := 5) rfl (hw.1 μ).1 rfl hl.1 rfl (Nat.le_of_ble_eq_true rfl) dX7_valueBy_23 ⟨Nat.zero_le _, Nat.zero_le _⟩) (fun H locs hS => ?_)
    exact hb26 a1 v1 v3 _ _ _ hS (lv_sub hl [1, 2, 0] rfl) h
  · replace h := ie h cc
    refine lv_iconst (v := (-1)) hx hb dX7_valueBy_11 (by decide) ?_
    refine lv_goto (tgt := 26) hx hb dX7_valueBy_12 (by decide) ?_
    exact hb26 a1 v1 (-1) _ _ _ hS (lv_sub hl [1, 2, 0] rfl) h
def f_X7_entriesBy_b4 (q : Nat)  : Nat → Int32 → Int32 → Int32 → Mem → Option Int32
  | 0, _, _, _, _ => none
  | fuel4 + 1, x1, x2, x3, μ => (f_X7_of q x1 2 μ).bind (fun v1 => (if v1 ≤ x3 then (some x2) else (f_X7_leafAt q x1 x3 μ).bind (fun v2 => (f_X7_of q v2 2 μ).bind (fun v3 => f_X7_entriesBy_b4 q fuel4 x1 (x2 + v3) (x3 + 1) μ))))
def f_X7_entriesBy (q : Nat) (a1 : Int32) (μ : Mem) : Option Int32 := f_X7_entriesBy_b4 q FU a1 0 0 μ
set_option maxHeartbeats 4000000 in
set_option maxRecDepth 100000 in
theorem c_X7_entriesBy (l : Launch) {D : va_G} {cI cG cL : ClassId} {A : Nat → Prop} {EN : State → Heap → Prop} (hE : EnOK EN A) {w : Mem → va_W} {ad : Nat → Nat} {hh : Int64} {q : Nat} {a1 : Int32} {μ : Mem} {r : Int32} (hw : ModelAt cI w ad hh q) (h : f_X7_entriesBy q a1 μ = some r) : Met l yX7_entriesBy wsX7_entriesBy (rmk 2 44) (WPre D (tyl cI cG cL) A EN (w μ) [.ref (ad q), .int a1]) (PI D A (w μ) r) 0 0 A := by
  refine met_start (cc := cX7_entriesBy) (nL := 4) (ret := (some .int)) (own := RX7) hE (by decide) rfl rfl (Nat.le_of_ble_eq_true rfl) (fun p e s m args below meth c ls X hS hl hr hlk => ?_)
  have hx := X.1.1
  have hb := X.1.2.1
  replace hl : lv_has ls 4 [(0, .ref (ad q)), (1, .int a1)] := hl
  have hb4 : ∀ (fu : Nat) (x1 : Int32) (x2 : Int32) (x3 : Int32) (H : Heap) (locs : List Loc) (ls : Array Slot), HS D A (w μ) s.heap H locs → lv_has ls 4 [(0, .ref (ad q)), (1, .int x1), (2, .int x2), (3, .int x3)] → f_X7_entriesBy_b4 q fu x1 x2 x3 μ = some r → W p l e (headSpec wsX7_entriesBy (rmk 2 44)).room s m args below meth c H locs 0 0 (MQ below (PI D A (w μ) r) args s 0 0 A) (F0 m 4 ls []) := by
    intro fu
    induction fu with
    | zero =>
      intro x1 x2 x3 H locs ls hS hl h
      rw [f_X7_entriesBy_b4] at h
      cases h
    | succ fuel4 ih4 =>
      intro x1 x2 x3 H locs ls hS hl h
      rw [f_X7_entriesBy_b4] at h
      refine lv_iload_n hx hb dX7_entriesBy_4 rfl (lv_at hl 3 rfl) ?_
      refine lv_aload_n hx hb dX7_entriesBy_5 rfl (lv_at hl 0 rfl) ?_
      refine lv_iload_n hx hb dX7_entriesBy_6 rfl (lv_at hl 1 rfl) ?_
      refine lv_iconst (v := 2) hx hb dX7_entriesBy_7 (by decide) ?_
      obtain ⟨v1, ev1, h⟩ := ob h
      refine r_ci hS (r_runV (As := [.int x1, .int 2]) (rest := [.int x3]) X hS (c_X7_of l hE (w := w) (ad := ad) (μ := μ) (D := D) (cI := cI) (cG := cG) (cL := cL) hw ev1) (cwV 2 X.1.2.2.2.2 gX7_entriesBy_X7_of rfl rfl rfl (by decide +kernel) ⟨Nat.le_of_ble_eq_true rfl, Nat.le_of_ble_eq_true rfl⟩) (q0 := q) (ci := 5) rfl (hw.1 μ).1 rfl hl.1 rfl (Nat.le_of_ble_eq_true rfl) dX7_entriesBy_8 ⟨Nat.zero_le _, Nat.zero_le _⟩) (fun H locs hS => ?_)
      refine lv_icmp_ge (tgt := 34) hx hb dX7_entriesBy_11 (by decide) (fun cc => ?_) (fun cc => ?_)
      · replace h := it h cc
        refine lv_iload_n hx hb dX7_entriesBy_34 rfl (lv_at hl 2 rfl) ?_
        cases h
        exact r_iret X hS hr hlk dX7_entriesBy_35
      · replace h := ie h cc
        refine lv_iload_n hx hb dX7_entriesBy_14 rfl (lv_at hl 2 rfl) ?_
        refine lv_aload_n hx hb dX7_entriesBy_15 rfl (lv_at hl 0 rfl) ?_
        refine lv_aload_n hx hb dX7_entriesBy_16 rfl (lv_at hl 0 rfl) ?_
        refine lv_iload_n hx hb dX7_entriesBy_17 rfl (lv_at hl 1 rfl) ?_
        refine lv_iload_n hx hb dX7_entriesBy_18 rfl (lv_at hl 3 rfl) ?_
        obtain ⟨v2, ev2, h⟩ := ob h
        refine r_ci hS (r_runV (As := [.int x1, .int x3]) (rest := [.ref (ad q), .int x2]) X hS (c_X7_leafAt l hE (w := w) (ad := ad) (μ := μ) (D := D) (cI := cI) (cG := cG) (cL := cL) hw ev2) (cwV 2 X.1.2.2.2.2 gX7_entriesBy_X7_leafAt rfl rfl rfl (by decide +kernel) ⟨Nat.le_of_ble_eq_true rfl, Nat.le_of_ble_eq_true rfl⟩) (q0 := q) (ci := 5) rfl (hw.1 μ).1 rfl hl.1 rfl (Nat.le_of_ble_eq_true rfl) dX7_entriesBy_19 ⟨Nat.zero_le _, Nat.zero_le _⟩) (fun H locs hS => ?_)
        refine lv_iconst (v := 2) hx hb dX7_entriesBy_22 (by decide) ?_
        obtain ⟨v3, ev3, h⟩ := ob h
        refine r_ci hS (r_runV (As := [.int v2, .int 2]) (rest := [.int x2]) X hS (c_X7_of l hE (w := w) (ad := ad) (μ := μ) (D := D) (cI := cI) (cG := cG) (cL := cL) hw ev3) (cwV 2 X.1.2.2.2.2 gX7_entriesBy_X7_of rfl rfl rfl (by decide +kernel) ⟨Nat.le_of_ble_eq_true rfl, Nat.le_of_ble_eq_true rfl⟩) (q0 := q) (ci := 5) rfl (hw.1 μ).1 rfl hl.1 rfl (Nat.le_of_ble_eq_true rfl) dX7_entriesBy_23 ⟨Nat.zero_le _, Nat.zero_le _⟩) (fun H locs hS => ?_)
        refine lv_iadd hx hb dX7_entriesBy_26 ?_
        refine lv_istore_n (lv' := [(2, .int (x2 + v3)), (0, .ref (ad q)), (1, .int x1), (3, .int x3)]) hx hb dX7_entriesBy_27 rfl hl (by decide) rfl (fun ls hl => ?_)
        refine lv_iinc (v := x3 + 1) (lv' := [(3, .int (x3 + 1)), (2, .int (x2 + v3)), (0, .ref (ad q)), (1, .int x1)]) hx hb dX7_entriesBy_28 hl (k := 3) rfl rfl (by decide) rfl (fun ls hl => ?_)
        refine lv_goto (tgt := 4) hx hb dX7_entriesBy_31 (by decide) ?_
        exact ih4 x1 (x2 + v3) (x3 + 1) _ _ _ hS (lv_sub hl [2, 3, 1, 0] rfl) h
  unfold f_X7_entriesBy at h
  refine lv_iconst (v := 0) hx hb dX7_entriesBy_0 (by decide) ?_
  refine lv_istore_n (lv' := [(2, .int 0), (0, .ref (ad q)), (1, .int a1)]) hx hb dX7_entriesBy_1 rfl hl (by decide) rfl (fun ls hl => ?_)
  refine lv_iconst (v := 0) hx hb dX7_entriesBy_2 (by decide) ?_
  refine lv_istore_n (lv' := [(3, .int 0), (2, .int 0), (0, .ref (ad q)), (1, .int a1)]) hx hb dX7_entriesBy_3 rfl hl (by decide) rfl (fun ls hl => ?_)
  exact hb4 FU a1 0 0 _ _ _ hS (lv_sub hl [2, 3, 1, 0] rfl) h
def f_X7_now (q : Nat) (μ : Mem) : Option Int32 := (f_X7_current q μ).bind (fun v1 => (f_X7_ofRoot q v1 1 μ).bind (fun v2 => (some v2)))
set_option maxHeartbeats 4000000 in
set_option maxRecDepth 100000 in
theorem c_X7_now (l : Launch) {D : va_G} {cI cG cL : ClassId} {A : Nat → Prop} {EN : State → Heap → Prop} (hE : EnOK EN A) {w : Mem → va_W} {ad : Nat → Nat} {hh : Int64} {q : Nat} {μ : Mem} {r : Int32} (hw : ModelAt cI w ad hh q) (h : f_X7_now q μ = some r) : Met l yX7_now wsX7_now (rmk 1 22) (WPre D (tyl cI cG cL) A EN (w μ) [.ref (ad q)]) (PI D A (w μ) r) 0 0 A := by
  refine met_start (cc := cX7_now) (nL := 1) (ret := (some .int)) (own := RX7) hE (by decide) rfl rfl (Nat.le_of_ble_eq_true rfl) (fun p e s m args below meth c ls X hS hl hr hlk => ?_)
  have hx := X.1.1
  have hb := X.1.2.1
  replace hl : lv_has ls 1 [(0, .ref (ad q))] := hl
  unfold f_X7_now at h
  refine lv_aload_n hx hb dX7_now_0 rfl (lv_at hl 0 rfl) ?_
  refine lv_aload_n hx hb dX7_now_1 rfl (lv_at hl 0 rfl) ?_
  obtain ⟨v1, ev1, h⟩ := ob h
  refine r_ci hS (r_runV (As := []) (rest := [.ref (ad q)]) X hS (c_X7_current l hE (w := w) (ad := ad) (μ := μ) (D := D) (cI := cI) (cG := cG) (cL := cL) hw ev1) (cwV 0 X.1.2.2.2.2 gX7_now_X7_current rfl rfl rfl (by decide +kernel) ⟨Nat.le_of_ble_eq_true rfl, Nat.le_of_ble_eq_true rfl⟩) (q0 := q) (ci := 5) rfl (hw.1 μ).1 rfl hl.1 rfl (Nat.le_of_ble_eq_true rfl) dX7_now_2 ⟨Nat.zero_le _, Nat.zero_le _⟩) (fun H locs hS => ?_)
  refine lv_iconst (v := 1) hx hb dX7_now_5 (by decide) ?_
  obtain ⟨v2, ev2, h⟩ := ob h
  refine r_ci hS (r_runV (As := [.int v1, .int 1]) (rest := []) X hS (c_X7_ofRoot l hE (w := w) (ad := ad) (μ := μ) (D := D) (cI := cI) (cG := cG) (cL := cL) hw ev2) (cwV 2 X.1.2.2.2.2 gX7_now_X7_ofRoot rfl rfl rfl (by decide +kernel) ⟨Nat.le_of_ble_eq_true rfl, Nat.le_of_ble_eq_true rfl⟩) (q0 := q) (ci := 5) rfl (hw.1 μ).1 rfl hl.1 rfl (Nat.le_of_ble_eq_true rfl) dX7_now_6 ⟨Nat.zero_le _, Nat.zero_le _⟩) (fun H locs hS => ?_)
  cases h
  exact r_iret X hS hr hlk dX7_now_9
def f_X7_drafts_b26 (q : Nat) (s0 : Int32) (μ : Mem) : Option Int32 := (some s0)
def f_X7_drafts (q : Nat) (μ : Mem) : Option Int32 := (rd 470 (μ (q + 1)) 467).bind (fun v1 => (if (0 : Int32) ≤ v1 then (rd 470 (μ (q + 1)) 467).bind (fun v2 => f_X7_drafts_b26 q v2 μ) else (f_X7_now q μ).bind (fun v3 => f_X7_drafts_b26 q v3 μ)))
set_option maxHeartbeats 4000000 in
set_option maxRecDepth 100000 in
theorem c_X7_drafts (l : Launch) {D : va_G} {cI cG cL : ClassId} {A : Nat → Prop} {EN : State → Heap → Prop} (hE : EnOK EN A) {w : Mem → va_W} {ad : Nat → Nat} {hh : Int64} {q : Nat} {μ : Mem} {r : Int32} (hw : ModelAt cI w ad hh q) (h : f_X7_drafts q μ = some r) : Met l yX7_drafts wsX7_drafts (rmk 2 42) (WPre D (tyl cI cG cL) A EN (w μ) [.ref (ad q)]) (PI D A (w μ) r) 0 0 A := by
  have hiX7 : ∀ w ∈ u_ws RX7 TX7 13, w ∈ wsX7_drafts := by decide +kernel
  have mf7 : Cond.fieldLink RX7 7 (TX7 0).1 (TX7 0).2.1 (TX7 0).2.2.1 ∈ wsX7_drafts := by decide +kernel
  refine met_start (cc := cX7_drafts) (nL := 1) (ret := (some .int)) (own := RX7) hE (by decide) rfl rfl (Nat.le_of_ble_eq_true rfl) (fun p e s m args below meth c ls X hS hl hr hlk => ?_)
  have hx := X.1.1
  have hb := X.1.2.1
  replace hl : lv_has ls 1 [(0, .ref (ad q))] := hl
  have hb26 : ∀ (s0 : Int32) (H : Heap) (locs : List Loc) (ls : Array Slot), HS D A (w μ) s.heap H locs → lv_has ls 1 [] → f_X7_drafts_b26 q s0 μ = some r → W p l e (headSpec wsX7_drafts (rmk 2 42)).room s m args below meth c H locs 0 0 (MQ below (PI D A (w μ) r) args s 0 0 A) (F0 m 26 ls [.int s0]) := by
    intro s0 H locs ls hS hl h
    unfold f_X7_drafts_b26 at h
    cases h
    exact r_iret X hS hr hlk dX7_drafts_26
  unfold f_X7_drafts at h
  refine lv_aload_n hx hb dX7_drafts_0 rfl (lv_at hl 0 rfl) ?_
  refine r_get X hS (T := TX7) (k := 0) (hw.1 μ).1 rfl hiX7 (by decide) mf7 rfl dX7_drafts_1 ?_
  refine lv_sipush (v := 467) hx hb dX7_drafts_4 (by decide) ?_
  obtain ⟨v1, ev1, h⟩ := ob h
  refine r_iald X hS (hw.2.1 μ).1 ev1 dX7_drafts_7 ?_
  refine lv_if_ge (tgt := 18) hx hb dX7_drafts_8 (by decide) (fun cc => ?_) (fun cc => ?_)
  · replace h := it h cc
    refine lv_aload_n hx hb dX7_drafts_18 rfl (lv_at hl 0 rfl) ?_
    refine r_get X hS (T := TX7) (k := 0) (hw.1 μ).1 rfl hiX7 (by decide) mf7 rfl dX7_drafts_19 ?_
    refine lv_sipush (v := 467) hx hb dX7_drafts_22 (by decide) ?_
    obtain ⟨v2, ev2, h⟩ := ob h
    refine r_iald X hS (hw.2.1 μ).1 ev2 dX7_drafts_25 ?_
    exact hb26 v2 _ _ _ hS (lv_sub hl [] rfl) h
  · replace h := ie h cc
    refine lv_aload_n hx hb dX7_drafts_11 rfl (lv_at hl 0 rfl) ?_
    obtain ⟨v3, ev3, h⟩ := ob h
    refine r_ci hS (r_runV (As := []) (rest := []) X hS (c_X7_now l hE (w := w) (ad := ad) (μ := μ) (D := D) (cI := cI) (cG := cG) (cL := cL) hw ev3) (cwV 0 X.1.2.2.2.2 gX7_drafts_X7_now rfl rfl rfl (by decide +kernel) ⟨Nat.le_of_ble_eq_true rfl, Nat.le_of_ble_eq_true rfl⟩) (q0 := q) (ci := 5) rfl (hw.1 μ).1 rfl hl.1 rfl (Nat.le_of_ble_eq_true rfl) dX7_drafts_12 ⟨Nat.zero_le _, Nat.zero_le _⟩) (fun H locs hS => ?_)
    refine lv_goto (tgt := 26) hx hb dX7_drafts_15 (by decide) ?_
    exact hb26 v3 _ _ _ hS (lv_sub hl [] rfl) h
def f_X7_bedsOf_b131 (q : Nat) (s0 : Int32) (μ : Mem) : Option Int32 := (some s0)
def f_X7_bedsOf_b130 (q : Nat) (s0 : Int32) (s1 : Int32) (μ : Mem) : Option Int32 := f_X7_bedsOf_b131 q (s1 + s0) μ
def f_X7_bedsOf_b116 (q : Nat) (x2 : Int32) (x6 : Int32) (x7 : Int32) (μ : Mem) : Option Int32 := (if x7 = 0 then f_X7_bedsOf_b130 q 0 (x2 + x6) μ else f_X7_bedsOf_b130 q 1 (x2 + x6) μ)
def f_X7_bedsOf_b92 (q : Nat) (x2 : Int32) (x3 : Int32) (x6 : Int32) (s0 : Int32) (μ : Mem) : Option Int32 := (if s0 = 0 then f_X7_bedsOf_b116 q x2 x6 s0 μ else (f_X7_of q x3 2 μ).bind (fun v7 => (if v7 = 6 then f_X7_bedsOf_b131 q (-1000) μ else f_X7_bedsOf_b116 q x2 x6 s0 μ)))
def f_X7_bedsOf_b91 (q : Nat) (x2 : Int32) (x3 : Int32) (x6 : Int32) (μ : Mem) : Option Int32 := f_X7_bedsOf_b92 q x2 x3 x6 0 μ
def f_X7_bedsOf_b64 (q : Nat) (x1 : Int32) (x2 : Int32) (x3 : Int32) (x5 : Int32) (s0 : Int32) (μ : Mem) : Option Int32 := (f_X7_placeIn q x5 x1 μ).bind (fun v6 => (if (0 : Int32) ≤ v6 then f_X7_bedsOf_b91 q x2 x3 s0 μ else (f_X7_of q x5 2 μ).bind (fun v8 => (if v8 = 4 then f_X7_bedsOf_b92 q x2 x3 s0 1 μ else f_X7_bedsOf_b91 q x2 x3 s0 μ))))
def f_X7_bedsOf_b16 (q : Nat) (x1 : Int32) (s0 : Int32) (μ : Mem) : Option Int32 := (f_X7_drafts q μ).bind (fun v2 => (f_X7_placeFor q v2 x1 μ).bind (fun v3 => (if (0 : Int32) ≤ v3 then (f_X7_leafAt q v2 v3 μ).bind (fun v4 => (f_X7_of q v4 4 μ).bind (fun v5 => (if v5 = 1 then f_X7_bedsOf_b64 q x1 s0 v2 v4 0 μ else f_X7_bedsOf_b64 q x1 s0 v2 v4 1 μ))) else (some (s0 + 1)))))
def f_X7_bedsOf (q : Nat) (a1 : Int32) (μ : Mem) : Option Int32 := (rd 470 (μ (q + 1)) 467).bind (fun v1 => (if (0 : Int32) ≤ v1 then f_X7_bedsOf_b16 q a1 0 μ else f_X7_bedsOf_b16 q a1 1 μ))
set_option maxHeartbeats 4000000 in
set_option maxRecDepth 100000 in
theorem c_X7_bedsOf (l : Launch) {D : va_G} {cI cG cL : ClassId} {A : Nat → Prop} {EN : State → Heap → Prop} (hE : EnOK EN A) {w : Mem → va_W} {ad : Nat → Nat} {hh : Int64} {q : Nat} {a1 : Int32} {μ : Mem} {r : Int32} (hw : ModelAt cI w ad hh q) (h : f_X7_bedsOf q a1 μ = some r) : Met l yX7_bedsOf wsX7_bedsOf (rmk 3 68) (WPre D (tyl cI cG cL) A EN (w μ) [.ref (ad q), .int a1]) (PI D A (w μ) r) 0 0 A := by
  have hiX7 : ∀ w ∈ u_ws RX7 TX7 13, w ∈ wsX7_bedsOf := by decide +kernel
  have mf7 : Cond.fieldLink RX7 7 (TX7 0).1 (TX7 0).2.1 (TX7 0).2.2.1 ∈ wsX7_bedsOf := by decide +kernel
  refine met_start (cc := cX7_bedsOf) (nL := 8) (ret := (some .int)) (own := RX7) hE (by decide) rfl rfl (Nat.le_of_ble_eq_true rfl) (fun p e s m args below meth c ls X hS hl hr hlk => ?_)
  have hx := X.1.1
  have hb := X.1.2.1
  replace hl : lv_has ls 8 [(0, .ref (ad q)), (1, .int a1)] := hl
  have hb131 : ∀ (s0 : Int32) (H : Heap) (locs : List Loc) (ls : Array Slot), HS D A (w μ) s.heap H locs → lv_has ls 8 [] → f_X7_bedsOf_b131 q s0 μ = some r → W p l e (headSpec wsX7_bedsOf (rmk 3 68)).room s m args below meth c H locs 0 0 (MQ below (PI D A (w μ) r) args s 0 0 A) (F0 m 131 ls [.int s0]) := by
    intro s0 H locs ls hS hl h
    unfold f_X7_bedsOf_b131 at h
    cases h
    exact r_iret X hS hr hlk dX7_bedsOf_131
  have hb130 : ∀ (s0 : Int32) (s1 : Int32) (H : Heap) (locs : List Loc) (ls : Array Slot), HS D A (w μ) s.heap H locs → lv_has ls 8 [] → f_X7_bedsOf_b130 q s0 s1 μ = some r → W p l e (headSpec wsX7_bedsOf (rmk 3 68)).room s m args below meth c H locs 0 0 (MQ below (PI D A (w μ) r) args s 0 0 A) (F0 m 130 ls [.int s0, .int s1]) := by
    intro s0 s1 H locs ls hS hl h
    unfold f_X7_bedsOf_b130 at h
    refine lv_iadd hx hb dX7_bedsOf_130 ?_
    exact hb131 (s1 + s0) _ _ _ hS (lv_sub hl [] rfl) h
  have hb116 : ∀ (x2 : Int32) (x6 : Int32) (x7 : Int32) (H : Heap) (locs : List Loc) (ls : Array Slot), HS D A (w μ) s.heap H locs → lv_has ls 8 [(2, .int x2), (6, .int x6), (7, .int x7)] → f_X7_bedsOf_b116 q x2 x6 x7 μ = some r → W p l e (headSpec wsX7_bedsOf (rmk 3 68)).room s m args below meth c H locs 0 0 (MQ below (PI D A (w μ) r) args s 0 0 A) (F0 m 116 ls []) := by
    intro x2 x6 x7 H locs ls hS hl h
    unfold f_X7_bedsOf_b116 at h
    refine lv_iload_n hx hb dX7_bedsOf_116 rfl (lv_at hl 0 rfl) ?_
    refine lv_iload hx hb dX7_bedsOf_117 (lv_at hl 1 rfl) ?_
    refine lv_iadd hx hb dX7_bedsOf_119 ?_
    refine lv_iload hx hb dX7_bedsOf_120 (lv_at hl 2 rfl) ?_
    refine lv_if_eq (tgt := 129) hx hb dX7_bedsOf_122 (by decide) (fun cc => ?_) (fun cc => ?_)
    · replace h := it h cc
      refine lv_iconst (v := 0) hx hb dX7_bedsOf_129 (by decide) ?_
      exact hb130 0 (x2 + x6) _ _ _ hS (lv_sub hl [] rfl) h
    · replace h := ie h cc
      refine lv_iconst (v := 1) hx hb dX7_bedsOf_125 (by decide) ?_
      refine lv_goto (tgt := 130) hx hb dX7_bedsOf_126 (by decide) ?_
      exact hb130 1 (x2 + x6) _ _ _ hS (lv_sub hl [] rfl) h
  have hb92 : ∀ (x2 : Int32) (x3 : Int32) (x6 : Int32) (s0 : Int32) (H : Heap) (locs : List Loc) (ls : Array Slot), HS D A (w μ) s.heap H locs → lv_has ls 8 [(0, .ref (ad q)), (2, .int x2), (3, .int x3), (6, .int x6)] → f_X7_bedsOf_b92 q x2 x3 x6 s0 μ = some r → W p l e (headSpec wsX7_bedsOf (rmk 3 68)).room s m args below meth c H locs 0 0 (MQ below (PI D A (w μ) r) args s 0 0 A) (F0 m 92 ls [.int s0]) := by
    intro x2 x3 x6 s0 H locs ls hS hl h
    unfold f_X7_bedsOf_b92 at h
    refine lv_istore (lv' := [(7, .int s0), (0, .ref (ad q)), (2, .int x2), (3, .int x3), (6, .int x6)]) hx hb dX7_bedsOf_92 hl (by decide) rfl (fun ls hl => ?_)
    refine lv_iload hx hb dX7_bedsOf_94 (lv_at hl 0 rfl) ?_
    refine lv_if_eq (tgt := 116) hx hb dX7_bedsOf_96 (by decide) (fun cc => ?_) (fun cc => ?_)
    · replace h := it h cc
      exact hb116 x2 x6 s0 _ _ _ hS (lv_sub hl [2, 4, 0] rfl) h
    · replace h := ie h cc
      refine lv_aload_n hx hb dX7_bedsOf_99 rfl (lv_at hl 1 rfl) ?_
      refine lv_iload_n hx hb dX7_bedsOf_100 rfl (lv_at hl 3 rfl) ?_
      refine lv_iconst (v := 2) hx hb dX7_bedsOf_101 (by decide) ?_
      obtain ⟨v7, ev7, h⟩ := ob h
      refine r_ci hS (r_runV (As := [.int x3, .int 2]) (rest := []) X hS (c_X7_of l hE (w := w) (ad := ad) (μ := μ) (D := D) (cI := cI) (cG := cG) (cL := cL) hw ev7) (cwV 2 X.1.2.2.2.2 gX7_bedsOf_X7_of rfl rfl rfl (by decide +kernel) ⟨Nat.le_of_ble_eq_true rfl, Nat.le_of_ble_eq_true rfl⟩) (q0 := q) (ci := 5) rfl (hw.1 μ).1 rfl hl.1 rfl (Nat.le_of_ble_eq_true rfl) dX7_bedsOf_102 ⟨Nat.zero_le _, Nat.zero_le _⟩) (fun H locs hS => ?_)
      refine lv_bipush (v := 6) hx hb dX7_bedsOf_105 (by decide) ?_
      refine lv_icmp_ne (tgt := 116) hx hb dX7_bedsOf_107 (by decide) (fun cc => ?_) (fun cc => ?_)
      · replace h := ie h cc
        exact hb116 x2 x6 s0 _ _ _ hS (lv_sub hl [2, 4, 0] rfl) h
      · replace h := it h cc
        refine lv_sipush (v := (-1000)) hx hb dX7_bedsOf_110 (by decide) ?_
        refine lv_goto (tgt := 131) hx hb dX7_bedsOf_113 (by decide) ?_
        exact hb131 (-1000) _ _ _ hS (lv_sub hl [] rfl) h
  have hb91 : ∀ (x2 : Int32) (x3 : Int32) (x6 : Int32) (H : Heap) (locs : List Loc) (ls : Array Slot), HS D A (w μ) s.heap H locs → lv_has ls 8 [(0, .ref (ad q)), (2, .int x2), (3, .int x3), (6, .int x6)] → f_X7_bedsOf_b91 q x2 x3 x6 μ = some r → W p l e (headSpec wsX7_bedsOf (rmk 3 68)).room s m args below meth c H locs 0 0 (MQ below (PI D A (w μ) r) args s 0 0 A) (F0 m 91 ls []) := by
    intro x2 x3 x6 H locs ls hS hl h
    unfold f_X7_bedsOf_b91 at h
    refine lv_iconst (v := 0) hx hb dX7_bedsOf_91 (by decide) ?_
    exact hb92 x2 x3 x6 0 _ _ _ hS (lv_sub hl [0, 1, 2, 3] rfl) h
  have hb64 : ∀ (x1 : Int32) (x2 : Int32) (x3 : Int32) (x5 : Int32) (s0 : Int32) (H : Heap) (locs : List Loc) (ls : Array Slot), HS D A (w μ) s.heap H locs → lv_has ls 8 [(0, .ref (ad q)), (1, .int x1), (2, .int x2), (3, .int x3), (5, .int x5)] → f_X7_bedsOf_b64 q x1 x2 x3 x5 s0 μ = some r → W p l e (headSpec wsX7_bedsOf (rmk 3 68)).room s m args below meth c H locs 0 0 (MQ below (PI D A (w μ) r) args s 0 0 A) (F0 m 64 ls [.int s0]) := by
    intro x1 x2 x3 x5 s0 H locs ls hS hl h
    unfold f_X7_bedsOf_b64 at h
    refine lv_istore (lv' := [(6, .int s0), (0, .ref (ad q)), (1, .int x1), (2, .int x2), (3, .int x3), (5, .int x5)]) hx hb dX7_bedsOf_64 hl (by decide) rfl (fun ls hl => ?_)
    refine lv_aload_n hx hb dX7_bedsOf_66 rfl (lv_at hl 1 rfl) ?_
    refine lv_iload hx hb dX7_bedsOf_67 (lv_at hl 5 rfl) ?_
    refine lv_iload_n hx hb dX7_bedsOf_69 rfl (lv_at hl 2 rfl) ?_
    obtain ⟨v6, ev6, h⟩ := ob h
    refine r_ci hS (r_runV (As := [.int x5, .int x1]) (rest := []) X hS (c_X7_placeIn l hE (w := w) (ad := ad) (μ := μ) (D := D) (cI := cI) (cG := cG) (cL := cL) hw ev6) (cwV 2 X.1.2.2.2.2 gX7_bedsOf_X7_placeIn rfl rfl rfl (by decide +kernel) ⟨Nat.le_of_ble_eq_true rfl, Nat.le_of_ble_eq_true rfl⟩) (q0 := q) (ci := 5) rfl (hw.1 μ).1 rfl hl.1 rfl (Nat.le_of_ble_eq_true rfl) dX7_bedsOf_70 ⟨Nat.zero_le _, Nat.zero_le _⟩) (fun H locs hS => ?_)
    refine lv_if_ge (tgt := 91) hx hb dX7_bedsOf_73 (by decide) (fun cc => ?_) (fun cc => ?_)
    · replace h := it h cc
      exact hb91 x2 x3 s0 _ _ _ hS (lv_sub hl [1, 3, 4, 0] rfl) h
    · replace h := ie h cc
      refine lv_aload_n hx hb dX7_bedsOf_76 rfl (lv_at hl 1 rfl) ?_
      refine lv_iload hx hb dX7_bedsOf_77 (lv_at hl 5 rfl) ?_
      refine lv_iconst (v := 2) hx hb dX7_bedsOf_79 (by decide) ?_
      obtain ⟨v8, ev8, h⟩ := ob h
      refine r_ci hS (r_runV (As := [.int x5, .int 2]) (rest := []) X hS (c_X7_of l hE (w := w) (ad := ad) (μ := μ) (D := D) (cI := cI) (cG := cG) (cL := cL) hw ev8) (cwV 2 X.1.2.2.2.2 gX7_bedsOf_X7_of rfl rfl rfl (by decide +kernel) ⟨Nat.le_of_ble_eq_true rfl, Nat.le_of_ble_eq_true rfl⟩) (q0 := q) (ci := 5) rfl (hw.1 μ).1 rfl hl.1 rfl (Nat.le_of_ble_eq_true rfl) dX7_bedsOf_80 ⟨Nat.zero_le _, Nat.zero_le _⟩) (fun H locs hS => ?_)
      refine lv_iconst (v := 4) hx hb dX7_bedsOf_83 (by decide) ?_
      refine lv_icmp_ne (tgt := 91) hx hb dX7_bedsOf_84 (by decide) (fun cc => ?_) (fun cc => ?_)
      · replace h := ie h cc
        exact hb91 x2 x3 s0 _ _ _ hS (lv_sub hl [1, 3, 4, 0] rfl) h
      · replace h := it h cc
        refine lv_iconst (v := 1) hx hb dX7_bedsOf_87 (by decide) ?_
        refine lv_goto (tgt := 92) hx hb dX7_bedsOf_88 (by decide) ?_
        exact hb92 x2 x3 s0 1 _ _ _ hS (lv_sub hl [1, 3, 4, 0] rfl) h
  have hb16 : ∀ (x1 : Int32) (s0 : Int32) (H : Heap) (locs : List Loc) (ls : Array Slot), HS D A (w μ) s.heap H locs → lv_has ls 8 [(0, .ref (ad q)), (1, .int x1)] → f_X7_bedsOf_b16 q x1 s0 μ = some r → W p l e (headSpec wsX7_bedsOf (rmk 3 68)).room s m args below meth c H locs 0 0 (MQ below (PI D A (w μ) r) args s 0 0 A) (F0 m 16 ls [.int s0]) := by
    intro x1 s0 H locs ls hS hl h
    unfold f_X7_bedsOf_b16 at h
    refine lv_istore_n (lv' := [(2, .int s0), (0, .ref (ad q)), (1, .int x1)]) hx hb dX7_bedsOf_16 rfl hl (by decide) rfl (fun ls hl => ?_)
    refine lv_aload_n hx hb dX7_bedsOf_17 rfl (lv_at hl 1 rfl) ?_
    obtain ⟨v2, ev2, h⟩ := ob h
    refine r_ci hS (r_runV (As := []) (rest := []) X hS (c_X7_drafts l hE (w := w) (ad := ad) (μ := μ) (D := D) (cI := cI) (cG := cG) (cL := cL) hw ev2) (cwV 0 X.1.2.2.2.2 gX7_bedsOf_X7_drafts rfl rfl rfl (by decide +kernel) ⟨Nat.le_of_ble_eq_true rfl, Nat.le_of_ble_eq_true rfl⟩) (q0 := q) (ci := 5) rfl (hw.1 μ).1 rfl hl.1 rfl (Nat.le_of_ble_eq_true rfl) dX7_bedsOf_18 ⟨Nat.zero_le _, Nat.zero_le _⟩) (fun H locs hS => ?_)
    refine lv_istore_n (lv' := [(3, .int v2), (2, .int s0), (0, .ref (ad q)), (1, .int x1)]) hx hb dX7_bedsOf_21 rfl hl (by decide) rfl (fun ls hl => ?_)
    refine lv_aload_n hx hb dX7_bedsOf_22 rfl (lv_at hl 2 rfl) ?_
    refine lv_iload_n hx hb dX7_bedsOf_23 rfl (lv_at hl 0 rfl) ?_
    refine lv_iload_n hx hb dX7_bedsOf_24 rfl (lv_at hl 3 rfl) ?_
    obtain ⟨v3, ev3, h⟩ := ob h
    refine r_ci hS (r_runV (As := [.int v2, .int x1]) (rest := []) X hS (c_X7_placeFor l hE (w := w) (ad := ad) (μ := μ) (D := D) (cI := cI) (cG := cG) (cL := cL) hw ev3) (cwV 2 X.1.2.2.2.2 gX7_bedsOf_X7_placeFor rfl rfl rfl (by decide +kernel) ⟨Nat.le_of_ble_eq_true rfl, Nat.le_of_ble_eq_true rfl⟩) (q0 := q) (ci := 5) rfl (hw.1 μ).1 rfl hl.1 rfl (Nat.le_of_ble_eq_true rfl) dX7_bedsOf_25 ⟨Nat.zero_le _, Nat.zero_le _⟩) (fun H locs hS => ?_)
    refine lv_istore (lv' := [(4, .int v3), (3, .int v2), (2, .int s0), (0, .ref (ad q)), (1, .int x1)]) hx hb dX7_bedsOf_28 hl (by decide) rfl (fun ls hl => ?_)
    refine lv_iload hx hb dX7_bedsOf_30 (lv_at hl 0 rfl) ?_
    refine lv_if_ge (tgt := 39) hx hb dX7_bedsOf_32 (by decide) (fun cc => ?_) (fun cc => ?_)
    · replace h := it h cc
      refine lv_aload_n hx hb dX7_bedsOf_39 rfl (lv_at hl 3 rfl) ?_
      refine lv_iload_n hx hb dX7_bedsOf_40 rfl (lv_at hl 1 rfl) ?_
      refine lv_iload hx hb dX7_bedsOf_41 (lv_at hl 0 rfl) ?_
      obtain ⟨v4, ev4, h⟩ := ob h
      refine r_ci hS (r_runV (As := [.int v2, .int v3]) (rest := []) X hS (c_X7_leafAt l hE (w := w) (ad := ad) (μ := μ) (D := D) (cI := cI) (cG := cG) (cL := cL) hw ev4) (cwV 2 X.1.2.2.2.2 gX7_bedsOf_X7_leafAt rfl rfl rfl (by decide +kernel) ⟨Nat.le_of_ble_eq_true rfl, Nat.le_of_ble_eq_true rfl⟩) (q0 := q) (ci := 5) rfl (hw.1 μ).1 rfl hl.1 rfl (Nat.le_of_ble_eq_true rfl) dX7_bedsOf_43 ⟨Nat.zero_le _, Nat.zero_le _⟩) (fun H locs hS => ?_)
      refine lv_istore (lv' := [(5, .int v4), (4, .int v3), (3, .int v2), (2, .int s0), (0, .ref (ad q)), (1, .int x1)]) hx hb dX7_bedsOf_46 hl (by decide) rfl (fun ls hl => ?_)
      refine lv_aload_n hx hb dX7_bedsOf_48 rfl (lv_at hl 4 rfl) ?_
      refine lv_iload hx hb dX7_bedsOf_49 (lv_at hl 0 rfl) ?_
      refine lv_iconst (v := 4) hx hb dX7_bedsOf_51 (by decide) ?_
      obtain ⟨v5, ev5, h⟩ := ob h
      refine r_ci hS (r_runV (As := [.int v4, .int 4]) (rest := []) X hS (c_X7_of l hE (w := w) (ad := ad) (μ := μ) (D := D) (cI := cI) (cG := cG) (cL := cL) hw ev5) (cwV 2 X.1.2.2.2.2 gX7_bedsOf_X7_of rfl rfl rfl (by decide +kernel) ⟨Nat.le_of_ble_eq_true rfl, Nat.le_of_ble_eq_true rfl⟩) (q0 := q) (ci := 5) rfl (hw.1 μ).1 rfl hl.1 rfl (Nat.le_of_ble_eq_true rfl) dX7_bedsOf_52 ⟨Nat.zero_le _, Nat.zero_le _⟩) (fun H locs hS => ?_)
      refine lv_iconst (v := 1) hx hb dX7_bedsOf_55 (by decide) ?_
      refine lv_icmp_ne (tgt := 63) hx hb dX7_bedsOf_56 (by decide) (fun cc => ?_) (fun cc => ?_)
      · replace h := ie h cc
        refine lv_iconst (v := 1) hx hb dX7_bedsOf_63 (by decide) ?_
        exact hb64 x1 s0 v2 v4 1 _ _ _ hS (lv_sub hl [4, 5, 3, 2, 0] rfl) h
      · replace h := it h cc
        refine lv_iconst (v := 0) hx hb dX7_bedsOf_59 (by decide) ?_
        refine lv_goto (tgt := 64) hx hb dX7_bedsOf_60 (by decide) ?_
        exact hb64 x1 s0 v2 v4 0 _ _ _ hS (lv_sub hl [4, 5, 3, 2, 0] rfl) h
    · replace h := ie h cc
      refine lv_iload_n hx hb dX7_bedsOf_35 rfl (lv_at hl 2 rfl) ?_
      refine lv_iconst (v := 1) hx hb dX7_bedsOf_36 (by decide) ?_
      refine lv_iadd hx hb dX7_bedsOf_37 ?_
      cases h
      exact r_iret X hS hr hlk dX7_bedsOf_38
  unfold f_X7_bedsOf at h
  refine lv_aload_n hx hb dX7_bedsOf_0 rfl (lv_at hl 0 rfl) ?_
  refine r_get X hS (T := TX7) (k := 0) (hw.1 μ).1 rfl hiX7 (by decide) mf7 rfl dX7_bedsOf_1 ?_
  refine lv_sipush (v := 467) hx hb dX7_bedsOf_4 (by decide) ?_
  obtain ⟨v1, ev1, h⟩ := ob h
  refine r_iald X hS (hw.2.1 μ).1 ev1 dX7_bedsOf_7 ?_
  refine lv_if_ge (tgt := 15) hx hb dX7_bedsOf_8 (by decide) (fun cc => ?_) (fun cc => ?_)
  · replace h := it h cc
    refine lv_iconst (v := 0) hx hb dX7_bedsOf_15 (by decide) ?_
    exact hb16 a1 0 _ _ _ hS (lv_sub hl [0, 1] rfl) h
  · replace h := ie h cc
    refine lv_iconst (v := 1) hx hb dX7_bedsOf_11 (by decide) ?_
    refine lv_goto (tgt := 16) hx hb dX7_bedsOf_12 (by decide) ?_
    exact hb16 a1 1 _ _ _ hS (lv_sub hl [0, 1] rfl) h
def f_X7_directory_b47 (q : Nat)  (μ : Mem) : Option (Int32 × Mem) := (rd 470 (μ (q + 1)) 467).bind (fun v2 => (some (v2, μ)))
def f_X7_directory (q : Nat) (μ : Mem) : Option (Int32 × Mem) := (rd 470 (μ (q + 1)) 467).bind (fun v1 => (if (0 : Int32) ≤ v1 then f_X7_directory_b47 q μ else (f_X7_now q μ).bind (fun v3 => bn2 (f_X7_dig q 1 μ) (fun v4 μ5 => (wr μ5 (q + 1) 470 467 v4).bind (fun μ6 => (rd 470 (μ6 (q + 1)) 467).bind (fun v7 => (f_X7_copies q v3 v7 μ6).bind (fun μ8 => (f_X7_leaves q v3 μ8).bind (fun μ9 => f_X7_directory_b47 q μ9))))))))
set_option maxHeartbeats 4000000 in
set_option maxRecDepth 100000 in
theorem c_X7_directory (l : Launch) {D : va_G} {cI cG cL : ClassId} {A : Nat → Prop} {EN : State → Heap → Prop} (hE : EnOK EN A) {w : Mem → va_W} {ad : Nat → Nat} {hh : Int64} {q : Nat} {μ : Mem} {r : Int32} {μ' : Mem} (hw : ModelAt cI w ad hh q) (h : f_X7_directory q μ = some (r, μ')) : Met l yX7_directory wsX7_directory (rmk 5 112) (WPre D (tyl cI cG cL) A EN (w μ) [.ref (ad q)]) (PI D A (w μ') r) 0 0 A := by
  have hiX7 : ∀ w ∈ u_ws RX7 TX7 13, w ∈ wsX7_directory := by decide +kernel
  have mf7 : Cond.fieldLink RX7 7 (TX7 0).1 (TX7 0).2.1 (TX7 0).2.2.1 ∈ wsX7_directory := by decide +kernel
  refine met_start (cc := cX7_directory) (nL := 2) (ret := (some .int)) (own := RX7) hE (by decide) rfl rfl (Nat.le_of_ble_eq_true rfl) (fun p e s m args below meth c ls X hS hl hr hlk => ?_)
  have hx := X.1.1
  have hb := X.1.2.1
  replace hl : lv_has ls 2 [(0, .ref (ad q))] := hl
  have hb47 : ∀  (μ : Mem) (H : Heap) (locs : List Loc) (ls : Array Slot), HS D A (w μ) s.heap H locs → lv_has ls 2 [(0, .ref (ad q))] → f_X7_directory_b47 q μ = some (r, μ') → W p l e (headSpec wsX7_directory (rmk 5 112)).room s m args below meth c H locs 0 0 (MQ below (PI D A (w μ') r) args s 0 0 A) (F0 m 47 ls []) := by
    intro μ H locs ls hS hl h
    unfold f_X7_directory_b47 at h
    refine lv_aload_n hx hb dX7_directory_47 rfl (lv_at hl 0 rfl) ?_
    refine r_get X hS (T := TX7) (k := 0) (hw.1 μ).1 rfl hiX7 (by decide) mf7 rfl dX7_directory_48 ?_
    refine lv_sipush (v := 467) hx hb dX7_directory_51 (by decide) ?_
    obtain ⟨v2, ev2, h⟩ := ob h
    refine r_iald X hS (hw.2.1 μ).1 ev2 dX7_directory_54 ?_
    obtain ⟨rfl, rfl⟩ := pr2 h
    exact r_iret X hS hr hlk dX7_directory_55
  unfold f_X7_directory at h
  refine lv_aload_n hx hb dX7_directory_0 rfl (lv_at hl 0 rfl) ?_
  refine r_get X hS (T := TX7) (k := 0) (hw.1 μ).1 rfl hiX7 (by decide) mf7 rfl dX7_directory_1 ?_
  refine lv_sipush (v := 467) hx hb dX7_directory_4 (by decide) ?_
  obtain ⟨v1, ev1, h⟩ := ob h
  refine r_iald X hS (hw.2.1 μ).1 ev1 dX7_directory_7 ?_
  refine lv_if_ge (tgt := 47) hx hb dX7_directory_8 (by decide) (fun cc => ?_) (fun cc => ?_)
  · replace h := it h cc
    exact hb47 μ _ _ _ hS (lv_sub hl [0] rfl) h
  · replace h := ie h cc
    refine lv_aload_n hx hb dX7_directory_11 rfl (lv_at hl 0 rfl) ?_
    obtain ⟨v3, ev3, h⟩ := ob h
    refine r_ci hS (r_runV (As := []) (rest := []) X hS (c_X7_now l hE (w := w) (ad := ad) (μ := μ) (D := D) (cI := cI) (cG := cG) (cL := cL) hw ev3) (cwV 0 X.1.2.2.2.2 gX7_directory_X7_now rfl rfl rfl (by decide +kernel) ⟨Nat.le_of_ble_eq_true rfl, Nat.le_of_ble_eq_true rfl⟩) (q0 := q) (ci := 5) rfl (hw.1 μ).1 rfl hl.1 rfl (Nat.le_of_ble_eq_true rfl) dX7_directory_12 ⟨Nat.zero_le _, Nat.zero_le _⟩) (fun H locs hS => ?_)
    refine lv_istore_n (lv' := [(1, .int v3), (0, .ref (ad q))]) hx hb dX7_directory_15 rfl hl (by decide) rfl (fun ls hl => ?_)
    refine lv_aload_n hx hb dX7_directory_16 rfl (lv_at hl 1 rfl) ?_
    refine r_get X hS (T := TX7) (k := 0) (hw.1 μ).1 rfl hiX7 (by decide) mf7 rfl dX7_directory_17 ?_
    refine lv_sipush (v := 467) hx hb dX7_directory_20 (by decide) ?_
    refine lv_aload_n hx hb dX7_directory_23 rfl (lv_at hl 1 rfl) ?_
    refine lv_iconst (v := 1) hx hb dX7_directory_24 (by decide) ?_
    obtain ⟨v4, μ5, ev4, h⟩ := ob2 h
    refine r_ci hS (r_runV (As := [.int 1]) (rest := [.int 467, .ref (ad (q + 1))]) X hS (c_X7_dig l hE (w := w) (ad := ad) (μ := μ) (D := D) (cI := cI) (cG := cG) (cL := cL) hw ev4) (cwV 1 X.1.2.2.2.2 gX7_directory_X7_dig rfl rfl rfl (by decide +kernel) ⟨Nat.le_of_ble_eq_true rfl, Nat.le_of_ble_eq_true rfl⟩) (q0 := q) (ci := 5) rfl (hw.1 μ).1 rfl hl.1 rfl (Nat.le_of_ble_eq_true rfl) dX7_directory_25 ⟨Nat.zero_le _, Nat.zero_le _⟩) (fun H locs hS => ?_)
    obtain ⟨μ6, eμ6, h⟩ := ob h
    refine r_iast X hS hw.2.1 eμ6 dX7_directory_28 (fun H locs hS => ?_)
    refine lv_aload_n hx hb dX7_directory_29 rfl (lv_at hl 1 rfl) ?_
    refine lv_iload_n hx hb dX7_directory_30 rfl (lv_at hl 0 rfl) ?_
    refine lv_aload_n hx hb dX7_directory_31 rfl (lv_at hl 1 rfl) ?_
    refine r_get X hS (T := TX7) (k := 0) (hw.1 μ6).1 rfl hiX7 (by decide) mf7 rfl dX7_directory_32 ?_
    refine lv_sipush (v := 467) hx hb dX7_directory_35 (by decide) ?_
    obtain ⟨v7, ev7, h⟩ := ob h
    refine r_iald X hS (hw.2.1 μ6).1 ev7 dX7_directory_38 ?_
    obtain ⟨μ8, eμ8, h⟩ := ob h
    refine r_cv hS (r_runV (As := [.int v3, .int v7]) (rest := []) X hS (c_X7_copies l hE (w := w) (ad := ad) (μ := μ6) (D := D) (cI := cI) (cG := cG) (cL := cL) hw eμ8) (cwV 2 X.1.2.2.2.2 gX7_directory_X7_copies rfl rfl rfl (by decide +kernel) ⟨Nat.le_of_ble_eq_true rfl, Nat.le_of_ble_eq_true rfl⟩) (q0 := q) (ci := 5) rfl (hw.1 μ6).1 rfl hl.1 rfl (Nat.le_of_ble_eq_true rfl) dX7_directory_39 ⟨Nat.zero_le _, Nat.zero_le _⟩) (fun H locs hS => ?_)
    refine lv_aload_n hx hb dX7_directory_42 rfl (lv_at hl 1 rfl) ?_
    refine lv_iload_n hx hb dX7_directory_43 rfl (lv_at hl 0 rfl) ?_
    obtain ⟨μ9, eμ9, h⟩ := ob h
    refine r_cv hS (r_runV (As := [.int v3]) (rest := []) X hS (c_X7_leaves l hE (w := w) (ad := ad) (μ := μ8) (D := D) (cI := cI) (cG := cG) (cL := cL) hw eμ9) (cwV 1 X.1.2.2.2.2 gX7_directory_X7_leaves rfl rfl rfl (by decide +kernel) ⟨Nat.le_of_ble_eq_true rfl, Nat.le_of_ble_eq_true rfl⟩) (q0 := q) (ci := 5) rfl (hw.1 μ8).1 rfl hl.1 rfl (Nat.le_of_ble_eq_true rfl) dX7_directory_44 ⟨Nat.zero_le _, Nat.zero_le _⟩) (fun H locs hS => ?_)
    exact hb47 μ9 _ _ _ hS (lv_sub hl [1] rfl) h
