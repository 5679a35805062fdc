def f_X6_nextBed (q : Nat) (μ : Mem) : Option Int32 := (f_X4_bedToDig (q + 1) μ).bind (fun v1 => (some v1))
set_option maxHeartbeats 4000000 in
set_option maxRecDepth 100000 in
theorem c_X6_nextBed (l : Launch) {D : va_G} {cI cG cL : ClassId} {A : Nat → Prop} {EN : State → Heap → Prop} (hE : EnOK EN A) {w : Mem → va_W} {adE ad : Nat → Nat} {q : Nat} {μ : Mem} {r : Int32} (hw : PGAt cI cG adE w ad q) (h : f_X6_nextBed q μ = some r) : Met l yX6_nextBed wsX6_nextBed (rmk 4 84) (WPre D (tyl cI cG cL) A EN (w μ) [.ref (ad q)]) (PI D A (w μ) r) 0 0 A := by
  have hiX6 : ∀ w ∈ u_ws RX6 TX6 3, w ∈ wsX6_nextBed := by decide +kernel
  have mf12 : Cond.fieldLink RX6 12 (TX6 0).1 (TX6 0).2.1 (TX6 0).2.2.1 ∈ wsX6_nextBed := by decide +kernel
  refine met_start (cc := cX6_nextBed) (nL := 1) (ret := (some .int)) (own := RX6) hE (by decide) rfl rfl (Nat.le_of_ble_eq_true rfl) (fun p e s m args below meth c ls X hS hl hr hlk => ?_)
  have hx := X.1.1
  have hb := X.1.2.1
  replace hl : lv_has ls 1 [(0, .ref (ad q))] := hl
  unfold f_X6_nextBed at h
  refine lv_aload_n hx hb dX6_nextBed_0 rfl (lv_at hl 0 rfl) ?_
  refine r_get X hS (T := TX6) (k := 0) (hw.1 μ).1 rfl hiX6 (by decide) mf12 rfl dX6_nextBed_1 ?_
  obtain ⟨v1, ev1, h⟩ := ob h
  refine r_ci hS (r_runV (As := []) (rest := []) X hS (c_X4_bedToDig l hE (w := w) (ad := ad) (μ := μ) (D := D) (cI := cI) (cG := cG) (cL := cL) hw.2.1 ev1) (cwV 0 X.1.2.2.2.2 gX6_nextBed_X4_bedToDig rfl rfl rfl (by decide +kernel) ⟨Nat.le_of_ble_eq_true rfl, Nat.le_of_ble_eq_true rfl⟩) (q0 := (q + 1)) (ci := 2) rfl (hw.2.1.1 μ).1 rfl hl.1 rfl (Nat.le_of_ble_eq_true rfl) dX6_nextBed_4 ⟨Nat.zero_le _, Nat.zero_le _⟩) (fun H locs hS => ?_)
  cases h
  exact r_iret X hS hr hlk dX6_nextBed_7
def f_X6_clearCommands (q : Nat) (μ : Mem) : Option (Int32 × Mem) := bn2 (f_X3_clear (q + 83) μ) (fun v1 μ2 => (some (v1, μ2)))
set_option maxHeartbeats 4000000 in
set_option maxRecDepth 100000 in
theorem c_X6_clearCommands (l : Launch) {D : va_G} {cI cG cL : ClassId} {A : Nat → Prop} {EN : State → Heap → Prop} (hE : EnOK EN A) {w : Mem → va_W} {adE ad : Nat → Nat} {q : Nat} {μ : Mem} {r : Int32} {μ' : Mem} (hw : PGAt cI cG adE w ad q) (h : f_X6_clearCommands q μ = some (r, μ')) : Met l yX6_clearCommands wsX6_clearCommands (rmk 1 21) (WPre D (tyl cI cG cL) A EN (w μ) [.ref (ad q)]) (PI D A (w μ') r) 0 0 A := by
  have hiX6 : ∀ w ∈ u_ws RX6 TX6 3, w ∈ wsX6_clearCommands := by decide +kernel
  have mf26 : Cond.fieldLink RX6 26 (TX6 2).1 (TX6 2).2.1 (TX6 2).2.2.1 ∈ wsX6_clearCommands := by decide +kernel
  refine met_start (cc := cX6_clearCommands) (nL := 1) (ret := (some .int)) (own := RX6) hE (by decide) rfl rfl (Nat.le_of_ble_eq_true rfl) (fun p e s m args below meth c ls X hS hl hr hlk => ?_)
  have hx := X.1.1
  have hb := X.1.2.1
  replace hl : lv_has ls 1 [(0, .ref (ad q))] := hl
  unfold f_X6_clearCommands at h
  refine lv_aload_n hx hb dX6_clearCommands_0 rfl (lv_at hl 0 rfl) ?_
  refine r_get X hS (T := TX6) (k := 2) (hw.1 μ).1 rfl hiX6 (by decide) mf26 rfl dX6_clearCommands_1 ?_
  obtain ⟨v1, μ2, ev1, h⟩ := ob2 h
  refine r_ci hS (r_runV (As := []) (rest := []) X hS (c_X3_clear l hE (w := w) (ad := ad) (μ := μ) (D := D) (cI := cI) (cG := cG) (cL := cL) hw.2.2.2 ev1) (cwV 0 X.1.2.2.2.2 gX6_clearCommands_X3_clear rfl rfl rfl (by decide +kernel) ⟨Nat.le_of_ble_eq_true rfl, Nat.le_of_ble_eq_true rfl⟩) (q0 := (q + 83)) (ci := 1) rfl (hw.2.2.2.1 μ).1 rfl hl.1 rfl (Nat.le_of_ble_eq_true rfl) dX6_clearCommands_4 ⟨Nat.zero_le _, Nat.zero_le _⟩) (fun H locs hS => ?_)
  obtain ⟨rfl, rfl⟩ := pr2 h
  exact r_iret X hS hr hlk dX6_clearCommands_7
def f_X6_withRoots_b14 (q : Nat) (k43 : Int64 → Int32 → Mem → Option Int64) : Nat → Int64 → Int32 → Int32 → Mem → Option Int64
  | 0, _, _, _, _ => none
  | fuel14 + 1, x3, x5, x6, μ => (if 4 ≤ x6 then k43 x3 x5 μ else (f_X4_rootPart (q + 1) x5 x6 μ).bind (fun v1 => (f_X6_mixed x3 v1.toInt64).bind (fun v2 => f_X6_withRoots_b14 q k43 fuel14 v2 x5 (x6 + 1) μ)))
def f_X6_withRoots_b5 (q : Nat)  : Nat → Int64 → Int32 → Mem → Option Int64
  | 0, _, _, _ => none
  | fuel5 + 1, x3, x5, μ => (if 2 ≤ x5 then (some x3) else f_X6_withRoots_b14 q (fun z3 z4 _ => f_X6_withRoots_b5 q fuel5 z3 (z4 + 1) μ) FU x3 x5 0 μ)
def f_X6_withRoots (q : Nat) (a1 : Int64) (μ : Mem) : Option Int64 := f_X6_withRoots_b5 q FU a1 0 μ
set_option maxHeartbeats 4000000 in
set_option maxRecDepth 100000 in
theorem c_X6_withRoots (l : Launch) {D : va_G} {cI cG cL : ClassId} {A : Nat → Prop} {EN : State → Heap → Prop} (hE : EnOK EN A) {w : Mem → va_W} {adE ad : Nat → Nat} {q : Nat} {a1 : Int64} {μ : Mem} {r : Int64} (hw : PGAt cI cG adE w ad q) (h : f_X6_withRoots q a1 μ = some r) : Met l yX6_withRoots wsX6_withRoots (rmk 2 45) (WPre D (tyl cI cG cL) A EN (w μ) [.ref (ad q), .long a1]) (PL D A (w μ) r) 0 0 A := by
  have hiX6 : ∀ w ∈ u_ws RX6 TX6 3, w ∈ wsX6_withRoots := by decide +kernel
  have mf12 : Cond.fieldLink RX6 12 (TX6 0).1 (TX6 0).2.1 (TX6 0).2.2.1 ∈ wsX6_withRoots := by decide +kernel
  refine met_start (cc := cX6_withRoots) (nL := 7) (ret := (some .long)) (own := RX6) hE (by decide) rfl rfl (Nat.le_of_ble_eq_true rfl) (fun p e s m args below meth c ls X hS hl hr hlk => ?_)
  have hx := X.1.1
  have hb := X.1.2.1
  replace hl : lv_has ls 7 [(0, .ref (ad q)), (1, .long a1)] := hl
  have hb14 : ∀ (k43 : Int64 → Int32 → Mem → Option Int64), (∀ (x3 : Int64) (x5 : Int32) (H : Heap) (locs : List Loc) (ls : Array Slot), HS D A (w μ) s.heap H locs → lv_has ls 7 [(0, .ref (ad q)), (3, .long x3), (5, .int x5)] → k43 x3 x5 μ = some r → W p l e (headSpec wsX6_withRoots (rmk 2 45)).room s m args below meth c H locs 0 0 (MQ below (PL D A (w μ) r) args s 0 0 A) (F0 m 43 ls [])) → ∀ (fu : Nat) (x3 : Int64) (x5 : Int32) (x6 : Int32) (H : Heap) (locs : List Loc) (ls : Array Slot), HS D A (w μ) s.heap H locs → lv_has ls 7 [(0, .ref (ad q)), (3, .long x3), (5, .int x5), (6, .int x6)] → f_X6_withRoots_b14 q k43 fu x3 x5 x6 μ = some r → W p l e (headSpec wsX6_withRoots (rmk 2 45)).room s m args below meth c H locs 0 0 (MQ below (PL D A (w μ) r) args s 0 0 A) (F0 m 14 ls []) := by
    intro k43 hk43 fu
    induction fu with
    | zero =>
      intro x3 x5 x6 H locs ls hS hl h
      rw [f_X6_withRoots_b14] at h
      cases h
    | succ fuel14 ih14 =>
      intro x3 x5 x6 H locs ls hS hl h
      rw [f_X6_withRoots_b14] at h
      refine lv_iload hx hb dX6_withRoots_14 (lv_at hl 3 rfl) ?_
      refine lv_iconst (v := 4) hx hb dX6_withRoots_16 (by decide) ?_
      refine lv_icmp_ge (tgt := 43) hx hb dX6_withRoots_17 (by decide) (fun cc => ?_) (fun cc => ?_)
      · replace h := it h cc
        exact hk43 x3 x5 _ _ _ hS (lv_sub hl [0, 1, 2] rfl) h
      · replace h := ie h cc
        refine lv_lload_n hx hb dX6_withRoots_20 rfl (lv_at hl 1 rfl) ?_
        refine lv_aload_n hx hb dX6_withRoots_21 rfl (lv_at hl 0 rfl) ?_
        refine r_get X hS (T := TX6) (k := 0) (hw.1 μ).1 rfl hiX6 (by decide) mf12 rfl dX6_withRoots_22 ?_
        refine lv_iload hx hb dX6_withRoots_25 (lv_at hl 2 rfl) ?_
        refine lv_iload hx hb dX6_withRoots_27 (lv_at hl 3 rfl) ?_
        obtain ⟨v1, ev1, h⟩ := ob h
        refine r_ci hS (r_runV (As := [.int x5, .int x6]) (rest := [.long x3]) X hS (c_X4_rootPart l hE (w := w) (ad := ad) (μ := μ) (D := D) (cI := cI) (cG := cG) (cL := cL) hw.2.1 ev1) (cwV 2 X.1.2.2.2.2 gX6_withRoots_X4_rootPart rfl rfl rfl (by decide +kernel) ⟨Nat.le_of_ble_eq_true rfl, Nat.le_of_ble_eq_true rfl⟩) (q0 := (q + 1)) (ci := 2) rfl (hw.2.1.1 μ).1 rfl hl.1 rfl (Nat.le_of_ble_eq_true rfl) dX6_withRoots_29 ⟨Nat.zero_le _, Nat.zero_le _⟩) (fun H locs hS => ?_)
        refine lv_i2l (v := v1.toInt64) hx hb dX6_withRoots_32 rfl ?_
        obtain ⟨v2, ev2, h⟩ := ob h
        refine r_cl hS (r_runS (As := [.long x3, .long v1.toInt64]) (rest := []) X hS (c_X6_mixed l hE (w := w) (ad := ad) (μ := μ) (D := D) (cI := cI) (cG := cG) (cL := cL) ev2) (va_cwS 2 X.1.2.2.2.2 gX6_withRoots_X6_mixed rfl rfl rfl (by decide +kernel) ⟨Nat.le_of_ble_eq_true rfl, Nat.le_of_ble_eq_true rfl⟩) rfl hl.1 rfl (Nat.le_of_ble_eq_true rfl) dX6_withRoots_33 ⟨Nat.zero_le _, Nat.zero_le _⟩) (fun H locs hS => ?_)
        refine lv_lstore_n (lv' := [(3, .long v2), (0, .ref (ad q)), (5, .int x5), (6, .int x6)]) hx hb dX6_withRoots_36 rfl hl (by decide) rfl (fun ls hl => ?_)
        refine lv_iinc (v := x6 + 1) (lv' := [(6, .int (x6 + 1)), (3, .long v2), (0, .ref (ad q)), (5, .int x5)]) hx hb dX6_withRoots_37 hl (k := 3) rfl rfl (by decide) rfl (fun ls hl => ?_)
        refine lv_goto (tgt := 14) hx hb dX6_withRoots_40 (by decide) ?_
        exact ih14 v2 x5 (x6 + 1) _ _ _ hS (lv_sub hl [2, 1, 3, 0] rfl) h
  have hb5 : ∀ (fu : Nat) (x3 : Int64) (x5 : Int32) (H : Heap) (locs : List Loc) (ls : Array Slot), HS D A (w μ) s.heap H locs → lv_has ls 7 [(0, .ref (ad q)), (3, .long x3), (5, .int x5)] → f_X6_withRoots_b5 q fu x3 x5 μ = some r → W p l e (headSpec wsX6_withRoots (rmk 2 45)).room s m args below meth c H locs 0 0 (MQ below (PL D A (w μ) r) args s 0 0 A) (F0 m 5 ls []) := by
    intro fu
    induction fu with
    | zero =>
      intro x3 x5 H locs ls hS hl h
      rw [f_X6_withRoots_b5] at h
      cases h
    | succ fuel5 ih5 =>
      intro x3 x5 H locs ls hS hl h
      rw [f_X6_withRoots_b5] at h
      refine lv_iload hx hb dX6_withRoots_5 (lv_at hl 2 rfl) ?_
      refine lv_iconst (v := 2) hx hb dX6_withRoots_7 (by decide) ?_
      refine lv_icmp_ge (tgt := 49) hx hb dX6_withRoots_8 (by decide) (fun cc => ?_) (fun cc => ?_)
      · replace h := it h cc
        refine lv_lload_n hx hb dX6_withRoots_49 rfl (lv_at hl 1 rfl) ?_
        cases h
        exact r_lret X hS hr hlk dX6_withRoots_50
      · replace h := ie h cc
        refine lv_iconst (v := 0) hx hb dX6_withRoots_11 (by decide) ?_
        refine lv_istore (lv' := [(6, .int 0), (0, .ref (ad q)), (3, .long x3), (5, .int x5)]) hx hb dX6_withRoots_12 hl (by decide) rfl (fun ls hl => ?_)
        refine hb14 _ ?_ FU x3 x5 0 _ _ _ hS (lv_sub hl [1, 2, 3, 0] rfl) h
        intro z3 z4 H locs ls hS hl h
        refine lv_iinc (v := z4 + 1) (lv' := [(5, .int (z4 + 1)), (0, .ref (ad q)), (3, .long z3)]) hx hb dX6_withRoots_43 hl (k := 2) rfl rfl (by decide) rfl (fun ls hl => ?_)
        refine lv_goto (tgt := 5) hx hb dX6_withRoots_46 (by decide) ?_
        exact ih5 z3 (z4 + 1) _ _ _ hS (lv_sub hl [1, 2, 0] rfl) h
  unfold f_X6_withRoots at h
  refine lv_lload_n hx hb dX6_withRoots_0 rfl (lv_at hl 1 rfl) ?_
  refine lv_lstore_n (lv' := [(3, .long a1), (0, .ref (ad q)), (1, .long a1)]) hx hb dX6_withRoots_1 rfl hl (by decide) rfl (fun ls hl => ?_)
  refine lv_iconst (v := 0) hx hb dX6_withRoots_2 (by decide) ?_
  refine lv_istore (lv' := [(5, .int 0), (3, .long a1), (0, .ref (ad q)), (1, .long a1)]) hx hb dX6_withRoots_3 hl (by decide) rfl (fun ls hl => ?_)
  exact hb5 FU a1 0 _ _ _ hS (lv_sub hl [2, 1, 0] rfl) h
def f_X6_withReaders_b14 (q : Nat) (k43 : Int64 → Int32 → Mem → Option Int64) : Nat → Int64 → Int32 → Int32 → Mem → Option Int64
  | 0, _, _, _, _ => none
  | fuel14 + 1, x3, x5, x6, μ => (if 3 ≤ x6 then k43 x3 x5 μ else (f_X4_readerPart (q + 1) x5 x6 μ).bind (fun v1 => (f_X6_mixed x3 v1.toInt64).bind (fun v2 => f_X6_withReaders_b14 q k43 fuel14 v2 x5 (x6 + 1) μ)))
def f_X6_withReaders_b5 (q : Nat)  : Nat → Int64 → Int32 → Mem → Option Int64
  | 0, _, _, _ => none
  | fuel5 + 1, x3, x5, μ => (if 4 ≤ x5 then (some x3) else f_X6_withReaders_b14 q (fun z3 z4 _ => f_X6_withReaders_b5 q fuel5 z3 (z4 + 1) μ) FU x3 x5 0 μ)
def f_X6_withReaders (q : Nat) (a1 : Int64) (μ : Mem) : Option Int64 := f_X6_withReaders_b5 q FU a1 0 μ
set_option maxHeartbeats 4000000 in
set_option maxRecDepth 100000 in
theorem c_X6_withReaders (l : Launch) {D : va_G} {cI cG cL : ClassId} {A : Nat → Prop} {EN : State → Heap → Prop} (hE : EnOK EN A) {w : Mem → va_W} {adE ad : Nat → Nat} {q : Nat} {a1 : Int64} {μ : Mem} {r : Int64} (hw : PGAt cI cG adE w ad q) (h : f_X6_withReaders q a1 μ = some r) : Met l yX6_withReaders wsX6_withReaders (rmk 3 69) (WPre D (tyl cI cG cL) A EN (w μ) [.ref (ad q), .long a1]) (PL D A (w μ) r) 0 0 A := by
  have hiX6 : ∀ w ∈ u_ws RX6 TX6 3, w ∈ wsX6_withReaders := by decide +kernel
  have mf12 : Cond.fieldLink RX6 12 (TX6 0).1 (TX6 0).2.1 (TX6 0).2.2.1 ∈ wsX6_withReaders := by decide +kernel
  refine met_start (cc := cX6_withReaders) (nL := 7) (ret := (some .long)) (own := RX6) hE (by decide) rfl rfl (Nat.le_of_ble_eq_true rfl) (fun p e s m args below meth c ls X hS hl hr hlk => ?_)
  have hx := X.1.1
  have hb := X.1.2.1
  replace hl : lv_has ls 7 [(0, .ref (ad q)), (1, .long a1)] := hl
  have hb14 : ∀ (k43 : Int64 → Int32 → Mem → Option Int64), (∀ (x3 : Int64) (x5 : Int32) (H : Heap) (locs : List Loc) (ls : Array Slot), HS D A (w μ) s.heap H locs → lv_has ls 7 [(0, .ref (ad q)), (3, .long x3), (5, .int x5)] → k43 x3 x5 μ = some r → W p l e (headSpec wsX6_withReaders (rmk 3 69)).room s m args below meth c H locs 0 0 (MQ below (PL D A (w μ) r) args s 0 0 A) (F0 m 43 ls [])) → ∀ (fu : Nat) (x3 : Int64) (x5 : Int32) (x6 : Int32) (H : Heap) (locs : List Loc) (ls : Array Slot), HS D A (w μ) s.heap H locs → lv_has ls 7 [(0, .ref (ad q)), (3, .long x3), (5, .int x5), (6, .int x6)] → f_X6_withReaders_b14 q k43 fu x3 x5 x6 μ = some r → W p l e (headSpec wsX6_withReaders (rmk 3 69)).room s m args below meth c H locs 0 0 (MQ below (PL D A (w μ) r) args s 0 0 A) (F0 m 14 ls []) := by
    intro k43 hk43 fu
    induction fu with
    | zero =>
      intro x3 x5 x6 H locs ls hS hl h
      rw [f_X6_withReaders_b14] at h
      cases h
    | succ fuel14 ih14 =>
      intro x3 x5 x6 H locs ls hS hl h
      rw [f_X6_withReaders_b14] at h
      refine lv_iload hx hb dX6_withReaders_14 (lv_at hl 3 rfl) ?_
      refine lv_iconst (v := 3) hx hb dX6_withReaders_16 (by decide) ?_
      refine lv_icmp_ge (tgt := 43) hx hb dX6_withReaders_17 (by decide) (fun cc => ?_) (fun cc => ?_)
      · replace h := it h cc
        exact hk43 x3 x5 _ _ _ hS (lv_sub hl [0, 1, 2] rfl) h
      · replace h := ie h cc
        refine lv_lload_n hx hb dX6_withReaders_20 rfl (lv_at hl 1 rfl) ?_
        refine lv_aload_n hx hb dX6_withReaders_21 rfl (lv_at hl 0 rfl) ?_
        refine r_get X hS (T := TX6) (k := 0) (hw.1 μ).1 rfl hiX6 (by decide) mf12 rfl dX6_withReaders_22 ?_
        refine lv_iload hx hb dX6_withReaders_25 (lv_at hl 2 rfl) ?_
        refine lv_iload hx hb dX6_withReaders_27 (lv_at hl 3 rfl) ?_
        obtain ⟨v1, ev1, h⟩ := ob h
        refine r_ci hS (r_runV (As := [.int x5, .int x6]) (rest := [.long x3]) X hS (c_X4_readerPart l hE (w := w) (ad := ad) (μ := μ) (D := D) (cI := cI) (cG := cG) (cL := cL) hw.2.1 ev1) (cwV 2 X.1.2.2.2.2 gX6_withReaders_X4_readerPart rfl rfl rfl (by decide +kernel) ⟨Nat.le_of_ble_eq_true rfl, Nat.le_of_ble_eq_true rfl⟩) (q0 := (q + 1)) (ci := 2) rfl (hw.2.1.1 μ).1 rfl hl.1 rfl (Nat.le_of_ble_eq_true rfl) dX6_withReaders_29 ⟨Nat.zero_le _, Nat.zero_le _⟩) (fun H locs hS => ?_)
        refine lv_i2l (v := v1.toInt64) hx hb dX6_withReaders_32 rfl ?_
        obtain ⟨v2, ev2, h⟩ := ob h
        refine r_cl hS (r_runS (As := [.long x3, .long v1.toInt64]) (rest := []) X hS (c_X6_mixed l hE (w := w) (ad := ad) (μ := μ) (D := D) (cI := cI) (cG := cG) (cL := cL) ev2) (va_cwS 2 X.1.2.2.2.2 gX6_withReaders_X6_mixed rfl rfl rfl (by decide +kernel) ⟨Nat.le_of_ble_eq_true rfl, Nat.le_of_ble_eq_true rfl⟩) rfl hl.1 rfl (Nat.le_of_ble_eq_true rfl) dX6_withReaders_33 ⟨Nat.zero_le _, Nat.zero_le _⟩) (fun H locs hS => ?_)
        refine lv_lstore_n (lv' := [(3, .long v2), (0, .ref (ad q)), (5, .int x5), (6, .int x6)]) hx hb dX6_withReaders_36 rfl hl (by decide) rfl (fun ls hl => ?_)
        refine lv_iinc (v := x6 + 1) (lv' := [(6, .int (x6 + 1)), (3, .long v2), (0, .ref (ad q)), (5, .int x5)]) hx hb dX6_withReaders_37 hl (k := 3) rfl rfl (by decide) rfl (fun ls hl => ?_)
        refine lv_goto (tgt := 14) hx hb dX6_withReaders_40 (by decide) ?_
        exact ih14 v2 x5 (x6 + 1) _ _ _ hS (lv_sub hl [2, 1, 3, 0] rfl) h
  have hb5 : ∀ (fu : Nat) (x3 : Int64) (x5 : Int32) (H : Heap) (locs : List Loc) (ls : Array Slot), HS D A (w μ) s.heap H locs → lv_has ls 7 [(0, .ref (ad q)), (3, .long x3), (5, .int x5)] → f_X6_withReaders_b5 q fu x3 x5 μ = some r → W p l e (headSpec wsX6_withReaders (rmk 3 69)).room s m args below meth c H locs 0 0 (MQ below (PL D A (w μ) r) args s 0 0 A) (F0 m 5 ls []) := by
    intro fu
    induction fu with
    | zero =>
      intro x3 x5 H locs ls hS hl h
      rw [f_X6_withReaders_b5] at h
      cases h
    | succ fuel5 ih5 =>
      intro x3 x5 H locs ls hS hl h
      rw [f_X6_withReaders_b5] at h
      refine lv_iload hx hb dX6_withReaders_5 (lv_at hl 2 rfl) ?_
      refine lv_iconst (v := 4) hx hb dX6_withReaders_7 (by decide) ?_
      refine lv_icmp_ge (tgt := 49) hx hb dX6_withReaders_8 (by decide) (fun cc => ?_) (fun cc => ?_)
      · replace h := it h cc
        refine lv_lload_n hx hb dX6_withReaders_49 rfl (lv_at hl 1 rfl) ?_
        cases h
        exact r_lret X hS hr hlk dX6_withReaders_50
      · replace h := ie h cc
        refine lv_iconst (v := 0) hx hb dX6_withReaders_11 (by decide) ?_
        refine lv_istore (lv' := [(6, .int 0), (0, .ref (ad q)), (3, .long x3), (5, .int x5)]) hx hb dX6_withReaders_12 hl (by decide) rfl (fun ls hl => ?_)
        refine hb14 _ ?_ FU x3 x5 0 _ _ _ hS (lv_sub hl [1, 2, 3, 0] rfl) h
        intro z3 z4 H locs ls hS hl h
        refine lv_iinc (v := z4 + 1) (lv' := [(5, .int (z4 + 1)), (0, .ref (ad q)), (3, .long z3)]) hx hb dX6_withReaders_43 hl (k := 2) rfl rfl (by decide) rfl (fun ls hl => ?_)
        refine lv_goto (tgt := 5) hx hb dX6_withReaders_46 (by decide) ?_
        exact ih5 z3 (z4 + 1) _ _ _ hS (lv_sub hl [1, 2, 0] rfl) h
  unfold f_X6_withReaders at h
  refine lv_lload_n hx hb dX6_withReaders_0 rfl (lv_at hl 1 rfl) ?_
  refine lv_lstore_n (lv' := [(3, .long a1), (0, .ref (ad q)), (1, .long a1)]) hx hb dX6_withReaders_1 rfl hl (by decide) rfl (fun ls hl => ?_)
  refine lv_iconst (v := 0) hx hb dX6_withReaders_2 (by decide) ?_
  refine lv_istore (lv' := [(5, .int 0), (3, .long a1), (0, .ref (ad q)), (1, .long a1)]) hx hb dX6_withReaders_3 hl (by decide) rfl (fun ls hl => ?_)
  exact hb5 FU a1 0 _ _ _ hS (lv_sub hl [2, 1, 0] rfl) h
def f_X6_withBeds_b15 (q : Nat) (k45 : Int64 → Int32 → Mem → Option Int64) : Nat → Int64 → Int32 → Int32 → Mem → Option Int64
  | 0, _, _, _, _ => none
  | fuel15 + 1, x3, x5, x6, μ => (if 6 ≤ x6 then k45 x3 x5 μ else (f_X4_bedPart (q + 1) x5 x6 μ).bind (fun v1 => (f_X6_mixed x3 v1.toInt64).bind (fun v2 => f_X6_withBeds_b15 q k45 fuel15 v2 x5 (x6 + 1) μ)))
def f_X6_withBeds_b5 (q : Nat)  : Nat → Int64 → Int32 → Mem → Option Int64
  | 0, _, _, _ => none
  | fuel5 + 1, x3, x5, μ => (if 32 ≤ x5 then (some x3) else f_X6_withBeds_b15 q (fun z3 z4 _ => f_X6_withBeds_b5 q fuel5 z3 (z4 + 1) μ) FU x3 x5 0 μ)
def f_X6_withBeds (q : Nat) (a1 : Int64) (μ : Mem) : Option Int64 := f_X6_withBeds_b5 q FU a1 0 μ
set_option maxHeartbeats 4000000 in
set_option maxRecDepth 100000 in
theorem c_X6_withBeds (l : Launch) {D : va_G} {cI cG cL : ClassId} {A : Nat → Prop} {EN : State → Heap → Prop} (hE : EnOK EN A) {w : Mem → va_W} {adE ad : Nat → Nat} {q : Nat} {a1 : Int64} {μ : Mem} {r : Int64} (hw : PGAt cI cG adE w ad q) (h : f_X6_withBeds q a1 μ = some r) : Met l yX6_withBeds wsX6_withBeds (rmk 4 86) (WPre D (tyl cI cG cL) A EN (w μ) [.ref (ad q), .long a1]) (PL D A (w μ) r) 0 0 A := by
  have hiX6 : ∀ w ∈ u_ws RX6 TX6 3, w ∈ wsX6_withBeds := by decide +kernel
  have mf12 : Cond.fieldLink RX6 12 (TX6 0).1 (TX6 0).2.1 (TX6 0).2.2.1 ∈ wsX6_withBeds := by decide +kernel
  refine met_start (cc := cX6_withBeds) (nL := 7) (ret := (some .long)) (own := RX6) hE (by decide) rfl rfl (Nat.le_of_ble_eq_true rfl) (fun p e s m args below meth c ls X hS hl hr hlk => ?_)
  have hx := X.1.1
  have hb := X.1.2.1
  replace hl : lv_has ls 7 [(0, .ref (ad q)), (1, .long a1)] := hl
  have hb15 : ∀ (k45 : Int64 → Int32 → Mem → Option Int64), (∀ (x3 : Int64) (x5 : Int32) (H : Heap) (locs : List Loc) (ls : Array Slot), HS D A (w μ) s.heap H locs → lv_has ls 7 [(0, .ref (ad q)), (3, .long x3), (5, .int x5)] → k45 x3 x5 μ = some r → W p l e (headSpec wsX6_withBeds (rmk 4 86)).room s m args below meth c H locs 0 0 (MQ below (PL D A (w μ) r) args s 0 0 A) (F0 m 45 ls [])) → ∀ (fu : Nat) (x3 : Int64) (x5 : Int32) (x6 : Int32) (H : Heap) (locs : List Loc) (ls : Array Slot), HS D A (w μ) s.heap H locs → lv_has ls 7 [(0, .ref (ad q)), (3, .long x3), (5, .int x5), (6, .int x6)] → f_X6_withBeds_b15 q k45 fu x3 x5 x6 μ = some r → W p l e (headSpec wsX6_withBeds (rmk 4 86)).room s m args below meth c H locs 0 0 (MQ below (PL D A (w μ) r) args s 0 0 A) (F0 m 15 ls []) := by
    intro k45 hk45 fu
    induction fu with
    | zero =>
      intro x3 x5 x6 H locs ls hS hl h
      rw [f_X6_withBeds_b15] at h
      cases h
    | succ fuel15 ih15 =>
      intro x3 x5 x6 H locs ls hS hl h
      rw [f_X6_withBeds_b15] at h
      refine lv_iload hx hb dX6_withBeds_15 (lv_at hl 3 rfl) ?_
      refine lv_bipush (v := 6) hx hb dX6_withBeds_17 (by decide) ?_
      refine lv_icmp_ge (tgt := 45) hx hb dX6_withBeds_19 (by decide) (fun cc => ?_) (fun cc => ?_)
      · replace h := it h cc
        exact hk45 x3 x5 _ _ _ hS (lv_sub hl [0, 1, 2] rfl) h
      · replace h := ie h cc
        refine lv_lload_n hx hb dX6_withBeds_22 rfl (lv_at hl 1 rfl) ?_
        refine lv_aload_n hx hb dX6_withBeds_23 rfl (lv_at hl 0 rfl) ?_
        refine r_get X hS (T := TX6) (k := 0) (hw.1 μ).1 rfl hiX6 (by decide) mf12 rfl dX6_withBeds_24 ?_
        refine lv_iload hx hb dX6_withBeds_27 (lv_at hl 2 rfl) ?_
        refine lv_iload hx hb dX6_withBeds_29 (lv_at hl 3 rfl) ?_
        obtain ⟨v1, ev1, h⟩ := ob h
        refine r_ci hS (r_runV (As := [.int x5, .int x6]) (rest := [.long x3]) X hS (c_X4_bedPart l hE (w := w) (ad := ad) (μ := μ) (D := D) (cI := cI) (cG := cG) (cL := cL) hw.2.1 ev1) (cwV 2 X.1.2.2.2.2 gX6_withBeds_X4_bedPart rfl rfl rfl (by decide +kernel) ⟨Nat.le_of_ble_eq_true rfl, Nat.le_of_ble_eq_true rfl⟩) (q0 := (q + 1)) (ci := 2) rfl (hw.2.1.1 μ).1 rfl hl.1 rfl (Nat.le_of_ble_eq_true rfl) dX6_withBeds_31 ⟨Nat.zero_le _, Nat.zero_le _⟩) (fun H locs hS => ?_)
        refine lv_i2l (v := v1.toInt64) hx hb dX6_withBeds_34 rfl ?_
        obtain ⟨v2, ev2, h⟩ := ob h
        refine r_cl hS (r_runS (As := [.long x3, .long v1.toInt64]) (rest := []) X hS (c_X6_mixed l hE (w := w) (ad := ad) (μ := μ) (D := D) (cI := cI) (cG := cG) (cL := cL) ev2) (va_cwS 2 X.1.2.2.2.2 gX6_withBeds_X6_mixed rfl rfl rfl (by decide +kernel) ⟨Nat.le_of_ble_eq_true rfl, Nat.le_of_ble_eq_true rfl⟩) rfl hl.1 rfl (Nat.le_of_ble_eq_true rfl) dX6_withBeds_35 ⟨Nat.zero_le _, Nat.zero_le _⟩) (fun H locs hS => ?_)
        refine lv_lstore_n (lv' := [(3, .long v2), (0, .ref (ad q)), (5, .int x5), (6, .int x6)]) hx hb dX6_withBeds_38 rfl hl (by decide) rfl (fun ls hl => ?_)
        refine lv_iinc (v := x6 + 1) (lv' := [(6, .int (x6 + 1)), (3, .long v2), (0, .ref (ad q)), (5, .int x5)]) hx hb dX6_withBeds_39 hl (k := 3) rfl rfl (by decide) rfl (fun ls hl => ?_)
        refine lv_goto (tgt := 15) hx hb dX6_withBeds_42 (by decide) ?_
        exact ih15 v2 x5 (x6 + 1) _ _ _ hS (lv_sub hl [2, 1, 3, 0] rfl) h
  have hb5 : ∀ (fu : Nat) (x3 : Int64) (x5 : Int32) (H : Heap) (locs : List Loc) (ls : Array Slot), HS D A (w μ) s.heap H locs → lv_has ls 7 [(0, .ref (ad q)), (3, .long x3), (5, .int x5)] → f_X6_withBeds_b5 q fu x3 x5 μ = some r → W p l e (headSpec wsX6_withBeds (rmk 4 86)).room s m args below meth c H locs 0 0 (MQ below (PL D A (w μ) r) args s 0 0 A) (F0 m 5 ls []) := by
    intro fu
    induction fu with
    | zero =>
      intro x3 x5 H locs ls hS hl h
      rw [f_X6_withBeds_b5] at h
      cases h
    | succ fuel5 ih5 =>
      intro x3 x5 H locs ls hS hl h
      rw [f_X6_withBeds_b5] at h
      refine lv_iload hx hb dX6_withBeds_5 (lv_at hl 2 rfl) ?_
      refine lv_bipush (v := 32) hx hb dX6_withBeds_7 (by decide) ?_
      refine lv_icmp_ge (tgt := 51) hx hb dX6_withBeds_9 (by decide) (fun cc => ?_) (fun cc => ?_)
      · replace h := it h cc
        refine lv_lload_n hx hb dX6_withBeds_51 rfl (lv_at hl 1 rfl) ?_
        cases h
        exact r_lret X hS hr hlk dX6_withBeds_52
      · replace h := ie h cc
        refine lv_iconst (v := 0) hx hb dX6_withBeds_12 (by decide) ?_
        refine lv_istore (lv' := [(6, .int 0), (0, .ref (ad q)), (3, .long x3), (5, .int x5)]) hx hb dX6_withBeds_13 hl (by decide) rfl (fun ls hl => ?_)
        refine hb15 _ ?_ FU x3 x5 0 _ _ _ hS (lv_sub hl [1, 2, 3, 0] rfl) h
        intro z3 z4 H locs ls hS hl h
        refine lv_iinc (v := z4 + 1) (lv' := [(5, .int (z4 + 1)), (0, .ref (ad q)), (3, .long z3)]) hx hb dX6_withBeds_45 hl (k := 2) rfl rfl (by decide) rfl (fun ls hl => ?_)
        refine lv_goto (tgt := 5) hx hb dX6_withBeds_48 (by decide) ?_
        exact ih5 z3 (z4 + 1) _ _ _ hS (lv_sub hl [1, 2, 0] rfl) h
  unfold f_X6_withBeds at h
  refine lv_lload_n hx hb dX6_withBeds_0 rfl (lv_at hl 1 rfl) ?_
  refine lv_lstore_n (lv' := [(3, .long a1), (0, .ref (ad q)), (1, .long a1)]) hx hb dX6_withBeds_1 rfl hl (by decide) rfl (fun ls hl => ?_)
  refine lv_iconst (v := 0) hx hb dX6_withBeds_2 (by decide) ?_
  refine lv_istore (lv' := [(5, .int 0), (3, .long a1), (0, .ref (ad q)), (1, .long a1)]) hx hb dX6_withBeds_3 hl (by decide) rfl (fun ls hl => ?_)
  exact hb5 FU a1 0 _ _ _ hS (lv_sub hl [2, 1, 0] rfl) h
def f_X6_withEntries_b24 (q : Nat) (k53 : Int64 → Int32 → Int32 → Mem → Option Int64) : Nat → Int64 → Int32 → Int32 → Int32 → Mem → Option Int64
  | 0, _, _, _, _, _ => none
  | fuel24 + 1, x3, x5, x6, x7, μ => (if 4 ≤ x7 then k53 x3 x5 x6 μ else (f_X4_entryPart (q + 1) x6 x7 μ).bind (fun v2 => (f_X6_mixed x3 v2.toInt64).bind (fun v3 => f_X6_withEntries_b24 q k53 fuel24 v3 x5 x6 (x7 + 1) μ)))
def f_X6_withEntries_b14 (q : Nat)  : Nat → Int64 → Int32 → Int32 → Mem → Option Int64
  | 0, _, _, _, _ => none
  | fuel14 + 1, x3, x5, x6, μ => (if x5 ≤ x6 then (some x3) else f_X6_withEntries_b24 q (fun z4 z5 z6 _ => f_X6_withEntries_b14 q fuel14 z4 z5 (z6 + 1) μ) FU x3 x5 x6 0 μ)
def f_X6_withEntries (q : Nat) (a1 : Int64) (μ : Mem) : Option Int64 := (f_X4_currentEntries (q + 1) μ).bind (fun v1 => f_X6_withEntries_b14 q FU a1 v1 0 μ)
set_option maxHeartbeats 4000000 in
set_option maxRecDepth 100000 in
theorem c_X6_withEntries (l : Launch) {D : va_G} {cI cG cL : ClassId} {A : Nat → Prop} {EN : State → Heap → Prop} (hE : EnOK EN A) {w : Mem → va_W} {adE ad : Nat → Nat} {q : Nat} {a1 : Int64} {μ : Mem} {r : Int64} (hw : PGAt cI cG adE w ad q) (h : f_X6_withEntries q a1 μ = some r) : Met l yX6_withEntries wsX6_withEntries (rmk 4 95) (WPre D (tyl cI cG cL) A EN (w μ) [.ref (ad q), .long a1]) (PL D A (w μ) r) 0 0 A := by
  have hiX6 : ∀ w ∈ u_ws RX6 TX6 3, w ∈ wsX6_withEntries := by decide +kernel
  have mf12 : Cond.fieldLink RX6 12 (TX6 0).1 (TX6 0).2.1 (TX6 0).2.2.1 ∈ wsX6_withEntries := by decide +kernel
  refine met_start (cc := cX6_withEntries) (nL := 8) (ret := (some .long)) (own := RX6) hE (by decide) rfl rfl (Nat.le_of_ble_eq_true rfl) (fun p e s m args below meth c ls X hS hl hr hlk => ?_)
  have hx := X.1.1
  have hb := X.1.2.1
  replace hl : lv_has ls 8 [(0, .ref (ad q)), (1, .long a1)] := hl
  have hb24 : ∀ (k53 : Int64 → Int32 → Int32 → Mem → Option Int64), (∀ (x3 : Int64) (x5 : Int32) (x6 : Int32) (H : Heap) (locs : List Loc) (ls : Array Slot), HS D A (w μ) s.heap H locs → lv_has ls 8 [(0, .ref (ad q)), (3, .long x3), (5, .int x5), (6, .int x6)] → k53 x3 x5 x6 μ = some r → W p l e (headSpec wsX6_withEntries (rmk 4 95)).room s m args below meth c H locs 0 0 (MQ below (PL D A (w μ) r) args s 0 0 A) (F0 m 53 ls [])) → ∀ (fu : Nat) (x3 : Int64) (x5 : Int32) (x6 : Int32) (x7 : Int32) (H : Heap) (locs : List Loc) (ls : Array Slot), HS D A (w μ) s.heap H locs → lv_has ls 8 [(0, .ref (ad q)), (3, .long x3), (5, .int x5), (6, .int x6), (7, .int x7)] → f_X6_withEntries_b24 q k53 fu x3 x5 x6 x7 μ = some r → W p l e (headSpec wsX6_withEntries (rmk 4 95)).room s m args below meth c H locs 0 0 (MQ below (PL D A (w μ) r) args s 0 0 A) (F0 m 24 ls []) := by
    intro k53 hk53 fu
    induction fu with
    | zero =>
      intro x3 x5 x6 x7 H locs ls hS hl h
      rw [f_X6_withEntries_b24] at h
      cases h
    | succ fuel24 ih24 =>
      intro x3 x5 x6 x7 H locs ls hS hl h
      rw [f_X6_withEntries_b24] at h
      refine lv_iload hx hb dX6_withEntries_24 (lv_at hl 4 rfl) ?_
      refine lv_iconst (v := 4) hx hb dX6_withEntries_26 (by decide) ?_
      refine lv_icmp_ge (tgt := 53) hx hb dX6_withEntries_27 (by decide) (fun cc => ?_) (fun cc => ?_)
      · replace h := it h cc
        exact hk53 x3 x5 x6 _ _ _ hS (lv_sub hl [0, 1, 2, 3] rfl) h
      · replace h := ie h cc
        refine lv_lload_n hx hb dX6_withEntries_30 rfl (lv_at hl 1 rfl) ?_
        refine lv_aload_n hx hb dX6_withEntries_31 rfl (lv_at hl 0 rfl) ?_
        refine r_get X hS (T := TX6) (k := 0) (hw.1 μ).1 rfl hiX6 (by decide) mf12 rfl dX6_withEntries_32 ?_
        refine lv_iload hx hb dX6_withEntries_35 (lv_at hl 3 rfl) ?_
        refine lv_iload hx hb dX6_withEntries_37 (lv_at hl 4 rfl) ?_
        obtain ⟨v2, ev2, h⟩ := ob h
        refine r_ci hS (r_runV (As := [.int x6, .int x7]) (rest := [.long x3]) X hS (c_X4_entryPart l hE (w := w) (ad := ad) (μ := μ) (D := D) (cI := cI) (cG := cG) (cL := cL) hw.2.1 ev2) (cwV 2 X.1.2.2.2.2 gX6_withEntries_X4_entryPart rfl rfl rfl (by decide +kernel) ⟨Nat.le_of_ble_eq_true rfl, Nat.le_of_ble_eq_true rfl⟩) (q0 := (q + 1)) (ci := 2) rfl (hw.2.1.1 μ).1 rfl hl.1 rfl (Nat.le_of_ble_eq_true rfl) dX6_withEntries_39 ⟨Nat.zero_le _, Nat.zero_le _⟩) (fun H locs hS => ?_)
        refine lv_i2l (v := v2.toInt64) hx hb dX6_withEntries_42 rfl ?_
        obtain ⟨v3, ev3, h⟩ := ob h
        refine r_cl hS (r_runS (As := [.long x3, .long v2.toInt64]) (rest := []) X hS (c_X6_mixed l hE (w := w) (ad := ad) (μ := μ) (D := D) (cI := cI) (cG := cG) (cL := cL) ev3) (va_cwS 2 X.1.2.2.2.2 gX6_withEntries_X6_mixed rfl rfl rfl (by decide +kernel) ⟨Nat.le_of_ble_eq_true rfl, Nat.le_of_ble_eq_true rfl⟩) rfl hl.1 rfl (Nat.le_of_ble_eq_true rfl) dX6_withEntries_43 ⟨Nat.zero_le _, Nat.zero_le _⟩) (fun H locs hS => ?_)
        refine lv_lstore_n (lv' := [(3, .long v3), (0, .ref (ad q)), (5, .int x5), (6, .int x6), (7, .int x7)]) hx hb dX6_withEntries_46 rfl hl (by decide) rfl (fun ls hl => ?_)
        refine lv_iinc (v := x7 + 1) (lv' := [(7, .int (x7 + 1)), (3, .long v3), (0, .ref (ad q)), (5, .int x5), (6, .int x6)]) hx hb dX6_withEntries_47 hl (k := 4) rfl rfl (by decide) rfl (fun ls hl => ?_)
        refine lv_goto (tgt := 24) hx hb dX6_withEntries_50 (by decide) ?_
        exact ih24 v3 x5 x6 (x7 + 1) _ _ _ hS (lv_sub hl [2, 1, 3, 4, 0] rfl) h
  have hb14 : ∀ (fu : Nat) (x3 : Int64) (x5 : Int32) (x6 : Int32) (H : Heap) (locs : List Loc) (ls : Array Slot), HS D A (w μ) s.heap H locs → lv_has ls 8 [(0, .ref (ad q)), (3, .long x3), (5, .int x5), (6, .int x6)] → f_X6_withEntries_b14 q fu x3 x5 x6 μ = some r → W p l e (headSpec wsX6_withEntries (rmk 4 95)).room s m args below meth c H locs 0 0 (MQ below (PL D A (w μ) r) args s 0 0 A) (F0 m 14 ls []) := by
    intro fu
    induction fu with
    | zero =>
      intro x3 x5 x6 H locs ls hS hl h
      rw [f_X6_withEntries_b14] at h
      cases h
    | succ fuel14 ih14 =>
      intro x3 x5 x6 H locs ls hS hl h
      rw [f_X6_withEntries_b14] at h
      refine lv_iload hx hb dX6_withEntries_14 (lv_at hl 3 rfl) ?_
      refine lv_iload hx hb dX6_withEntries_16 (lv_at hl 2 rfl) ?_
      refine lv_icmp_ge (tgt := 59) hx hb dX6_withEntries_18 (by decide) (fun cc => ?_) (fun cc => ?_)
      · replace h := it h cc
        refine lv_lload_n hx hb dX6_withEntries_59 rfl (lv_at hl 1 rfl) ?_
        cases h
        exact r_lret X hS hr hlk dX6_withEntries_60
      · replace h := ie h cc
        refine lv_iconst (v := 0) hx hb dX6_withEntries_21 (by decide) ?_
        refine lv_istore (lv' := [(7, .int 0), (0, .ref (ad q)), (3, .long x3), (5, .int x5), (6, .int x6)]) hx hb dX6_withEntries_22 hl (by decide) rfl (fun ls hl => ?_)
        refine hb24 _ ?_ FU x3 x5 x6 0 _ _ _ hS (lv_sub hl [1, 2, 3, 4, 0] rfl) h
        intro z4 z5 z6 H locs ls hS hl h
        refine lv_iinc (v := z6 + 1) (lv' := [(6, .int (z6 + 1)), (0, .ref (ad q)), (3, .long z4), (5, .int z5)]) hx hb dX6_withEntries_53 hl (k := 3) rfl rfl (by decide) rfl (fun ls hl => ?_)
        refine lv_goto (tgt := 14) hx hb dX6_withEntries_56 (by decide) ?_
        exact ih14 z4 z5 (z6 + 1) _ _ _ hS (lv_sub hl [1, 2, 3, 0] rfl) h
  unfold f_X6_withEntries at h
  refine lv_lload_n hx hb dX6_withEntries_0 rfl (lv_at hl 1 rfl) ?_
  refine lv_lstore_n (lv' := [(3, .long a1), (0, .ref (ad q)), (1, .long a1)]) hx hb dX6_withEntries_1 rfl hl (by decide) rfl (fun ls hl => ?_)
  refine lv_aload_n hx hb dX6_withEntries_2 rfl (lv_at hl 1 rfl) ?_
  refine r_get X hS (T := TX6) (k := 0) (hw.1 μ).1 rfl hiX6 (by decide) mf12 rfl dX6_withEntries_3 ?_
  obtain ⟨v1, ev1, h⟩ := ob h
  refine r_ci hS (r_runV (As := []) (rest := []) X hS (c_X4_currentEntries l hE (w := w) (ad := ad) (μ := μ) (D := D) (cI := cI) (cG := cG) (cL := cL) hw.2.1 ev1) (cwV 0 X.1.2.2.2.2 gX6_withEntries_X4_currentEntries rfl rfl rfl (by decide +kernel) ⟨Nat.le_of_ble_eq_true rfl, Nat.le_of_ble_eq_true rfl⟩) (q0 := (q + 1)) (ci := 2) rfl (hw.2.1.1 μ).1 rfl hl.1 rfl (Nat.le_of_ble_eq_true rfl) dX6_withEntries_6 ⟨Nat.zero_le _, Nat.zero_le _⟩) (fun H locs hS => ?_)
  refine lv_istore (lv' := [(5, .int v1), (3, .long a1), (0, .ref (ad q)), (1, .long a1)]) hx hb dX6_withEntries_9 hl (by decide) rfl (fun ls hl => ?_)
  refine lv_iconst (v := 0) hx hb dX6_withEntries_11 (by decide) ?_
  refine lv_istore (lv' := [(6, .int 0), (5, .int v1), (3, .long a1), (0, .ref (ad q)), (1, .long a1)]) hx hb dX6_withEntries_12 hl (by decide) rfl (fun ls hl => ?_)
  exact hb14 FU a1 v1 0 _ _ _ hS (lv_sub hl [3, 2, 1, 0] rfl) h
def f_X6_withDraft_b43 (q : Nat) (x3 : Int64) (μ : Mem) : Option Int64 := (some x3)
def f_X6_withDraft_b15 (q : Nat)  : Nat → Int64 → Int32 → Mem → Option Int64
  | 0, _, _, _ => none
  | fuel15 + 1, x3, x5, μ => (if 100 ≤ x5 then f_X6_withDraft_b43 q x3 μ else (f_X4_draftedValue (q + 1) x5 μ).bind (fun v1 => (f_X6_mixed x3 v1.toInt64).bind (fun v2 => f_X6_withDraft_b15 q fuel15 v2 (x5 + 1) μ)))
def f_X6_withDraft (q : Nat) (a1 : Int64) (μ : Mem) : Option Int64 := (if (μ (q + 1) 6) = 0 then f_X6_withDraft_b43 q a1 μ else f_X6_withDraft_b15 q FU a1 0 μ)
set_option maxHeartbeats 4000000 in
set_option maxRecDepth 100000 in
theorem c_X6_withDraft (l : Launch) {D : va_G} {cI cG cL : ClassId} {A : Nat → Prop} {EN : State → Heap → Prop} (hE : EnOK EN A) {w : Mem → va_W} {adE ad : Nat → Nat} {q : Nat} {a1 : Int64} {μ : Mem} {r : Int64} (hw : PGAt cI cG adE w ad q) (h : f_X6_withDraft q a1 μ = some r) : Met l yX6_withDraft wsX6_withDraft (rmk 4 92) (WPre D (tyl cI cG cL) A EN (w μ) [.ref (ad q), .long a1]) (PL D A (w μ) r) 0 0 A := by
  have hiX4 : ∀ w ∈ u_ws RX4 TX4 10, w ∈ wsX6_withDraft := by decide +kernel
  have hiX6 : ∀ w ∈ u_ws RX6 TX6 3, w ∈ wsX6_withDraft := by decide +kernel
  have mf12 : Cond.fieldLink RX6 12 (TX6 0).1 (TX6 0).2.1 (TX6 0).2.2.1 ∈ wsX6_withDraft := by decide +kernel
  refine met_start (cc := cX6_withDraft) (nL := 6) (ret := (some .long)) (own := RX6) hE (by decide) rfl rfl (Nat.le_of_ble_eq_true rfl) (fun p e s m args below meth c ls X hS hl hr hlk => ?_)
  have hx := X.1.1
  have hb := X.1.2.1
  replace hl : lv_has ls 6 [(0, .ref (ad q)), (1, .long a1)] := hl
  have hb43 : ∀ (x3 : Int64) (H : Heap) (locs : List Loc) (ls : Array Slot), HS D A (w μ) s.heap H locs → lv_has ls 6 [(3, .long x3)] → f_X6_withDraft_b43 q x3 μ = some r → W p l e (headSpec wsX6_withDraft (rmk 4 92)).room s m args below meth c H locs 0 0 (MQ below (PL D A (w μ) r) args s 0 0 A) (F0 m 43 ls []) := by
    intro x3 H locs ls hS hl h
    unfold f_X6_withDraft_b43 at h
    refine lv_lload_n hx hb dX6_withDraft_43 rfl (lv_at hl 0 rfl) ?_
    cases h
    exact r_lret X hS hr hlk dX6_withDraft_44
  have hb15 : ∀ (fu : Nat) (x3 : Int64) (x5 : Int32) (H : Heap) (locs : List Loc) (ls : Array Slot), HS D A (w μ) s.heap H locs → lv_has ls 6 [(0, .ref (ad q)), (3, .long x3), (5, .int x5)] → f_X6_withDraft_b15 q fu x3 x5 μ = some r → W p l e (headSpec wsX6_withDraft (rmk 4 92)).room s m args below meth c H locs 0 0 (MQ below (PL D A (w μ) r) args s 0 0 A) (F0 m 15 ls []) := by
    intro fu
    induction fu with
    | zero =>
      intro x3 x5 H locs ls hS hl h
      rw [f_X6_withDraft_b15] at h
      cases h
    | succ fuel15 ih15 =>
      intro x3 x5 H locs ls hS hl h
      rw [f_X6_withDraft_b15] at h
      refine lv_iload hx hb dX6_withDraft_15 (lv_at hl 2 rfl) ?_
      refine lv_bipush (v := 100) hx hb dX6_withDraft_17 (by decide) ?_
      refine lv_icmp_ge (tgt := 43) hx hb dX6_withDraft_19 (by decide) (fun cc => ?_) (fun cc => ?_)
      · replace h := it h cc
        exact hb43 x3 _ _ _ hS (lv_sub hl [1] rfl) h
      · replace h := ie h cc
        refine lv_lload_n hx hb dX6_withDraft_22 rfl (lv_at hl 1 rfl) ?_
        refine lv_aload_n hx hb dX6_withDraft_23 rfl (lv_at hl 0 rfl) ?_
        refine r_get X hS (T := TX6) (k := 0) (hw.1 μ).1 rfl hiX6 (by decide) mf12 rfl dX6_withDraft_24 ?_
        refine lv_iload hx hb dX6_withDraft_27 (lv_at hl 2 rfl) ?_
        obtain ⟨v1, ev1, h⟩ := ob h
        refine r_ci hS (r_runV (As := [.int x5]) (rest := [.long x3]) X hS (c_X4_draftedValue l hE (w := w) (ad := ad) (μ := μ) (D := D) (cI := cI) (cG := cG) (cL := cL) hw.2.1 ev1) (cwV 1 X.1.2.2.2.2 gX6_withDraft_X4_draftedValue rfl rfl rfl (by decide +kernel) ⟨Nat.le_of_ble_eq_true rfl, Nat.le_of_ble_eq_true rfl⟩) (q0 := (q + 1)) (ci := 2) rfl (hw.2.1.1 μ).1 rfl hl.1 rfl (Nat.le_of_ble_eq_true rfl) dX6_withDraft_29 ⟨Nat.zero_le _, Nat.zero_le _⟩) (fun H locs hS => ?_)
        refine lv_i2l (v := v1.toInt64) hx hb dX6_withDraft_32 rfl ?_
        obtain ⟨v2, ev2, h⟩ := ob h
        refine r_cl hS (r_runS (As := [.long x3, .long v1.toInt64]) (rest := []) X hS (c_X6_mixed l hE (w := w) (ad := ad) (μ := μ) (D := D) (cI := cI) (cG := cG) (cL := cL) ev2) (va_cwS 2 X.1.2.2.2.2 gX6_withDraft_X6_mixed rfl rfl rfl (by decide +kernel) ⟨Nat.le_of_ble_eq_true rfl, Nat.le_of_ble_eq_true rfl⟩) rfl hl.1 rfl (Nat.le_of_ble_eq_true rfl) dX6_withDraft_33 ⟨Nat.zero_le _, Nat.zero_le _⟩) (fun H locs hS => ?_)
        refine lv_lstore_n (lv' := [(3, .long v2), (0, .ref (ad q)), (5, .int x5)]) hx hb dX6_withDraft_36 rfl hl (by decide) rfl (fun ls hl => ?_)
        refine lv_iinc (v := x5 + 1) (lv' := [(5, .int (x5 + 1)), (3, .long v2), (0, .ref (ad q))]) hx hb dX6_withDraft_37 hl (k := 2) rfl rfl (by decide) rfl (fun ls hl => ?_)
        refine lv_goto (tgt := 15) hx hb dX6_withDraft_40 (by decide) ?_
        exact ih15 v2 (x5 + 1) _ _ _ hS (lv_sub hl [2, 1, 0] rfl) h
  unfold f_X6_withDraft at h
  refine lv_lload_n hx hb dX6_withDraft_0 rfl (lv_at hl 1 rfl) ?_
  refine lv_lstore_n (lv' := [(3, .long a1), (0, .ref (ad q)), (1, .long a1)]) hx hb dX6_withDraft_1 rfl hl (by decide) rfl (fun ls hl => ?_)
  refine lv_aload_n hx hb dX6_withDraft_2 rfl (lv_at hl 1 rfl) ?_
  refine r_get X hS (T := TX6) (k := 0) (hw.1 μ).1 rfl hiX6 (by decide) mf12 rfl dX6_withDraft_3 ?_
  refine r_getN X hS (T := TX4) (k := 6) (host := RX6) (hw.2.1.1 μ).1 rfl hiX4 (by decide) (X.nest 13 rfl) rfl dX6_withDraft_6 ?_
  refine lv_if_eq (tgt := 43) hx hb dX6_withDraft_9 (by decide) (fun cc => ?_) (fun cc => ?_)
  · replace h := it h cc
    exact hb43 a1 _ _ _ hS (lv_sub hl [0] rfl) h
  · replace h := ie h cc
    refine lv_iconst (v := 0) hx hb dX6_withDraft_12 (by decide) ?_
    refine lv_istore (lv' := [(5, .int 0), (3, .long a1), (0, .ref (ad q)), (1, .long a1)]) hx hb dX6_withDraft_13 hl (by decide) rfl (fun ls hl => ?_)
    exact hb15 FU a1 0 _ _ _ hS (lv_sub hl [2, 1, 0] rfl) h
