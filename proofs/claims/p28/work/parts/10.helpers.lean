def f_X6_fillRow_b2 (q0 n0 : Nat)  : Nat → Int32 → Int32 → Mem → Option Mem
  | 0, _, _, _ => none
  | fuel2 + 1, x1, x2, μ => (if (nI n0) ≤ x2 then (some μ) else (wr μ q0 n0 x2 x1).bind (fun μ1 => f_X6_fillRow_b2 q0 n0 fuel2 x1 (x2 + 1) μ1))
def f_X6_fillRow (q0 n0 : Nat) (a1 : Int32) (μ : Mem) : Option Mem := f_X6_fillRow_b2 q0 n0 FU a1 0 μ
set_option maxHeartbeats 4000000 in
set_option maxRecDepth 100000 in
theorem c_X6_fillRow (l : Launch) {D : va_G} {cI cG cL : ClassId} {A : Nat → Prop} {EN : State → Heap → Prop} (hE : EnOK EN A) {w : Mem → va_W} {ad : Nat → Nat} {q0 n0 : Nat} {a1 : Int32} {μ : Mem}  {μ' : Mem} (hA0 : Arr cI w ad q0 n0) (h : f_X6_fillRow q0 n0 a1 μ = some μ') : Met l yX6_fillRow wsX6_fillRow (rmk 0 0) (WPre D (tyl cI cG cL) A EN (w μ) [.ref (ad q0), .int a1]) (PV D A (w μ')) 0 0 A := by
  refine met_start (cc := cX6_fillRow) (nL := 3) (ret := none) (own := RX6) hE (by decide) rfl rfl (Nat.le_of_ble_eq_true rfl) (fun p e s m args below meth c ls X hS hl hr hlk => ?_)
  have hx := X.1.1
  have hb := X.1.2.1
  replace hl : lv_has ls 3 [(0, .ref (ad q0)), (1, .int a1)] := hl
  have hb2 : ∀ (fu : Nat) (x1 : Int32) (x2 : Int32) (μ : Mem) (H : Heap) (locs : List Loc) (ls : Array Slot), HS D A (w μ) s.heap H locs → lv_has ls 3 [(0, .ref (ad q0)), (1, .int x1), (2, .int x2)] → f_X6_fillRow_b2 q0 n0 fu x1 x2 μ = some μ' → W p l e (headSpec wsX6_fillRow (rmk 0 0)).room s m args below meth c H locs 0 0 (MQ below (PV D A (w μ')) args s 0 0 A) (F0 m 2 ls []) := by
    intro fu
    induction fu with
    | zero =>
      intro x1 x2 μ H locs ls hS hl h
      rw [f_X6_fillRow_b2] at h
      cases h
    | succ fuel2 ih2 =>
      intro x1 x2 μ H locs ls hS hl h
      rw [f_X6_fillRow_b2] at h
      refine lv_iload_n hx hb dX6_fillRow_2 rfl (lv_at hl 2 rfl) ?_
      refine lv_aload_n hx hb dX6_fillRow_3 rfl (lv_at hl 0 rfl) ?_
      refine r_alen X hS (hA0 μ).1 (v := nI n0) rfl dX6_fillRow_4 ?_
      refine lv_icmp_ge (tgt := 18) hx hb dX6_fillRow_5 (by decide) (fun cc => ?_) (fun cc => ?_)
      · replace h := it h cc
        cases h
        exact r_vret X hS hr hlk dX6_fillRow_18
      · replace h := ie h cc
        refine lv_aload_n hx hb dX6_fillRow_8 rfl (lv_at hl 0 rfl) ?_
        refine lv_iload_n hx hb dX6_fillRow_9 rfl (lv_at hl 2 rfl) ?_
        refine lv_iload_n hx hb dX6_fillRow_10 rfl (lv_at hl 1 rfl) ?_
        obtain ⟨μ1, eμ1, h⟩ := ob h
        refine r_iast X hS hA0 eμ1 dX6_fillRow_11 (fun H locs hS => ?_)
        refine lv_iinc (v := x2 + 1) (lv' := [(2, .int (x2 + 1)), (0, .ref (ad q0)), (1, .int x1)]) hx hb dX6_fillRow_12 hl (k := 2) rfl rfl (by decide) rfl (fun ls hl => ?_)
        refine lv_goto (tgt := 2) hx hb dX6_fillRow_15 (by decide) ?_
        exact ih2 x1 (x2 + 1) μ1 _ _ _ hS (lv_sub hl [1, 2, 0] rfl) h
  unfold f_X6_fillRow at h
  refine lv_iconst (v := 0) hx hb dX6_fillRow_0 (by decide) ?_
  refine lv_istore_n (lv' := [(2, .int 0), (0, .ref (ad q0)), (1, .int a1)]) hx hb dX6_fillRow_1 rfl hl (by decide) rfl (fun ls hl => ?_)
  exact hb2 FU a1 0 μ _ _ _ hS (lv_sub hl [1, 2, 0] rfl) h
def f_X6_copyRow_b26 (q0 n0 : Nat) (q1 n1 : Nat)  (μ : Mem) : Option Mem := (some μ)
def f_X6_copyRow_b2 (q0 n0 : Nat) (q1 n1 : Nat)  : Nat → Int32 → Mem → Option Mem
  | 0, _, _ => none
  | fuel2 + 1, x2, μ => (if (nI n0) ≤ x2 then f_X6_copyRow_b26 q0 n0 q1 n1 μ else (if (nI n1) ≤ x2 then f_X6_copyRow_b26 q0 n0 q1 n1 μ else (rd n0 (μ q0) x2).bind (fun v1 => (wr μ q1 n1 x2 v1).bind (fun μ2 => f_X6_copyRow_b2 q0 n0 q1 n1 fuel2 (x2 + 1) μ2))))
def f_X6_copyRow (q0 n0 : Nat) (q1 n1 : Nat) (μ : Mem) : Option Mem := f_X6_copyRow_b2 q0 n0 q1 n1 FU 0 μ
set_option maxHeartbeats 4000000 in
set_option maxRecDepth 100000 in
theorem c_X6_copyRow (l : Launch) {D : va_G} {cI cG cL : ClassId} {A : Nat → Prop} {EN : State → Heap → Prop} (hE : EnOK EN A) {w : Mem → va_W} {ad : Nat → Nat} {q0 n0 : Nat} {q1 n1 : Nat} {μ : Mem}  {μ' : Mem} (hA0 : Arr cI w ad q0 n0) (hA1 : Arr cI w ad q1 n1) (h : f_X6_copyRow q0 n0 q1 n1 μ = some μ') : Met l yX6_copyRow wsX6_copyRow (rmk 0 0) (WPre D (tyl cI cG cL) A EN (w μ) [.ref (ad q0), .ref (ad q1)]) (PV D A (w μ')) 0 0 A := by
  refine met_start (cc := cX6_copyRow) (nL := 3) (ret := none) (own := RX6) hE (by decide) rfl rfl (Nat.le_of_ble_eq_true rfl) (fun p e s m args below meth c ls X hS hl hr hlk => ?_)
  have hx := X.1.1
  have hb := X.1.2.1
  replace hl : lv_has ls 3 [(0, .ref (ad q0)), (1, .ref (ad q1))] := hl
  have hb26 : ∀  (μ : Mem) (H : Heap) (locs : List Loc) (ls : Array Slot), HS D A (w μ) s.heap H locs → lv_has ls 3 [] → f_X6_copyRow_b26 q0 n0 q1 n1 μ = some μ' → W p l e (headSpec wsX6_copyRow (rmk 0 0)).room s m args below meth c H locs 0 0 (MQ below (PV D A (w μ')) args s 0 0 A) (F0 m 26 ls []) := by
    intro μ H locs ls hS hl h
    unfold f_X6_copyRow_b26 at h
    cases h
    exact r_vret X hS hr hlk dX6_copyRow_26
  have hb2 : ∀ (fu : Nat) (x2 : Int32) (μ : Mem) (H : Heap) (locs : List Loc) (ls : Array Slot), HS D A (w μ) s.heap H locs → lv_has ls 3 [(0, .ref (ad q0)), (1, .ref (ad q1)), (2, .int x2)] → f_X6_copyRow_b2 q0 n0 q1 n1 fu x2 μ = some μ' → W p l e (headSpec wsX6_copyRow (rmk 0 0)).room s m args below meth c H locs 0 0 (MQ below (PV D A (w μ')) args s 0 0 A) (F0 m 2 ls []) := by
    intro fu
    induction fu with
    | zero =>
      intro x2 μ H locs ls hS hl h
      rw [f_X6_copyRow_b2] at h
      cases h
    | succ fuel2 ih2 =>
      intro x2 μ H locs ls hS hl h
      rw [f_X6_copyRow_b2] at h
      refine lv_iload_n hx hb dX6_copyRow_2 rfl (lv_at hl 2 rfl) ?_
      refine lv_aload_n hx hb dX6_copyRow_3 rfl (lv_at hl 0 rfl) ?_
      refine r_alen X hS (hA0 μ).1 (v := nI n0) rfl dX6_copyRow_4 ?_
      refine lv_icmp_ge (tgt := 26) hx hb dX6_copyRow_5 (by decide) (fun cc => ?_) (fun cc => ?_)
      · replace h := it h cc
        exact hb26 μ _ _ _ hS (lv_sub hl [] rfl) h
      · replace h := ie h cc
        refine lv_iload_n hx hb dX6_copyRow_8 rfl (lv_at hl 2 rfl) ?_
        refine lv_aload_n hx hb dX6_copyRow_9 rfl (lv_at hl 1 rfl) ?_
        refine r_alen X hS (hA1 μ).1 (v := nI n1) rfl dX6_copyRow_10 ?_
        refine lv_icmp_ge (tgt := 26) hx hb dX6_copyRow_11 (by decide) (fun cc => ?_) (fun cc => ?_)
        · replace h := it h cc
          exact hb26 μ _ _ _ hS (lv_sub hl [] rfl) h
        · replace h := ie h cc
          refine lv_aload_n hx hb dX6_copyRow_14 rfl (lv_at hl 1 rfl) ?_
          refine lv_iload_n hx hb dX6_copyRow_15 rfl (lv_at hl 2 rfl) ?_
          refine lv_aload_n hx hb dX6_copyRow_16 rfl (lv_at hl 0 rfl) ?_
          refine lv_iload_n hx hb dX6_copyRow_17 rfl (lv_at hl 2 rfl) ?_
          obtain ⟨v1, ev1, h⟩ := ob h
          refine r_iald X hS (hA0 μ).1 ev1 dX6_copyRow_18 ?_
          obtain ⟨μ2, eμ2, h⟩ := ob h
          refine r_iast X hS hA1 eμ2 dX6_copyRow_19 (fun H locs hS => ?_)
          refine lv_iinc (v := x2 + 1) (lv' := [(2, .int (x2 + 1)), (0, .ref (ad q0)), (1, .ref (ad q1))]) hx hb dX6_copyRow_20 hl (k := 2) rfl rfl (by decide) rfl (fun ls hl => ?_)
          refine lv_goto (tgt := 2) hx hb dX6_copyRow_23 (by decide) ?_
          exact ih2 (x2 + 1) μ2 _ _ _ hS (lv_sub hl [1, 2, 0] rfl) h
  unfold f_X6_copyRow at h
  refine lv_iconst (v := 0) hx hb dX6_copyRow_0 (by decide) ?_
  refine lv_istore_n (lv' := [(2, .int 0), (0, .ref (ad q0)), (1, .ref (ad q1))]) hx hb dX6_copyRow_1 rfl hl (by decide) rfl (fun ls hl => ?_)
  exact hb2 FU 0 μ _ _ _ hS (lv_sub hl [1, 2, 0] rfl) h
def f_X6_cell_b19 (q0 n0 : Nat) (s0 : Int32) (μ : Mem) : Option Int32 := (some s0)
def f_X6_cell_b16 (q0 n0 : Nat)  (μ : Mem) : Option Int32 := f_X6_cell_b19 q0 n0 (-1000) μ
def f_X6_cell (q0 n0 : Nat) (a1 : Int32) (μ : Mem) : Option Int32 := (if a1 < 0 then f_X6_cell_b16 q0 n0 μ else (if (nI n0) ≤ a1 then f_X6_cell_b16 q0 n0 μ else (rd n0 (μ q0) a1).bind (fun v1 => f_X6_cell_b19 q0 n0 v1 μ)))
set_option maxHeartbeats 4000000 in
set_option maxRecDepth 100000 in
theorem c_X6_cell (l : Launch) {D : va_G} {cI cG cL : ClassId} {A : Nat → Prop} {EN : State → Heap → Prop} (hE : EnOK EN A) {w : Mem → va_W} {ad : Nat → Nat} {q0 n0 : Nat} {a1 : Int32} {μ : Mem} {r : Int32} (hA0 : Arr cI w ad q0 n0) (h : f_X6_cell q0 n0 a1 μ = some r) : Met l yX6_cell wsX6_cell (rmk 0 0) (WPre D (tyl cI cG cL) A EN (w μ) [.ref (ad q0), .int a1]) (PI D A (w μ) r) 0 0 A := by
  refine met_start (cc := cX6_cell) (nL := 2) (ret := (some .int)) (own := RX6) hE (by decide) rfl rfl (Nat.le_of_ble_eq_true rfl) (fun p e s m args below meth c ls X hS hl hr hlk => ?_)
  have hx := X.1.1
  have hb := X.1.2.1
  replace hl : lv_has ls 2 [(0, .ref (ad q0)), (1, .int a1)] := hl
  have hb19 : ∀ (s0 : Int32) (H : Heap) (locs : List Loc) (ls : Array Slot), HS D A (w μ) s.heap H locs → lv_has ls 2 [] → f_X6_cell_b19 q0 n0 s0 μ = some r → W p l e (headSpec wsX6_cell (rmk 0 0)).room s m args below meth c H locs 0 0 (MQ below (PI D A (w μ) r) args s 0 0 A) (F0 m 19 ls [.int s0]) := by
    intro s0 H locs ls hS hl h
    unfold f_X6_cell_b19 at h
    cases h
    exact r_iret X hS hr hlk dX6_cell_19
  have hb16 : ∀  (H : Heap) (locs : List Loc) (ls : Array Slot), HS D A (w μ) s.heap H locs → lv_has ls 2 [] → f_X6_cell_b16 q0 n0 μ = some r → W p l e (headSpec wsX6_cell (rmk 0 0)).room s m args below meth c H locs 0 0 (MQ below (PI D A (w μ) r) args s 0 0 A) (F0 m 16 ls []) := by
    intro H locs ls hS hl h
    unfold f_X6_cell_b16 at h
    refine lv_sipush (v := (-1000)) hx hb dX6_cell_16 (by decide) ?_
    exact hb19 (-1000) _ _ _ hS (lv_sub hl [] rfl) h
  unfold f_X6_cell at h
  refine lv_iload_n hx hb dX6_cell_0 rfl (lv_at hl 1 rfl) ?_
  refine lv_if_lt (tgt := 16) hx hb dX6_cell_1 (by decide) (fun cc => ?_) (fun cc => ?_)
  · replace h := it h cc
    exact hb16  _ _ _ hS (lv_sub hl [] rfl) h
  · replace h := ie h cc
    refine lv_iload_n hx hb dX6_cell_4 rfl (lv_at hl 1 rfl) ?_
    refine lv_aload_n hx hb dX6_cell_5 rfl (lv_at hl 0 rfl) ?_
    refine r_alen X hS (hA0 μ).1 (v := nI n0) rfl dX6_cell_6 ?_
    refine lv_icmp_ge (tgt := 16) hx hb dX6_cell_7 (by decide) (fun cc => ?_) (fun cc => ?_)
    · replace h := it h cc
      exact hb16  _ _ _ hS (lv_sub hl [] rfl) h
    · replace h := ie h cc
      refine lv_aload_n hx hb dX6_cell_10 rfl (lv_at hl 0 rfl) ?_
      refine lv_iload_n hx hb dX6_cell_11 rfl (lv_at hl 1 rfl) ?_
      obtain ⟨v1, ev1, h⟩ := ob h
      refine r_iald X hS (hA0 μ).1 ev1 dX6_cell_12 ?_
      refine lv_goto (tgt := 19) hx hb dX6_cell_13 (by decide) ?_
      exact hb19 v1 _ _ _ hS (lv_sub hl [] rfl) h
def f_X6_one_b9  (s0 : Int32)  : Option Int32 := (some s0)
def f_X6_one (a0 : Int32) : Option Int32 := (if a0 = 0 then f_X6_one_b9 0 else f_X6_one_b9 1)
set_option maxHeartbeats 4000000 in
set_option maxRecDepth 100000 in
theorem c_X6_one (l : Launch) {D : va_G} {cI cG cL : ClassId} {A : Nat → Prop} {EN : State → Heap → Prop} (hE : EnOK EN A) {w : Mem → va_W} {ad : Nat → Nat} {a0 : Int32} {μ : Mem} {r : Int32}  (h : f_X6_one a0 = some r) : Met l yX6_one wsX6_one (rmk 0 0) (WPre D (tyl cI cG cL) A EN (w μ) [.int a0]) (PI D A (w μ) r) 0 0 A := by
  refine met_start (cc := cX6_one) (nL := 1) (ret := (some .int)) (own := RX6) hE (by decide) rfl rfl (Nat.le_of_ble_eq_true rfl) (fun p e s m args below meth c ls X hS hl hr hlk => ?_)
  have hx := X.1.1
  have hb := X.1.2.1
  replace hl : lv_has ls 1 [(0, .int a0)] := hl
  have hb9 : ∀ (s0 : Int32) (H : Heap) (locs : List Loc) (ls : Array Slot), HS D A (w μ) s.heap H locs → lv_has ls 1 [] → f_X6_one_b9 s0 = some r → W p l e (headSpec wsX6_one (rmk 0 0)).room s m args below meth c H locs 0 0 (MQ below (PI D A (w μ) r) args s 0 0 A) (F0 m 9 ls [.int s0]) := by
    intro s0 H locs ls hS hl h
    unfold f_X6_one_b9 at h
    cases h
    exact r_iret X hS hr hlk dX6_one_9
  unfold f_X6_one at h
  refine lv_iload_n hx hb dX6_one_0 rfl (lv_at hl 0 rfl) ?_
  refine lv_if_eq (tgt := 8) hx hb dX6_one_1 (by decide) (fun cc => ?_) (fun cc => ?_)
  · replace h := it h cc
    refine lv_iconst (v := 0) hx hb dX6_one_8 (by decide) ?_
    exact hb9 0 _ _ _ hS (lv_sub hl [] rfl) h
  · replace h := ie h cc
    refine lv_iconst (v := 1) hx hb dX6_one_4 (by decide) ?_
    refine lv_goto (tgt := 9) hx hb dX6_one_5 (by decide) ?_
    exact hb9 1 _ _ _ hS (lv_sub hl [] rfl) h
def f_X6_setCell_b14 (q0 n0 : Nat)  (μ : Mem) : Option Mem := (some μ)
def f_X6_setCell (q0 n0 : Nat) (a1 : Int32) (a2 : Int32) (μ : Mem) : Option Mem := (if a1 < 0 then f_X6_setCell_b14 q0 n0 μ else (if (nI n0) ≤ a1 then f_X6_setCell_b14 q0 n0 μ else (wr μ q0 n0 a1 a2).bind (fun μ1 => f_X6_setCell_b14 q0 n0 μ1)))
set_option maxHeartbeats 4000000 in
set_option maxRecDepth 100000 in
theorem c_X6_setCell (l : Launch) {D : va_G} {cI cG cL : ClassId} {A : Nat → Prop} {EN : State → Heap → Prop} (hE : EnOK EN A) {w : Mem → va_W} {ad : Nat → Nat} {q0 n0 : Nat} {a1 : Int32} {a2 : Int32} {μ : Mem}  {μ' : Mem} (hA0 : Arr cI w ad q0 n0) (h : f_X6_setCell q0 n0 a1 a2 μ = some μ') : Met l yX6_setCell wsX6_setCell (rmk 0 0) (WPre D (tyl cI cG cL) A EN (w μ) [.ref (ad q0), .int a1, .int a2]) (PV D A (w μ')) 0 0 A := by
  refine met_start (cc := cX6_setCell) (nL := 3) (ret := none) (own := RX6) hE (by decide) rfl rfl (Nat.le_of_ble_eq_true rfl) (fun p e s m args below meth c ls X hS hl hr hlk => ?_)
  have hx := X.1.1
  have hb := X.1.2.1
  replace hl : lv_has ls 3 [(0, .ref (ad q0)), (1, .int a1), (2, .int a2)] := hl
  have hb14 : ∀  (μ : Mem) (H : Heap) (locs : List Loc) (ls : Array Slot), HS D A (w μ) s.heap H locs → lv_has ls 3 [] → f_X6_setCell_b14 q0 n0 μ = some μ' → W p l e (headSpec wsX6_setCell (rmk 0 0)).room s m args below meth c H locs 0 0 (MQ below (PV D A (w μ')) args s 0 0 A) (F0 m 14 ls []) := by
    intro μ H locs ls hS hl h
    unfold f_X6_setCell_b14 at h
    cases h
    exact r_vret X hS hr hlk dX6_setCell_14
  unfold f_X6_setCell at h
  refine lv_iload_n hx hb dX6_setCell_0 rfl (lv_at hl 1 rfl) ?_
  refine lv_if_lt (tgt := 14) hx hb dX6_setCell_1 (by decide) (fun cc => ?_) (fun cc => ?_)
  · replace h := it h cc
    exact hb14 μ _ _ _ hS (lv_sub hl [] rfl) h
  · replace h := ie h cc
    refine lv_iload_n hx hb dX6_setCell_4 rfl (lv_at hl 1 rfl) ?_
    refine lv_aload_n hx hb dX6_setCell_5 rfl (lv_at hl 0 rfl) ?_
    refine r_alen X hS (hA0 μ).1 (v := nI n0) rfl dX6_setCell_6 ?_
    refine lv_icmp_ge (tgt := 14) hx hb dX6_setCell_7 (by decide) (fun cc => ?_) (fun cc => ?_)
    · replace h := it h cc
      exact hb14 μ _ _ _ hS (lv_sub hl [] rfl) h
    · replace h := ie h cc
      refine lv_aload_n hx hb dX6_setCell_10 rfl (lv_at hl 0 rfl) ?_
      refine lv_iload_n hx hb dX6_setCell_11 rfl (lv_at hl 1 rfl) ?_
      refine lv_iload_n hx hb dX6_setCell_12 rfl (lv_at hl 2 rfl) ?_
      obtain ⟨μ1, eμ1, h⟩ := ob h
      refine r_iast X hS hA0 eμ1 dX6_setCell_13 (fun H locs hS => ?_)
      exact hb14 μ1 _ _ _ hS (lv_sub hl [] rfl) h
def f_X6_isBelow_b14  (s0 : Int32)  : Option Int32 := (zr s0).bind (fun v1 => (some v1))
def f_X6_isBelow_b13    : Option Int32 := f_X6_isBelow_b14 0
def f_X6_isBelow (a0 : Int32) (a1 : Int32) : Option Int32 := (if a0 < 0 then f_X6_isBelow_b13  else (if a1 ≤ a0 then f_X6_isBelow_b13  else f_X6_isBelow_b14 1))
set_option maxHeartbeats 4000000 in
set_option maxRecDepth 100000 in
theorem c_X6_isBelow (l : Launch) {D : va_G} {cI cG cL : ClassId} {A : Nat → Prop} {EN : State → Heap → Prop} (hE : EnOK EN A) {w : Mem → va_W} {ad : Nat → Nat} {a0 : Int32} {a1 : Int32} {μ : Mem} {r : Int32}  (h : f_X6_isBelow a0 a1 = some r) : Met l yX6_isBelow wsX6_isBelow (rmk 0 0) (WPre D (tyl cI cG cL) A EN (w μ) [.int a0, .int a1]) (PI D A (w μ) r) 0 0 A := by
  refine met_start (cc := cX6_isBelow) (nL := 2) (ret := (some .boolean)) (own := RX6) hE (by decide) rfl rfl (Nat.le_of_ble_eq_true rfl) (fun p e s m args below meth c ls X hS hl hr hlk => ?_)
  have hx := X.1.1
  have hb := X.1.2.1
  replace hl : lv_has ls 2 [(0, .int a0), (1, .int a1)] := hl
  have hb14 : ∀ (s0 : Int32) (H : Heap) (locs : List Loc) (ls : Array Slot), HS D A (w μ) s.heap H locs → lv_has ls 2 [] → f_X6_isBelow_b14 s0 = some r → W p l e (headSpec wsX6_isBelow (rmk 0 0)).room s m args below meth c H locs 0 0 (MQ below (PI D A (w μ) r) args s 0 0 A) (F0 m 14 ls [.int s0]) := by
    intro s0 H locs ls hS hl h
    unfold f_X6_isBelow_b14 at h
    obtain ⟨v1, ev1, h⟩ := ob h
    obtain ⟨ezv1, eov1⟩ := zr_ok ev1
    rw [ezv1]
    cases h
    exact r_zret X hS hr hlk eov1 dX6_isBelow_14
  have hb13 : ∀  (H : Heap) (locs : List Loc) (ls : Array Slot), HS D A (w μ) s.heap H locs → lv_has ls 2 [] → f_X6_isBelow_b13  = some r → W p l e (headSpec wsX6_isBelow (rmk 0 0)).room s m args below meth c H locs 0 0 (MQ below (PI D A (w μ) r) args s 0 0 A) (F0 m 13 ls []) := by
    intro H locs ls hS hl h
    unfold f_X6_isBelow_b13 at h
    refine lv_iconst (v := 0) hx hb dX6_isBelow_13 (by decide) ?_
    exact hb14 0 _ _ _ hS (lv_sub hl [] rfl) h
  unfold f_X6_isBelow at h
  refine lv_iload_n hx hb dX6_isBelow_0 rfl (lv_at hl 0 rfl) ?_
  refine lv_if_lt (tgt := 13) hx hb dX6_isBelow_1 (by decide) (fun cc => ?_) (fun cc => ?_)
  · replace h := it h cc
    exact hb13  _ _ _ hS (lv_sub hl [] rfl) h
  · replace h := ie h cc
    refine lv_iload_n hx hb dX6_isBelow_4 rfl (lv_at hl 0 rfl) ?_
    refine lv_iload_n hx hb dX6_isBelow_5 rfl (lv_at hl 1 rfl) ?_
    refine lv_icmp_ge (tgt := 13) hx hb dX6_isBelow_6 (by decide) (fun cc => ?_) (fun cc => ?_)
    · replace h := it h cc
      exact hb13  _ _ _ hS (lv_sub hl [] rfl) h
    · replace h := ie h cc
      refine lv_iconst (v := 1) hx hb dX6_isBelow_9 (by decide) ?_
      refine lv_goto (tgt := 14) hx hb dX6_isBelow_10 (by decide) ?_
      exact hb14 1 _ _ _ hS (lv_sub hl [] rfl) h
def f_X6_keyFault_b14  (s0 : Int32)  : Option Int32 := (some s0)
def f_X6_keyFault (a0 : Int32) : Option Int32 := (f_X6_isBelow a0 100).bind (fun v1 => (if v1 = 0 then f_X6_keyFault_b14 2 else f_X6_keyFault_b14 0))
set_option maxHeartbeats 4000000 in
set_option maxRecDepth 100000 in
theorem c_X6_keyFault (l : Launch) {D : va_G} {cI cG cL : ClassId} {A : Nat → Prop} {EN : State → Heap → Prop} (hE : EnOK EN A) {w : Mem → va_W} {ad : Nat → Nat} {a0 : Int32} {μ : Mem} {r : Int32}  (h : f_X6_keyFault a0 = some r) : Met l yX6_keyFault wsX6_keyFault (rmk 1 21) (WPre D (tyl cI cG cL) A EN (w μ) [.int a0]) (PI D A (w μ) r) 0 0 A := by
  refine met_start (cc := cX6_keyFault) (nL := 1) (ret := (some .int)) (own := RX6) hE (by decide) rfl rfl (Nat.le_of_ble_eq_true rfl) (fun p e s m args below meth c ls X hS hl hr hlk => ?_)
  have hx := X.1.1
  have hb := X.1.2.1
  replace hl : lv_has ls 1 [(0, .int a0)] := hl
  have hb14 : ∀ (s0 : Int32) (H : Heap) (locs : List Loc) (ls : Array Slot), HS D A (w μ) s.heap H locs → lv_has ls 1 [] → f_X6_keyFault_b14 s0 = some r → W p l e (headSpec wsX6_keyFault (rmk 1 21)).room s m args below meth c H locs 0 0 (MQ below (PI D A (w μ) r) args s 0 0 A) (F0 m 14 ls [.int s0]) := by
    intro s0 H locs ls hS hl h
    unfold f_X6_keyFault_b14 at h
    cases h
    exact r_iret X hS hr hlk dX6_keyFault_14
  unfold f_X6_keyFault at h
  refine lv_iload_n hx hb dX6_keyFault_0 rfl (lv_at hl 0 rfl) ?_
  refine lv_bipush (v := 100) hx hb dX6_keyFault_1 (by decide) ?_
  obtain ⟨v1, ev1, h⟩ := ob h
  refine r_ci hS (r_runS (As := [.int a0, .int 100]) (rest := []) X hS (c_X6_isBelow l hE (w := w) (ad := ad) (μ := μ) (D := D) (cI := cI) (cG := cG) (cL := cL) ev1) (va_cwS 2 X.1.2.2.2.2 gX6_keyFault_X6_isBelow rfl rfl rfl (by decide +kernel) ⟨Nat.le_of_ble_eq_true rfl, Nat.le_of_ble_eq_true rfl⟩) rfl hl.1 rfl (Nat.le_of_ble_eq_true rfl) dX6_keyFault_3 ⟨Nat.zero_le _, Nat.zero_le _⟩) (fun H locs hS => ?_)
  refine lv_if_eq (tgt := 13) hx hb dX6_keyFault_6 (by decide) (fun cc => ?_) (fun cc => ?_)
  · replace h := it h cc
    refine lv_iconst (v := 2) hx hb dX6_keyFault_13 (by decide) ?_
    exact hb14 2 _ _ _ hS (lv_sub hl [] rfl) h
  · replace h := ie h cc
    refine lv_iconst (v := 0) hx hb dX6_keyFault_9 (by decide) ?_
    refine lv_goto (tgt := 14) hx hb dX6_keyFault_10 (by decide) ?_
    exact hb14 0 _ _ _ hS (lv_sub hl [] rfl) h
def f_X6_partFault_b23  (s0 : Int32)  : Option Int32 := (some s0)
def f_X6_partFault (a0 : Int32) (a1 : Int32) (a2 : Int32) (a3 : Int32) : Option Int32 := (f_X6_isBelow a0 a1).bind (fun v1 => (if v1 = 0 then (some 1) else (f_X6_isBelow a2 a3).bind (fun v2 => (if v2 = 0 then f_X6_partFault_b23 2 else f_X6_partFault_b23 0))))
set_option maxHeartbeats 4000000 in
set_option maxRecDepth 100000 in
theorem c_X6_partFault (l : Launch) {D : va_G} {cI cG cL : ClassId} {A : Nat → Prop} {EN : State → Heap → Prop} (hE : EnOK EN A) {w : Mem → va_W} {ad : Nat → Nat} {a0 : Int32} {a1 : Int32} {a2 : Int32} {a3 : Int32} {μ : Mem} {r : Int32}  (h : f_X6_partFault a0 a1 a2 a3 = some r) : Met l yX6_partFault wsX6_partFault (rmk 1 21) (WPre D (tyl cI cG cL) A EN (w μ) [.int a0, .int a1, .int a2, .int a3]) (PI D A (w μ) r) 0 0 A := by
  refine met_start (cc := cX6_partFault) (nL := 4) (ret := (some .int)) (own := RX6) hE (by decide) rfl rfl (Nat.le_of_ble_eq_true rfl) (fun p e s m args below meth c ls X hS hl hr hlk => ?_)
  have hx := X.1.1
  have hb := X.1.2.1
  replace hl : lv_has ls 4 [(0, .int a0), (1, .int a1), (2, .int a2), (3, .int a3)] := hl
  have hb23 : ∀ (s0 : Int32) (H : Heap) (locs : List Loc) (ls : Array Slot), HS D A (w μ) s.heap H locs → lv_has ls 4 [] → f_X6_partFault_b23 s0 = some r → W p l e (headSpec wsX6_partFault (rmk 1 21)).room s m args below meth c H locs 0 0 (MQ below (PI D A (w μ) r) args s 0 0 A) (F0 m 23 ls [.int s0]) := by
    intro s0 H locs ls hS hl h
    unfold f_X6_partFault_b23 at h
    cases h
    exact r_iret X hS hr hlk dX6_partFault_23
  unfold f_X6_partFault at h
  refine lv_iload_n hx hb dX6_partFault_0 rfl (lv_at hl 0 rfl) ?_
  refine lv_iload_n hx hb dX6_partFault_1 rfl (lv_at hl 1 rfl) ?_
  obtain ⟨v1, ev1, h⟩ := ob h
  refine r_ci hS (r_runS (As := [.int a0, .int a1]) (rest := []) X hS (c_X6_isBelow l hE (w := w) (ad := ad) (μ := μ) (D := D) (cI := cI) (cG := cG) (cL := cL) ev1) (va_cwS 2 X.1.2.2.2.2 gX6_partFault_X6_isBelow rfl rfl rfl (by decide +kernel) ⟨Nat.le_of_ble_eq_true rfl, Nat.le_of_ble_eq_true rfl⟩) rfl hl.1 rfl (Nat.le_of_ble_eq_true rfl) dX6_partFault_2 ⟨Nat.zero_le _, Nat.zero_le _⟩) (fun H locs hS => ?_)
  refine lv_if_ne (tgt := 10) hx hb dX6_partFault_5 (by decide) (fun cc => ?_) (fun cc => ?_)
  · replace h := ie h cc
    refine lv_iload_n hx hb dX6_partFault_10 rfl (lv_at hl 2 rfl) ?_
    refine lv_iload_n hx hb dX6_partFault_11 rfl (lv_at hl 3 rfl) ?_
    obtain ⟨v2, ev2, h⟩ := ob h
    refine r_ci hS (r_runS (As := [.int a2, .int a3]) (rest := []) X hS (c_X6_isBelow l hE (w := w) (ad := ad) (μ := μ) (D := D) (cI := cI) (cG := cG) (cL := cL) ev2) (va_cwS 2 X.1.2.2.2.2 gX6_partFault_X6_isBelow rfl rfl rfl (by decide +kernel) ⟨Nat.le_of_ble_eq_true rfl, Nat.le_of_ble_eq_true rfl⟩) rfl hl.1 rfl (Nat.le_of_ble_eq_true rfl) dX6_partFault_12 ⟨Nat.zero_le _, Nat.zero_le _⟩) (fun H locs hS => ?_)
    refine lv_if_eq (tgt := 22) hx hb dX6_partFault_15 (by decide) (fun cc => ?_) (fun cc => ?_)
    · replace h := it h cc
      refine lv_iconst (v := 2) hx hb dX6_partFault_22 (by decide) ?_
      exact hb23 2 _ _ _ hS (lv_sub hl [] rfl) h
    · replace h := ie h cc
      refine lv_iconst (v := 0) hx hb dX6_partFault_18 (by decide) ?_
      refine lv_goto (tgt := 23) hx hb dX6_partFault_19 (by decide) ?_
      exact hb23 0 _ _ _ hS (lv_sub hl [] rfl) h
  · replace h := it h cc
    refine lv_iconst (v := 1) hx hb dX6_partFault_8 (by decide) ?_
    cases h
    exact r_iret X hS hr hlk dX6_partFault_9
