def f_X4_copyFrom (q : Nat) (q1 : Nat) (μ : Mem) : Option Mem := (f_X1_copyFrom (q + 1) (q1 + 1) μ).bind (fun μ1 => (f_X6_copyRow (q1 + 11) 2 (q + 11) 2 μ1).bind (fun μ2 => (f_X6_copyRow (q1 + 12) 2 (q + 12) 2 μ2).bind (fun μ3 => (f_X6_copyRow (q1 + 13) 2 (q + 13) 2 μ3).bind (fun μ4 => (f_X6_copyRow (q1 + 14) 4 (q + 14) 4 μ4).bind (fun μ5 => (f_X6_copyRow (q1 + 15) 4 (q + 15) 4 μ5).bind (fun μ6 => (zr (μ6 q1 6)).bind (fun v7 => (pf μ6 q 6 v7).bind (fun μ8 => (pf μ8 q 7 (μ8 q1 7)).bind (fun μ9 => (pf μ9 q 8 (μ9 q1 8)).bind (fun μ10 => (pf μ10 q 9 (μ10 q1 9)).bind (fun μ11 => (some μ11))))))))))))
set_option maxHeartbeats 4000000 in
set_option maxRecDepth 100000 in
theorem c_X4_copyFrom (l : Launch) {D : va_G} {cI cG cL : ClassId} {A : Nat → Prop} {EN : State → Heap → Prop} (hE : EnOK EN A) {w : Mem → va_W} {ad : Nat → Nat} {q : Nat} {q1 : Nat} {μ : Mem}  {μ' : Mem} (hw : GardenAt cI w ad q) (hw1 : GardenAt cI w ad q1) (h : f_X4_copyFrom q q1 μ = some μ') : Met l yX4_copyFrom wsX4_copyFrom (rmk 2 43) (WPre D (tyl cI cG cL) A EN (w μ) [.ref (ad q), .ref (ad q1)]) (PV D A (w μ')) 0 0 A := by
  have hiX4 : ∀ w ∈ u_ws RX4 TX4 10, w ∈ wsX4_copyFrom := by decide +kernel
  have mf12 : Cond.fieldLink RX4 12 (TX4 0).1 (TX4 0).2.1 (TX4 0).2.2.1 ∈ wsX4_copyFrom := by decide +kernel
  have mf18 : Cond.fieldLink RX4 18 (TX4 1).1 (TX4 1).2.1 (TX4 1).2.2.1 ∈ wsX4_copyFrom := by decide +kernel
  have miX6 : Cond.initialized RX6 ∈ wsX4_copyFrom := by decide +kernel
  have ms67 : Cond.static yX6_copyRow ∈ wsX4_copyFrom := by decide +kernel
  have mf22 : Cond.fieldLink RX4 22 (TX4 2).1 (TX4 2).2.1 (TX4 2).2.2.1 ∈ wsX4_copyFrom := by decide +kernel
  have mf25 : Cond.fieldLink RX4 25 (TX4 3).1 (TX4 3).2.1 (TX4 3).2.2.1 ∈ wsX4_copyFrom := by decide +kernel
  have mf28 : Cond.fieldLink RX4 28 (TX4 4).1 (TX4 4).2.1 (TX4 4).2.2.1 ∈ wsX4_copyFrom := by decide +kernel
  have mf31 : Cond.fieldLink RX4 31 (TX4 5).1 (TX4 5).2.1 (TX4 5).2.2.1 ∈ wsX4_copyFrom := by decide +kernel
  have mf34 : Cond.fieldLink RX4 34 (TX4 6).1 (TX4 6).2.1 (TX4 6).2.2.1 ∈ wsX4_copyFrom := by decide +kernel
  have mf38 : Cond.fieldLink RX4 38 (TX4 7).1 (TX4 7).2.1 (TX4 7).2.2.1 ∈ wsX4_copyFrom := by decide +kernel
  have mf42 : Cond.fieldLink RX4 42 (TX4 8).1 (TX4 8).2.1 (TX4 8).2.2.1 ∈ wsX4_copyFrom := by decide +kernel
  have mf45 : Cond.fieldLink RX4 45 (TX4 9).1 (TX4 9).2.1 (TX4 9).2.2.1 ∈ wsX4_copyFrom := by decide +kernel
  refine met_start (cc := cX4_copyFrom) (nL := 2) (ret := none) (own := RX4) hE (by decide) rfl rfl (Nat.le_of_ble_eq_true rfl) (fun p e s m args below meth c ls X hS hl hr hlk => ?_)
  have hx := X.1.1
  have hb := X.1.2.1
  replace hl : lv_has ls 2 [(0, .ref (ad q)), (1, .ref (ad q1))] := hl
  unfold f_X4_copyFrom at h
  refine lv_aload_n hx hb dX4_copyFrom_0 rfl (lv_at hl 0 rfl) ?_
  refine r_get X hS (T := TX4) (k := 0) (hw.1 μ).1 rfl hiX4 (by decide) mf12 rfl dX4_copyFrom_1 ?_
  refine lv_aload_n hx hb dX4_copyFrom_4 rfl (lv_at hl 1 rfl) ?_
  refine r_get X hS (T := TX4) (k := 0) (hw1.1 μ).1 rfl hiX4 (by decide) mf12 rfl dX4_copyFrom_5 ?_
  obtain ⟨μ1, eμ1, h⟩ := ob h
  refine r_cv hS (r_runV (As := [.ref (ad (q1 + 1))]) (rest := []) X hS (c_X1_copyFrom l hE (w := w) (ad := ad) (μ := μ) (D := D) (cI := cI) (cG := cG) (cL := cL) hw.2.1 hw1.2.1 eμ1) (cwV 1 X.1.2.2.2.2 gX4_copyFrom_X1_copyFrom rfl rfl rfl (by decide +kernel) ⟨Nat.le_of_ble_eq_true rfl, Nat.le_of_ble_eq_true rfl⟩) (q0 := (q + 1)) (ci := 0) rfl (hw.2.1.1 μ).1 rfl hl.1 rfl (Nat.le_of_ble_eq_true rfl) dX4_copyFrom_8 ⟨Nat.zero_le _, Nat.zero_le _⟩) (fun H locs hS => ?_)
  refine lv_aload_n hx hb dX4_copyFrom_11 rfl (lv_at hl 1 rfl) ?_
  refine r_get X hS (T := TX4) (k := 1) (hw1.1 μ1).1 rfl hiX4 (by decide) mf18 rfl dX4_copyFrom_12 ?_
  refine lv_aload_n hx hb dX4_copyFrom_15 rfl (lv_at hl 0 rfl) ?_
  refine r_get X hS (T := TX4) (k := 1) (hw.1 μ1).1 rfl hiX4 (by decide) mf18 rfl dX4_copyFrom_16 ?_
  obtain ⟨μ2, eμ2, h⟩ := ob h
  refine r_cv hS (r_runSN (As := [.ref (ad (q1 + 11)), .ref (ad (q + 11))]) (rest := []) (host := RX6) X hS (c_X6_copyRow l hE (w := w) (ad := ad) (μ := μ1) (D := D) (cI := cI) (cG := cG) (cL := cL) hw1.2.2.1 hw.2.2.1 eμ2) (va_cnB 2 X.1.2.2.2.2 gX4_copyFrom_X6_copyRow_n67 rfl rfl rfl (X.nest 5 rfl) (X.1.2.2.2.2 _ miX6) (by decide +kernel) ⟨Nat.le_of_ble_eq_true rfl, Nat.le_of_ble_eq_true rfl⟩) (X.1.2.2.2.2 _ ms67) rfl hl.1 rfl (Nat.le_of_ble_eq_true rfl) dX4_copyFrom_19 ⟨Nat.zero_le _, Nat.zero_le _⟩) (fun H locs hS => ?_)
  refine lv_aload_n hx hb dX4_copyFrom_22 rfl (lv_at hl 1 rfl) ?_
  refine r_get X hS (T := TX4) (k := 2) (hw1.1 μ2).1 rfl hiX4 (by decide) mf22 rfl dX4_copyFrom_23 ?_
  refine lv_aload_n hx hb dX4_copyFrom_26 rfl (lv_at hl 0 rfl) ?_
  refine r_get X hS (T := TX4) (k := 2) (hw.1 μ2).1 rfl hiX4 (by decide) mf22 rfl dX4_copyFrom_27 ?_
  obtain ⟨μ3, eμ3, h⟩ := ob h
  refine r_cv hS (r_runSN (As := [.ref (ad (q1 + 12)), .ref (ad (q + 12))]) (rest := []) (host := RX6) X hS (c_X6_copyRow l hE (w := w) (ad := ad) (μ := μ2) (D := D) (cI := cI) (cG := cG) (cL := cL) hw1.2.2.2.1 hw.2.2.2.1 eμ3) (va_cnB 2 X.1.2.2.2.2 gX4_copyFrom_X6_copyRow_n67 rfl rfl rfl (X.nest 5 rfl) (X.1.2.2.2.2 _ miX6) (by decide +kernel) ⟨Nat.le_of_ble_eq_true rfl, Nat.le_of_ble_eq_true rfl⟩) (X.1.2.2.2.2 _ ms67) rfl hl.1 rfl (Nat.le_of_ble_eq_true rfl) dX4_copyFrom_30 ⟨Nat.zero_le _, Nat.zero_le _⟩) (fun H locs hS => ?_)
  refine lv_aload_n hx hb dX4_copyFrom_33 rfl (lv_at hl 1 rfl) ?_
  refine r_get X hS (T := TX4) (k := 3) (hw1.1 μ3).1 rfl hiX4 (by decide) mf25 rfl dX4_copyFrom_34 ?_
  refine lv_aload_n hx hb dX4_copyFrom_37 rfl (lv_at hl 0 rfl) ?_
  refine r_get X hS (T := TX4) (k := 3) (hw.1 μ3).1 rfl hiX4 (by decide) mf25 rfl dX4_copyFrom_38 ?_
  obtain ⟨μ4, eμ4, h⟩ := ob h
  refine r_cv hS (r_runSN (As := [.ref (ad (q1 + 13)), .ref (ad (q + 13))]) (rest := []) (host := RX6) X hS (c_X6_copyRow l hE (w := w) (ad := ad) (μ := μ3) (D := D) (cI := cI) (cG := cG) (cL := cL) hw1.2.2.2.2.1 hw.2.2.2.2.1 eμ4) (va_cnB 2 X.1.2.2.2.2 gX4_copyFrom_X6_copyRow_n67 rfl rfl rfl (X.nest 5 rfl) (X.1.2.2.2.2 _ miX6) (by decide +kernel) ⟨Nat.le_of_ble_eq_true rfl, Nat.le_of_ble_eq_true rfl⟩) (X.1.2.2.2.2 _ ms67) rfl hl.1 rfl (Nat.le_of_ble_eq_true rfl) dX4_copyFrom_41 ⟨Nat.zero_le _, Nat.zero_le _⟩) (fun H locs hS => ?_)
  refine lv_aload_n hx hb dX4_copyFrom_44 rfl (lv_at hl 1 rfl) ?_
  refine r_get X hS (T := TX4) (k := 4) (hw1.1 μ4).1 rfl hiX4 (by decide) mf28 rfl dX4_copyFrom_45 ?_
  refine lv_aload_n hx hb dX4_copyFrom_48 rfl (lv_at hl 0 rfl) ?_
  refine r_get X hS (T := TX4) (k := 4) (hw.1 μ4).1 rfl hiX4 (by decide) mf28 rfl dX4_copyFrom_49 ?_
  obtain ⟨μ5, eμ5, h⟩ := ob h
  refine r_cv hS (r_runSN (As := [.ref (ad (q1 + 14)), .ref (ad (q + 14))]) (rest := []) (host := RX6) X hS (c_X6_copyRow l hE (w := w) (ad := ad) (μ := μ4) (D := D) (cI := cI) (cG := cG) (cL := cL) hw1.2.2.2.2.2.1 hw.2.2.2.2.2.1 eμ5) (va_cnB 2 X.1.2.2.2.2 gX4_copyFrom_X6_copyRow_n67 rfl rfl rfl (X.nest 5 rfl) (X.1.2.2.2.2 _ miX6) (by decide +kernel) ⟨Nat.le_of_ble_eq_true rfl, Nat.le_of_ble_eq_true rfl⟩) (X.1.2.2.2.2 _ ms67) rfl hl.1 rfl (Nat.le_of_ble_eq_true rfl) dX4_copyFrom_52 ⟨Nat.zero_le _, Nat.zero_le _⟩) (fun H locs hS => ?_)
  refine lv_aload_n hx hb dX4_copyFrom_55 rfl (lv_at hl 1 rfl) ?_
  refine r_get X hS (T := TX4) (k := 5) (hw1.1 μ5).1 rfl hiX4 (by decide) mf31 rfl dX4_copyFrom_56 ?_
  refine lv_aload_n hx hb dX4_copyFrom_59 rfl (lv_at hl 0 rfl) ?_
  refine r_get X hS (T := TX4) (k := 5) (hw.1 μ5).1 rfl hiX4 (by decide) mf31 rfl dX4_copyFrom_60 ?_
  obtain ⟨μ6, eμ6, h⟩ := ob h
  refine r_cv hS (r_runSN (As := [.ref (ad (q1 + 15)), .ref (ad (q + 15))]) (rest := []) (host := RX6) X hS (c_X6_copyRow l hE (w := w) (ad := ad) (μ := μ5) (D := D) (cI := cI) (cG := cG) (cL := cL) hw1.2.2.2.2.2.2 hw.2.2.2.2.2.2 eμ6) (va_cnB 2 X.1.2.2.2.2 gX4_copyFrom_X6_copyRow_n67 rfl rfl rfl (X.nest 5 rfl) (X.1.2.2.2.2 _ miX6) (by decide +kernel) ⟨Nat.le_of_ble_eq_true rfl, Nat.le_of_ble_eq_true rfl⟩) (X.1.2.2.2.2 _ ms67) rfl hl.1 rfl (Nat.le_of_ble_eq_true rfl) dX4_copyFrom_63 ⟨Nat.zero_le _, Nat.zero_le _⟩) (fun H locs hS => ?_)
  refine lv_aload_n hx hb dX4_copyFrom_66 rfl (lv_at hl 0 rfl) ?_
  refine lv_aload_n hx hb dX4_copyFrom_67 rfl (lv_at hl 1 rfl) ?_
  refine r_get X hS (T := TX4) (k := 6) (hw1.1 μ6).1 rfl hiX4 (by decide) mf34 rfl dX4_copyFrom_68 ?_
  obtain ⟨v7, ev7, h⟩ := ob h
  obtain ⟨ezv7, eov7⟩ := zr_ok ev7
  rw [ezv7]
  obtain ⟨μ8, eμ8, h⟩ := ob h
  refine r_putp (w := w) X hS (T := TX4) (k := 6) eμ8 hw.1 rfl hiX4 tyX4 tyX4_ok nmX4 (by decide) mf34 rfl (by rcases eov7 with q | q <;> rw [q] <;> rfl) (by rcases eov7 with q | q <;> rw [q] <;> rfl) (Nat.le_of_ble_eq_true rfl) rfl dX4_copyFrom_71 (fun H locs hS => ?_)
  refine lv_aload_n hx hb dX4_copyFrom_74 rfl (lv_at hl 0 rfl) ?_
  refine lv_aload_n hx hb dX4_copyFrom_75 rfl (lv_at hl 1 rfl) ?_
  refine r_get X hS (T := TX4) (k := 7) (hw1.1 μ8).1 rfl hiX4 (by decide) mf38 rfl dX4_copyFrom_76 ?_
  obtain ⟨μ9, eμ9, h⟩ := ob h
  refine r_putp (w := w) X hS (T := TX4) (k := 7) eμ9 hw.1 rfl hiX4 tyX4 tyX4_ok nmX4 (by decide) mf38 rfl rfl rfl (Nat.le_of_ble_eq_true rfl) rfl dX4_copyFrom_79 (fun H locs hS => ?_)
  refine lv_aload_n hx hb dX4_copyFrom_82 rfl (lv_at hl 0 rfl) ?_
  refine lv_aload_n hx hb dX4_copyFrom_83 rfl (lv_at hl 1 rfl) ?_
  refine r_get X hS (T := TX4) (k := 8) (hw1.1 μ9).1 rfl hiX4 (by decide) mf42 rfl dX4_copyFrom_84 ?_
  obtain ⟨μ10, eμ10, h⟩ := ob h
  refine r_putp (w := w) X hS (T := TX4) (k := 8) eμ10 hw.1 rfl hiX4 tyX4 tyX4_ok nmX4 (by decide) mf42 rfl rfl rfl (Nat.le_of_ble_eq_true rfl) rfl dX4_copyFrom_87 (fun H locs hS => ?_)
  refine lv_aload_n hx hb dX4_copyFrom_90 rfl (lv_at hl 0 rfl) ?_
  refine lv_aload_n hx hb dX4_copyFrom_91 rfl (lv_at hl 1 rfl) ?_
  refine r_get X hS (T := TX4) (k := 9) (hw1.1 μ10).1 rfl hiX4 (by decide) mf45 rfl dX4_copyFrom_92 ?_
  obtain ⟨μ11, eμ11, h⟩ := ob h
  refine r_putp (w := w) X hS (T := TX4) (k := 9) eμ11 hw.1 rfl hiX4 tyX4 tyX4_ok nmX4 (by decide) mf45 rfl rfl rfl (Nat.le_of_ble_eq_true rfl) rfl dX4_copyFrom_95 (fun H locs hS => ?_)
  cases h
  exact r_vret X hS hr hlk dX4_copyFrom_98
def f_X4_currentRoot_b42 (q : Nat) (k8 : Int32 → Int32 → Int32 → Mem → Option Int32) (x1 : Int32) (x2 : Int32) (x3 : Int32) (μ : Mem) : Option Int32 := k8 x1 x2 (x3 + 1) μ
def f_X4_currentRoot_b8 (q : Nat)  : Nat → Int32 → Int32 → Int32 → Mem → Option Int32
  | 0, _, _, _, _ => none
  | fuel8 + 1, x1, x2, x3, μ => (if 2 ≤ x3 then (some x1) else (rd 2 (μ (q + 13)) x3).bind (fun v1 => (if v1 = 1 then (rd 2 (μ (q + 11)) x3).bind (fun v2 => (if v2 ≤ x2 then f_X4_currentRoot_b42 q (f_X4_currentRoot_b8 q fuel8) x1 x2 x3 μ else (rd 2 (μ (q + 11)) x3).bind (fun v3 => f_X4_currentRoot_b42 q (f_X4_currentRoot_b8 q fuel8) x3 v3 x3 μ))) else f_X4_currentRoot_b42 q (f_X4_currentRoot_b8 q fuel8) x1 x2 x3 μ)))
def f_X4_currentRoot (q : Nat) (μ : Mem) : Option Int32 := f_X4_currentRoot_b8 q FU 0 (-1000) 0 μ
set_option maxHeartbeats 4000000 in
set_option maxRecDepth 100000 in
theorem c_X4_currentRoot (l : Launch) {D : va_G} {cI cG cL : ClassId} {A : Nat → Prop} {EN : State → Heap → Prop} (hE : EnOK EN A) {w : Mem → va_W} {ad : Nat → Nat} {q : Nat} {μ : Mem} {r : Int32} (hw : GardenAt cI w ad q) (h : f_X4_currentRoot q μ = some r) : Met l yX4_currentRoot wsX4_currentRoot (rmk 0 0) (WPre D (tyl cI cG cL) A EN (w μ) [.ref (ad q)]) (PI D A (w μ) r) 0 0 A := by
  have hiX4 : ∀ w ∈ u_ws RX4 TX4 10, w ∈ wsX4_currentRoot := by decide +kernel
  have mf25 : Cond.fieldLink RX4 25 (TX4 3).1 (TX4 3).2.1 (TX4 3).2.2.1 ∈ wsX4_currentRoot := by decide +kernel
  have mf18 : Cond.fieldLink RX4 18 (TX4 1).1 (TX4 1).2.1 (TX4 1).2.2.1 ∈ wsX4_currentRoot := by decide +kernel
  refine met_start (cc := cX4_currentRoot) (nL := 4) (ret := (some .int)) (own := RX4) hE (by decide) rfl rfl (Nat.le_of_ble_eq_true rfl) (fun p e s m args below meth c ls X hS hl hr hlk => ?_)
  have hx := X.1.1
  have hb := X.1.2.1
  replace hl : lv_has ls 4 [(0, .ref (ad q))] := hl
  have hb42 : ∀ (k8 : Int32 → Int32 → Int32 → Mem → Option Int32), (∀ (x1 : Int32) (x2 : Int32) (x3 : Int32) (H : Heap) (locs : List Loc) (ls : Array Slot), HS D A (w μ) s.heap H locs → lv_has ls 4 [(0, .ref (ad q)), (1, .int x1), (2, .int x2), (3, .int x3)] → k8 x1 x2 x3 μ = some r → W p l e (headSpec wsX4_currentRoot (rmk 0 0)).room s m args below meth c H locs 0 0 (MQ below (PI D A (w μ) r) args s 0 0 A) (F0 m 8 ls [])) → ∀ (x1 : Int32) (x2 : Int32) (x3 : Int32) (H : Heap) (locs : List Loc) (ls : Array Slot), HS D A (w μ) s.heap H locs → lv_has ls 4 [(0, .ref (ad q)), (1, .int x1), (2, .int x2), (3, .int x3)] → f_X4_currentRoot_b42 q k8 x1 x2 x3 μ = some r → W p l e (headSpec wsX4_currentRoot (rmk 0 0)).room s m args below meth c H locs 0 0 (MQ below (PI D A (w μ) r) args s 0 0 A) (F0 m 42 ls []) := by
    intro k8 hk8 x1 x2 x3 H locs ls hS hl h
    unfold f_X4_currentRoot_b42 at h
    refine lv_iinc (v := x3 + 1) (lv' := [(3, .int (x3 + 1)), (0, .ref (ad q)), (1, .int x1), (2, .int x2)]) hx hb dX4_currentRoot_42 hl (k := 3) rfl rfl (by decide) rfl (fun ls hl => ?_)
    refine lv_goto (tgt := 8) hx hb dX4_currentRoot_45 (by decide) ?_
    exact hk8 x1 x2 (x3 + 1) _ _ _ hS (lv_sub hl [1, 2, 3, 0] rfl) h
  have hb8 : ∀ (fu : Nat) (x1 : Int32) (x2 : Int32) (x3 : Int32) (H : Heap) (locs : List Loc) (ls : Array Slot), HS D A (w μ) s.heap H locs → lv_has ls 4 [(0, .ref (ad q)), (1, .int x1), (2, .int x2), (3, .int x3)] → f_X4_currentRoot_b8 q fu x1 x2 x3 μ = some r → W p l e (headSpec wsX4_currentRoot (rmk 0 0)).room s m args below meth c H locs 0 0 (MQ below (PI D A (w μ) r) args s 0 0 A) (F0 m 8 ls []) := by
    intro fu
    induction fu with
    | zero =>
      intro x1 x2 x3 H locs ls hS hl h
      rw [f_X4_currentRoot_b8] at h
      cases h
    | succ fuel8 ih8 =>
      intro x1 x2 x3 H locs ls hS hl h
      rw [f_X4_currentRoot_b8] at h
      refine lv_iload_n hx hb dX4_currentRoot_8 rfl (lv_at hl 3 rfl) ?_
      refine lv_iconst (v := 2) hx hb dX4_currentRoot_9 (by decide) ?_
      refine lv_icmp_ge (tgt := 48) hx hb dX4_currentRoot_10 (by decide) (fun cc => ?_) (fun cc => ?_)
      · replace h := it h cc
        refine lv_iload_n hx hb dX4_currentRoot_48 rfl (lv_at hl 1 rfl) ?_
        cases h
        exact r_iret X hS hr hlk dX4_currentRoot_49
      · replace h := ie h cc
        refine lv_aload_n hx hb dX4_currentRoot_13 rfl (lv_at hl 0 rfl) ?_
        refine r_get X hS (T := TX4) (k := 3) (hw.1 μ).1 rfl hiX4 (by decide) mf25 rfl dX4_currentRoot_14 ?_
        refine lv_iload_n hx hb dX4_currentRoot_17 rfl (lv_at hl 3 rfl) ?_
        obtain ⟨v1, ev1, h⟩ := ob h
        refine r_iald X hS (hw.2.2.2.2.1 μ).1 ev1 dX4_currentRoot_18 ?_
        refine lv_iconst (v := 1) hx hb dX4_currentRoot_19 (by decide) ?_
        refine lv_icmp_ne (tgt := 42) hx hb dX4_currentRoot_20 (by decide) (fun cc => ?_) (fun cc => ?_)
        · replace h := ie h cc
          exact hb42 (f_X4_currentRoot_b8 q fuel8) ih8 x1 x2 x3 _ _ _ hS (lv_sub hl [0, 1, 2, 3] rfl) h
        · replace h := it h cc
          refine lv_aload_n hx hb dX4_currentRoot_23 rfl (lv_at hl 0 rfl) ?_
          refine r_get X hS (T := TX4) (k := 1) (hw.1 μ).1 rfl hiX4 (by decide) mf18 rfl dX4_currentRoot_24 ?_
          refine lv_iload_n hx hb dX4_currentRoot_27 rfl (lv_at hl 3 rfl) ?_
          obtain ⟨v2, ev2, h⟩ := ob h
          refine r_iald X hS (hw.2.2.1 μ).1 ev2 dX4_currentRoot_28 ?_
          refine lv_iload_n hx hb dX4_currentRoot_29 rfl (lv_at hl 2 rfl) ?_
          refine lv_icmp_le (tgt := 42) hx hb dX4_currentRoot_30 (by decide) (fun cc => ?_) (fun cc => ?_)
          · replace h := it h cc
            exact hb42 (f_X4_currentRoot_b8 q fuel8) ih8 x1 x2 x3 _ _ _ hS (lv_sub hl [0, 1, 2, 3] rfl) h
          · replace h := ie h cc
            refine lv_iload_n hx hb dX4_currentRoot_33 rfl (lv_at hl 3 rfl) ?_
            refine lv_istore_n (lv' := [(1, .int x3), (0, .ref (ad q)), (2, .int x2), (3, .int x3)]) hx hb dX4_currentRoot_34 rfl hl (by decide) rfl (fun ls hl => ?_)
            refine lv_aload_n hx hb dX4_currentRoot_35 rfl (lv_at hl 1 rfl) ?_
            refine r_get X hS (T := TX4) (k := 1) (hw.1 μ).1 rfl hiX4 (by decide) mf18 rfl dX4_currentRoot_36 ?_
            refine lv_iload_n hx hb dX4_currentRoot_39 rfl (lv_at hl 3 rfl) ?_
            obtain ⟨v3, ev3, h⟩ := ob h
            refine r_iald X hS (hw.2.2.1 μ).1 ev3 dX4_currentRoot_40 ?_
            refine lv_istore_n (lv' := [(2, .int v3), (1, .int x3), (0, .ref (ad q)), (3, .int x3)]) hx hb dX4_currentRoot_41 rfl hl (by decide) rfl (fun ls hl => ?_)
            exact hb42 (f_X4_currentRoot_b8 q fuel8) ih8 x3 v3 x3 _ _ _ hS (lv_sub hl [2, 1, 0, 3] rfl) h
  unfold f_X4_currentRoot at h
  refine lv_iconst (v := 0) hx hb dX4_currentRoot_0 (by decide) ?_
  refine lv_istore_n (lv' := [(1, .int 0), (0, .ref (ad q))]) hx hb dX4_currentRoot_1 rfl hl (by decide) rfl (fun ls hl => ?_)
  refine lv_sipush (v := (-1000)) hx hb dX4_currentRoot_2 (by decide) ?_
  refine lv_istore_n (lv' := [(2, .int (-1000)), (1, .int 0), (0, .ref (ad q))]) hx hb dX4_currentRoot_5 rfl hl (by decide) rfl (fun ls hl => ?_)
  refine lv_iconst (v := 0) hx hb dX4_currentRoot_6 (by decide) ?_
  refine lv_istore_n (lv' := [(3, .int 0), (2, .int (-1000)), (1, .int 0), (0, .ref (ad q))]) hx hb dX4_currentRoot_7 rfl hl (by decide) rfl (fun ls hl => ?_)
  exact hb8 FU 0 (-1000) 0 _ _ _ hS (lv_sub hl [3, 2, 1, 0] rfl) h
def f_X4_currentDirectory (q : Nat) (μ : Mem) : Option Int32 := (f_X4_currentRoot q μ).bind (fun v1 => (f_X6_cell (q + 12) 2 v1 μ).bind (fun v2 => (some v2)))
set_option maxHeartbeats 4000000 in
set_option maxRecDepth 100000 in
theorem c_X4_currentDirectory (l : Launch) {D : va_G} {cI cG cL : ClassId} {A : Nat → Prop} {EN : State → Heap → Prop} (hE : EnOK EN A) {w : Mem → va_W} {ad : Nat → Nat} {q : Nat} {μ : Mem} {r : Int32} (hw : GardenAt cI w ad q) (h : f_X4_currentDirectory q μ = some r) : Met l yX4_currentDirectory wsX4_currentDirectory (rmk 1 23) (WPre D (tyl cI cG cL) A EN (w μ) [.ref (ad q)]) (PI D A (w μ) r) 0 0 A := by
  have hiX4 : ∀ w ∈ u_ws RX4 TX4 10, w ∈ wsX4_currentDirectory := by decide +kernel
  have mf22 : Cond.fieldLink RX4 22 (TX4 2).1 (TX4 2).2.1 (TX4 2).2.2.1 ∈ wsX4_currentDirectory := by decide +kernel
  have miX6 : Cond.initialized RX6 ∈ wsX4_currentDirectory := by decide +kernel
  have ms75 : Cond.static yX6_cell ∈ wsX4_currentDirectory := by decide +kernel
  refine met_start (cc := cX4_currentDirectory) (nL := 1) (ret := (some .int)) (own := RX4) hE (by decide) rfl rfl (Nat.le_of_ble_eq_true rfl) (fun p e s m args below meth c ls X hS hl hr hlk => ?_)
  have hx := X.1.1
  have hb := X.1.2.1
  replace hl : lv_has ls 1 [(0, .ref (ad q))] := hl
  unfold f_X4_currentDirectory at h
  refine lv_aload_n hx hb dX4_currentDirectory_0 rfl (lv_at hl 0 rfl) ?_
  refine r_get X hS (T := TX4) (k := 2) (hw.1 μ).1 rfl hiX4 (by decide) mf22 rfl dX4_currentDirectory_1 ?_
  refine lv_aload_n hx hb dX4_currentDirectory_4 rfl (lv_at hl 0 rfl) ?_
  obtain ⟨v1, ev1, h⟩ := ob h
  refine r_ci hS (r_runV (As := []) (rest := [.ref (ad (q + 12))]) X hS (c_X4_currentRoot l hE (w := w) (ad := ad) (μ := μ) (D := D) (cI := cI) (cG := cG) (cL := cL) hw ev1) (cwV 0 X.1.2.2.2.2 gX4_currentDirectory_X4_currentRoot rfl rfl rfl (by decide +kernel) ⟨Nat.le_of_ble_eq_true rfl, Nat.le_of_ble_eq_true rfl⟩) (q0 := q) (ci := 2) rfl (hw.1 μ).1 rfl hl.1 rfl (Nat.le_of_ble_eq_true rfl) dX4_currentDirectory_5 ⟨Nat.zero_le _, Nat.zero_le _⟩) (fun H locs hS => ?_)
  obtain ⟨v2, ev2, h⟩ := ob h
  refine r_ci hS (r_runSN (As := [.ref (ad (q + 12)), .int v1]) (rest := []) (host := RX6) X hS (c_X6_cell l hE (w := w) (ad := ad) (μ := μ) (D := D) (cI := cI) (cG := cG) (cL := cL) hw.2.2.2.1 ev2) (va_cnB 2 X.1.2.2.2.2 gX4_currentDirectory_X6_cell_n75 rfl rfl rfl (X.nest 9 rfl) (X.1.2.2.2.2 _ miX6) (by decide +kernel) ⟨Nat.le_of_ble_eq_true rfl, Nat.le_of_ble_eq_true rfl⟩) (X.1.2.2.2.2 _ ms75) rfl hl.1 rfl (Nat.le_of_ble_eq_true rfl) dX4_currentDirectory_8 ⟨Nat.zero_le _, Nat.zero_le _⟩) (fun H locs hS => ?_)
  cases h
  exact r_iret X hS hr hlk dX4_currentDirectory_11
def f_X4_currentCount (q : Nat) (μ : Mem) : Option Int32 := (f_X4_currentRoot q μ).bind (fun v1 => (f_X6_cell (q + 11) 2 v1 μ).bind (fun v2 => (some v2)))
set_option maxHeartbeats 4000000 in
set_option maxRecDepth 100000 in
theorem c_X4_currentCount (l : Launch) {D : va_G} {cI cG cL : ClassId} {A : Nat → Prop} {EN : State → Heap → Prop} (hE : EnOK EN A) {w : Mem → va_W} {ad : Nat → Nat} {q : Nat} {μ : Mem} {r : Int32} (hw : GardenAt cI w ad q) (h : f_X4_currentCount q μ = some r) : Met l yX4_currentCount wsX4_currentCount (rmk 1 23) (WPre D (tyl cI cG cL) A EN (w μ) [.ref (ad q)]) (PI D A (w μ) r) 0 0 A := by
  have hiX4 : ∀ w ∈ u_ws RX4 TX4 10, w ∈ wsX4_currentCount := by decide +kernel
  have mf18 : Cond.fieldLink RX4 18 (TX4 1).1 (TX4 1).2.1 (TX4 1).2.2.1 ∈ wsX4_currentCount := by decide +kernel
  have miX6 : Cond.initialized RX6 ∈ wsX4_currentCount := by decide +kernel
  have ms75 : Cond.static yX6_cell ∈ wsX4_currentCount := by decide +kernel
  refine met_start (cc := cX4_currentCount) (nL := 1) (ret := (some .int)) (own := RX4) hE (by decide) rfl rfl (Nat.le_of_ble_eq_true rfl) (fun p e s m args below meth c ls X hS hl hr hlk => ?_)
  have hx := X.1.1
  have hb := X.1.2.1
  replace hl : lv_has ls 1 [(0, .ref (ad q))] := hl
  unfold f_X4_currentCount at h
  refine lv_aload_n hx hb dX4_currentCount_0 rfl (lv_at hl 0 rfl) ?_
  refine r_get X hS (T := TX4) (k := 1) (hw.1 μ).1 rfl hiX4 (by decide) mf18 rfl dX4_currentCount_1 ?_
  refine lv_aload_n hx hb dX4_currentCount_4 rfl (lv_at hl 0 rfl) ?_
  obtain ⟨v1, ev1, h⟩ := ob h
  refine r_ci hS (r_runV (As := []) (rest := [.ref (ad (q + 11))]) X hS (c_X4_currentRoot l hE (w := w) (ad := ad) (μ := μ) (D := D) (cI := cI) (cG := cG) (cL := cL) hw ev1) (cwV 0 X.1.2.2.2.2 gX4_currentCount_X4_currentRoot rfl rfl rfl (by decide +kernel) ⟨Nat.le_of_ble_eq_true rfl, Nat.le_of_ble_eq_true rfl⟩) (q0 := q) (ci := 2) rfl (hw.1 μ).1 rfl hl.1 rfl (Nat.le_of_ble_eq_true rfl) dX4_currentCount_5 ⟨Nat.zero_le _, Nat.zero_le _⟩) (fun H locs hS => ?_)
  obtain ⟨v2, ev2, h⟩ := ob h
  refine r_ci hS (r_runSN (As := [.ref (ad (q + 11)), .int v1]) (rest := []) (host := RX6) X hS (c_X6_cell l hE (w := w) (ad := ad) (μ := μ) (D := D) (cI := cI) (cG := cG) (cL := cL) hw.2.2.1 ev2) (va_cnB 2 X.1.2.2.2.2 gX4_currentCount_X6_cell_n75 rfl rfl rfl (X.nest 9 rfl) (X.1.2.2.2.2 _ miX6) (by decide +kernel) ⟨Nat.le_of_ble_eq_true rfl, Nat.le_of_ble_eq_true rfl⟩) (X.1.2.2.2.2 _ ms75) rfl hl.1 rfl (Nat.le_of_ble_eq_true rfl) dX4_currentCount_8 ⟨Nat.zero_le _, Nat.zero_le _⟩) (fun H locs hS => ?_)
  cases h
  exact r_iret X hS hr hlk dX4_currentCount_11
def f_X4_neededCountBut_b72 (q : Nat) (k39 : Int32 → Int32 → Int32 → Mem → Option Int32) (x1 : Int32) (x2 : Int32) (x3 : Int32) (μ : Mem) : Option Int32 := k39 x1 x2 (x3 + 1) μ
def f_X4_neededCountBut_b39 (q : Nat)  : Nat → Int32 → Int32 → Int32 → Mem → Option Int32
  | 0, _, _, _, _ => none
  | fuel39 + 1, x1, x2, x3, μ => (if 4 ≤ x3 then (some x2) else (if x3 = x1 then f_X4_neededCountBut_b72 q (f_X4_neededCountBut_b39 q fuel39) x1 x2 x3 μ else (rd 4 (μ (q + 14)) x3).bind (fun v1 => (if v1 = (-1000) then f_X4_neededCountBut_b72 q (f_X4_neededCountBut_b39 q fuel39) x1 x2 x3 μ else (rd 4 (μ (q + 14)) x3).bind (fun v2 => f_X4_neededCountBut_b72 q (f_X4_neededCountBut_b39 q fuel39) x1 (if v2 < x2 then v2 else x2) x3 μ)))))
def f_X4_neededCountBut_b31 (q : Nat) (k5 : Int32 → Int32 → Int32 → Mem → Option Int32) (x1 : Int32) (x2 : Int32) (x3 : Int32) (μ : Mem) : Option Int32 := k5 x1 x2 (x3 + 1) μ
def f_X4_neededCountBut_b5 (q : Nat)  : Nat → Int32 → Int32 → Int32 → Mem → Option Int32
  | 0, _, _, _, _ => none
  | fuel5 + 1, x1, x2, x3, μ => (if 2 ≤ x3 then f_X4_neededCountBut_b39 q FU x1 x2 0 μ else (rd 2 (μ (q + 13)) x3).bind (fun v3 => (if v3 = 1 then (rd 2 (μ (q + 11)) x3).bind (fun v4 => f_X4_neededCountBut_b31 q (f_X4_neededCountBut_b5 q fuel5) x1 (if v4 < x2 then v4 else x2) x3 μ) else f_X4_neededCountBut_b31 q (f_X4_neededCountBut_b5 q fuel5) x1 x2 x3 μ)))
def f_X4_neededCountBut (q : Nat) (a1 : Int32) (μ : Mem) : Option Int32 := f_X4_neededCountBut_b5 q FU a1 2147483647 0 μ
set_option maxHeartbeats 4000000 in
set_option maxRecDepth 100000 in
theorem c_X4_neededCountBut (l : Launch) {D : va_G} {cI cG cL : ClassId} {A : Nat → Prop} {EN : State → Heap → Prop} (hE : EnOK EN A) {w : Mem → va_W} {ad : Nat → Nat} {q : Nat} {a1 : Int32} {μ : Mem} {r : Int32} (hw : GardenAt cI w ad q) (h : f_X4_neededCountBut q a1 μ = some r) : Met l yX4_neededCountBut wsX4_neededCountBut (rmk 1 21) (WPre D (tyl cI cG cL) A EN (w μ) [.ref (ad q), .int a1]) (PI D A (w μ) r) 0 0 A := by
  have hiX4 : ∀ w ∈ u_ws RX4 TX4 10, w ∈ wsX4_neededCountBut := by decide +kernel
  have mc83 : Cond.constant RX4 83 2147483647 ∈ wsX4_neededCountBut := by decide +kernel
  have mf28 : Cond.fieldLink RX4 28 (TX4 4).1 (TX4 4).2.1 (TX4 4).2.2.1 ∈ wsX4_neededCountBut := by decide +kernel
  have mm84 : Cond.methodLink RX4 84 Lib.Math.min.name ∈ wsX4_neededCountBut := by decide +kernel
  have mmst : Cond.static Lib.Math.min.name ∈ wsX4_neededCountBut := by decide +kernel
  have mmini : Cond.initialized "java/lang/Math" ∈ wsX4_neededCountBut := by decide +kernel
  have mmcode : Cond.code Lib.Math.min.name Lib.Math.min.code 2 (some .int) ∈ wsX4_neededCountBut := by decide +kernel
  have mf25 : Cond.fieldLink RX4 25 (TX4 3).1 (TX4 3).2.1 (TX4 3).2.2.1 ∈ wsX4_neededCountBut := by decide +kernel
  have mf18 : Cond.fieldLink RX4 18 (TX4 1).1 (TX4 1).2.1 (TX4 1).2.2.1 ∈ wsX4_neededCountBut := by decide +kernel
  refine met_start (cc := cX4_neededCountBut) (nL := 4) (ret := (some .int)) (own := RX4) hE (by decide) rfl rfl (Nat.le_of_ble_eq_true rfl) (fun p e s m args below meth c ls X hS hl hr hlk => ?_)
  have hx := X.1.1
  have hb := X.1.2.1
  replace hl : lv_has ls 4 [(0, .ref (ad q)), (1, .int a1)] := hl
  have hb72 : ∀ (k39 : Int32 → Int32 → Int32 → Mem → Option Int32), (∀ (x1 : Int32) (x2 : Int32) (x3 : Int32) (H : Heap) (locs : List Loc) (ls : Array Slot), HS D A (w μ) s.heap H locs → lv_has ls 4 [(0, .ref (ad q)), (1, .int x1), (2, .int x2), (3, .int x3)] → k39 x1 x2 x3 μ = some r → W p l e (headSpec wsX4_neededCountBut (rmk 1 21)).room s m args below meth c H locs 0 0 (MQ below (PI D A (w μ) r) args s 0 0 A) (F0 m 39 ls [])) → ∀ (x1 : Int32) (x2 : Int32) (x3 : Int32) (H : Heap) (locs : List Loc) (ls : Array Slot), HS D A (w μ) s.heap H locs → lv_has ls 4 [(0, .ref (ad q)), (1, .int x1), (2, .int x2), (3, .int x3)] → f_X4_neededCountBut_b72 q k39 x1 x2 x3 μ = some r → W p l e (headSpec wsX4_neededCountBut (rmk 1 21)).room s m args below meth c H locs 0 0 (MQ below (PI D A (w μ) r) args s 0 0 A) (F0 m 72 ls []) := by
    intro k39 hk39 x1 x2 x3 H locs ls hS hl h
    unfold f_X4_neededCountBut_b72 at h
    refine lv_iinc (v := x3 + 1) (lv' := [(3, .int (x3 + 1)), (0, .ref (ad q)), (1, .int x1), (2, .int x2)]) hx hb dX4_neededCountBut_72 hl (k := 3) rfl rfl (by decide) rfl (fun ls hl => ?_)
    refine lv_goto (tgt := 39) hx hb dX4_neededCountBut_75 (by decide) ?_
    exact hk39 x1 x2 (x3 + 1) _ _ _ hS (lv_sub hl [1, 2, 3, 0] rfl) h
  have hb39 : ∀ (fu : Nat) (x1 : Int32) (x2 : Int32) (x3 : Int32) (H : Heap) (locs : List Loc) (ls : Array Slot), HS D A (w μ) s.heap H locs → lv_has ls 4 [(0, .ref (ad q)), (1, .int x1), (2, .int x2), (3, .int x3)] → f_X4_neededCountBut_b39 q fu x1 x2 x3 μ = some r → W p l e (headSpec wsX4_neededCountBut (rmk 1 21)).room s m args below meth c H locs 0 0 (MQ below (PI D A (w μ) r) args s 0 0 A) (F0 m 39 ls []) := by
    intro fu
    induction fu with
    | zero =>
      intro x1 x2 x3 H locs ls hS hl h
      rw [f_X4_neededCountBut_b39] at h
      cases h
    | succ fuel39 ih39 =>
      intro x1 x2 x3 H locs ls hS hl h
      rw [f_X4_neededCountBut_b39] at h
      refine lv_iload_n hx hb dX4_neededCountBut_39 rfl (lv_at hl 3 rfl) ?_
      refine lv_iconst (v := 4) hx hb dX4_neededCountBut_40 (by decide) ?_
      refine lv_icmp_ge (tgt := 78) hx hb dX4_neededCountBut_41 (by decide) (fun cc => ?_) (fun cc => ?_)
      · replace h := it h cc
        refine lv_iload_n hx hb dX4_neededCountBut_78 rfl (lv_at hl 2 rfl) ?_
        cases h
        exact r_iret X hS hr hlk dX4_neededCountBut_79
      · replace h := ie h cc
        refine lv_iload_n hx hb dX4_neededCountBut_44 rfl (lv_at hl 3 rfl) ?_
        refine lv_iload_n hx hb dX4_neededCountBut_45 rfl (lv_at hl 1 rfl) ?_
        refine lv_icmp_eq (tgt := 72) hx hb dX4_neededCountBut_46 (by decide) (fun cc => ?_) (fun cc => ?_)
        · replace h := it h cc
          exact hb72 (f_X4_neededCountBut_b39 q fuel39) ih39 x1 x2 x3 _ _ _ hS (lv_sub hl [0, 1, 2, 3] rfl) h
        · replace h := ie h cc
          refine lv_aload_n hx hb dX4_neededCountBut_49 rfl (lv_at hl 0 rfl) ?_
          refine r_get X hS (T := TX4) (k := 4) (hw.1 μ).1 rfl hiX4 (by decide) mf28 rfl dX4_neededCountBut_50 ?_
          refine lv_iload_n hx hb dX4_neededCountBut_53 rfl (lv_at hl 3 rfl) ?_
          obtain ⟨v1, ev1, h⟩ := ob h
          refine r_iald X hS (hw.2.2.2.2.2.1 μ).1 ev1 dX4_neededCountBut_54 ?_
          refine lv_sipush (v := (-1000)) hx hb dX4_neededCountBut_55 (by decide) ?_
          refine lv_icmp_eq (tgt := 72) hx hb dX4_neededCountBut_58 (by decide) (fun cc => ?_) (fun cc => ?_)
          · replace h := it h cc
            exact hb72 (f_X4_neededCountBut_b39 q fuel39) ih39 x1 x2 x3 _ _ _ hS (lv_sub hl [0, 1, 2, 3] rfl) h
          · replace h := ie h cc
            refine lv_iload_n hx hb dX4_neededCountBut_61 rfl (lv_at hl 2 rfl) ?_
            refine lv_aload_n hx hb dX4_neededCountBut_62 rfl (lv_at hl 0 rfl) ?_
            refine r_get X hS (T := TX4) (k := 4) (hw.1 μ).1 rfl hiX4 (by decide) mf28 rfl dX4_neededCountBut_63 ?_
            refine lv_iload_n hx hb dX4_neededCountBut_66 rfl (lv_at hl 3 rfl) ?_
            obtain ⟨v2, ev2, h⟩ := ob h
            refine r_iald X hS (hw.2.2.2.2.2.1 μ).1 ev2 dX4_neededCountBut_67 ?_
            refine va_mmin hx hb (X.1.2.2.1.trans hl.1.symm) X.1.2.2.2.1 (X.1.2.2.2.2 _ mm84) (X.1.2.2.2.2 _ mmst) (X.1.2.2.2.2 _ mmini) (X.1.2.2.2.2 _ mmcode) (Nat.le_of_ble_eq_true rfl) (Nat.le_of_ble_eq_true rfl) (Nat.zero_le _) (Nat.zero_le _) dX4_neededCountBut_68 ?_
            refine lv_istore_n (lv' := [(2, .int (if v2 < x2 then v2 else x2)), (0, .ref (ad q)), (1, .int x1), (3, .int x3)]) hx hb dX4_neededCountBut_71 rfl hl (by decide) rfl (fun ls hl => ?_)
            exact hb72 (f_X4_neededCountBut_b39 q fuel39) ih39 x1 (if v2 < x2 then v2 else x2) x3 _ _ _ hS (lv_sub hl [1, 2, 0, 3] rfl) h
  have hb31 : ∀ (k5 : Int32 → Int32 → Int32 → Mem → Option Int32), (∀ (x1 : Int32) (x2 : Int32) (x3 : Int32) (H : Heap) (locs : List Loc) (ls : Array Slot), HS D A (w μ) s.heap H locs → lv_has ls 4 [(0, .ref (ad q)), (1, .int x1), (2, .int x2), (3, .int x3)] → k5 x1 x2 x3 μ = some r → W p l e (headSpec wsX4_neededCountBut (rmk 1 21)).room s m args below meth c H locs 0 0 (MQ below (PI D A (w μ) r) args s 0 0 A) (F0 m 5 ls [])) → ∀ (x1 : Int32) (x2 : Int32) (x3 : Int32) (H : Heap) (locs : List Loc) (ls : Array Slot), HS D A (w μ) s.heap H locs → lv_has ls 4 [(0, .ref (ad q)), (1, .int x1), (2, .int x2), (3, .int x3)] → f_X4_neededCountBut_b31 q k5 x1 x2 x3 μ = some r → W p l e (headSpec wsX4_neededCountBut (rmk 1 21)).room s m args below meth c H locs 0 0 (MQ below (PI D A (w μ) r) args s 0 0 A) (F0 m 31 ls []) := by
    intro k5 hk5 x1 x2 x3 H locs ls hS hl h
    unfold f_X4_neededCountBut_b31 at h
    refine lv_iinc (v := x3 + 1) (lv' := [(3, .int (x3 + 1)), (0, .ref (ad q)), (1, .int x1), (2, .int x2)]) hx hb dX4_neededCountBut_31 hl (k := 3) rfl rfl (by decide) rfl (fun ls hl => ?_)
    refine lv_goto (tgt := 5) hx hb dX4_neededCountBut_34 (by decide) ?_
    exact hk5 x1 x2 (x3 + 1) _ _ _ hS (lv_sub hl [1, 2, 3, 0] rfl) h
  have hb5 : ∀ (fu : Nat) (x1 : Int32) (x2 : Int32) (x3 : Int32) (H : Heap) (locs : List Loc) (ls : Array Slot), HS D A (w μ) s.heap H locs → lv_has ls 4 [(0, .ref (ad q)), (1, .int x1), (2, .int x2), (3, .int x3)] → f_X4_neededCountBut_b5 q fu x1 x2 x3 μ = some r → W p l e (headSpec wsX4_neededCountBut (rmk 1 21)).room s m args below meth c H locs 0 0 (MQ below (PI D A (w μ) r) args s 0 0 A) (F0 m 5 ls []) := by
    intro fu
    induction fu with
    | zero =>
      intro x1 x2 x3 H locs ls hS hl h
      rw [f_X4_neededCountBut_b5] at h
      cases h
    | succ fuel5 ih5 =>
      intro x1 x2 x3 H locs ls hS hl h
      rw [f_X4_neededCountBut_b5] at h
      refine lv_iload_n hx hb dX4_neededCountBut_5 rfl (lv_at hl 3 rfl) ?_
      refine lv_iconst (v := 2) hx hb dX4_neededCountBut_6 (by decide) ?_
      refine lv_icmp_ge (tgt := 37) hx hb dX4_neededCountBut_7 (by decide) (fun cc => ?_) (fun cc => ?_)
      · replace h := it h cc
        refine lv_iconst (v := 0) hx hb dX4_neededCountBut_37 (by decide) ?_
        refine lv_istore_n (lv' := [(3, .int 0), (0, .ref (ad q)), (1, .int x1), (2, .int x2)]) hx hb dX4_neededCountBut_38 rfl hl (by decide) rfl (fun ls hl => ?_)
        exact hb39 FU x1 x2 0 _ _ _ hS (lv_sub hl [1, 2, 3, 0] rfl) h
      · replace h := ie h cc
        refine lv_aload_n hx hb dX4_neededCountBut_10 rfl (lv_at hl 0 rfl) ?_
        refine r_get X hS (T := TX4) (k := 3) (hw.1 μ).1 rfl hiX4 (by decide) mf25 rfl dX4_neededCountBut_11 ?_
        refine lv_iload_n hx hb dX4_neededCountBut_14 rfl (lv_at hl 3 rfl) ?_
        obtain ⟨v3, ev3, h⟩ := ob h
        refine r_iald X hS (hw.2.2.2.2.1 μ).1 ev3 dX4_neededCountBut_15 ?_
        refine lv_iconst (v := 1) hx hb dX4_neededCountBut_16 (by decide) ?_
        refine lv_icmp_ne (tgt := 31) hx hb dX4_neededCountBut_17 (by decide) (fun cc => ?_) (fun cc => ?_)
        · replace h := ie h cc
          exact hb31 (f_X4_neededCountBut_b5 q fuel5) ih5 x1 x2 x3 _ _ _ hS (lv_sub hl [0, 1, 2, 3] rfl) h
        · replace h := it h cc
          refine lv_iload_n hx hb dX4_neededCountBut_20 rfl (lv_at hl 2 rfl) ?_
          refine lv_aload_n hx hb dX4_neededCountBut_21 rfl (lv_at hl 0 rfl) ?_
          refine r_get X hS (T := TX4) (k := 1) (hw.1 μ).1 rfl hiX4 (by decide) mf18 rfl dX4_neededCountBut_22 ?_
          refine lv_iload_n hx hb dX4_neededCountBut_25 rfl (lv_at hl 3 rfl) ?_
          obtain ⟨v4, ev4, h⟩ := ob h
          refine r_iald X hS (hw.2.2.1 μ).1 ev4 dX4_neededCountBut_26 ?_
          refine va_mmin hx hb (X.1.2.2.1.trans hl.1.symm) X.1.2.2.2.1 (X.1.2.2.2.2 _ mm84) (X.1.2.2.2.2 _ mmst) (X.1.2.2.2.2 _ mmini) (X.1.2.2.2.2 _ mmcode) (Nat.le_of_ble_eq_true rfl) (Nat.le_of_ble_eq_true rfl) (Nat.zero_le _) (Nat.zero_le _) dX4_neededCountBut_27 ?_
          refine lv_istore_n (lv' := [(2, .int (if v4 < x2 then v4 else x2)), (0, .ref (ad q)), (1, .int x1), (3, .int x3)]) hx hb dX4_neededCountBut_30 rfl hl (by decide) rfl (fun ls hl => ?_)
          exact hb31 (f_X4_neededCountBut_b5 q fuel5) ih5 x1 (if v4 < x2 then v4 else x2) x3 _ _ _ hS (lv_sub hl [1, 2, 0, 3] rfl) h
  unfold f_X4_neededCountBut at h
  refine lv_ldc (v := 2147483647) hx hb X.1.2.2.2.1 (X.1.2.2.2.2 _ mc83) dX4_neededCountBut_0 ?_
  refine lv_istore_n (lv' := [(2, .int 2147483647), (0, .ref (ad q)), (1, .int a1)]) hx hb dX4_neededCountBut_2 rfl hl (by decide) rfl (fun ls hl => ?_)
  refine lv_iconst (v := 0) hx hb dX4_neededCountBut_3 (by decide) ?_
  refine lv_istore_n (lv' := [(3, .int 0), (2, .int 2147483647), (0, .ref (ad q)), (1, .int a1)]) hx hb dX4_neededCountBut_4 rfl hl (by decide) rfl (fun ls hl => ?_)
  exact hb5 FU a1 2147483647 0 _ _ _ hS (lv_sub hl [2, 3, 1, 0] rfl) h
def f_X4_neededCount (q : Nat) (μ : Mem) : Option Int32 := (f_X4_neededCountBut q (-1000) μ).bind (fun v1 => (some v1))
set_option maxHeartbeats 4000000 in
set_option maxRecDepth 100000 in
theorem c_X4_neededCount (l : Launch) {D : va_G} {cI cG cL : ClassId} {A : Nat → Prop} {EN : State → Heap → Prop} (hE : EnOK EN A) {w : Mem → va_W} {ad : Nat → Nat} {q : Nat} {μ : Mem} {r : Int32} (hw : GardenAt cI w ad q) (h : f_X4_neededCount q μ = some r) : Met l yX4_neededCount wsX4_neededCount (rmk 2 44) (WPre D (tyl cI cG cL) A EN (w μ) [.ref (ad q)]) (PI D A (w μ) r) 0 0 A := by
  refine met_start (cc := cX4_neededCount) (nL := 1) (ret := (some .int)) (own := RX4) hE (by decide) rfl rfl (Nat.le_of_ble_eq_true rfl) (fun p e s m args below meth c ls X hS hl hr hlk => ?_)
  have hx := X.1.1
  have hb := X.1.2.1
  replace hl : lv_has ls 1 [(0, .ref (ad q))] := hl
  unfold f_X4_neededCount at h
  refine lv_aload_n hx hb dX4_neededCount_0 rfl (lv_at hl 0 rfl) ?_
  refine lv_sipush (v := (-1000)) hx hb dX4_neededCount_1 (by decide) ?_
  obtain ⟨v1, ev1, h⟩ := ob h
  refine r_ci hS (r_runV (As := [.int (-1000)]) (rest := []) X hS (c_X4_neededCountBut l hE (w := w) (ad := ad) (μ := μ) (D := D) (cI := cI) (cG := cG) (cL := cL) hw ev1) (cwV 1 X.1.2.2.2.2 gX4_neededCount_X4_neededCountBut rfl rfl rfl (by decide +kernel) ⟨Nat.le_of_ble_eq_true rfl, Nat.le_of_ble_eq_true rfl⟩) (q0 := q) (ci := 2) rfl (hw.1 μ).1 rfl hl.1 rfl (Nat.le_of_ble_eq_true rfl) dX4_neededCount_4 ⟨Nat.zero_le _, Nat.zero_le _⟩) (fun H locs hS => ?_)
  cases h
  exact r_iret X hS hr hlk dX4_neededCount_7
def f_X4_beginFault_b12 (q : Nat) (s0 : Int32) (μ : Mem) : Option Int32 := (some s0)
def f_X4_beginFault (q : Nat) (μ : Mem) : Option Int32 := (if (μ q 6) = 0 then f_X4_beginFault_b12 q 0 μ else f_X4_beginFault_b12 q 3 μ)
set_option maxHeartbeats 4000000 in
set_option maxRecDepth 100000 in
theorem c_X4_beginFault (l : Launch) {D : va_G} {cI cG cL : ClassId} {A : Nat → Prop} {EN : State → Heap → Prop} (hE : EnOK EN A) {w : Mem → va_W} {ad : Nat → Nat} {q : Nat} {μ : Mem} {r : Int32} (hw : GardenAt cI w ad q) (h : f_X4_beginFault q μ = some r) : Met l yX4_beginFault wsX4_beginFault (rmk 0 0) (WPre D (tyl cI cG cL) A EN (w μ) [.ref (ad q)]) (PI D A (w μ) r) 0 0 A := by
  have hiX4 : ∀ w ∈ u_ws RX4 TX4 10, w ∈ wsX4_beginFault := by decide +kernel
  have mf34 : Cond.fieldLink RX4 34 (TX4 6).1 (TX4 6).2.1 (TX4 6).2.2.1 ∈ wsX4_beginFault := by decide +kernel
  refine met_start (cc := cX4_beginFault) (nL := 1) (ret := (some .int)) (own := RX4) hE (by decide) rfl rfl (Nat.le_of_ble_eq_true rfl) (fun p e s m args below meth c ls X hS hl hr hlk => ?_)
  have hx := X.1.1
  have hb := X.1.2.1
  replace hl : lv_has ls 1 [(0, .ref (ad q))] := hl
  have hb12 : ∀ (s0 : Int32) (H : Heap) (locs : List Loc) (ls : Array Slot), HS D A (w μ) s.heap H locs → lv_has ls 1 [] → f_X4_beginFault_b12 q s0 μ = some r → W p l e (headSpec wsX4_beginFault (rmk 0 0)).room s m args below meth c H locs 0 0 (MQ below (PI D A (w μ) r) args s 0 0 A) (F0 m 12 ls [.int s0]) := by
    intro s0 H locs ls hS hl h
    unfold f_X4_beginFault_b12 at h
    cases h
    exact r_iret X hS hr hlk dX4_beginFault_12
  unfold f_X4_beginFault at h
  refine lv_aload_n hx hb dX4_beginFault_0 rfl (lv_at hl 0 rfl) ?_
  refine r_get X hS (T := TX4) (k := 6) (hw.1 μ).1 rfl hiX4 (by decide) mf34 rfl dX4_beginFault_1 ?_
  refine lv_if_eq (tgt := 11) hx hb dX4_beginFault_4 (by decide) (fun cc => ?_) (fun cc => ?_)
  · replace h := it h cc
    refine lv_iconst (v := 0) hx hb dX4_beginFault_11 (by decide) ?_
    exact hb12 0 _ _ _ hS (lv_sub hl [] rfl) h
  · replace h := ie h cc
    refine lv_iconst (v := 3) hx hb dX4_beginFault_7 (by decide) ?_
    refine lv_goto (tgt := 12) hx hb dX4_beginFault_8 (by decide) ?_
    exact hb12 3 _ _ _ hS (lv_sub hl [] rfl) h
def f_X4_digsForDirectory_b19 (q : Nat) (s0 : Int32) (μ : Mem) : Option Int32 := (f_X6_one s0).bind (fun v2 => (some v2))
def f_X4_digsForDirectory (q : Nat) (μ : Mem) : Option Int32 := (f_X1_isFresh (q + 1) (μ q 7) μ).bind (fun v1 => (if v1 = 0 then f_X4_digsForDirectory_b19 q 1 μ else f_X4_digsForDirectory_b19 q 0 μ))
set_option maxHeartbeats 4000000 in
set_option maxRecDepth 100000 in
theorem c_X4_digsForDirectory (l : Launch) {D : va_G} {cI cG cL : ClassId} {A : Nat → Prop} {EN : State → Heap → Prop} (hE : EnOK EN A) {w : Mem → va_W} {ad : Nat → Nat} {q : Nat} {μ : Mem} {r : Int32} (hw : GardenAt cI w ad q) (h : f_X4_digsForDirectory q μ = some r) : Met l yX4_digsForDirectory wsX4_digsForDirectory (rmk 1 21) (WPre D (tyl cI cG cL) A EN (w μ) [.ref (ad q)]) (PI D A (w μ) r) 0 0 A := by
  have hiX4 : ∀ w ∈ u_ws RX4 TX4 10, w ∈ wsX4_digsForDirectory := by decide +kernel
  have mf12 : Cond.fieldLink RX4 12 (TX4 0).1 (TX4 0).2.1 (TX4 0).2.2.1 ∈ wsX4_digsForDirectory := by decide +kernel
  have mf38 : Cond.fieldLink RX4 38 (TX4 7).1 (TX4 7).2.1 (TX4 7).2.2.1 ∈ wsX4_digsForDirectory := by decide +kernel
  have miX6 : Cond.initialized RX6 ∈ wsX4_digsForDirectory := by decide +kernel
  have ms213 : Cond.static yX6_one ∈ wsX4_digsForDirectory := by decide +kernel
  refine met_start (cc := cX4_digsForDirectory) (nL := 1) (ret := (some .int)) (own := RX4) hE (by decide) rfl rfl (Nat.le_of_ble_eq_true rfl) (fun p e s m args below meth c ls X hS hl hr hlk => ?_)
  have hx := X.1.1
  have hb := X.1.2.1
  replace hl : lv_has ls 1 [(0, .ref (ad q))] := hl
  have hb19 : ∀ (s0 : Int32) (H : Heap) (locs : List Loc) (ls : Array Slot), HS D A (w μ) s.heap H locs → lv_has ls 1 [] → f_X4_digsForDirectory_b19 q s0 μ = some r → W p l e (headSpec wsX4_digsForDirectory (rmk 1 21)).room s m args below meth c H locs 0 0 (MQ below (PI D A (w μ) r) args s 0 0 A) (F0 m 19 ls [.int s0]) := by
    intro s0 H locs ls hS hl h
    unfold f_X4_digsForDirectory_b19 at h
    obtain ⟨v2, ev2, h⟩ := ob h
    refine r_ci hS (r_runSN (As := [.int s0]) (rest := []) (host := RX6) X hS (c_X6_one l hE (w := w) (ad := ad) (μ := μ) (D := D) (cI := cI) (cG := cG) (cL := cL) ev2) (va_cnB 1 X.1.2.2.2.2 gX4_digsForDirectory_X6_one_n213 rfl rfl rfl (X.nest 7 rfl) (X.1.2.2.2.2 _ miX6) (by decide +kernel) ⟨Nat.le_of_ble_eq_true rfl, Nat.le_of_ble_eq_true rfl⟩) (X.1.2.2.2.2 _ ms213) rfl hl.1 rfl (Nat.le_of_ble_eq_true rfl) dX4_digsForDirectory_19 ⟨Nat.zero_le _, Nat.zero_le _⟩) (fun H locs hS => ?_)
    cases h
    exact r_iret X hS hr hlk dX4_digsForDirectory_22
  unfold f_X4_digsForDirectory at h
  refine lv_aload_n hx hb dX4_digsForDirectory_0 rfl (lv_at hl 0 rfl) ?_
  refine r_get X hS (T := TX4) (k := 0) (hw.1 μ).1 rfl hiX4 (by decide) mf12 rfl dX4_digsForDirectory_1 ?_
  refine lv_aload_n hx hb dX4_digsForDirectory_4 rfl (lv_at hl 0 rfl) ?_
  refine r_get X hS (T := TX4) (k := 7) (hw.1 μ).1 rfl hiX4 (by decide) mf38 rfl dX4_digsForDirectory_5 ?_
  obtain ⟨v1, ev1, h⟩ := ob h
  refine r_ci hS (r_runV (As := [.int (μ q 7)]) (rest := []) X hS (c_X1_isFresh l hE (w := w) (ad := ad) (μ := μ) (D := D) (cI := cI) (cG := cG) (cL := cL) hw.2.1 ev1) (cwV 1 X.1.2.2.2.2 gX4_digsForDirectory_X1_isFresh rfl rfl rfl (by decide +kernel) ⟨Nat.le_of_ble_eq_true rfl, Nat.le_of_ble_eq_true rfl⟩) (q0 := (q + 1)) (ci := 0) rfl (hw.2.1.1 μ).1 rfl hl.1 rfl (Nat.le_of_ble_eq_true rfl) dX4_digsForDirectory_8 ⟨Nat.zero_le _, Nat.zero_le _⟩) (fun H locs hS => ?_)
  refine lv_if_ne (tgt := 18) hx hb dX4_digsForDirectory_11 (by decide) (fun cc => ?_) (fun cc => ?_)
  · replace h := ie h cc
    refine lv_iconst (v := 0) hx hb dX4_digsForDirectory_18 (by decide) ?_
    exact hb19 0 _ _ _ hS (lv_sub hl [] rfl) h
  · replace h := it h cc
    refine lv_iconst (v := 1) hx hb dX4_digsForDirectory_14 (by decide) ?_
    refine lv_goto (tgt := 19) hx hb dX4_digsForDirectory_15 (by decide) ?_
    exact hb19 1 _ _ _ hS (lv_sub hl [] rfl) h
def f_X4_digsToPut_b93 (q : Nat) (x4 : Int32) (μ : Mem) : Option Int32 := (some x4)
def f_X4_digsToPut_b122 (q : Nat) (s0 : Int32) (μ : Mem) : Option Int32 := (some s0)
def f_X4_digsToPut_b60 (q : Nat) (x1 : Int32) (x3 : Int32) (s0 : Int32) (s1 : Int32) (μ : Mem) : Option Int32 := (f_X6_one s0).bind (fun v5 => (f_X1_entryPlace (q + 1) x3 x1 μ).bind (fun v6 => (if v6 = (-1000) then (f_X1_sizeOf (q + 1) x3 μ).bind (fun v7 => (if 4 ≤ v7 then (f_X1_sizeOf (q + 1) (μ q 7) μ).bind (fun v8 => (if 6 ≤ v8 then f_X4_digsToPut_b122 q (-1000) μ else f_X4_digsToPut_b122 q ((s1 + v5) + 1) μ)) else f_X4_digsToPut_b93 q (s1 + v5) μ)) else f_X4_digsToPut_b93 q (s1 + v5) μ)))
def f_X4_digsToPut (q : Nat) (a1 : Int32) (μ : Mem) : Option Int32 := (f_X1_leafPlace (q + 1) (μ q 7) a1 μ).bind (fun v1 => (if v1 = (-1000) then (f_X4_digsForDirectory q μ).bind (fun v9 => (some (v9 + 1))) else (f_X1_leafAt (q + 1) (μ q 7) v1 μ).bind (fun v2 => (f_X4_digsForDirectory q μ).bind (fun v3 => (f_X1_isFresh (q + 1) v2 μ).bind (fun v4 => (if v4 = 0 then f_X4_digsToPut_b60 q a1 v2 1 v3 μ else f_X4_digsToPut_b60 q a1 v2 0 v3 μ))))))
set_option maxHeartbeats 4000000 in
set_option maxRecDepth 100000 in
theorem c_X4_digsToPut (l : Launch) {D : va_G} {cI cG cL : ClassId} {A : Nat → Prop} {EN : State → Heap → Prop} (hE : EnOK EN A) {w : Mem → va_W} {ad : Nat → Nat} {q : Nat} {a1 : Int32} {μ : Mem} {r : Int32} (hw : GardenAt cI w ad q) (h : f_X4_digsToPut q a1 μ = some r) : Met l yX4_digsToPut wsX4_digsToPut (rmk 2 48) (WPre D (tyl cI cG cL) A EN (w μ) [.ref (ad q), .int a1]) (PI D A (w μ) r) 0 0 A := by
  have hiX4 : ∀ w ∈ u_ws RX4 TX4 10, w ∈ wsX4_digsToPut := by decide +kernel
  have mf12 : Cond.fieldLink RX4 12 (TX4 0).1 (TX4 0).2.1 (TX4 0).2.2.1 ∈ wsX4_digsToPut := by decide +kernel
  have mf38 : Cond.fieldLink RX4 38 (TX4 7).1 (TX4 7).2.1 (TX4 7).2.2.1 ∈ wsX4_digsToPut := by decide +kernel
  have miX6 : Cond.initialized RX6 ∈ wsX4_digsToPut := by decide +kernel
  have ms213 : Cond.static yX6_one ∈ wsX4_digsToPut := by decide +kernel
  refine met_start (cc := cX4_digsToPut) (nL := 5) (ret := (some .int)) (own := RX4) hE (by decide) rfl rfl (Nat.le_of_ble_eq_true rfl) (fun p e s m args below meth c ls X hS hl hr hlk => ?_)
  have hx := X.1.1
  have hb := X.1.2.1
  replace hl : lv_has ls 5 [(0, .ref (ad q)), (1, .int a1)] := hl
  have hb93 : ∀ (x4 : Int32) (H : Heap) (locs : List Loc) (ls : Array Slot), HS D A (w μ) s.heap H locs → lv_has ls 5 [(4, .int x4)] → f_X4_digsToPut_b93 q x4 μ = some r → W p l e (headSpec wsX4_digsToPut (rmk 2 48)).room s m args below meth c H locs 0 0 (MQ below (PI D A (w μ) r) args s 0 0 A) (F0 m 93 ls []) := by
    intro x4 H locs ls hS hl h
    unfold f_X4_digsToPut_b93 at h
    refine lv_iload hx hb dX4_digsToPut_93 (lv_at hl 0 rfl) ?_
    cases h
    exact r_iret X hS hr hlk dX4_digsToPut_95
  have hb122 : ∀ (s0 : Int32) (H : Heap) (locs : List Loc) (ls : Array Slot), HS D A (w μ) s.heap H locs → lv_has ls 5 [] → f_X4_digsToPut_b122 q s0 μ = some r → W p l e (headSpec wsX4_digsToPut (rmk 2 48)).room s m args below meth c H locs 0 0 (MQ below (PI D A (w μ) r) args s 0 0 A) (F0 m 122 ls [.int s0]) := by
    intro s0 H locs ls hS hl h
    unfold f_X4_digsToPut_b122 at h
    cases h
    exact r_iret X hS hr hlk dX4_digsToPut_122
  have hb60 : ∀ (x1 : Int32) (x3 : Int32) (s0 : Int32) (s1 : Int32) (H : Heap) (locs : List Loc) (ls : Array Slot), HS D A (w μ) s.heap H locs → lv_has ls 5 [(0, .ref (ad q)), (1, .int x1), (3, .int x3)] → f_X4_digsToPut_b60 q x1 x3 s0 s1 μ = some r → W p l e (headSpec wsX4_digsToPut (rmk 2 48)).room s m args below meth c H locs 0 0 (MQ below (PI D A (w μ) r) args s 0 0 A) (F0 m 60 ls [.int s0, .int s1]) := by
    intro x1 x3 s0 s1 H locs ls hS hl h
    unfold f_X4_digsToPut_b60 at h
    obtain ⟨v5, ev5, h⟩ := ob h
    refine r_ci hS (r_runSN (As := [.int s0]) (rest := [.int s1]) (host := RX6) X hS (c_X6_one l hE (w := w) (ad := ad) (μ := μ) (D := D) (cI := cI) (cG := cG) (cL := cL) ev5) (va_cnB 1 X.1.2.2.2.2 gX4_digsToPut_X6_one_n213 rfl rfl rfl (X.nest 7 rfl) (X.1.2.2.2.2 _ miX6) (by decide +kernel) ⟨Nat.le_of_ble_eq_true rfl, Nat.le_of_ble_eq_true rfl⟩) (X.1.2.2.2.2 _ ms213) rfl hl.1 rfl (Nat.le_of_ble_eq_true rfl) dX4_digsToPut_60 ⟨Nat.zero_le _, Nat.zero_le _⟩) (fun H locs hS => ?_)
    refine lv_iadd hx hb dX4_digsToPut_63 ?_
    refine lv_istore (lv' := [(4, .int (s1 + v5)), (0, .ref (ad q)), (1, .int x1), (3, .int x3)]) hx hb dX4_digsToPut_64 hl (by decide) rfl (fun ls hl => ?_)
    refine lv_aload_n hx hb dX4_digsToPut_66 rfl (lv_at hl 1 rfl) ?_
    refine r_get X hS (T := TX4) (k := 0) (hw.1 μ).1 rfl hiX4 (by decide) mf12 rfl dX4_digsToPut_67 ?_
    refine lv_iload_n hx hb dX4_digsToPut_70 rfl (lv_at hl 3 rfl) ?_
    refine lv_iload_n hx hb dX4_digsToPut_71 rfl (lv_at hl 2 rfl) ?_
    obtain ⟨v6, ev6, h⟩ := ob h
    refine r_ci hS (r_runV (As := [.int x3, .int x1]) (rest := []) X hS (c_X1_entryPlace l hE (w := w) (ad := ad) (μ := μ) (D := D) (cI := cI) (cG := cG) (cL := cL) hw.2.1 ev6) (cwV 2 X.1.2.2.2.2 gX4_digsToPut_X1_entryPlace rfl rfl rfl (by decide +kernel) ⟨Nat.le_of_ble_eq_true rfl, Nat.le_of_ble_eq_true rfl⟩) (q0 := (q + 1)) (ci := 0) rfl (hw.2.1.1 μ).1 rfl hl.1 rfl (Nat.le_of_ble_eq_true rfl) dX4_digsToPut_72 ⟨Nat.zero_le _, Nat.zero_le _⟩) (fun H locs hS => ?_)
    refine lv_sipush (v := (-1000)) hx hb dX4_digsToPut_75 (by decide) ?_
    refine lv_icmp_ne (tgt := 93) hx hb dX4_digsToPut_78 (by decide) (fun cc => ?_) (fun cc => ?_)
    · replace h := ie h cc
      exact hb93 (s1 + v5) _ _ _ hS (lv_sub hl [0] rfl) h
    · replace h := it h cc
      refine lv_aload_n hx hb dX4_digsToPut_81 rfl (lv_at hl 1 rfl) ?_
      refine r_get X hS (T := TX4) (k := 0) (hw.1 μ).1 rfl hiX4 (by decide) mf12 rfl dX4_digsToPut_82 ?_
      refine lv_iload_n hx hb dX4_digsToPut_85 rfl (lv_at hl 3 rfl) ?_
      obtain ⟨v7, ev7, h⟩ := ob h
      refine r_ci hS (r_runV (As := [.int x3]) (rest := []) X hS (c_X1_sizeOf l hE (w := w) (ad := ad) (μ := μ) (D := D) (cI := cI) (cG := cG) (cL := cL) hw.2.1 ev7) (cwV 1 X.1.2.2.2.2 gX4_digsToPut_X1_sizeOf rfl rfl rfl (by decide +kernel) ⟨Nat.le_of_ble_eq_true rfl, Nat.le_of_ble_eq_true rfl⟩) (q0 := (q + 1)) (ci := 0) rfl (hw.2.1.1 μ).1 rfl hl.1 rfl (Nat.le_of_ble_eq_true rfl) dX4_digsToPut_86 ⟨Nat.zero_le _, Nat.zero_le _⟩) (fun H locs hS => ?_)
      refine lv_iconst (v := 4) hx hb dX4_digsToPut_89 (by decide) ?_
      refine lv_icmp_ge (tgt := 96) hx hb dX4_digsToPut_90 (by decide) (fun cc => ?_) (fun cc => ?_)
      · replace h := it h cc
        refine lv_aload_n hx hb dX4_digsToPut_96 rfl (lv_at hl 1 rfl) ?_
        refine r_get X hS (T := TX4) (k := 0) (hw.1 μ).1 rfl hiX4 (by decide) mf12 rfl dX4_digsToPut_97 ?_
        refine lv_aload_n hx hb dX4_digsToPut_100 rfl (lv_at hl 1 rfl) ?_
        refine r_get X hS (T := TX4) (k := 7) (hw.1 μ).1 rfl hiX4 (by decide) mf38 rfl dX4_digsToPut_101 ?_
        obtain ⟨v8, ev8, h⟩ := ob h
        refine r_ci hS (r_runV (As := [.int (μ q 7)]) (rest := []) X hS (c_X1_sizeOf l hE (w := w) (ad := ad) (μ := μ) (D := D) (cI := cI) (cG := cG) (cL := cL) hw.2.1 ev8) (cwV 1 X.1.2.2.2.2 gX4_digsToPut_X1_sizeOf rfl rfl rfl (by decide +kernel) ⟨Nat.le_of_ble_eq_true rfl, Nat.le_of_ble_eq_true rfl⟩) (q0 := (q + 1)) (ci := 0) rfl (hw.2.1.1 μ).1 rfl hl.1 rfl (Nat.le_of_ble_eq_true rfl) dX4_digsToPut_104 ⟨Nat.zero_le _, Nat.zero_le _⟩) (fun H locs hS => ?_)
        refine lv_bipush (v := 6) hx hb dX4_digsToPut_107 (by decide) ?_
        refine lv_icmp_ge (tgt := 119) hx hb dX4_digsToPut_109 (by decide) (fun cc => ?_) (fun cc => ?_)
        · replace h := it h cc
          refine lv_sipush (v := (-1000)) hx hb dX4_digsToPut_119 (by decide) ?_
          exact hb122 (-1000) _ _ _ hS (lv_sub hl [] rfl) h
        · replace h := ie h cc
          refine lv_iload hx hb dX4_digsToPut_112 (lv_at hl 0 rfl) ?_
          refine lv_iconst (v := 1) hx hb dX4_digsToPut_114 (by decide) ?_
          refine lv_iadd hx hb dX4_digsToPut_115 ?_
          refine lv_goto (tgt := 122) hx hb dX4_digsToPut_116 (by decide) ?_
          exact hb122 ((s1 + v5) + 1) _ _ _ hS (lv_sub hl [] rfl) h
      · replace h := ie h cc
        exact hb93 (s1 + v5) _ _ _ hS (lv_sub hl [0] rfl) h
  unfold f_X4_digsToPut at h
  refine lv_aload_n hx hb dX4_digsToPut_0 rfl (lv_at hl 0 rfl) ?_
  refine r_get X hS (T := TX4) (k := 0) (hw.1 μ).1 rfl hiX4 (by decide) mf12 rfl dX4_digsToPut_1 ?_
  refine lv_aload_n hx hb dX4_digsToPut_4 rfl (lv_at hl 0 rfl) ?_
  refine r_get X hS (T := TX4) (k := 7) (hw.1 μ).1 rfl hiX4 (by decide) mf38 rfl dX4_digsToPut_5 ?_
  refine lv_iload_n hx hb dX4_digsToPut_8 rfl (lv_at hl 1 rfl) ?_
  obtain ⟨v1, ev1, h⟩ := ob h
  refine r_ci hS (r_runV (As := [.int (μ q 7), .int a1]) (rest := []) X hS (c_X1_leafPlace l hE (w := w) (ad := ad) (μ := μ) (D := D) (cI := cI) (cG := cG) (cL := cL) hw.2.1 ev1) (cwV 2 X.1.2.2.2.2 gX4_digsToPut_X1_leafPlace rfl rfl rfl (by decide +kernel) ⟨Nat.le_of_ble_eq_true rfl, Nat.le_of_ble_eq_true rfl⟩) (q0 := (q + 1)) (ci := 0) rfl (hw.2.1.1 μ).1 rfl hl.1 rfl (Nat.le_of_ble_eq_true rfl) dX4_digsToPut_9 ⟨Nat.zero_le _, Nat.zero_le _⟩) (fun H locs hS => ?_)
  refine lv_istore_n (lv' := [(2, .int v1), (0, .ref (ad q)), (1, .int a1)]) hx hb dX4_digsToPut_12 rfl hl (by decide) rfl (fun ls hl => ?_)
  refine lv_iload_n hx hb dX4_digsToPut_13 rfl (lv_at hl 0 rfl) ?_
  refine lv_sipush (v := (-1000)) hx hb dX4_digsToPut_14 (by decide) ?_
  refine lv_icmp_ne (tgt := 27) hx hb dX4_digsToPut_17 (by decide) (fun cc => ?_) (fun cc => ?_)
  · replace h := ie h cc
    refine lv_aload_n hx hb dX4_digsToPut_27 rfl (lv_at hl 1 rfl) ?_
    refine r_get X hS (T := TX4) (k := 0) (hw.1 μ).1 rfl hiX4 (by decide) mf12 rfl dX4_digsToPut_28 ?_
    refine lv_aload_n hx hb dX4_digsToPut_31 rfl (lv_at hl 1 rfl) ?_
    refine r_get X hS (T := TX4) (k := 7) (hw.1 μ).1 rfl hiX4 (by decide) mf38 rfl dX4_digsToPut_32 ?_
    refine lv_iload_n hx hb dX4_digsToPut_35 rfl (lv_at hl 0 rfl) ?_
    obtain ⟨v2, ev2, h⟩ := ob h
    refine r_ci hS (r_runV (As := [.int (μ q 7), .int v1]) (rest := []) X hS (c_X1_leafAt l hE (w := w) (ad := ad) (μ := μ) (D := D) (cI := cI) (cG := cG) (cL := cL) hw.2.1 ev2) (cwV 2 X.1.2.2.2.2 gX4_digsToPut_X1_leafAt rfl rfl rfl (by decide +kernel) ⟨Nat.le_of_ble_eq_true rfl, Nat.le_of_ble_eq_true rfl⟩) (q0 := (q + 1)) (ci := 0) rfl (hw.2.1.1 μ).1 rfl hl.1 rfl (Nat.le_of_ble_eq_true rfl) dX4_digsToPut_36 ⟨Nat.zero_le _, Nat.zero_le _⟩) (fun H locs hS => ?_)
    refine lv_istore_n (lv' := [(3, .int v2), (2, .int v1), (0, .ref (ad q)), (1, .int a1)]) hx hb dX4_digsToPut_39 rfl hl (by decide) rfl (fun ls hl => ?_)
    refine lv_aload_n hx hb dX4_digsToPut_40 rfl (lv_at hl 2 rfl) ?_
    obtain ⟨v3, ev3, h⟩ := ob h
    refine r_ci hS (r_runV (As := []) (rest := []) X hS (c_X4_digsForDirectory l hE (w := w) (ad := ad) (μ := μ) (D := D) (cI := cI) (cG := cG) (cL := cL) hw ev3) (cwV 0 X.1.2.2.2.2 gX4_digsToPut_X4_digsForDirectory rfl rfl rfl (by decide +kernel) ⟨Nat.le_of_ble_eq_true rfl, Nat.le_of_ble_eq_true rfl⟩) (q0 := q) (ci := 2) rfl (hw.1 μ).1 rfl hl.1 rfl (Nat.le_of_ble_eq_true rfl) dX4_digsToPut_41 ⟨Nat.zero_le _, Nat.zero_le _⟩) (fun H locs hS => ?_)
    refine lv_aload_n hx hb dX4_digsToPut_44 rfl (lv_at hl 2 rfl) ?_
    refine r_get X hS (T := TX4) (k := 0) (hw.1 μ).1 rfl hiX4 (by decide) mf12 rfl dX4_digsToPut_45 ?_
    refine lv_iload_n hx hb dX4_digsToPut_48 rfl (lv_at hl 0 rfl) ?_
    obtain ⟨v4, ev4, h⟩ := ob h
    refine r_ci hS (r_runV (As := [.int v2]) (rest := [.int v3]) X hS (c_X1_isFresh l hE (w := w) (ad := ad) (μ := μ) (D := D) (cI := cI) (cG := cG) (cL := cL) hw.2.1 ev4) (cwV 1 X.1.2.2.2.2 gX4_digsToPut_X1_isFresh rfl rfl rfl (by decide +kernel) ⟨Nat.le_of_ble_eq_true rfl, Nat.le_of_ble_eq_true rfl⟩) (q0 := (q + 1)) (ci := 0) rfl (hw.2.1.1 μ).1 rfl hl.1 rfl (Nat.le_of_ble_eq_true rfl) dX4_digsToPut_49 ⟨Nat.zero_le _, Nat.zero_le _⟩) (fun H locs hS => ?_)
    refine lv_if_ne (tgt := 59) hx hb dX4_digsToPut_52 (by decide) (fun cc => ?_) (fun cc => ?_)
    · replace h := ie h cc
      refine lv_iconst (v := 0) hx hb dX4_digsToPut_59 (by decide) ?_
      exact hb60 a1 v2 0 v3 _ _ _ hS (lv_sub hl [2, 3, 0] rfl) h
    · replace h := it h cc
      refine lv_iconst (v := 1) hx hb dX4_digsToPut_55 (by decide) ?_
      refine lv_goto (tgt := 60) hx hb dX4_digsToPut_56 (by decide) ?_
      exact hb60 a1 v2 1 v3 _ _ _ hS (lv_sub hl [2, 3, 0] rfl) h
  · replace h := it h cc
    refine lv_aload_n hx hb dX4_digsToPut_20 rfl (lv_at hl 1 rfl) ?_
    obtain ⟨v9, ev9, h⟩ := ob h
    refine r_ci hS (r_runV (As := []) (rest := []) X hS (c_X4_digsForDirectory l hE (w := w) (ad := ad) (μ := μ) (D := D) (cI := cI) (cG := cG) (cL := cL) hw ev9) (cwV 0 X.1.2.2.2.2 gX4_digsToPut_X4_digsForDirectory rfl rfl rfl (by decide +kernel) ⟨Nat.le_of_ble_eq_true rfl, Nat.le_of_ble_eq_true rfl⟩) (q0 := q) (ci := 2) rfl (hw.1 μ).1 rfl hl.1 rfl (Nat.le_of_ble_eq_true rfl) dX4_digsToPut_21 ⟨Nat.zero_le _, Nat.zero_le _⟩) (fun H locs hS => ?_)
    refine lv_iconst (v := 1) hx hb dX4_digsToPut_24 (by decide) ?_
    refine lv_iadd hx hb dX4_digsToPut_25 ?_
    cases h
    exact r_iret X hS hr hlk dX4_digsToPut_26
def f_X4_bedsToDig (q : Nat) (μ : Mem) : Option Int32 := (f_X4_neededCount q μ).bind (fun v1 => (f_X1_countFreedToDig (q + 1) v1 μ).bind (fun v2 => (f_X1_countInState (q + 1) 0 μ).bind (fun v3 => (some (v2 + v3)))))
set_option maxHeartbeats 4000000 in
set_option maxRecDepth 100000 in
theorem c_X4_bedsToDig (l : Launch) {D : va_G} {cI cG cL : ClassId} {A : Nat → Prop} {EN : State → Heap → Prop} (hE : EnOK EN A) {w : Mem → va_W} {ad : Nat → Nat} {q : Nat} {μ : Mem} {r : Int32} (hw : GardenAt cI w ad q) (h : f_X4_bedsToDig q μ = some r) : Met l yX4_bedsToDig wsX4_bedsToDig (rmk 3 64) (WPre D (tyl cI cG cL) A EN (w μ) [.ref (ad q)]) (PI D A (w μ) r) 0 0 A := by
  have hiX4 : ∀ w ∈ u_ws RX4 TX4 10, w ∈ wsX4_bedsToDig := by decide +kernel
  have mf12 : Cond.fieldLink RX4 12 (TX4 0).1 (TX4 0).2.1 (TX4 0).2.2.1 ∈ wsX4_bedsToDig := by decide +kernel
  refine met_start (cc := cX4_bedsToDig) (nL := 1) (ret := (some .int)) (own := RX4) hE (by decide) rfl rfl (Nat.le_of_ble_eq_true rfl) (fun p e s m args below meth c ls X hS hl hr hlk => ?_)
  have hx := X.1.1
  have hb := X.1.2.1
  replace hl : lv_has ls 1 [(0, .ref (ad q))] := hl
  unfold f_X4_bedsToDig at h
  refine lv_aload_n hx hb dX4_bedsToDig_0 rfl (lv_at hl 0 rfl) ?_
  refine r_get X hS (T := TX4) (k := 0) (hw.1 μ).1 rfl hiX4 (by decide) mf12 rfl dX4_bedsToDig_1 ?_
  refine lv_aload_n hx hb dX4_bedsToDig_4 rfl (lv_at hl 0 rfl) ?_
  obtain ⟨v1, ev1, h⟩ := ob h
  refine r_ci hS (r_runV (As := []) (rest := [.ref (ad (q + 1))]) X hS (c_X4_neededCount l hE (w := w) (ad := ad) (μ := μ) (D := D) (cI := cI) (cG := cG) (cL := cL) hw ev1) (cwV 0 X.1.2.2.2.2 gX4_bedsToDig_X4_neededCount rfl rfl rfl (by decide +kernel) ⟨Nat.le_of_ble_eq_true rfl, Nat.le_of_ble_eq_true rfl⟩) (q0 := q) (ci := 2) rfl (hw.1 μ).1 rfl hl.1 rfl (Nat.le_of_ble_eq_true rfl) dX4_bedsToDig_5 ⟨Nat.zero_le _, Nat.zero_le _⟩) (fun H locs hS => ?_)
  obtain ⟨v2, ev2, h⟩ := ob h
  refine r_ci hS (r_runV (As := [.int v1]) (rest := []) X hS (c_X1_countFreedToDig l hE (w := w) (ad := ad) (μ := μ) (D := D) (cI := cI) (cG := cG) (cL := cL) hw.2.1 ev2) (cwV 1 X.1.2.2.2.2 gX4_bedsToDig_X1_countFreedToDig rfl rfl rfl (by decide +kernel) ⟨Nat.le_of_ble_eq_true rfl, Nat.le_of_ble_eq_true rfl⟩) (q0 := (q + 1)) (ci := 0) rfl (hw.2.1.1 μ).1 rfl hl.1 rfl (Nat.le_of_ble_eq_true rfl) dX4_bedsToDig_8 ⟨Nat.zero_le _, Nat.zero_le _⟩) (fun H locs hS => ?_)
  refine lv_aload_n hx hb dX4_bedsToDig_11 rfl (lv_at hl 0 rfl) ?_
  refine r_get X hS (T := TX4) (k := 0) (hw.1 μ).1 rfl hiX4 (by decide) mf12 rfl dX4_bedsToDig_12 ?_
  refine lv_iconst (v := 0) hx hb dX4_bedsToDig_15 (by decide) ?_
  obtain ⟨v3, ev3, h⟩ := ob h
  refine r_ci hS (r_runV (As := [.int 0]) (rest := [.int v2]) X hS (c_X1_countInState l hE (w := w) (ad := ad) (μ := μ) (D := D) (cI := cI) (cG := cG) (cL := cL) hw.2.1 ev3) (cwV 1 X.1.2.2.2.2 gX4_bedsToDig_X1_countInState rfl rfl rfl (by decide +kernel) ⟨Nat.le_of_ble_eq_true rfl, Nat.le_of_ble_eq_true rfl⟩) (q0 := (q + 1)) (ci := 0) rfl (hw.2.1.1 μ).1 rfl hl.1 rfl (Nat.le_of_ble_eq_true rfl) dX4_bedsToDig_16 ⟨Nat.zero_le _, Nat.zero_le _⟩) (fun H locs hS => ?_)
  refine lv_iadd hx hb dX4_bedsToDig_19 ?_
  cases h
  exact r_iret X hS hr hlk dX4_bedsToDig_20
def f_X4_hindranceToPut_b28 (q : Nat) (s0 : Int32) (μ : Mem) : Option Int32 := (some s0)
def f_X4_hindranceToPut (q : Nat) (a1 : Int32) (μ : Mem) : Option Int32 := (f_X4_digsToPut q a1 μ).bind (fun v1 => (if v1 = (-1000) then (some 1) else (f_X4_bedsToDig q μ).bind (fun v2 => (if v2 < v1 then f_X4_hindranceToPut_b28 q 2 μ else f_X4_hindranceToPut_b28 q 0 μ))))
set_option maxHeartbeats 4000000 in
set_option maxRecDepth 100000 in
theorem c_X4_hindranceToPut (l : Launch) {D : va_G} {cI cG cL : ClassId} {A : Nat → Prop} {EN : State → Heap → Prop} (hE : EnOK EN A) {w : Mem → va_W} {ad : Nat → Nat} {q : Nat} {a1 : Int32} {μ : Mem} {r : Int32} (hw : GardenAt cI w ad q) (h : f_X4_hindranceToPut q a1 μ = some r) : Met l yX4_hindranceToPut wsX4_hindranceToPut (rmk 4 84) (WPre D (tyl cI cG cL) A EN (w μ) [.ref (ad q), .int a1]) (PI D A (w μ) r) 0 0 A := by
  refine met_start (cc := cX4_hindranceToPut) (nL := 3) (ret := (some .int)) (own := RX4) hE (by decide) rfl rfl (Nat.le_of_ble_eq_true rfl) (fun p e s m args below meth c ls X hS hl hr hlk => ?_)
  have hx := X.1.1
  have hb := X.1.2.1
  replace hl : lv_has ls 3 [(0, .ref (ad q)), (1, .int a1)] := hl
  have hb28 : ∀ (s0 : Int32) (H : Heap) (locs : List Loc) (ls : Array Slot), HS D A (w μ) s.heap H locs → lv_has ls 3 [] → f_X4_hindranceToPut_b28 q s0 μ = some r → W p l e (headSpec wsX4_hindranceToPut (rmk 4 84)).room s m args below meth c H locs 0 0 (MQ below (PI D A (w μ) r) args s 0 0 A) (F0 m 28 ls [.int s0]) := by
    intro s0 H locs ls hS hl h
    unfold f_X4_hindranceToPut_b28 at h
    cases h
    exact r_iret X hS hr hlk dX4_hindranceToPut_28
  unfold f_X4_hindranceToPut at h
  refine lv_aload_n hx hb dX4_hindranceToPut_0 rfl (lv_at hl 0 rfl) ?_
  refine lv_iload_n hx hb dX4_hindranceToPut_1 rfl (lv_at hl 1 rfl) ?_
  obtain ⟨v1, ev1, h⟩ := ob h
  refine r_ci hS (r_runV (As := [.int a1]) (rest := []) X hS (c_X4_digsToPut l hE (w := w) (ad := ad) (μ := μ) (D := D) (cI := cI) (cG := cG) (cL := cL) hw ev1) (cwV 1 X.1.2.2.2.2 gX4_hindranceToPut_X4_digsToPut rfl rfl rfl (by decide +kernel) ⟨Nat.le_of_ble_eq_true rfl, Nat.le_of_ble_eq_true rfl⟩) (q0 := q) (ci := 2) rfl (hw.1 μ).1 rfl hl.1 rfl (Nat.le_of_ble_eq_true rfl) dX4_hindranceToPut_2 ⟨Nat.zero_le _, Nat.zero_le _⟩) (fun H locs hS => ?_)
  refine lv_istore_n (lv' := [(2, .int v1), (0, .ref (ad q)), (1, .int a1)]) hx hb dX4_hindranceToPut_5 rfl hl (by decide) rfl (fun ls hl => ?_)
  refine lv_iload_n hx hb dX4_hindranceToPut_6 rfl (lv_at hl 0 rfl) ?_
  refine lv_sipush (v := (-1000)) hx hb dX4_hindranceToPut_7 (by decide) ?_
  refine lv_icmp_ne (tgt := 15) hx hb dX4_hindranceToPut_10 (by decide) (fun cc => ?_) (fun cc => ?_)
  · replace h := ie h cc
    refine lv_iload_n hx hb dX4_hindranceToPut_15 rfl (lv_at hl 0 rfl) ?_
    refine lv_aload_n hx hb dX4_hindranceToPut_16 rfl (lv_at hl 1 rfl) ?_
    obtain ⟨v2, ev2, h⟩ := ob h
    refine r_ci hS (r_runV (As := []) (rest := [.int v1]) X hS (c_X4_bedsToDig l hE (w := w) (ad := ad) (μ := μ) (D := D) (cI := cI) (cG := cG) (cL := cL) hw ev2) (cwV 0 X.1.2.2.2.2 gX4_hindranceToPut_X4_bedsToDig rfl rfl rfl (by decide +kernel) ⟨Nat.le_of_ble_eq_true rfl, Nat.le_of_ble_eq_true rfl⟩) (q0 := q) (ci := 2) rfl (hw.1 μ).1 rfl hl.1 rfl (Nat.le_of_ble_eq_true rfl) dX4_hindranceToPut_17 ⟨Nat.zero_le _, Nat.zero_le _⟩) (fun H locs hS => ?_)
    refine lv_icmp_gt (tgt := 27) hx hb dX4_hindranceToPut_20 (by decide) (fun cc => ?_) (fun cc => ?_)
    · replace h := it h cc
      refine lv_iconst (v := 2) hx hb dX4_hindranceToPut_27 (by decide) ?_
      exact hb28 2 _ _ _ hS (lv_sub hl [] rfl) h
    · replace h := ie h cc
      refine lv_iconst (v := 0) hx hb dX4_hindranceToPut_23 (by decide) ?_
      refine lv_goto (tgt := 28) hx hb dX4_hindranceToPut_24 (by decide) ?_
      exact hb28 0 _ _ _ hS (lv_sub hl [] rfl) h
  · replace h := it h cc
    refine lv_iconst (v := 1) hx hb dX4_hindranceToPut_13 (by decide) ?_
    cases h
    exact r_iret X hS hr hlk dX4_hindranceToPut_14
def f_X4_putFault_b23 (q : Nat)  (μ : Mem) : Option Int32 := (some 2)
def f_X4_putFault_b45 (q : Nat) (s0 : Int32) (μ : Mem) : Option Int32 := (some s0)
def f_X4_putFault_b44 (q : Nat)  (μ : Mem) : Option Int32 := f_X4_putFault_b45 q 3 μ
def f_X4_putFault (q : Nat) (a1 : Int32) (a2 : Int32) (μ : Mem) : Option Int32 := (f_X6_isBelow a1 100).bind (fun v1 => (if v1 = 0 then f_X4_putFault_b23 q μ else (if a2 < (-999) then f_X4_putFault_b23 q μ else (if a2 ≤ 999 then (if (μ q 6) = 0 then f_X4_putFault_b44 q μ else (f_X4_hindranceToPut q a1 μ).bind (fun v2 => (if v2 = 0 then f_X4_putFault_b45 q 0 μ else f_X4_putFault_b44 q μ))) else f_X4_putFault_b23 q μ))))
set_option maxHeartbeats 4000000 in
set_option maxRecDepth 100000 in
theorem c_X4_putFault (l : Launch) {D : va_G} {cI cG cL : ClassId} {A : Nat → Prop} {EN : State → Heap → Prop} (hE : EnOK EN A) {w : Mem → va_W} {ad : Nat → Nat} {q : Nat} {a1 : Int32} {a2 : Int32} {μ : Mem} {r : Int32} (hw : GardenAt cI w ad q) (h : f_X4_putFault q a1 a2 μ = some r) : Met l yX4_putFault wsX4_putFault (rmk 5 106) (WPre D (tyl cI cG cL) A EN (w μ) [.ref (ad q), .int a1, .int a2]) (PI D A (w μ) r) 0 0 A := by
  have hiX4 : ∀ w ∈ u_ws RX4 TX4 10, w ∈ wsX4_putFault := by decide +kernel
  have miX6 : Cond.initialized RX6 ∈ wsX4_putFault := by decide +kernel
  have ms90 : Cond.static yX6_isBelow ∈ wsX4_putFault := by decide +kernel
  have mf34 : Cond.fieldLink RX4 34 (TX4 6).1 (TX4 6).2.1 (TX4 6).2.2.1 ∈ wsX4_putFault := by decide +kernel
  refine met_start (cc := cX4_putFault) (nL := 3) (ret := (some .int)) (own := RX4) hE (by decide) rfl rfl (Nat.le_of_ble_eq_true rfl) (fun p e s m args below meth c ls X hS hl hr hlk => ?_)
  have hx := X.1.1
  have hb := X.1.2.1
  replace hl : lv_has ls 3 [(0, .ref (ad q)), (1, .int a1), (2, .int a2)] := hl
  have hb23 : ∀  (H : Heap) (locs : List Loc) (ls : Array Slot), HS D A (w μ) s.heap H locs → lv_has ls 3 [] → f_X4_putFault_b23 q μ = some r → W p l e (headSpec wsX4_putFault (rmk 5 106)).room s m args below meth c H locs 0 0 (MQ below (PI D A (w μ) r) args s 0 0 A) (F0 m 23 ls []) := by
    intro H locs ls hS hl h
    unfold f_X4_putFault_b23 at h
    refine lv_iconst (v := 2) hx hb dX4_putFault_23 (by decide) ?_
    cases h
    exact r_iret X hS hr hlk dX4_putFault_24
  have hb45 : ∀ (s0 : Int32) (H : Heap) (locs : List Loc) (ls : Array Slot), HS D A (w μ) s.heap H locs → lv_has ls 3 [] → f_X4_putFault_b45 q s0 μ = some r → W p l e (headSpec wsX4_putFault (rmk 5 106)).room s m args below meth c H locs 0 0 (MQ below (PI D A (w μ) r) args s 0 0 A) (F0 m 45 ls [.int s0]) := by
    intro s0 H locs ls hS hl h
    unfold f_X4_putFault_b45 at h
    cases h
    exact r_iret X hS hr hlk dX4_putFault_45
  have hb44 : ∀  (H : Heap) (locs : List Loc) (ls : Array Slot), HS D A (w μ) s.heap H locs → lv_has ls 3 [] → f_X4_putFault_b44 q μ = some r → W p l e (headSpec wsX4_putFault (rmk 5 106)).room s m args below meth c H locs 0 0 (MQ below (PI D A (w μ) r) args s 0 0 A) (F0 m 44 ls []) := by
    intro H locs ls hS hl h
    unfold f_X4_putFault_b44 at h
    refine lv_iconst (v := 3) hx hb dX4_putFault_44 (by decide) ?_
    exact hb45 3 _ _ _ hS (lv_sub hl [] rfl) h
  unfold f_X4_putFault at h
  refine lv_iload_n hx hb dX4_putFault_0 rfl (lv_at hl 1 rfl) ?_
  refine lv_bipush (v := 100) hx hb dX4_putFault_1 (by decide) ?_
  obtain ⟨v1, ev1, h⟩ := ob h
  refine r_ci hS (r_runSN (As := [.int a1, .int 100]) (rest := []) (host := RX6) X hS (c_X6_isBelow l hE (w := w) (ad := ad) (μ := μ) (D := D) (cI := cI) (cG := cG) (cL := cL) ev1) (va_cnB 2 X.1.2.2.2.2 gX4_putFault_X6_isBelow_n90 rfl rfl rfl (X.nest 6 rfl) (X.1.2.2.2.2 _ miX6) (by decide +kernel) ⟨Nat.le_of_ble_eq_true rfl, Nat.le_of_ble_eq_true rfl⟩) (X.1.2.2.2.2 _ ms90) rfl hl.1 rfl (Nat.le_of_ble_eq_true rfl) dX4_putFault_3 ⟨Nat.zero_le _, Nat.zero_le _⟩) (fun H locs hS => ?_)
  refine lv_if_eq (tgt := 23) hx hb dX4_putFault_6 (by decide) (fun cc => ?_) (fun cc => ?_)
  · replace h := it h cc
    exact hb23  _ _ _ hS (lv_sub hl [] rfl) h
  · replace h := ie h cc
    refine lv_iload_n hx hb dX4_putFault_9 rfl (lv_at hl 2 rfl) ?_
    refine lv_sipush (v := (-999)) hx hb dX4_putFault_10 (by decide) ?_
    refine lv_icmp_lt (tgt := 23) hx hb dX4_putFault_13 (by decide) (fun cc => ?_) (fun cc => ?_)
    · replace h := it h cc
      exact hb23  _ _ _ hS (lv_sub hl [] rfl) h
    · replace h := ie h cc
      refine lv_iload_n hx hb dX4_putFault_16 rfl (lv_at hl 2 rfl) ?_
      refine lv_sipush (v := 999) hx hb dX4_putFault_17 (by decide) ?_
      refine lv_icmp_le (tgt := 25) hx hb dX4_putFault_20 (by decide) (fun cc => ?_) (fun cc => ?_)
      · replace h := it h cc
        refine lv_aload_n hx hb dX4_putFault_25 rfl (lv_at hl 0 rfl) ?_
        refine r_get X hS (T := TX4) (k := 6) (hw.1 μ).1 rfl hiX4 (by decide) mf34 rfl dX4_putFault_26 ?_
        refine lv_if_eq (tgt := 44) hx hb dX4_putFault_29 (by decide) (fun cc => ?_) (fun cc => ?_)
        · replace h := it h cc
          exact hb44  _ _ _ hS (lv_sub hl [] rfl) h
        · replace h := ie h cc
          refine lv_aload_n hx hb dX4_putFault_32 rfl (lv_at hl 0 rfl) ?_
          refine lv_iload_n hx hb dX4_putFault_33 rfl (lv_at hl 1 rfl) ?_
          obtain ⟨v2, ev2, h⟩ := ob h
          refine r_ci hS (r_runV (As := [.int a1]) (rest := []) X hS (c_X4_hindranceToPut l hE (w := w) (ad := ad) (μ := μ) (D := D) (cI := cI) (cG := cG) (cL := cL) hw ev2) (cwV 1 X.1.2.2.2.2 gX4_putFault_X4_hindranceToPut rfl rfl rfl (by decide +kernel) ⟨Nat.le_of_ble_eq_true rfl, Nat.le_of_ble_eq_true rfl⟩) (q0 := q) (ci := 2) rfl (hw.1 μ).1 rfl hl.1 rfl (Nat.le_of_ble_eq_true rfl) dX4_putFault_34 ⟨Nat.zero_le _, Nat.zero_le _⟩) (fun H locs hS => ?_)
          refine lv_if_ne (tgt := 44) hx hb dX4_putFault_37 (by decide) (fun cc => ?_) (fun cc => ?_)
          · replace h := ie h cc
            exact hb44  _ _ _ hS (lv_sub hl [] rfl) h
          · replace h := it h cc
            refine lv_iconst (v := 0) hx hb dX4_putFault_40 (by decide) ?_
            refine lv_goto (tgt := 45) hx hb dX4_putFault_41 (by decide) ?_
            exact hb45 0 _ _ _ hS (lv_sub hl [] rfl) h
      · replace h := ie h cc
        exact hb23  _ _ _ hS (lv_sub hl [] rfl) h
def f_X4_draftedValue (q : Nat) (a1 : Int32) (μ : Mem) : Option Int32 := (f_X1_valueIn (q + 1) (μ q 7) a1 μ).bind (fun v1 => (some v1))
set_option maxHeartbeats 4000000 in
set_option maxRecDepth 100000 in
theorem c_X4_draftedValue (l : Launch) {D : va_G} {cI cG cL : ClassId} {A : Nat → Prop} {EN : State → Heap → Prop} (hE : EnOK EN A) {w : Mem → va_W} {ad : Nat → Nat} {q : Nat} {a1 : Int32} {μ : Mem} {r : Int32} (hw : GardenAt cI w ad q) (h : f_X4_draftedValue q a1 μ = some r) : Met l yX4_draftedValue wsX4_draftedValue (rmk 3 71) (WPre D (tyl cI cG cL) A EN (w μ) [.ref (ad q), .int a1]) (PI D A (w μ) r) 0 0 A := by
  have hiX4 : ∀ w ∈ u_ws RX4 TX4 10, w ∈ wsX4_draftedValue := by decide +kernel
  have mf12 : Cond.fieldLink RX4 12 (TX4 0).1 (TX4 0).2.1 (TX4 0).2.2.1 ∈ wsX4_draftedValue := by decide +kernel
  have mf38 : Cond.fieldLink RX4 38 (TX4 7).1 (TX4 7).2.1 (TX4 7).2.2.1 ∈ wsX4_draftedValue := by decide +kernel
  refine met_start (cc := cX4_draftedValue) (nL := 2) (ret := (some .int)) (own := RX4) hE (by decide) rfl rfl (Nat.le_of_ble_eq_true rfl) (fun p e s m args below meth c ls X hS hl hr hlk => ?_)
  have hx := X.1.1
  have hb := X.1.2.1
  replace hl : lv_has ls 2 [(0, .ref (ad q)), (1, .int a1)] := hl
  unfold f_X4_draftedValue at h
  refine lv_aload_n hx hb dX4_draftedValue_0 rfl (lv_at hl 0 rfl) ?_
  refine r_get X hS (T := TX4) (k := 0) (hw.1 μ).1 rfl hiX4 (by decide) mf12 rfl dX4_draftedValue_1 ?_
  refine lv_aload_n hx hb dX4_draftedValue_4 rfl (lv_at hl 0 rfl) ?_
  refine r_get X hS (T := TX4) (k := 7) (hw.1 μ).1 rfl hiX4 (by decide) mf38 rfl dX4_draftedValue_5 ?_
  refine lv_iload_n hx hb dX4_draftedValue_8 rfl (lv_at hl 1 rfl) ?_
  obtain ⟨v1, ev1, h⟩ := ob h
  refine r_ci hS (r_runV (As := [.int (μ q 7), .int a1]) (rest := []) X hS (c_X1_valueIn l hE (w := w) (ad := ad) (μ := μ) (D := D) (cI := cI) (cG := cG) (cL := cL) hw.2.1 ev1) (cwV 2 X.1.2.2.2.2 gX4_draftedValue_X1_valueIn rfl rfl rfl (by decide +kernel) ⟨Nat.le_of_ble_eq_true rfl, Nat.le_of_ble_eq_true rfl⟩) (q0 := (q + 1)) (ci := 0) rfl (hw.2.1.1 μ).1 rfl hl.1 rfl (Nat.le_of_ble_eq_true rfl) dX4_draftedValue_9 ⟨Nat.zero_le _, Nat.zero_le _⟩) (fun H locs hS => ?_)
  cases h
  exact r_iret X hS hr hlk dX4_draftedValue_12
def f_X4_digsToRemove_b56 (q : Nat) (s0 : Int32) (s1 : Int32) (μ : Mem) : Option Int32 := (f_X6_one s0).bind (fun v5 => (some (s1 + v5)))
def f_X4_digsToRemove_b55 (q : Nat) (s0 : Int32) (μ : Mem) : Option Int32 := f_X4_digsToRemove_b56 q 0 s0 μ
def f_X4_digsToRemove (q : Nat) (a1 : Int32) (μ : Mem) : Option Int32 := (f_X1_leafPlace (q + 1) (μ q 7) a1 μ).bind (fun v1 => (f_X1_leafAt (q + 1) (μ q 7) v1 μ).bind (fun v2 => (f_X4_digsForDirectory q μ).bind (fun v3 => (f_X1_sizeOf (q + 1) v2 μ).bind (fun v4 => (if v4 ≤ 1 then f_X4_digsToRemove_b55 q v3 μ else (f_X1_isFresh (q + 1) v2 μ).bind (fun v6 => (if v6 = 0 then f_X4_digsToRemove_b56 q 1 v3 μ else f_X4_digsToRemove_b55 q v3 μ)))))))
set_option maxHeartbeats 4000000 in
set_option maxRecDepth 100000 in
theorem c_X4_digsToRemove (l : Launch) {D : va_G} {cI cG cL : ClassId} {A : Nat → Prop} {EN : State → Heap → Prop} (hE : EnOK EN A) {w : Mem → va_W} {ad : Nat → Nat} {q : Nat} {a1 : Int32} {μ : Mem} {r : Int32} (hw : GardenAt cI w ad q) (h : f_X4_digsToRemove q a1 μ = some r) : Met l yX4_digsToRemove wsX4_digsToRemove (rmk 2 48) (WPre D (tyl cI cG cL) A EN (w μ) [.ref (ad q), .int a1]) (PI D A (w μ) r) 0 0 A := by
  have hiX4 : ∀ w ∈ u_ws RX4 TX4 10, w ∈ wsX4_digsToRemove := by decide +kernel
  have mf12 : Cond.fieldLink RX4 12 (TX4 0).1 (TX4 0).2.1 (TX4 0).2.2.1 ∈ wsX4_digsToRemove := by decide +kernel
  have mf38 : Cond.fieldLink RX4 38 (TX4 7).1 (TX4 7).2.1 (TX4 7).2.2.1 ∈ wsX4_digsToRemove := by decide +kernel
  have miX6 : Cond.initialized RX6 ∈ wsX4_digsToRemove := by decide +kernel
  have ms213 : Cond.static yX6_one ∈ wsX4_digsToRemove := by decide +kernel
  refine met_start (cc := cX4_digsToRemove) (nL := 3) (ret := (some .int)) (own := RX4) hE (by decide) rfl rfl (Nat.le_of_ble_eq_true rfl) (fun p e s m args below meth c ls X hS hl hr hlk => ?_)
  have hx := X.1.1
  have hb := X.1.2.1
  replace hl : lv_has ls 3 [(0, .ref (ad q)), (1, .int a1)] := hl
  have hb56 : ∀ (s0 : Int32) (s1 : Int32) (H : Heap) (locs : List Loc) (ls : Array Slot), HS D A (w μ) s.heap H locs → lv_has ls 3 [] → f_X4_digsToRemove_b56 q s0 s1 μ = some r → W p l e (headSpec wsX4_digsToRemove (rmk 2 48)).room s m args below meth c H locs 0 0 (MQ below (PI D A (w μ) r) args s 0 0 A) (F0 m 56 ls [.int s0, .int s1]) := by
    intro s0 s1 H locs ls hS hl h
    unfold f_X4_digsToRemove_b56 at h
    obtain ⟨v5, ev5, h⟩ := ob h
    refine r_ci hS (r_runSN (As := [.int s0]) (rest := [.int s1]) (host := RX6) X hS (c_X6_one l hE (w := w) (ad := ad) (μ := μ) (D := D) (cI := cI) (cG := cG) (cL := cL) ev5) (va_cnB 1 X.1.2.2.2.2 gX4_digsToRemove_X6_one_n213 rfl rfl rfl (X.nest 7 rfl) (X.1.2.2.2.2 _ miX6) (by decide +kernel) ⟨Nat.le_of_ble_eq_true rfl, Nat.le_of_ble_eq_true rfl⟩) (X.1.2.2.2.2 _ ms213) rfl hl.1 rfl (Nat.le_of_ble_eq_true rfl) dX4_digsToRemove_56 ⟨Nat.zero_le _, Nat.zero_le _⟩) (fun H locs hS => ?_)
    refine lv_iadd hx hb dX4_digsToRemove_59 ?_
    cases h
    exact r_iret X hS hr hlk dX4_digsToRemove_60
  have hb55 : ∀ (s0 : Int32) (H : Heap) (locs : List Loc) (ls : Array Slot), HS D A (w μ) s.heap H locs → lv_has ls 3 [] → f_X4_digsToRemove_b55 q s0 μ = some r → W p l e (headSpec wsX4_digsToRemove (rmk 2 48)).room s m args below meth c H locs 0 0 (MQ below (PI D A (w μ) r) args s 0 0 A) (F0 m 55 ls [.int s0]) := by
    intro s0 H locs ls hS hl h
    unfold f_X4_digsToRemove_b55 at h
    refine lv_iconst (v := 0) hx hb dX4_digsToRemove_55 (by decide) ?_
    exact hb56 0 s0 _ _ _ hS (lv_sub hl [] rfl) h
  unfold f_X4_digsToRemove at h
  refine lv_aload_n hx hb dX4_digsToRemove_0 rfl (lv_at hl 0 rfl) ?_
  refine r_get X hS (T := TX4) (k := 0) (hw.1 μ).1 rfl hiX4 (by decide) mf12 rfl dX4_digsToRemove_1 ?_
  refine lv_aload_n hx hb dX4_digsToRemove_4 rfl (lv_at hl 0 rfl) ?_
  refine r_get X hS (T := TX4) (k := 7) (hw.1 μ).1 rfl hiX4 (by decide) mf38 rfl dX4_digsToRemove_5 ?_
  refine lv_aload_n hx hb dX4_digsToRemove_8 rfl (lv_at hl 0 rfl) ?_
  refine r_get X hS (T := TX4) (k := 0) (hw.1 μ).1 rfl hiX4 (by decide) mf12 rfl dX4_digsToRemove_9 ?_
  refine lv_aload_n hx hb dX4_digsToRemove_12 rfl (lv_at hl 0 rfl) ?_
  refine r_get X hS (T := TX4) (k := 7) (hw.1 μ).1 rfl hiX4 (by decide) mf38 rfl dX4_digsToRemove_13 ?_
  refine lv_iload_n hx hb dX4_digsToRemove_16 rfl (lv_at hl 1 rfl) ?_
  obtain ⟨v1, ev1, h⟩ := ob h
  refine r_ci hS (r_runV (As := [.int (μ q 7), .int a1]) (rest := [.int (μ q 7), .ref (ad (q + 1))]) X hS (c_X1_leafPlace l hE (w := w) (ad := ad) (μ := μ) (D := D) (cI := cI) (cG := cG) (cL := cL) hw.2.1 ev1) (cwV 2 X.1.2.2.2.2 gX4_digsToRemove_X1_leafPlace rfl rfl rfl (by decide +kernel) ⟨Nat.le_of_ble_eq_true rfl, Nat.le_of_ble_eq_true rfl⟩) (q0 := (q + 1)) (ci := 0) rfl (hw.2.1.1 μ).1 rfl hl.1 rfl (Nat.le_of_ble_eq_true rfl) dX4_digsToRemove_17 ⟨Nat.zero_le _, Nat.zero_le _⟩) (fun H locs hS => ?_)
  obtain ⟨v2, ev2, h⟩ := ob h
  refine r_ci hS (r_runV (As := [.int (μ q 7), .int v1]) (rest := []) X hS (c_X1_leafAt l hE (w := w) (ad := ad) (μ := μ) (D := D) (cI := cI) (cG := cG) (cL := cL) hw.2.1 ev2) (cwV 2 X.1.2.2.2.2 gX4_digsToRemove_X1_leafAt rfl rfl rfl (by decide +kernel) ⟨Nat.le_of_ble_eq_true rfl, Nat.le_of_ble_eq_true rfl⟩) (q0 := (q + 1)) (ci := 0) rfl (hw.2.1.1 μ).1 rfl hl.1 rfl (Nat.le_of_ble_eq_true rfl) dX4_digsToRemove_20 ⟨Nat.zero_le _, Nat.zero_le _⟩) (fun H locs hS => ?_)
  refine lv_istore_n (lv' := [(2, .int v2), (0, .ref (ad q)), (1, .int a1)]) hx hb dX4_digsToRemove_23 rfl hl (by decide) rfl (fun ls hl => ?_)
  refine lv_aload_n hx hb dX4_digsToRemove_24 rfl (lv_at hl 1 rfl) ?_
  obtain ⟨v3, ev3, h⟩ := ob h
  refine r_ci hS (r_runV (As := []) (rest := []) X hS (c_X4_digsForDirectory l hE (w := w) (ad := ad) (μ := μ) (D := D) (cI := cI) (cG := cG) (cL := cL) hw ev3) (cwV 0 X.1.2.2.2.2 gX4_digsToRemove_X4_digsForDirectory rfl rfl rfl (by decide +kernel) ⟨Nat.le_of_ble_eq_true rfl, Nat.le_of_ble_eq_true rfl⟩) (q0 := q) (ci := 2) rfl (hw.1 μ).1 rfl hl.1 rfl (Nat.le_of_ble_eq_true rfl) dX4_digsToRemove_25 ⟨Nat.zero_le _, Nat.zero_le _⟩) (fun H locs hS => ?_)
  refine lv_aload_n hx hb dX4_digsToRemove_28 rfl (lv_at hl 1 rfl) ?_
  refine r_get X hS (T := TX4) (k := 0) (hw.1 μ).1 rfl hiX4 (by decide) mf12 rfl dX4_digsToRemove_29 ?_
  refine lv_iload_n hx hb dX4_digsToRemove_32 rfl (lv_at hl 0 rfl) ?_
  obtain ⟨v4, ev4, h⟩ := ob h
  refine r_ci hS (r_runV (As := [.int v2]) (rest := [.int v3]) X hS (c_X1_sizeOf l hE (w := w) (ad := ad) (μ := μ) (D := D) (cI := cI) (cG := cG) (cL := cL) hw.2.1 ev4) (cwV 1 X.1.2.2.2.2 gX4_digsToRemove_X1_sizeOf rfl rfl rfl (by decide +kernel) ⟨Nat.le_of_ble_eq_true rfl, Nat.le_of_ble_eq_true rfl⟩) (q0 := (q + 1)) (ci := 0) rfl (hw.2.1.1 μ).1 rfl hl.1 rfl (Nat.le_of_ble_eq_true rfl) dX4_digsToRemove_33 ⟨Nat.zero_le _, Nat.zero_le _⟩) (fun H locs hS => ?_)
  refine lv_iconst (v := 1) hx hb dX4_digsToRemove_36 (by decide) ?_
  refine lv_icmp_le (tgt := 55) hx hb dX4_digsToRemove_37 (by decide) (fun cc => ?_) (fun cc => ?_)
  · replace h := it h cc
    exact hb55 v3 _ _ _ hS (lv_sub hl [] rfl) h
  · replace h := ie h cc
    refine lv_aload_n hx hb dX4_digsToRemove_40 rfl (lv_at hl 1 rfl) ?_
    refine r_get X hS (T := TX4) (k := 0) (hw.1 μ).1 rfl hiX4 (by decide) mf12 rfl dX4_digsToRemove_41 ?_
    refine lv_iload_n hx hb dX4_digsToRemove_44 rfl (lv_at hl 0 rfl) ?_
    obtain ⟨v6, ev6, h⟩ := ob h
    refine r_ci hS (r_runV (As := [.int v2]) (rest := [.int v3]) X hS (c_X1_isFresh l hE (w := w) (ad := ad) (μ := μ) (D := D) (cI := cI) (cG := cG) (cL := cL) hw.2.1 ev6) (cwV 1 X.1.2.2.2.2 gX4_digsToRemove_X1_isFresh rfl rfl rfl (by decide +kernel) ⟨Nat.le_of_ble_eq_true rfl, Nat.le_of_ble_eq_true rfl⟩) (q0 := (q + 1)) (ci := 0) rfl (hw.2.1.1 μ).1 rfl hl.1 rfl (Nat.le_of_ble_eq_true rfl) dX4_digsToRemove_45 ⟨Nat.zero_le _, Nat.zero_le _⟩) (fun H locs hS => ?_)
    refine lv_if_ne (tgt := 55) hx hb dX4_digsToRemove_48 (by decide) (fun cc => ?_) (fun cc => ?_)
    · replace h := ie h cc
      exact hb55 v3 _ _ _ hS (lv_sub hl [] rfl) h
    · replace h := it h cc
      refine lv_iconst (v := 1) hx hb dX4_digsToRemove_51 (by decide) ?_
      refine lv_goto (tgt := 56) hx hb dX4_digsToRemove_52 (by decide) ?_
      exact hb56 1 v3 _ _ _ hS (lv_sub hl [] rfl) h
def f_X4_removeFault_b46 (q : Nat) (s0 : Int32) (μ : Mem) : Option Int32 := (some s0)
def f_X4_removeFault_b45 (q : Nat)  (μ : Mem) : Option Int32 := f_X4_removeFault_b46 q 3 μ
def f_X4_removeFault (q : Nat) (a1 : Int32) (μ : Mem) : Option Int32 := (f_X6_isBelow a1 100).bind (fun v1 => (if v1 = 0 then (some 2) else (if (μ q 6) = 0 then f_X4_removeFault_b45 q μ else (f_X4_draftedValue q a1 μ).bind (fun v2 => (if v2 = (-1000) then f_X4_removeFault_b45 q μ else (f_X4_digsToRemove q a1 μ).bind (fun v3 => (f_X4_bedsToDig q μ).bind (fun v4 => (if v4 < v3 then f_X4_removeFault_b45 q μ else f_X4_removeFault_b46 q 0 μ))))))))
set_option maxHeartbeats 4000000 in
set_option maxRecDepth 100000 in
theorem c_X4_removeFault (l : Launch) {D : va_G} {cI cG cL : ClassId} {A : Nat → Prop} {EN : State → Heap → Prop} (hE : EnOK EN A) {w : Mem → va_W} {ad : Nat → Nat} {q : Nat} {a1 : Int32} {μ : Mem} {r : Int32} (hw : GardenAt cI w ad q) (h : f_X4_removeFault q a1 μ = some r) : Met l yX4_removeFault wsX4_removeFault (rmk 4 92) (WPre D (tyl cI cG cL) A EN (w μ) [.ref (ad q), .int a1]) (PI D A (w μ) r) 0 0 A := by
  have hiX4 : ∀ w ∈ u_ws RX4 TX4 10, w ∈ wsX4_removeFault := by decide +kernel
  have miX6 : Cond.initialized RX6 ∈ wsX4_removeFault := by decide +kernel
  have ms90 : Cond.static yX6_isBelow ∈ wsX4_removeFault := by decide +kernel
  have mf34 : Cond.fieldLink RX4 34 (TX4 6).1 (TX4 6).2.1 (TX4 6).2.2.1 ∈ wsX4_removeFault := by decide +kernel
  refine met_start (cc := cX4_removeFault) (nL := 2) (ret := (some .int)) (own := RX4) hE (by decide) rfl rfl (Nat.le_of_ble_eq_true rfl) (fun p e s m args below meth c ls X hS hl hr hlk => ?_)
  have hx := X.1.1
  have hb := X.1.2.1
  replace hl : lv_has ls 2 [(0, .ref (ad q)), (1, .int a1)] := hl
  have hb46 : ∀ (s0 : Int32) (H : Heap) (locs : List Loc) (ls : Array Slot), HS D A (w μ) s.heap H locs → lv_has ls 2 [] → f_X4_removeFault_b46 q s0 μ = some r → W p l e (headSpec wsX4_removeFault (rmk 4 92)).room s m args below meth c H locs 0 0 (MQ below (PI D A (w μ) r) args s 0 0 A) (F0 m 46 ls [.int s0]) := by
    intro s0 H locs ls hS hl h
    unfold f_X4_removeFault_b46 at h
    cases h
    exact r_iret X hS hr hlk dX4_removeFault_46
  have hb45 : ∀  (H : Heap) (locs : List Loc) (ls : Array Slot), HS D A (w μ) s.heap H locs → lv_has ls 2 [] → f_X4_removeFault_b45 q μ = some r → W p l e (headSpec wsX4_removeFault (rmk 4 92)).room s m args below meth c H locs 0 0 (MQ below (PI D A (w μ) r) args s 0 0 A) (F0 m 45 ls []) := by
    intro H locs ls hS hl h
    unfold f_X4_removeFault_b45 at h
    refine lv_iconst (v := 3) hx hb dX4_removeFault_45 (by decide) ?_
    exact hb46 3 _ _ _ hS (lv_sub hl [] rfl) h
  unfold f_X4_removeFault at h
  refine lv_iload_n hx hb dX4_removeFault_0 rfl (lv_at hl 1 rfl) ?_
  refine lv_bipush (v := 100) hx hb dX4_removeFault_1 (by decide) ?_
  obtain ⟨v1, ev1, h⟩ := ob h
  refine r_ci hS (r_runSN (As := [.int a1, .int 100]) (rest := []) (host := RX6) X hS (c_X6_isBelow l hE (w := w) (ad := ad) (μ := μ) (D := D) (cI := cI) (cG := cG) (cL := cL) ev1) (va_cnB 2 X.1.2.2.2.2 gX4_removeFault_X6_isBelow_n90 rfl rfl rfl (X.nest 6 rfl) (X.1.2.2.2.2 _ miX6) (by decide +kernel) ⟨Nat.le_of_ble_eq_true rfl, Nat.le_of_ble_eq_true rfl⟩) (X.1.2.2.2.2 _ ms90) rfl hl.1 rfl (Nat.le_of_ble_eq_true rfl) dX4_removeFault_3 ⟨Nat.zero_le _, Nat.zero_le _⟩) (fun H locs hS => ?_)
  refine lv_if_ne (tgt := 11) hx hb dX4_removeFault_6 (by decide) (fun cc => ?_) (fun cc => ?_)
  · replace h := ie h cc
    refine lv_aload_n hx hb dX4_removeFault_11 rfl (lv_at hl 0 rfl) ?_
    refine r_get X hS (T := TX4) (k := 6) (hw.1 μ).1 rfl hiX4 (by decide) mf34 rfl dX4_removeFault_12 ?_
    refine lv_if_eq (tgt := 45) hx hb dX4_removeFault_15 (by decide) (fun cc => ?_) (fun cc => ?_)
    · replace h := it h cc
      exact hb45  _ _ _ hS (lv_sub hl [] rfl) h
    · replace h := ie h cc
      refine lv_aload_n hx hb dX4_removeFault_18 rfl (lv_at hl 0 rfl) ?_
      refine lv_iload_n hx hb dX4_removeFault_19 rfl (lv_at hl 1 rfl) ?_
      obtain ⟨v2, ev2, h⟩ := ob h
      refine r_ci hS (r_runV (As := [.int a1]) (rest := []) X hS (c_X4_draftedValue l hE (w := w) (ad := ad) (μ := μ) (D := D) (cI := cI) (cG := cG) (cL := cL) hw ev2) (cwV 1 X.1.2.2.2.2 gX4_removeFault_X4_draftedValue rfl rfl rfl (by decide +kernel) ⟨Nat.le_of_ble_eq_true rfl, Nat.le_of_ble_eq_true rfl⟩) (q0 := q) (ci := 2) rfl (hw.1 μ).1 rfl hl.1 rfl (Nat.le_of_ble_eq_true rfl) dX4_removeFault_20 ⟨Nat.zero_le _, Nat.zero_le _⟩) (fun H locs hS => ?_)
      refine lv_sipush (v := (-1000)) hx hb dX4_removeFault_23 (by decide) ?_
      refine lv_icmp_eq (tgt := 45) hx hb dX4_removeFault_26 (by decide) (fun cc => ?_) (fun cc => ?_)
      · replace h := it h cc
        exact hb45  _ _ _ hS (lv_sub hl [] rfl) h
      · replace h := ie h cc
        refine lv_aload_n hx hb dX4_removeFault_29 rfl (lv_at hl 0 rfl) ?_
        refine lv_iload_n hx hb dX4_removeFault_30 rfl (lv_at hl 1 rfl) ?_
        obtain ⟨v3, ev3, h⟩ := ob h
        refine r_ci hS (r_runV (As := [.int a1]) (rest := []) X hS (c_X4_digsToRemove l hE (w := w) (ad := ad) (μ := μ) (D := D) (cI := cI) (cG := cG) (cL := cL) hw ev3) (cwV 1 X.1.2.2.2.2 gX4_removeFault_X4_digsToRemove rfl rfl rfl (by decide +kernel) ⟨Nat.le_of_ble_eq_true rfl, Nat.le_of_ble_eq_true rfl⟩) (q0 := q) (ci := 2) rfl (hw.1 μ).1 rfl hl.1 rfl (Nat.le_of_ble_eq_true rfl) dX4_removeFault_31 ⟨Nat.zero_le _, Nat.zero_le _⟩) (fun H locs hS => ?_)
        refine lv_aload_n hx hb dX4_removeFault_34 rfl (lv_at hl 0 rfl) ?_
        obtain ⟨v4, ev4, h⟩ := ob h
        refine r_ci hS (r_runV (As := []) (rest := [.int v3]) X hS (c_X4_bedsToDig l hE (w := w) (ad := ad) (μ := μ) (D := D) (cI := cI) (cG := cG) (cL := cL) hw ev4) (cwV 0 X.1.2.2.2.2 gX4_removeFault_X4_bedsToDig rfl rfl rfl (by decide +kernel) ⟨Nat.le_of_ble_eq_true rfl, Nat.le_of_ble_eq_true rfl⟩) (q0 := q) (ci := 2) rfl (hw.1 μ).1 rfl hl.1 rfl (Nat.le_of_ble_eq_true rfl) dX4_removeFault_35 ⟨Nat.zero_le _, Nat.zero_le _⟩) (fun H locs hS => ?_)
        refine lv_icmp_gt (tgt := 45) hx hb dX4_removeFault_38 (by decide) (fun cc => ?_) (fun cc => ?_)
        · replace h := it h cc
          exact hb45  _ _ _ hS (lv_sub hl [] rfl) h
        · replace h := ie h cc
          refine lv_iconst (v := 0) hx hb dX4_removeFault_41 (by decide) ?_
          refine lv_goto (tgt := 46) hx hb dX4_removeFault_42 (by decide) ?_
          exact hb46 0 _ _ _ hS (lv_sub hl [] rfl) h
  · replace h := it h cc
    refine lv_iconst (v := 2) hx hb dX4_removeFault_9 (by decide) ?_
    cases h
    exact r_iret X hS hr hlk dX4_removeFault_10
def f_X4_commitFault_b22 (q : Nat) (s0 : Int32) (μ : Mem) : Option Int32 := (some s0)
def f_X4_commitFault (q : Nat) (a1 : Int32) (μ : Mem) : Option Int32 := (f_X6_isBelow a1 4).bind (fun v1 => (if v1 = 0 then (some 2) else (if (μ q 6) = 0 then f_X4_commitFault_b22 q 3 μ else f_X4_commitFault_b22 q 0 μ)))
set_option maxHeartbeats 4000000 in
set_option maxRecDepth 100000 in
theorem c_X4_commitFault (l : Launch) {D : va_G} {cI cG cL : ClassId} {A : Nat → Prop} {EN : State → Heap → Prop} (hE : EnOK EN A) {w : Mem → va_W} {ad : Nat → Nat} {q : Nat} {a1 : Int32} {μ : Mem} {r : Int32} (hw : GardenAt cI w ad q) (h : f_X4_commitFault q a1 μ = some r) : Met l yX4_commitFault wsX4_commitFault (rmk 1 21) (WPre D (tyl cI cG cL) A EN (w μ) [.ref (ad q), .int a1]) (PI D A (w μ) r) 0 0 A := by
  have hiX4 : ∀ w ∈ u_ws RX4 TX4 10, w ∈ wsX4_commitFault := by decide +kernel
  have miX6 : Cond.initialized RX6 ∈ wsX4_commitFault := by decide +kernel
  have ms90 : Cond.static yX6_isBelow ∈ wsX4_commitFault := by decide +kernel
  have mf34 : Cond.fieldLink RX4 34 (TX4 6).1 (TX4 6).2.1 (TX4 6).2.2.1 ∈ wsX4_commitFault := by decide +kernel
  refine met_start (cc := cX4_commitFault) (nL := 2) (ret := (some .int)) (own := RX4) hE (by decide) rfl rfl (Nat.le_of_ble_eq_true rfl) (fun p e s m args below meth c ls X hS hl hr hlk => ?_)
  have hx := X.1.1
  have hb := X.1.2.1
  replace hl : lv_has ls 2 [(0, .ref (ad q)), (1, .int a1)] := hl
  have hb22 : ∀ (s0 : Int32) (H : Heap) (locs : List Loc) (ls : Array Slot), HS D A (w μ) s.heap H locs → lv_has ls 2 [] → f_X4_commitFault_b22 q s0 μ = some r → W p l e (headSpec wsX4_commitFault (rmk 1 21)).room s m args below meth c H locs 0 0 (MQ below (PI D A (w μ) r) args s 0 0 A) (F0 m 22 ls [.int s0]) := by
    intro s0 H locs ls hS hl h
    unfold f_X4_commitFault_b22 at h
    cases h
    exact r_iret X hS hr hlk dX4_commitFault_22
  unfold f_X4_commitFault at h
  refine lv_iload_n hx hb dX4_commitFault_0 rfl (lv_at hl 1 rfl) ?_
  refine lv_iconst (v := 4) hx hb dX4_commitFault_1 (by decide) ?_
  obtain ⟨v1, ev1, h⟩ := ob h
  refine r_ci hS (r_runSN (As := [.int a1, .int 4]) (rest := []) (host := RX6) X hS (c_X6_isBelow l hE (w := w) (ad := ad) (μ := μ) (D := D) (cI := cI) (cG := cG) (cL := cL) ev1) (va_cnB 2 X.1.2.2.2.2 gX4_commitFault_X6_isBelow_n90 rfl rfl rfl (X.nest 6 rfl) (X.1.2.2.2.2 _ miX6) (by decide +kernel) ⟨Nat.le_of_ble_eq_true rfl, Nat.le_of_ble_eq_true rfl⟩) (X.1.2.2.2.2 _ ms90) rfl hl.1 rfl (Nat.le_of_ble_eq_true rfl) dX4_commitFault_2 ⟨Nat.zero_le _, Nat.zero_le _⟩) (fun H locs hS => ?_)
  refine lv_if_ne (tgt := 10) hx hb dX4_commitFault_5 (by decide) (fun cc => ?_) (fun cc => ?_)
  · replace h := ie h cc
    refine lv_aload_n hx hb dX4_commitFault_10 rfl (lv_at hl 0 rfl) ?_
    refine r_get X hS (T := TX4) (k := 6) (hw.1 μ).1 rfl hiX4 (by decide) mf34 rfl dX4_commitFault_11 ?_
    refine lv_if_eq (tgt := 21) hx hb dX4_commitFault_14 (by decide) (fun cc => ?_) (fun cc => ?_)
    · replace h := it h cc
      refine lv_iconst (v := 3) hx hb dX4_commitFault_21 (by decide) ?_
      exact hb22 3 _ _ _ hS (lv_sub hl [] rfl) h
    · replace h := ie h cc
      refine lv_iconst (v := 0) hx hb dX4_commitFault_17 (by decide) ?_
      refine lv_goto (tgt := 22) hx hb dX4_commitFault_18 (by decide) ?_
      exact hb22 0 _ _ _ hS (lv_sub hl [] rfl) h
  · replace h := it h cc
    refine lv_iconst (v := 2) hx hb dX4_commitFault_8 (by decide) ?_
    cases h
    exact r_iret X hS hr hlk dX4_commitFault_9
def f_X4_abortFault_b12 (q : Nat) (s0 : Int32) (μ : Mem) : Option Int32 := (some s0)
def f_X4_abortFault (q : Nat) (μ : Mem) : Option Int32 := (if (μ q 6) = 0 then f_X4_abortFault_b12 q 3 μ else f_X4_abortFault_b12 q 0 μ)
set_option maxHeartbeats 4000000 in
set_option maxRecDepth 100000 in
theorem c_X4_abortFault (l : Launch) {D : va_G} {cI cG cL : ClassId} {A : Nat → Prop} {EN : State → Heap → Prop} (hE : EnOK EN A) {w : Mem → va_W} {ad : Nat → Nat} {q : Nat} {μ : Mem} {r : Int32} (hw : GardenAt cI w ad q) (h : f_X4_abortFault q μ = some r) : Met l yX4_abortFault wsX4_abortFault (rmk 0 0) (WPre D (tyl cI cG cL) A EN (w μ) [.ref (ad q)]) (PI D A (w μ) r) 0 0 A := by
  have hiX4 : ∀ w ∈ u_ws RX4 TX4 10, w ∈ wsX4_abortFault := by decide +kernel
  have mf34 : Cond.fieldLink RX4 34 (TX4 6).1 (TX4 6).2.1 (TX4 6).2.2.1 ∈ wsX4_abortFault := by decide +kernel
  refine met_start (cc := cX4_abortFault) (nL := 1) (ret := (some .int)) (own := RX4) hE (by decide) rfl rfl (Nat.le_of_ble_eq_true rfl) (fun p e s m args below meth c ls X hS hl hr hlk => ?_)
  have hx := X.1.1
  have hb := X.1.2.1
  replace hl : lv_has ls 1 [(0, .ref (ad q))] := hl
  have hb12 : ∀ (s0 : Int32) (H : Heap) (locs : List Loc) (ls : Array Slot), HS D A (w μ) s.heap H locs → lv_has ls 1 [] → f_X4_abortFault_b12 q s0 μ = some r → W p l e (headSpec wsX4_abortFault (rmk 0 0)).room s m args below meth c H locs 0 0 (MQ below (PI D A (w μ) r) args s 0 0 A) (F0 m 12 ls [.int s0]) := by
    intro s0 H locs ls hS hl h
    unfold f_X4_abortFault_b12 at h
    cases h
    exact r_iret X hS hr hlk dX4_abortFault_12
  unfold f_X4_abortFault at h
  refine lv_aload_n hx hb dX4_abortFault_0 rfl (lv_at hl 0 rfl) ?_
  refine r_get X hS (T := TX4) (k := 6) (hw.1 μ).1 rfl hiX4 (by decide) mf34 rfl dX4_abortFault_1 ?_
  refine lv_if_eq (tgt := 11) hx hb dX4_abortFault_4 (by decide) (fun cc => ?_) (fun cc => ?_)
  · replace h := it h cc
    refine lv_iconst (v := 3) hx hb dX4_abortFault_11 (by decide) ?_
    exact hb12 3 _ _ _ hS (lv_sub hl [] rfl) h
  · replace h := ie h cc
    refine lv_iconst (v := 0) hx hb dX4_abortFault_7 (by decide) ?_
    refine lv_goto (tgt := 12) hx hb dX4_abortFault_8 (by decide) ?_
    exact hb12 0 _ _ _ hS (lv_sub hl [] rfl) h
def f_X4_isOpen_b19 (q : Nat) (s0 : Int32) (μ : Mem) : Option Int32 := (zr s0).bind (fun v2 => (some v2))
def f_X4_isOpen (q : Nat) (a1 : Int32) (μ : Mem) : Option Int32 := (f_X6_cell (q + 14) 4 a1 μ).bind (fun v1 => (if v1 = (-1000) then f_X4_isOpen_b19 q 0 μ else f_X4_isOpen_b19 q 1 μ))
set_option maxHeartbeats 4000000 in
set_option maxRecDepth 100000 in
theorem c_X4_isOpen (l : Launch) {D : va_G} {cI cG cL : ClassId} {A : Nat → Prop} {EN : State → Heap → Prop} (hE : EnOK EN A) {w : Mem → va_W} {ad : Nat → Nat} {q : Nat} {a1 : Int32} {μ : Mem} {r : Int32} (hw : GardenAt cI w ad q) (h : f_X4_isOpen q a1 μ = some r) : Met l yX4_isOpen wsX4_isOpen (rmk 1 21) (WPre D (tyl cI cG cL) A EN (w μ) [.ref (ad q), .int a1]) (PI D A (w μ) r) 0 0 A := by
  have hiX4 : ∀ w ∈ u_ws RX4 TX4 10, w ∈ wsX4_isOpen := by decide +kernel
  have mf28 : Cond.fieldLink RX4 28 (TX4 4).1 (TX4 4).2.1 (TX4 4).2.2.1 ∈ wsX4_isOpen := by decide +kernel
  have miX6 : Cond.initialized RX6 ∈ wsX4_isOpen := by decide +kernel
  have ms75 : Cond.static yX6_cell ∈ wsX4_isOpen := by decide +kernel
  refine met_start (cc := cX4_isOpen) (nL := 2) (ret := (some .boolean)) (own := RX4) hE (by decide) rfl rfl (Nat.le_of_ble_eq_true rfl) (fun p e s m args below meth c ls X hS hl hr hlk => ?_)
  have hx := X.1.1
  have hb := X.1.2.1
  replace hl : lv_has ls 2 [(0, .ref (ad q)), (1, .int a1)] := hl
  have hb19 : ∀ (s0 : Int32) (H : Heap) (locs : List Loc) (ls : Array Slot), HS D A (w μ) s.heap H locs → lv_has ls 2 [] → f_X4_isOpen_b19 q s0 μ = some r → W p l e (headSpec wsX4_isOpen (rmk 1 21)).room s m args below meth c H locs 0 0 (MQ below (PI D A (w μ) r) args s 0 0 A) (F0 m 19 ls [.int s0]) := by
    intro s0 H locs ls hS hl h
    unfold f_X4_isOpen_b19 at h
    obtain ⟨v2, ev2, h⟩ := ob h
    obtain ⟨ezv2, eov2⟩ := zr_ok ev2
    rw [ezv2]
    cases h
    exact r_zret X hS hr hlk eov2 dX4_isOpen_19
  unfold f_X4_isOpen at h
  refine lv_aload_n hx hb dX4_isOpen_0 rfl (lv_at hl 0 rfl) ?_
  refine r_get X hS (T := TX4) (k := 4) (hw.1 μ).1 rfl hiX4 (by decide) mf28 rfl dX4_isOpen_1 ?_
  refine lv_iload_n hx hb dX4_isOpen_4 rfl (lv_at hl 1 rfl) ?_
  obtain ⟨v1, ev1, h⟩ := ob h
  refine r_ci hS (r_runSN (As := [.ref (ad (q + 14)), .int a1]) (rest := []) (host := RX6) X hS (c_X6_cell l hE (w := w) (ad := ad) (μ := μ) (D := D) (cI := cI) (cG := cG) (cL := cL) hw.2.2.2.2.2.1 ev1) (va_cnB 2 X.1.2.2.2.2 gX4_isOpen_X6_cell_n75 rfl rfl rfl (X.nest 9 rfl) (X.1.2.2.2.2 _ miX6) (by decide +kernel) ⟨Nat.le_of_ble_eq_true rfl, Nat.le_of_ble_eq_true rfl⟩) (X.1.2.2.2.2 _ ms75) rfl hl.1 rfl (Nat.le_of_ble_eq_true rfl) dX4_isOpen_5 ⟨Nat.zero_le _, Nat.zero_le _⟩) (fun H locs hS => ?_)
  refine lv_sipush (v := (-1000)) hx hb dX4_isOpen_8 (by decide) ?_
  refine lv_icmp_eq (tgt := 18) hx hb dX4_isOpen_11 (by decide) (fun cc => ?_) (fun cc => ?_)
  · replace h := it h cc
    refine lv_iconst (v := 0) hx hb dX4_isOpen_18 (by decide) ?_
    exact hb19 0 _ _ _ hS (lv_sub hl [] rfl) h
  · replace h := ie h cc
    refine lv_iconst (v := 1) hx hb dX4_isOpen_14 (by decide) ?_
    refine lv_goto (tgt := 19) hx hb dX4_isOpen_15 (by decide) ?_
    exact hb19 1 _ _ _ hS (lv_sub hl [] rfl) h
def f_X4_lowestClosedReader_b2 (q : Nat)  : Nat → Int32 → Mem → Option Int32
  | 0, _, _ => none
  | fuel2 + 1, x1, μ => (if 4 ≤ x1 then (some (-1000)) else (f_X4_isOpen q x1 μ).bind (fun v1 => (if v1 = 0 then (some x1) else f_X4_lowestClosedReader_b2 q fuel2 (x1 + 1) μ)))
def f_X4_lowestClosedReader (q : Nat) (μ : Mem) : Option Int32 := f_X4_lowestClosedReader_b2 q FU 0 μ
set_option maxHeartbeats 4000000 in
set_option maxRecDepth 100000 in
theorem c_X4_lowestClosedReader (l : Launch) {D : va_G} {cI cG cL : ClassId} {A : Nat → Prop} {EN : State → Heap → Prop} (hE : EnOK EN A) {w : Mem → va_W} {ad : Nat → Nat} {q : Nat} {μ : Mem} {r : Int32} (hw : GardenAt cI w ad q) (h : f_X4_lowestClosedReader q μ = some r) : Met l yX4_lowestClosedReader wsX4_lowestClosedReader (rmk 2 42) (WPre D (tyl cI cG cL) A EN (w μ) [.ref (ad q)]) (PI D A (w μ) r) 0 0 A := by
  refine met_start (cc := cX4_lowestClosedReader) (nL := 2) (ret := (some .int)) (own := RX4) hE (by decide) rfl rfl (Nat.le_of_ble_eq_true rfl) (fun p e s m args below meth c ls X hS hl hr hlk => ?_)
  have hx := X.1.1
  have hb := X.1.2.1
  replace hl : lv_has ls 2 [(0, .ref (ad q))] := hl
  have hb2 : ∀ (fu : Nat) (x1 : Int32) (H : Heap) (locs : List Loc) (ls : Array Slot), HS D A (w μ) s.heap H locs → lv_has ls 2 [(0, .ref (ad q)), (1, .int x1)] → f_X4_lowestClosedReader_b2 q fu x1 μ = some r → W p l e (headSpec wsX4_lowestClosedReader (rmk 2 42)).room s m args below meth c H locs 0 0 (MQ below (PI D A (w μ) r) args s 0 0 A) (F0 m 2 ls []) := by
    intro fu
    induction fu with
    | zero =>
      intro x1 H locs ls hS hl h
      rw [f_X4_lowestClosedReader_b2] at h
      cases h
    | succ fuel2 ih2 =>
      intro x1 H locs ls hS hl h
      rw [f_X4_lowestClosedReader_b2] at h
      refine lv_iload_n hx hb dX4_lowestClosedReader_2 rfl (lv_at hl 1 rfl) ?_
      refine lv_iconst (v := 4) hx hb dX4_lowestClosedReader_3 (by decide) ?_
      refine lv_icmp_ge (tgt := 23) hx hb dX4_lowestClosedReader_4 (by decide) (fun cc => ?_) (fun cc => ?_)
      · replace h := it h cc
        refine lv_sipush (v := (-1000)) hx hb dX4_lowestClosedReader_23 (by decide) ?_
        cases h
        exact r_iret X hS hr hlk dX4_lowestClosedReader_26
      · replace h := ie h cc
        refine lv_aload_n hx hb dX4_lowestClosedReader_7 rfl (lv_at hl 0 rfl) ?_
        refine lv_iload_n hx hb dX4_lowestClosedReader_8 rfl (lv_at hl 1 rfl) ?_
        obtain ⟨v1, ev1, h⟩ := ob h
        refine r_ci hS (r_runV (As := [.int x1]) (rest := []) X hS (c_X4_isOpen l hE (w := w) (ad := ad) (μ := μ) (D := D) (cI := cI) (cG := cG) (cL := cL) hw ev1) (cwV 1 X.1.2.2.2.2 gX4_lowestClosedReader_X4_isOpen rfl rfl rfl (by decide +kernel) ⟨Nat.le_of_ble_eq_true rfl, Nat.le_of_ble_eq_true rfl⟩) (q0 := q) (ci := 2) rfl (hw.1 μ).1 rfl hl.1 rfl (Nat.le_of_ble_eq_true rfl) dX4_lowestClosedReader_9 ⟨Nat.zero_le _, Nat.zero_le _⟩) (fun H locs hS => ?_)
        refine lv_if_ne (tgt := 17) hx hb dX4_lowestClosedReader_12 (by decide) (fun cc => ?_) (fun cc => ?_)
        · replace h := ie h cc
          refine lv_iinc (v := x1 + 1) (lv' := [(1, .int (x1 + 1)), (0, .ref (ad q))]) hx hb dX4_lowestClosedReader_17 hl (k := 1) rfl rfl (by decide) rfl (fun ls hl => ?_)
          refine lv_goto (tgt := 2) hx hb dX4_lowestClosedReader_20 (by decide) ?_
          exact ih2 (x1 + 1) _ _ _ hS (lv_sub hl [1, 0] rfl) h
        · replace h := it h cc
          refine lv_iload_n hx hb dX4_lowestClosedReader_15 rfl (lv_at hl 1 rfl) ?_
          cases h
          exact r_iret X hS hr hlk dX4_lowestClosedReader_16
  unfold f_X4_lowestClosedReader at h
  refine lv_iconst (v := 0) hx hb dX4_lowestClosedReader_0 (by decide) ?_
  refine lv_istore_n (lv' := [(1, .int 0), (0, .ref (ad q))]) hx hb dX4_lowestClosedReader_1 rfl hl (by decide) rfl (fun ls hl => ?_)
  exact hb2 FU 0 _ _ _ hS (lv_sub hl [1, 0] rfl) h
def f_X4_openFault_b15 (q : Nat) (s0 : Int32) (μ : Mem) : Option Int32 := (some s0)
def f_X4_openFault (q : Nat) (μ : Mem) : Option Int32 := (f_X4_lowestClosedReader q μ).bind (fun v1 => (if v1 = (-1000) then f_X4_openFault_b15 q 3 μ else f_X4_openFault_b15 q 0 μ))
set_option maxHeartbeats 4000000 in
set_option maxRecDepth 100000 in
theorem c_X4_openFault (l : Launch) {D : va_G} {cI cG cL : ClassId} {A : Nat → Prop} {EN : State → Heap → Prop} (hE : EnOK EN A) {w : Mem → va_W} {ad : Nat → Nat} {q : Nat} {μ : Mem} {r : Int32} (hw : GardenAt cI w ad q) (h : f_X4_openFault q μ = some r) : Met l yX4_openFault wsX4_openFault (rmk 3 63) (WPre D (tyl cI cG cL) A EN (w μ) [.ref (ad q)]) (PI D A (w μ) r) 0 0 A := by
  refine met_start (cc := cX4_openFault) (nL := 1) (ret := (some .int)) (own := RX4) hE (by decide) rfl rfl (Nat.le_of_ble_eq_true rfl) (fun p e s m args below meth c ls X hS hl hr hlk => ?_)
  have hx := X.1.1
  have hb := X.1.2.1
  replace hl : lv_has ls 1 [(0, .ref (ad q))] := hl
  have hb15 : ∀ (s0 : Int32) (H : Heap) (locs : List Loc) (ls : Array Slot), HS D A (w μ) s.heap H locs → lv_has ls 1 [] → f_X4_openFault_b15 q s0 μ = some r → W p l e (headSpec wsX4_openFault (rmk 3 63)).room s m args below meth c H locs 0 0 (MQ below (PI D A (w μ) r) args s 0 0 A) (F0 m 15 ls [.int s0]) := by
    intro s0 H locs ls hS hl h
    unfold f_X4_openFault_b15 at h
    cases h
    exact r_iret X hS hr hlk dX4_openFault_15
  unfold f_X4_openFault at h
  refine lv_aload_n hx hb dX4_openFault_0 rfl (lv_at hl 0 rfl) ?_
  obtain ⟨v1, ev1, h⟩ := ob h
  refine r_ci hS (r_runV (As := []) (rest := []) X hS (c_X4_lowestClosedReader l hE (w := w) (ad := ad) (μ := μ) (D := D) (cI := cI) (cG := cG) (cL := cL) hw ev1) (cwV 0 X.1.2.2.2.2 gX4_openFault_X4_lowestClosedReader rfl rfl rfl (by decide +kernel) ⟨Nat.le_of_ble_eq_true rfl, Nat.le_of_ble_eq_true rfl⟩) (q0 := q) (ci := 2) rfl (hw.1 μ).1 rfl hl.1 rfl (Nat.le_of_ble_eq_true rfl) dX4_openFault_1 ⟨Nat.zero_le _, Nat.zero_le _⟩) (fun H locs hS => ?_)
  refine lv_sipush (v := (-1000)) hx hb dX4_openFault_4 (by decide) ?_
  refine lv_icmp_ne (tgt := 14) hx hb dX4_openFault_7 (by decide) (fun cc => ?_) (fun cc => ?_)
  · replace h := ie h cc
    refine lv_iconst (v := 0) hx hb dX4_openFault_14 (by decide) ?_
    exact hb15 0 _ _ _ hS (lv_sub hl [] rfl) h
  · replace h := it h cc
    refine lv_iconst (v := 3) hx hb dX4_openFault_10 (by decide) ?_
    refine lv_goto (tgt := 15) hx hb dX4_openFault_11 (by decide) ?_
    exact hb15 3 _ _ _ hS (lv_sub hl [] rfl) h
def f_X4_openReaderFault_b23 (q : Nat) (s0 : Int32) (μ : Mem) : Option Int32 := (some s0)
def f_X4_openReaderFault (q : Nat) (a1 : Int32) (μ : Mem) : Option Int32 := (f_X6_isBelow a1 4).bind (fun v1 => (if v1 = 0 then (some 1) else (f_X4_isOpen q a1 μ).bind (fun v2 => (if v2 = 0 then f_X4_openReaderFault_b23 q 3 μ else f_X4_openReaderFault_b23 q 0 μ))))
set_option maxHeartbeats 4000000 in
set_option maxRecDepth 100000 in
theorem c_X4_openReaderFault (l : Launch) {D : va_G} {cI cG cL : ClassId} {A : Nat → Prop} {EN : State → Heap → Prop} (hE : EnOK EN A) {w : Mem → va_W} {ad : Nat → Nat} {q : Nat} {a1 : Int32} {μ : Mem} {r : Int32} (hw : GardenAt cI w ad q) (h : f_X4_openReaderFault q a1 μ = some r) : Met l yX4_openReaderFault wsX4_openReaderFault (rmk 2 42) (WPre D (tyl cI cG cL) A EN (w μ) [.ref (ad q), .int a1]) (PI D A (w μ) r) 0 0 A := by
  have miX6 : Cond.initialized RX6 ∈ wsX4_openReaderFault := by decide +kernel
  have ms90 : Cond.static yX6_isBelow ∈ wsX4_openReaderFault := by decide +kernel
  refine met_start (cc := cX4_openReaderFault) (nL := 2) (ret := (some .int)) (own := RX4) hE (by decide) rfl rfl (Nat.le_of_ble_eq_true rfl) (fun p e s m args below meth c ls X hS hl hr hlk => ?_)
  have hx := X.1.1
  have hb := X.1.2.1
  replace hl : lv_has ls 2 [(0, .ref (ad q)), (1, .int a1)] := hl
  have hb23 : ∀ (s0 : Int32) (H : Heap) (locs : List Loc) (ls : Array Slot), HS D A (w μ) s.heap H locs → lv_has ls 2 [] → f_X4_openReaderFault_b23 q s0 μ = some r → W p l e (headSpec wsX4_openReaderFault (rmk 2 42)).room s m args below meth c H locs 0 0 (MQ below (PI D A (w μ) r) args s 0 0 A) (F0 m 23 ls [.int s0]) := by
    intro s0 H locs ls hS hl h
    unfold f_X4_openReaderFault_b23 at h
    cases h
    exact r_iret X hS hr hlk dX4_openReaderFault_23
  unfold f_X4_openReaderFault at h
  refine lv_iload_n hx hb dX4_openReaderFault_0 rfl (lv_at hl 1 rfl) ?_
  refine lv_iconst (v := 4) hx hb dX4_openReaderFault_1 (by decide) ?_
  obtain ⟨v1, ev1, h⟩ := ob h
  refine r_ci hS (r_runSN (As := [.int a1, .int 4]) (rest := []) (host := RX6) X hS (c_X6_isBelow l hE (w := w) (ad := ad) (μ := μ) (D := D) (cI := cI) (cG := cG) (cL := cL) ev1) (va_cnB 2 X.1.2.2.2.2 gX4_openReaderFault_X6_isBelow_n90 rfl rfl rfl (X.nest 6 rfl) (X.1.2.2.2.2 _ miX6) (by decide +kernel) ⟨Nat.le_of_ble_eq_true rfl, Nat.le_of_ble_eq_true rfl⟩) (X.1.2.2.2.2 _ ms90) rfl hl.1 rfl (Nat.le_of_ble_eq_true rfl) dX4_openReaderFault_2 ⟨Nat.zero_le _, Nat.zero_le _⟩) (fun H locs hS => ?_)
  refine lv_if_ne (tgt := 10) hx hb dX4_openReaderFault_5 (by decide) (fun cc => ?_) (fun cc => ?_)
  · replace h := ie h cc
    refine lv_aload_n hx hb dX4_openReaderFault_10 rfl (lv_at hl 0 rfl) ?_
    refine lv_iload_n hx hb dX4_openReaderFault_11 rfl (lv_at hl 1 rfl) ?_
    obtain ⟨v2, ev2, h⟩ := ob h
    refine r_ci hS (r_runV (As := [.int a1]) (rest := []) X hS (c_X4_isOpen l hE (w := w) (ad := ad) (μ := μ) (D := D) (cI := cI) (cG := cG) (cL := cL) hw ev2) (cwV 1 X.1.2.2.2.2 gX4_openReaderFault_X4_isOpen rfl rfl rfl (by decide +kernel) ⟨Nat.le_of_ble_eq_true rfl, Nat.le_of_ble_eq_true rfl⟩) (q0 := q) (ci := 2) rfl (hw.1 μ).1 rfl hl.1 rfl (Nat.le_of_ble_eq_true rfl) dX4_openReaderFault_12 ⟨Nat.zero_le _, Nat.zero_le _⟩) (fun H locs hS => ?_)
    refine lv_if_eq (tgt := 22) hx hb dX4_openReaderFault_15 (by decide) (fun cc => ?_) (fun cc => ?_)
    · replace h := it h cc
      refine lv_iconst (v := 3) hx hb dX4_openReaderFault_22 (by decide) ?_
      exact hb23 3 _ _ _ hS (lv_sub hl [] rfl) h
    · replace h := ie h cc
      refine lv_iconst (v := 0) hx hb dX4_openReaderFault_18 (by decide) ?_
      refine lv_goto (tgt := 23) hx hb dX4_openReaderFault_19 (by decide) ?_
      exact hb23 0 _ _ _ hS (lv_sub hl [] rfl) h
  · replace h := it h cc
    refine lv_iconst (v := 1) hx hb dX4_openReaderFault_8 (by decide) ?_
    cases h
    exact r_iret X hS hr hlk dX4_openReaderFault_9
def f_X4_draftedFault_b23 (q : Nat) (s0 : Int32) (μ : Mem) : Option Int32 := (some s0)
def f_X4_draftedFault (q : Nat) (a1 : Int32) (μ : Mem) : Option Int32 := (f_X6_isBelow a1 100).bind (fun v1 => (if v1 = 0 then (some 2) else (if (μ q 6) = 0 then f_X4_draftedFault_b23 q 3 μ else f_X4_draftedFault_b23 q 0 μ)))
set_option maxHeartbeats 4000000 in
set_option maxRecDepth 100000 in
theorem c_X4_draftedFault (l : Launch) {D : va_G} {cI cG cL : ClassId} {A : Nat → Prop} {EN : State → Heap → Prop} (hE : EnOK EN A) {w : Mem → va_W} {ad : Nat → Nat} {q : Nat} {a1 : Int32} {μ : Mem} {r : Int32} (hw : GardenAt cI w ad q) (h : f_X4_draftedFault q a1 μ = some r) : Met l yX4_draftedFault wsX4_draftedFault (rmk 1 21) (WPre D (tyl cI cG cL) A EN (w μ) [.ref (ad q), .int a1]) (PI D A (w μ) r) 0 0 A := by
  have hiX4 : ∀ w ∈ u_ws RX4 TX4 10, w ∈ wsX4_draftedFault := by decide +kernel
  have miX6 : Cond.initialized RX6 ∈ wsX4_draftedFault := by decide +kernel
  have ms90 : Cond.static yX6_isBelow ∈ wsX4_draftedFault := by decide +kernel
  have mf34 : Cond.fieldLink RX4 34 (TX4 6).1 (TX4 6).2.1 (TX4 6).2.2.1 ∈ wsX4_draftedFault := by decide +kernel
  refine met_start (cc := cX4_draftedFault) (nL := 2) (ret := (some .int)) (own := RX4) hE (by decide) rfl rfl (Nat.le_of_ble_eq_true rfl) (fun p e s m args below meth c ls X hS hl hr hlk => ?_)
  have hx := X.1.1
  have hb := X.1.2.1
  replace hl : lv_has ls 2 [(0, .ref (ad q)), (1, .int a1)] := hl
  have hb23 : ∀ (s0 : Int32) (H : Heap) (locs : List Loc) (ls : Array Slot), HS D A (w μ) s.heap H locs → lv_has ls 2 [] → f_X4_draftedFault_b23 q s0 μ = some r → W p l e (headSpec wsX4_draftedFault (rmk 1 21)).room s m args below meth c H locs 0 0 (MQ below (PI D A (w μ) r) args s 0 0 A) (F0 m 23 ls [.int s0]) := by
    intro s0 H locs ls hS hl h
    unfold f_X4_draftedFault_b23 at h
    cases h
    exact r_iret X hS hr hlk dX4_draftedFault_23
  unfold f_X4_draftedFault at h
  refine lv_iload_n hx hb dX4_draftedFault_0 rfl (lv_at hl 1 rfl) ?_
  refine lv_bipush (v := 100) hx hb dX4_draftedFault_1 (by decide) ?_
  obtain ⟨v1, ev1, h⟩ := ob h
  refine r_ci hS (r_runSN (As := [.int a1, .int 100]) (rest := []) (host := RX6) X hS (c_X6_isBelow l hE (w := w) (ad := ad) (μ := μ) (D := D) (cI := cI) (cG := cG) (cL := cL) ev1) (va_cnB 2 X.1.2.2.2.2 gX4_draftedFault_X6_isBelow_n90 rfl rfl rfl (X.nest 6 rfl) (X.1.2.2.2.2 _ miX6) (by decide +kernel) ⟨Nat.le_of_ble_eq_true rfl, Nat.le_of_ble_eq_true rfl⟩) (X.1.2.2.2.2 _ ms90) rfl hl.1 rfl (Nat.le_of_ble_eq_true rfl) dX4_draftedFault_3 ⟨Nat.zero_le _, Nat.zero_le _⟩) (fun H locs hS => ?_)
  refine lv_if_ne (tgt := 11) hx hb dX4_draftedFault_6 (by decide) (fun cc => ?_) (fun cc => ?_)
  · replace h := ie h cc
    refine lv_aload_n hx hb dX4_draftedFault_11 rfl (lv_at hl 0 rfl) ?_
    refine r_get X hS (T := TX4) (k := 6) (hw.1 μ).1 rfl hiX4 (by decide) mf34 rfl dX4_draftedFault_12 ?_
    refine lv_if_eq (tgt := 22) hx hb dX4_draftedFault_15 (by decide) (fun cc => ?_) (fun cc => ?_)
    · replace h := it h cc
      refine lv_iconst (v := 3) hx hb dX4_draftedFault_22 (by decide) ?_
      exact hb23 3 _ _ _ hS (lv_sub hl [] rfl) h
    · replace h := ie h cc
      refine lv_iconst (v := 0) hx hb dX4_draftedFault_18 (by decide) ?_
      refine lv_goto (tgt := 23) hx hb dX4_draftedFault_19 (by decide) ?_
      exact hb23 0 _ _ _ hS (lv_sub hl [] rfl) h
  · replace h := it h cc
    refine lv_iconst (v := 2) hx hb dX4_draftedFault_9 (by decide) ?_
    cases h
    exact r_iret X hS hr hlk dX4_draftedFault_10
def f_X4_readFault_b34 (q : Nat) (s0 : Int32) (μ : Mem) : Option Int32 := (some s0)
def f_X4_readFault (q : Nat) (a1 : Int32) (a2 : Int32) (μ : Mem) : Option Int32 := (f_X6_isBelow a1 4).bind (fun v1 => (if v1 = 0 then (some 1) else (f_X6_isBelow a2 100).bind (fun v2 => (if v2 = 0 then (some 2) else (f_X4_isOpen q a1 μ).bind (fun v3 => (if v3 = 0 then f_X4_readFault_b34 q 3 μ else f_X4_readFault_b34 q 0 μ))))))
set_option maxHeartbeats 4000000 in
set_option maxRecDepth 100000 in
theorem c_X4_readFault (l : Launch) {D : va_G} {cI cG cL : ClassId} {A : Nat → Prop} {EN : State → Heap → Prop} (hE : EnOK EN A) {w : Mem → va_W} {ad : Nat → Nat} {q : Nat} {a1 : Int32} {a2 : Int32} {μ : Mem} {r : Int32} (hw : GardenAt cI w ad q) (h : f_X4_readFault q a1 a2 μ = some r) : Met l yX4_readFault wsX4_readFault (rmk 2 42) (WPre D (tyl cI cG cL) A EN (w μ) [.ref (ad q), .int a1, .int a2]) (PI D A (w μ) r) 0 0 A := by
  have miX6 : Cond.initialized RX6 ∈ wsX4_readFault := by decide +kernel
  have ms90 : Cond.static yX6_isBelow ∈ wsX4_readFault := by decide +kernel
  refine met_start (cc := cX4_readFault) (nL := 3) (ret := (some .int)) (own := RX4) hE (by decide) rfl rfl (Nat.le_of_ble_eq_true rfl) (fun p e s m args below meth c ls X hS hl hr hlk => ?_)
  have hx := X.1.1
  have hb := X.1.2.1
  replace hl : lv_has ls 3 [(0, .ref (ad q)), (1, .int a1), (2, .int a2)] := hl
  have hb34 : ∀ (s0 : Int32) (H : Heap) (locs : List Loc) (ls : Array Slot), HS D A (w μ) s.heap H locs → lv_has ls 3 [] → f_X4_readFault_b34 q s0 μ = some r → W p l e (headSpec wsX4_readFault (rmk 2 42)).room s m args below meth c H locs 0 0 (MQ below (PI D A (w μ) r) args s 0 0 A) (F0 m 34 ls [.int s0]) := by
    intro s0 H locs ls hS hl h
    unfold f_X4_readFault_b34 at h
    cases h
    exact r_iret X hS hr hlk dX4_readFault_34
  unfold f_X4_readFault at h
  refine lv_iload_n hx hb dX4_readFault_0 rfl (lv_at hl 1 rfl) ?_
  refine lv_iconst (v := 4) hx hb dX4_readFault_1 (by decide) ?_
  obtain ⟨v1, ev1, h⟩ := ob h
  refine r_ci hS (r_runSN (As := [.int a1, .int 4]) (rest := []) (host := RX6) X hS (c_X6_isBelow l hE (w := w) (ad := ad) (μ := μ) (D := D) (cI := cI) (cG := cG) (cL := cL) ev1) (va_cnB 2 X.1.2.2.2.2 gX4_readFault_X6_isBelow_n90 rfl rfl rfl (X.nest 6 rfl) (X.1.2.2.2.2 _ miX6) (by decide +kernel) ⟨Nat.le_of_ble_eq_true rfl, Nat.le_of_ble_eq_true rfl⟩) (X.1.2.2.2.2 _ ms90) rfl hl.1 rfl (Nat.le_of_ble_eq_true rfl) dX4_readFault_2 ⟨Nat.zero_le _, Nat.zero_le _⟩) (fun H locs hS => ?_)
  refine lv_if_ne (tgt := 10) hx hb dX4_readFault_5 (by decide) (fun cc => ?_) (fun cc => ?_)
  · replace h := ie h cc
    refine lv_iload_n hx hb dX4_readFault_10 rfl (lv_at hl 2 rfl) ?_
    refine lv_bipush (v := 100) hx hb dX4_readFault_11 (by decide) ?_
    obtain ⟨v2, ev2, h⟩ := ob h
    refine r_ci hS (r_runSN (As := [.int a2, .int 100]) (rest := []) (host := RX6) X hS (c_X6_isBelow l hE (w := w) (ad := ad) (μ := μ) (D := D) (cI := cI) (cG := cG) (cL := cL) ev2) (va_cnB 2 X.1.2.2.2.2 gX4_readFault_X6_isBelow_n90 rfl rfl rfl (X.nest 6 rfl) (X.1.2.2.2.2 _ miX6) (by decide +kernel) ⟨Nat.le_of_ble_eq_true rfl, Nat.le_of_ble_eq_true rfl⟩) (X.1.2.2.2.2 _ ms90) rfl hl.1 rfl (Nat.le_of_ble_eq_true rfl) dX4_readFault_13 ⟨Nat.zero_le _, Nat.zero_le _⟩) (fun H locs hS => ?_)
    refine lv_if_ne (tgt := 21) hx hb dX4_readFault_16 (by decide) (fun cc => ?_) (fun cc => ?_)
    · replace h := ie h cc
      refine lv_aload_n hx hb dX4_readFault_21 rfl (lv_at hl 0 rfl) ?_
      refine lv_iload_n hx hb dX4_readFault_22 rfl (lv_at hl 1 rfl) ?_
      obtain ⟨v3, ev3, h⟩ := ob h
      refine r_ci hS (r_runV (As := [.int a1]) (rest := []) X hS (c_X4_isOpen l hE (w := w) (ad := ad) (μ := μ) (D := D) (cI := cI) (cG := cG) (cL := cL) hw ev3) (cwV 1 X.1.2.2.2.2 gX4_readFault_X4_isOpen rfl rfl rfl (by decide +kernel) ⟨Nat.le_of_ble_eq_true rfl, Nat.le_of_ble_eq_true rfl⟩) (q0 := q) (ci := 2) rfl (hw.1 μ).1 rfl hl.1 rfl (Nat.le_of_ble_eq_true rfl) dX4_readFault_23 ⟨Nat.zero_le _, Nat.zero_le _⟩) (fun H locs hS => ?_)
      refine lv_if_eq (tgt := 33) hx hb dX4_readFault_26 (by decide) (fun cc => ?_) (fun cc => ?_)
      · replace h := it h cc
        refine lv_iconst (v := 3) hx hb dX4_readFault_33 (by decide) ?_
        exact hb34 3 _ _ _ hS (lv_sub hl [] rfl) h
      · replace h := ie h cc
        refine lv_iconst (v := 0) hx hb dX4_readFault_29 (by decide) ?_
        refine lv_goto (tgt := 34) hx hb dX4_readFault_30 (by decide) ?_
        exact hb34 0 _ _ _ hS (lv_sub hl [] rfl) h
    · replace h := it h cc
      refine lv_iconst (v := 2) hx hb dX4_readFault_19 (by decide) ?_
      cases h
      exact r_iret X hS hr hlk dX4_readFault_20
  · replace h := it h cc
    refine lv_iconst (v := 1) hx hb dX4_readFault_8 (by decide) ?_
    cases h
    exact r_iret X hS hr hlk dX4_readFault_9
def f_X4_beginDraft (q : Nat) (μ : Mem) : Option (Int32 × Mem) := (pf μ q 6 1).bind (fun μ1 => (f_X4_currentDirectory q μ1).bind (fun v2 => (pf μ1 q 7 v2).bind (fun μ3 => (f_X4_currentCount q μ3).bind (fun v4 => (some (v4, μ3))))))
set_option maxHeartbeats 4000000 in
set_option maxRecDepth 100000 in
theorem c_X4_beginDraft (l : Launch) {D : va_G} {cI cG cL : ClassId} {A : Nat → Prop} {EN : State → Heap → Prop} (hE : EnOK EN A) {w : Mem → va_W} {ad : Nat → Nat} {q : Nat} {μ : Mem} {r : Int32} {μ' : Mem} (hw : GardenAt cI w ad q) (h : f_X4_beginDraft q μ = some (r, μ')) : Met l yX4_beginDraft wsX4_beginDraft (rmk 2 43) (WPre D (tyl cI cG cL) A EN (w μ) [.ref (ad q)]) (PI D A (w μ') r) 0 0 A := by
  have hiX4 : ∀ w ∈ u_ws RX4 TX4 10, w ∈ wsX4_beginDraft := by decide +kernel
  have mf34 : Cond.fieldLink RX4 34 (TX4 6).1 (TX4 6).2.1 (TX4 6).2.2.1 ∈ wsX4_beginDraft := by decide +kernel
  have mf38 : Cond.fieldLink RX4 38 (TX4 7).1 (TX4 7).2.1 (TX4 7).2.2.1 ∈ wsX4_beginDraft := by decide +kernel
  refine met_start (cc := cX4_beginDraft) (nL := 1) (ret := (some .int)) (own := RX4) hE (by decide) rfl rfl (Nat.le_of_ble_eq_true rfl) (fun p e s m args below meth c ls X hS hl hr hlk => ?_)
  have hx := X.1.1
  have hb := X.1.2.1
  replace hl : lv_has ls 1 [(0, .ref (ad q))] := hl
  unfold f_X4_beginDraft at h
  refine lv_aload_n hx hb dX4_beginDraft_0 rfl (lv_at hl 0 rfl) ?_
  refine lv_iconst (v := 1) hx hb dX4_beginDraft_1 (by decide) ?_
  obtain ⟨μ1, eμ1, h⟩ := ob h
  refine r_putp (w := w) X hS (T := TX4) (k := 6) eμ1 hw.1 rfl hiX4 tyX4 tyX4_ok nmX4 (by decide) mf34 rfl rfl rfl (Nat.le_of_ble_eq_true rfl) rfl dX4_beginDraft_2 (fun H locs hS => ?_)
  refine lv_aload_n hx hb dX4_beginDraft_5 rfl (lv_at hl 0 rfl) ?_
  refine lv_aload_n hx hb dX4_beginDraft_6 rfl (lv_at hl 0 rfl) ?_
  obtain ⟨v2, ev2, h⟩ := ob h
  refine r_ci hS (r_runV (As := []) (rest := [.ref (ad q)]) X hS (c_X4_currentDirectory l hE (w := w) (ad := ad) (μ := μ1) (D := D) (cI := cI) (cG := cG) (cL := cL) hw ev2) (cwV 0 X.1.2.2.2.2 gX4_beginDraft_X4_currentDirectory rfl rfl rfl (by decide +kernel) ⟨Nat.le_of_ble_eq_true rfl, Nat.le_of_ble_eq_true rfl⟩) (q0 := q) (ci := 2) rfl (hw.1 μ1).1 rfl hl.1 rfl (Nat.le_of_ble_eq_true rfl) dX4_beginDraft_7 ⟨Nat.zero_le _, Nat.zero_le _⟩) (fun H locs hS => ?_)
  obtain ⟨μ3, eμ3, h⟩ := ob h
  refine r_putp (w := w) X hS (T := TX4) (k := 7) eμ3 hw.1 rfl hiX4 tyX4 tyX4_ok nmX4 (by decide) mf38 rfl rfl rfl (Nat.le_of_ble_eq_true rfl) rfl dX4_beginDraft_10 (fun H locs hS => ?_)
  refine lv_aload_n hx hb dX4_beginDraft_13 rfl (lv_at hl 0 rfl) ?_
  obtain ⟨v4, ev4, h⟩ := ob h
  refine r_ci hS (r_runV (As := []) (rest := []) X hS (c_X4_currentCount l hE (w := w) (ad := ad) (μ := μ3) (D := D) (cI := cI) (cG := cG) (cL := cL) hw ev4) (cwV 0 X.1.2.2.2.2 gX4_beginDraft_X4_currentCount rfl rfl rfl (by decide +kernel) ⟨Nat.le_of_ble_eq_true rfl, Nat.le_of_ble_eq_true rfl⟩) (q0 := q) (ci := 2) rfl (hw.1 μ3).1 rfl hl.1 rfl (Nat.le_of_ble_eq_true rfl) dX4_beginDraft_14 ⟨Nat.zero_le _, Nat.zero_le _⟩) (fun H locs hS => ?_)
  obtain ⟨rfl, rfl⟩ := pr2 h
  exact r_iret X hS hr hlk dX4_beginDraft_17
def f_X4_dig (q : Nat) (a1 : Int32) (μ : Mem) : Option (Int32 × Mem) := (f_X4_neededCountBut q (-1000) μ).bind (fun v1 => (f_X1_bedToDig (q + 1) v1 μ).bind (fun v2 => (f_X1_useFresh (q + 1) v2 a1 μ).bind (fun μ3 => (some (v2, μ3)))))
set_option maxHeartbeats 4000000 in
set_option maxRecDepth 100000 in
theorem c_X4_dig (l : Launch) {D : va_G} {cI cG cL : ClassId} {A : Nat → Prop} {EN : State → Heap → Prop} (hE : EnOK EN A) {w : Mem → va_W} {ad : Nat → Nat} {q : Nat} {a1 : Int32} {μ : Mem} {r : Int32} {μ' : Mem} (hw : GardenAt cI w ad q) (h : f_X4_dig q a1 μ = some (r, μ')) : Met l yX4_dig wsX4_dig (rmk 2 46) (WPre D (tyl cI cG cL) A EN (w μ) [.ref (ad q), .int a1]) (PI D A (w μ') r) 0 0 A := by
  have hiX4 : ∀ w ∈ u_ws RX4 TX4 10, w ∈ wsX4_dig := by decide +kernel
  have mf12 : Cond.fieldLink RX4 12 (TX4 0).1 (TX4 0).2.1 (TX4 0).2.2.1 ∈ wsX4_dig := by decide +kernel
  refine met_start (cc := cX4_dig) (nL := 3) (ret := (some .int)) (own := RX4) hE (by decide) rfl rfl (Nat.le_of_ble_eq_true rfl) (fun p e s m args below meth c ls X hS hl hr hlk => ?_)
  have hx := X.1.1
  have hb := X.1.2.1
  replace hl : lv_has ls 3 [(0, .ref (ad q)), (1, .int a1)] := hl
  unfold f_X4_dig at h
  refine lv_aload_n hx hb dX4_dig_0 rfl (lv_at hl 0 rfl) ?_
  refine r_get X hS (T := TX4) (k := 0) (hw.1 μ).1 rfl hiX4 (by decide) mf12 rfl dX4_dig_1 ?_
  refine lv_aload_n hx hb dX4_dig_4 rfl (lv_at hl 0 rfl) ?_
  refine lv_sipush (v := (-1000)) hx hb dX4_dig_5 (by decide) ?_
  obtain ⟨v1, ev1, h⟩ := ob h
  refine r_ci hS (r_runV (As := [.int (-1000)]) (rest := [.ref (ad (q + 1))]) X hS (c_X4_neededCountBut l hE (w := w) (ad := ad) (μ := μ) (D := D) (cI := cI) (cG := cG) (cL := cL) hw ev1) (cwV 1 X.1.2.2.2.2 gX4_dig_X4_neededCountBut rfl rfl rfl (by decide +kernel) ⟨Nat.le_of_ble_eq_true rfl, Nat.le_of_ble_eq_true rfl⟩) (q0 := q) (ci := 2) rfl (hw.1 μ).1 rfl hl.1 rfl (Nat.le_of_ble_eq_true rfl) dX4_dig_8 ⟨Nat.zero_le _, Nat.zero_le _⟩) (fun H locs hS => ?_)
  obtain ⟨v2, ev2, h⟩ := ob h
  refine r_ci hS (r_runV (As := [.int v1]) (rest := []) X hS (c_X1_bedToDig l hE (w := w) (ad := ad) (μ := μ) (D := D) (cI := cI) (cG := cG) (cL := cL) hw.2.1 ev2) (cwV 1 X.1.2.2.2.2 gX4_dig_X1_bedToDig rfl rfl rfl (by decide +kernel) ⟨Nat.le_of_ble_eq_true rfl, Nat.le_of_ble_eq_true rfl⟩) (q0 := (q + 1)) (ci := 0) rfl (hw.2.1.1 μ).1 rfl hl.1 rfl (Nat.le_of_ble_eq_true rfl) dX4_dig_11 ⟨Nat.zero_le _, Nat.zero_le _⟩) (fun H locs hS => ?_)
  refine lv_istore_n (lv' := [(2, .int v2), (0, .ref (ad q)), (1, .int a1)]) hx hb dX4_dig_14 rfl hl (by decide) rfl (fun ls hl => ?_)
  refine lv_aload_n hx hb dX4_dig_15 rfl (lv_at hl 1 rfl) ?_
  refine r_get X hS (T := TX4) (k := 0) (hw.1 μ).1 rfl hiX4 (by decide) mf12 rfl dX4_dig_16 ?_
  refine lv_iload_n hx hb dX4_dig_19 rfl (lv_at hl 0 rfl) ?_
  refine lv_iload_n hx hb dX4_dig_20 rfl (lv_at hl 2 rfl) ?_
  obtain ⟨μ3, eμ3, h⟩ := ob h
  refine r_cv hS (r_runV (As := [.int v2, .int a1]) (rest := []) X hS (c_X1_useFresh l hE (w := w) (ad := ad) (μ := μ) (D := D) (cI := cI) (cG := cG) (cL := cL) hw.2.1 eμ3) (cwV 2 X.1.2.2.2.2 gX4_dig_X1_useFresh rfl rfl rfl (by decide +kernel) ⟨Nat.le_of_ble_eq_true rfl, Nat.le_of_ble_eq_true rfl⟩) (q0 := (q + 1)) (ci := 0) rfl (hw.2.1.1 μ).1 rfl hl.1 rfl (Nat.le_of_ble_eq_true rfl) dX4_dig_21 ⟨Nat.zero_le _, Nat.zero_le _⟩) (fun H locs hS => ?_)
  refine lv_iload_n hx hb dX4_dig_24 rfl (lv_at hl 0 rfl) ?_
  obtain ⟨rfl, rfl⟩ := pr2 h
  exact r_iret X hS hr hlk dX4_dig_25
def f_X4_ownDirectory_b48 (q : Nat)  (μ : Mem) : Option Mem := (some μ)
def f_X4_ownDirectory (q : Nat) (μ : Mem) : Option Mem := (f_X1_isFresh (q + 1) (μ q 7) μ).bind (fun v1 => (if v1 = 0 then bn2 (f_X4_dig q 1 μ) (fun v2 μ3 => (f_X1_copyDirectory (q + 1) (μ3 q 7) v2 μ3).bind (fun μ4 => (f_X1_leave (q + 1) (μ4 q 7) μ4).bind (fun μ5 => (pf μ5 q 7 v2).bind (fun μ6 => f_X4_ownDirectory_b48 q μ6)))) else f_X4_ownDirectory_b48 q μ))
set_option maxHeartbeats 4000000 in
set_option maxRecDepth 100000 in
theorem c_X4_ownDirectory (l : Launch) {D : va_G} {cI cG cL : ClassId} {A : Nat → Prop} {EN : State → Heap → Prop} (hE : EnOK EN A) {w : Mem → va_W} {ad : Nat → Nat} {q : Nat} {μ : Mem}  {μ' : Mem} (hw : GardenAt cI w ad q) (h : f_X4_ownDirectory q μ = some μ') : Met l yX4_ownDirectory wsX4_ownDirectory (rmk 3 68) (WPre D (tyl cI cG cL) A EN (w μ) [.ref (ad q)]) (PV D A (w μ')) 0 0 A := by
  have hiX4 : ∀ w ∈ u_ws RX4 TX4 10, w ∈ wsX4_ownDirectory := by decide +kernel
  have mf12 : Cond.fieldLink RX4 12 (TX4 0).1 (TX4 0).2.1 (TX4 0).2.2.1 ∈ wsX4_ownDirectory := by decide +kernel
  have mf38 : Cond.fieldLink RX4 38 (TX4 7).1 (TX4 7).2.1 (TX4 7).2.2.1 ∈ wsX4_ownDirectory := by decide +kernel
  refine met_start (cc := cX4_ownDirectory) (nL := 2) (ret := none) (own := RX4) hE (by decide) rfl rfl (Nat.le_of_ble_eq_true rfl) (fun p e s m args below meth c ls X hS hl hr hlk => ?_)
  have hx := X.1.1
  have hb := X.1.2.1
  replace hl : lv_has ls 2 [(0, .ref (ad q))] := hl
  have hb48 : ∀  (μ : Mem) (H : Heap) (locs : List Loc) (ls : Array Slot), HS D A (w μ) s.heap H locs → lv_has ls 2 [] → f_X4_ownDirectory_b48 q μ = some μ' → W p l e (headSpec wsX4_ownDirectory (rmk 3 68)).room s m args below meth c H locs 0 0 (MQ below (PV D A (w μ')) args s 0 0 A) (F0 m 48 ls []) := by
    intro μ H locs ls hS hl h
    unfold f_X4_ownDirectory_b48 at h
    cases h
    exact r_vret X hS hr hlk dX4_ownDirectory_48
  unfold f_X4_ownDirectory at h
  refine lv_aload_n hx hb dX4_ownDirectory_0 rfl (lv_at hl 0 rfl) ?_
  refine r_get X hS (T := TX4) (k := 0) (hw.1 μ).1 rfl hiX4 (by decide) mf12 rfl dX4_ownDirectory_1 ?_
  refine lv_aload_n hx hb dX4_ownDirectory_4 rfl (lv_at hl 0 rfl) ?_
  refine r_get X hS (T := TX4) (k := 7) (hw.1 μ).1 rfl hiX4 (by decide) mf38 rfl dX4_ownDirectory_5 ?_
  obtain ⟨v1, ev1, h⟩ := ob h
  refine r_ci hS (r_runV (As := [.int (μ q 7)]) (rest := []) X hS (c_X1_isFresh l hE (w := w) (ad := ad) (μ := μ) (D := D) (cI := cI) (cG := cG) (cL := cL) hw.2.1 ev1) (cwV 1 X.1.2.2.2.2 gX4_ownDirectory_X1_isFresh rfl rfl rfl (by decide +kernel) ⟨Nat.le_of_ble_eq_true rfl, Nat.le_of_ble_eq_true rfl⟩) (q0 := (q + 1)) (ci := 0) rfl (hw.2.1.1 μ).1 rfl hl.1 rfl (Nat.le_of_ble_eq_true rfl) dX4_ownDirectory_8 ⟨Nat.zero_le _, Nat.zero_le _⟩) (fun H locs hS => ?_)
  refine lv_if_ne (tgt := 48) hx hb dX4_ownDirectory_11 (by decide) (fun cc => ?_) (fun cc => ?_)
  · replace h := ie h cc
    exact hb48 μ _ _ _ hS (lv_sub hl [] rfl) h
  · replace h := it h cc
    refine lv_aload_n hx hb dX4_ownDirectory_14 rfl (lv_at hl 0 rfl) ?_
    refine lv_iconst (v := 1) hx hb dX4_ownDirectory_15 (by decide) ?_
    obtain ⟨v2, μ3, ev2, h⟩ := ob2 h
    refine r_ci hS (r_runV (As := [.int 1]) (rest := []) X hS (c_X4_dig l hE (w := w) (ad := ad) (μ := μ) (D := D) (cI := cI) (cG := cG) (cL := cL) hw ev2) (cwV 1 X.1.2.2.2.2 gX4_ownDirectory_X4_dig rfl rfl rfl (by decide +kernel) ⟨Nat.le_of_ble_eq_true rfl, Nat.le_of_ble_eq_true rfl⟩) (q0 := q) (ci := 2) rfl (hw.1 μ).1 rfl hl.1 rfl (Nat.le_of_ble_eq_true rfl) dX4_ownDirectory_16 ⟨Nat.zero_le _, Nat.zero_le _⟩) (fun H locs hS => ?_)
    refine lv_istore_n (lv' := [(1, .int v2), (0, .ref (ad q))]) hx hb dX4_ownDirectory_19 rfl hl (by decide) rfl (fun ls hl => ?_)
    refine lv_aload_n hx hb dX4_ownDirectory_20 rfl (lv_at hl 1 rfl) ?_
    refine r_get X hS (T := TX4) (k := 0) (hw.1 μ3).1 rfl hiX4 (by decide) mf12 rfl dX4_ownDirectory_21 ?_
    refine lv_aload_n hx hb dX4_ownDirectory_24 rfl (lv_at hl 1 rfl) ?_
    refine r_get X hS (T := TX4) (k := 7) (hw.1 μ3).1 rfl hiX4 (by decide) mf38 rfl dX4_ownDirectory_25 ?_
    refine lv_iload_n hx hb dX4_ownDirectory_28 rfl (lv_at hl 0 rfl) ?_
    obtain ⟨μ4, eμ4, h⟩ := ob h
    refine r_cv hS (r_runV (As := [.int (μ3 q 7), .int v2]) (rest := []) X hS (c_X1_copyDirectory l hE (w := w) (ad := ad) (μ := μ3) (D := D) (cI := cI) (cG := cG) (cL := cL) hw.2.1 eμ4) (cwV 2 X.1.2.2.2.2 gX4_ownDirectory_X1_copyDirectory rfl rfl rfl (by decide +kernel) ⟨Nat.le_of_ble_eq_true rfl, Nat.le_of_ble_eq_true rfl⟩) (q0 := (q + 1)) (ci := 0) rfl (hw.2.1.1 μ3).1 rfl hl.1 rfl (Nat.le_of_ble_eq_true rfl) dX4_ownDirectory_29 ⟨Nat.zero_le _, Nat.zero_le _⟩) (fun H locs hS => ?_)
    refine lv_aload_n hx hb dX4_ownDirectory_32 rfl (lv_at hl 1 rfl) ?_
    refine r_get X hS (T := TX4) (k := 0) (hw.1 μ4).1 rfl hiX4 (by decide) mf12 rfl dX4_ownDirectory_33 ?_
    refine lv_aload_n hx hb dX4_ownDirectory_36 rfl (lv_at hl 1 rfl) ?_
    refine r_get X hS (T := TX4) (k := 7) (hw.1 μ4).1 rfl hiX4 (by decide) mf38 rfl dX4_ownDirectory_37 ?_
    obtain ⟨μ5, eμ5, h⟩ := ob h
    refine r_cv hS (r_runV (As := [.int (μ4 q 7)]) (rest := []) X hS (c_X1_leave l hE (w := w) (ad := ad) (μ := μ4) (D := D) (cI := cI) (cG := cG) (cL := cL) hw.2.1 eμ5) (cwV 1 X.1.2.2.2.2 gX4_ownDirectory_X1_leave rfl rfl rfl (by decide +kernel) ⟨Nat.le_of_ble_eq_true rfl, Nat.le_of_ble_eq_true rfl⟩) (q0 := (q + 1)) (ci := 0) rfl (hw.2.1.1 μ4).1 rfl hl.1 rfl (Nat.le_of_ble_eq_true rfl) dX4_ownDirectory_40 ⟨Nat.zero_le _, Nat.zero_le _⟩) (fun H locs hS => ?_)
    refine lv_aload_n hx hb dX4_ownDirectory_43 rfl (lv_at hl 1 rfl) ?_
    refine lv_iload_n hx hb dX4_ownDirectory_44 rfl (lv_at hl 0 rfl) ?_
    obtain ⟨μ6, eμ6, h⟩ := ob h
    refine r_putp (w := w) X hS (T := TX4) (k := 7) eμ6 hw.1 rfl hiX4 tyX4 tyX4_ok nmX4 (by decide) mf38 rfl rfl rfl (Nat.le_of_ble_eq_true rfl) rfl dX4_ownDirectory_45 (fun H locs hS => ?_)
    exact hb48 μ6 _ _ _ hS (lv_sub hl [] rfl) h
def f_X4_ownLeaf (q : Nat) (a1 : Int32) (μ : Mem) : Option (Int32 × Mem) := (f_X1_leafAt (q + 1) (μ q 7) a1 μ).bind (fun v1 => (f_X1_isFresh (q + 1) v1 μ).bind (fun v2 => (if v2 = 0 then bn2 (f_X4_dig q 0 μ) (fun v3 μ4 => (f_X1_copyLeaf (q + 1) v1 v3 μ4).bind (fun μ5 => (f_X1_leave (q + 1) v1 μ5).bind (fun μ6 => (f_X1_setLeaf (q + 1) (μ6 q 7) a1 v3 μ6).bind (fun μ7 => (some (v3, μ7)))))) else (some (v1, μ)))))
set_option maxHeartbeats 4000000 in
set_option maxRecDepth 100000 in
theorem c_X4_ownLeaf (l : Launch) {D : va_G} {cI cG cL : ClassId} {A : Nat → Prop} {EN : State → Heap → Prop} (hE : EnOK EN A) {w : Mem → va_W} {ad : Nat → Nat} {q : Nat} {a1 : Int32} {μ : Mem} {r : Int32} {μ' : Mem} (hw : GardenAt cI w ad q) (h : f_X4_ownLeaf q a1 μ = some (r, μ')) : Met l yX4_ownLeaf wsX4_ownLeaf (rmk 3 72) (WPre D (tyl cI cG cL) A EN (w μ) [.ref (ad q), .int a1]) (PI D A (w μ') r) 0 0 A := by
  have hiX4 : ∀ w ∈ u_ws RX4 TX4 10, w ∈ wsX4_ownLeaf := by decide +kernel
  have mf12 : Cond.fieldLink RX4 12 (TX4 0).1 (TX4 0).2.1 (TX4 0).2.2.1 ∈ wsX4_ownLeaf := by decide +kernel
  have mf38 : Cond.fieldLink RX4 38 (TX4 7).1 (TX4 7).2.1 (TX4 7).2.2.1 ∈ wsX4_ownLeaf := by decide +kernel
  refine met_start (cc := cX4_ownLeaf) (nL := 4) (ret := (some .int)) (own := RX4) hE (by decide) rfl rfl (Nat.le_of_ble_eq_true rfl) (fun p e s m args below meth c ls X hS hl hr hlk => ?_)
  have hx := X.1.1
  have hb := X.1.2.1
  replace hl : lv_has ls 4 [(0, .ref (ad q)), (1, .int a1)] := hl
  unfold f_X4_ownLeaf at h
  refine lv_aload_n hx hb dX4_ownLeaf_0 rfl (lv_at hl 0 rfl) ?_
  refine r_get X hS (T := TX4) (k := 0) (hw.1 μ).1 rfl hiX4 (by decide) mf12 rfl dX4_ownLeaf_1 ?_
  refine lv_aload_n hx hb dX4_ownLeaf_4 rfl (lv_at hl 0 rfl) ?_
  refine r_get X hS (T := TX4) (k := 7) (hw.1 μ).1 rfl hiX4 (by decide) mf38 rfl dX4_ownLeaf_5 ?_
  refine lv_iload_n hx hb dX4_ownLeaf_8 rfl (lv_at hl 1 rfl) ?_
  obtain ⟨v1, ev1, h⟩ := ob h
  refine r_ci hS (r_runV (As := [.int (μ q 7), .int a1]) (rest := []) X hS (c_X1_leafAt l hE (w := w) (ad := ad) (μ := μ) (D := D) (cI := cI) (cG := cG) (cL := cL) hw.2.1 ev1) (cwV 2 X.1.2.2.2.2 gX4_ownLeaf_X1_leafAt rfl rfl rfl (by decide +kernel) ⟨Nat.le_of_ble_eq_true rfl, Nat.le_of_ble_eq_true rfl⟩) (q0 := (q + 1)) (ci := 0) rfl (hw.2.1.1 μ).1 rfl hl.1 rfl (Nat.le_of_ble_eq_true rfl) dX4_ownLeaf_9 ⟨Nat.zero_le _, Nat.zero_le _⟩) (fun H locs hS => ?_)
  refine lv_istore_n (lv' := [(2, .int v1), (0, .ref (ad q)), (1, .int a1)]) hx hb dX4_ownLeaf_12 rfl hl (by decide) rfl (fun ls hl => ?_)
  refine lv_aload_n hx hb dX4_ownLeaf_13 rfl (lv_at hl 1 rfl) ?_
  refine r_get X hS (T := TX4) (k := 0) (hw.1 μ).1 rfl hiX4 (by decide) mf12 rfl dX4_ownLeaf_14 ?_
  refine lv_iload_n hx hb dX4_ownLeaf_17 rfl (lv_at hl 0 rfl) ?_
  obtain ⟨v2, ev2, h⟩ := ob h
  refine r_ci hS (r_runV (As := [.int v1]) (rest := []) X hS (c_X1_isFresh l hE (w := w) (ad := ad) (μ := μ) (D := D) (cI := cI) (cG := cG) (cL := cL) hw.2.1 ev2) (cwV 1 X.1.2.2.2.2 gX4_ownLeaf_X1_isFresh rfl rfl rfl (by decide +kernel) ⟨Nat.le_of_ble_eq_true rfl, Nat.le_of_ble_eq_true rfl⟩) (q0 := (q + 1)) (ci := 0) rfl (hw.2.1.1 μ).1 rfl hl.1 rfl (Nat.le_of_ble_eq_true rfl) dX4_ownLeaf_18 ⟨Nat.zero_le _, Nat.zero_le _⟩) (fun H locs hS => ?_)
  refine lv_if_eq (tgt := 26) hx hb dX4_ownLeaf_21 (by decide) (fun cc => ?_) (fun cc => ?_)
  · replace h := it h cc
    refine lv_aload_n hx hb dX4_ownLeaf_26 rfl (lv_at hl 1 rfl) ?_
    refine lv_iconst (v := 0) hx hb dX4_ownLeaf_27 (by decide) ?_
    obtain ⟨v3, μ4, ev3, h⟩ := ob2 h
    refine r_ci hS (r_runV (As := [.int 0]) (rest := []) X hS (c_X4_dig l hE (w := w) (ad := ad) (μ := μ) (D := D) (cI := cI) (cG := cG) (cL := cL) hw ev3) (cwV 1 X.1.2.2.2.2 gX4_ownLeaf_X4_dig rfl rfl rfl (by decide +kernel) ⟨Nat.le_of_ble_eq_true rfl, Nat.le_of_ble_eq_true rfl⟩) (q0 := q) (ci := 2) rfl (hw.1 μ).1 rfl hl.1 rfl (Nat.le_of_ble_eq_true rfl) dX4_ownLeaf_28 ⟨Nat.zero_le _, Nat.zero_le _⟩) (fun H locs hS => ?_)
    refine lv_istore_n (lv' := [(3, .int v3), (2, .int v1), (0, .ref (ad q)), (1, .int a1)]) hx hb dX4_ownLeaf_31 rfl hl (by decide) rfl (fun ls hl => ?_)
    refine lv_aload_n hx hb dX4_ownLeaf_32 rfl (lv_at hl 2 rfl) ?_
    refine r_get X hS (T := TX4) (k := 0) (hw.1 μ4).1 rfl hiX4 (by decide) mf12 rfl dX4_ownLeaf_33 ?_
    refine lv_iload_n hx hb dX4_ownLeaf_36 rfl (lv_at hl 1 rfl) ?_
    refine lv_iload_n hx hb dX4_ownLeaf_37 rfl (lv_at hl 0 rfl) ?_
    obtain ⟨μ5, eμ5, h⟩ := ob h
    refine r_cv hS (r_runV (As := [.int v1, .int v3]) (rest := []) X hS (c_X1_copyLeaf l hE (w := w) (ad := ad) (μ := μ4) (D := D) (cI := cI) (cG := cG) (cL := cL) hw.2.1 eμ5) (cwV 2 X.1.2.2.2.2 gX4_ownLeaf_X1_copyLeaf rfl rfl rfl (by decide +kernel) ⟨Nat.le_of_ble_eq_true rfl, Nat.le_of_ble_eq_true rfl⟩) (q0 := (q + 1)) (ci := 0) rfl (hw.2.1.1 μ4).1 rfl hl.1 rfl (Nat.le_of_ble_eq_true rfl) dX4_ownLeaf_38 ⟨Nat.zero_le _, Nat.zero_le _⟩) (fun H locs hS => ?_)
    refine lv_aload_n hx hb dX4_ownLeaf_41 rfl (lv_at hl 2 rfl) ?_
    refine r_get X hS (T := TX4) (k := 0) (hw.1 μ5).1 rfl hiX4 (by decide) mf12 rfl dX4_ownLeaf_42 ?_
    refine lv_iload_n hx hb dX4_ownLeaf_45 rfl (lv_at hl 1 rfl) ?_
    obtain ⟨μ6, eμ6, h⟩ := ob h
    refine r_cv hS (r_runV (As := [.int v1]) (rest := []) X hS (c_X1_leave l hE (w := w) (ad := ad) (μ := μ5) (D := D) (cI := cI) (cG := cG) (cL := cL) hw.2.1 eμ6) (cwV 1 X.1.2.2.2.2 gX4_ownLeaf_X1_leave rfl rfl rfl (by decide +kernel) ⟨Nat.le_of_ble_eq_true rfl, Nat.le_of_ble_eq_true rfl⟩) (q0 := (q + 1)) (ci := 0) rfl (hw.2.1.1 μ5).1 rfl hl.1 rfl (Nat.le_of_ble_eq_true rfl) dX4_ownLeaf_46 ⟨Nat.zero_le _, Nat.zero_le _⟩) (fun H locs hS => ?_)
    refine lv_aload_n hx hb dX4_ownLeaf_49 rfl (lv_at hl 2 rfl) ?_
    refine r_get X hS (T := TX4) (k := 0) (hw.1 μ6).1 rfl hiX4 (by decide) mf12 rfl dX4_ownLeaf_50 ?_
    refine lv_aload_n hx hb dX4_ownLeaf_53 rfl (lv_at hl 2 rfl) ?_
    refine r_get X hS (T := TX4) (k := 7) (hw.1 μ6).1 rfl hiX4 (by decide) mf38 rfl dX4_ownLeaf_54 ?_
    refine lv_iload_n hx hb dX4_ownLeaf_57 rfl (lv_at hl 3 rfl) ?_
    refine lv_iload_n hx hb dX4_ownLeaf_58 rfl (lv_at hl 0 rfl) ?_
    obtain ⟨μ7, eμ7, h⟩ := ob h
    refine r_cv hS (r_runV (As := [.int (μ6 q 7), .int a1, .int v3]) (rest := []) X hS (c_X1_setLeaf l hE (w := w) (ad := ad) (μ := μ6) (D := D) (cI := cI) (cG := cG) (cL := cL) hw.2.1 eμ7) (cwV 3 X.1.2.2.2.2 gX4_ownLeaf_X1_setLeaf rfl rfl rfl (by decide +kernel) ⟨Nat.le_of_ble_eq_true rfl, Nat.le_of_ble_eq_true rfl⟩) (q0 := (q + 1)) (ci := 0) rfl (hw.2.1.1 μ6).1 rfl hl.1 rfl (Nat.le_of_ble_eq_true rfl) dX4_ownLeaf_59 ⟨Nat.zero_le _, Nat.zero_le _⟩) (fun H locs hS => ?_)
    refine lv_iload_n hx hb dX4_ownLeaf_62 rfl (lv_at hl 0 rfl) ?_
    obtain ⟨rfl, rfl⟩ := pr2 h
    exact r_iret X hS hr hlk dX4_ownLeaf_63
  · replace h := ie h cc
    refine lv_iload_n hx hb dX4_ownLeaf_24 rfl (lv_at hl 0 rfl) ?_
    obtain ⟨rfl, rfl⟩ := pr2 h
    exact r_iret X hS hr hlk dX4_ownLeaf_25
