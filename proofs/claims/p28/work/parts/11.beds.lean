def f_X1_copyFrom (q : Nat) (q1 : Nat) (μ : Mem) : Option Mem := (f_X6_copyRow (q1 + 1) 32 (q + 1) 32 μ).bind (fun μ1 => (f_X6_copyRow (q1 + 2) 32 (q + 2) 32 μ1).bind (fun μ2 => (f_X6_copyRow (q1 + 3) 32 (q + 3) 32 μ2).bind (fun μ3 => (f_X6_copyRow (q1 + 4) 32 (q + 4) 32 μ3).bind (fun μ4 => (f_X6_copyRow (q1 + 5) 32 (q + 5) 32 μ4).bind (fun μ5 => (f_X6_copyRow (q1 + 6) 32 (q + 6) 32 μ5).bind (fun μ6 => (f_X6_copyRow (q1 + 7) 160 (q + 7) 160 μ6).bind (fun μ7 => (f_X6_copyRow (q1 + 8) 160 (q + 8) 160 μ7).bind (fun μ8 => (f_X6_copyRow (q1 + 9) 192 (q + 9) 192 μ8).bind (fun μ9 => (some μ9))))))))))
set_option maxHeartbeats 4000000 in
set_option maxRecDepth 100000 in
theorem c_X1_copyFrom (l : Launch) {D : va_G} {cI cG cL : ClassId} {A : Nat → Prop} {EN : State → Heap → Prop} (hE : EnOK EN A) {w : Mem → va_W} {ad : Nat → Nat} {q : Nat} {q1 : Nat} {μ : Mem}  {μ' : Mem} (hw : BedsAt cI w ad q) (hw1 : BedsAt cI w ad q1) (h : f_X1_copyFrom q q1 μ = some μ') : Met l yX1_copyFrom wsX1_copyFrom (rmk 1 22) (WPre D (tyl cI cG cL) A EN (w μ) [.ref (ad q), .ref (ad q1)]) (PV D A (w μ')) 0 0 A := by
  have hiX1 : ∀ w ∈ u_ws RX1 TX1 9, w ∈ wsX1_copyFrom := by decide +kernel
  have mf9 : Cond.fieldLink RX1 9 (TX1 0).1 (TX1 0).2.1 (TX1 0).2.2.1 ∈ wsX1_copyFrom := by decide +kernel
  have miX6 : Cond.initialized RX6 ∈ wsX1_copyFrom := by decide +kernel
  have ms43 : Cond.static yX6_copyRow ∈ wsX1_copyFrom := by decide +kernel
  have mf15 : Cond.fieldLink RX1 15 (TX1 1).1 (TX1 1).2.1 (TX1 1).2.2.1 ∈ wsX1_copyFrom := by decide +kernel
  have mf18 : Cond.fieldLink RX1 18 (TX1 2).1 (TX1 2).2.1 (TX1 2).2.2.1 ∈ wsX1_copyFrom := by decide +kernel
  have mf21 : Cond.fieldLink RX1 21 (TX1 3).1 (TX1 3).2.1 (TX1 3).2.2.1 ∈ wsX1_copyFrom := by decide +kernel
  have mf24 : Cond.fieldLink RX1 24 (TX1 4).1 (TX1 4).2.1 (TX1 4).2.2.1 ∈ wsX1_copyFrom := by decide +kernel
  have mf27 : Cond.fieldLink RX1 27 (TX1 5).1 (TX1 5).2.1 (TX1 5).2.2.1 ∈ wsX1_copyFrom := by decide +kernel
  have mf30 : Cond.fieldLink RX1 30 (TX1 6).1 (TX1 6).2.1 (TX1 6).2.2.1 ∈ wsX1_copyFrom := by decide +kernel
  have mf33 : Cond.fieldLink RX1 33 (TX1 7).1 (TX1 7).2.1 (TX1 7).2.2.1 ∈ wsX1_copyFrom := by decide +kernel
  have mf36 : Cond.fieldLink RX1 36 (TX1 8).1 (TX1 8).2.1 (TX1 8).2.2.1 ∈ wsX1_copyFrom := by decide +kernel
  refine met_start (cc := cX1_copyFrom) (nL := 2) (ret := none) (own := RX1) hE (by decide) rfl rfl (Nat.le_of_ble_eq_true rfl) (fun p e s m args below meth c ls X hS hl hr hlk => ?_)
  have hx := X.1.1
  have hb := X.1.2.1
  replace hl : lv_has ls 2 [(0, .ref (ad q)), (1, .ref (ad q1))] := hl
  unfold f_X1_copyFrom at h
  refine lv_aload_n hx hb dX1_copyFrom_0 rfl (lv_at hl 1 rfl) ?_
  refine r_get X hS (T := TX1) (k := 0) (hw1.1 μ).1 rfl hiX1 (by decide) mf9 rfl dX1_copyFrom_1 ?_
  refine lv_aload_n hx hb dX1_copyFrom_4 rfl (lv_at hl 0 rfl) ?_
  refine r_get X hS (T := TX1) (k := 0) (hw.1 μ).1 rfl hiX1 (by decide) mf9 rfl dX1_copyFrom_5 ?_
  obtain ⟨μ1, eμ1, h⟩ := ob h
  refine r_cv hS (r_runSN (As := [.ref (ad (q1 + 1)), .ref (ad (q + 1))]) (rest := []) (host := RX6) X hS (c_X6_copyRow l hE (w := w) (ad := ad) (μ := μ) (D := D) (cI := cI) (cG := cG) (cL := cL) hw1.2.1 hw.2.1 eμ1) (va_cnB 2 X.1.2.2.2.2 gX1_copyFrom_X6_copyRow_n43 rfl rfl rfl (X.nest 4 rfl) (X.1.2.2.2.2 _ miX6) (by decide +kernel) ⟨Nat.le_of_ble_eq_true rfl, Nat.le_of_ble_eq_true rfl⟩) (X.1.2.2.2.2 _ ms43) rfl hl.1 rfl (Nat.le_of_ble_eq_true rfl) dX1_copyFrom_8 ⟨Nat.zero_le _, Nat.zero_le _⟩) (fun H locs hS => ?_)
  refine lv_aload_n hx hb dX1_copyFrom_11 rfl (lv_at hl 1 rfl) ?_
  refine r_get X hS (T := TX1) (k := 1) (hw1.1 μ1).1 rfl hiX1 (by decide) mf15 rfl dX1_copyFrom_12 ?_
  refine lv_aload_n hx hb dX1_copyFrom_15 rfl (lv_at hl 0 rfl) ?_
  refine r_get X hS (T := TX1) (k := 1) (hw.1 μ1).1 rfl hiX1 (by decide) mf15 rfl dX1_copyFrom_16 ?_
  obtain ⟨μ2, eμ2, h⟩ := ob h
  refine r_cv hS (r_runSN (As := [.ref (ad (q1 + 2)), .ref (ad (q + 2))]) (rest := []) (host := RX6) X hS (c_X6_copyRow l hE (w := w) (ad := ad) (μ := μ1) (D := D) (cI := cI) (cG := cG) (cL := cL) hw1.2.2.1 hw.2.2.1 eμ2) (va_cnB 2 X.1.2.2.2.2 gX1_copyFrom_X6_copyRow_n43 rfl rfl rfl (X.nest 4 rfl) (X.1.2.2.2.2 _ miX6) (by decide +kernel) ⟨Nat.le_of_ble_eq_true rfl, Nat.le_of_ble_eq_true rfl⟩) (X.1.2.2.2.2 _ ms43) rfl hl.1 rfl (Nat.le_of_ble_eq_true rfl) dX1_copyFrom_19 ⟨Nat.zero_le _, Nat.zero_le _⟩) (fun H locs hS => ?_)
  refine lv_aload_n hx hb dX1_copyFrom_22 rfl (lv_at hl 1 rfl) ?_
  refine r_get X hS (T := TX1) (k := 2) (hw1.1 μ2).1 rfl hiX1 (by decide) mf18 rfl dX1_copyFrom_23 ?_
  refine lv_aload_n hx hb dX1_copyFrom_26 rfl (lv_at hl 0 rfl) ?_
  refine r_get X hS (T := TX1) (k := 2) (hw.1 μ2).1 rfl hiX1 (by decide) mf18 rfl dX1_copyFrom_27 ?_
  obtain ⟨μ3, eμ3, h⟩ := ob h
  refine r_cv hS (r_runSN (As := [.ref (ad (q1 + 3)), .ref (ad (q + 3))]) (rest := []) (host := RX6) X hS (c_X6_copyRow l hE (w := w) (ad := ad) (μ := μ2) (D := D) (cI := cI) (cG := cG) (cL := cL) hw1.2.2.2.1 hw.2.2.2.1 eμ3) (va_cnB 2 X.1.2.2.2.2 gX1_copyFrom_X6_copyRow_n43 rfl rfl rfl (X.nest 4 rfl) (X.1.2.2.2.2 _ miX6) (by decide +kernel) ⟨Nat.le_of_ble_eq_true rfl, Nat.le_of_ble_eq_true rfl⟩) (X.1.2.2.2.2 _ ms43) rfl hl.1 rfl (Nat.le_of_ble_eq_true rfl) dX1_copyFrom_30 ⟨Nat.zero_le _, Nat.zero_le _⟩) (fun H locs hS => ?_)
  refine lv_aload_n hx hb dX1_copyFrom_33 rfl (lv_at hl 1 rfl) ?_
  refine r_get X hS (T := TX1) (k := 3) (hw1.1 μ3).1 rfl hiX1 (by decide) mf21 rfl dX1_copyFrom_34 ?_
  refine lv_aload_n hx hb dX1_copyFrom_37 rfl (lv_at hl 0 rfl) ?_
  refine r_get X hS (T := TX1) (k := 3) (hw.1 μ3).1 rfl hiX1 (by decide) mf21 rfl dX1_copyFrom_38 ?_
  obtain ⟨μ4, eμ4, h⟩ := ob h
  refine r_cv hS (r_runSN (As := [.ref (ad (q1 + 4)), .ref (ad (q + 4))]) (rest := []) (host := RX6) X hS (c_X6_copyRow l hE (w := w) (ad := ad) (μ := μ3) (D := D) (cI := cI) (cG := cG) (cL := cL) hw1.2.2.2.2.1 hw.2.2.2.2.1 eμ4) (va_cnB 2 X.1.2.2.2.2 gX1_copyFrom_X6_copyRow_n43 rfl rfl rfl (X.nest 4 rfl) (X.1.2.2.2.2 _ miX6) (by decide +kernel) ⟨Nat.le_of_ble_eq_true rfl, Nat.le_of_ble_eq_true rfl⟩) (X.1.2.2.2.2 _ ms43) rfl hl.1 rfl (Nat.le_of_ble_eq_true rfl) dX1_copyFrom_41 ⟨Nat.zero_le _, Nat.zero_le _⟩) (fun H locs hS => ?_)
  refine lv_aload_n hx hb dX1_copyFrom_44 rfl (lv_at hl 1 rfl) ?_
  refine r_get X hS (T := TX1) (k := 4) (hw1.1 μ4).1 rfl hiX1 (by decide) mf24 rfl dX1_copyFrom_45 ?_
  refine lv_aload_n hx hb dX1_copyFrom_48 rfl (lv_at hl 0 rfl) ?_
  refine r_get X hS (T := TX1) (k := 4) (hw.1 μ4).1 rfl hiX1 (by decide) mf24 rfl dX1_copyFrom_49 ?_
  obtain ⟨μ5, eμ5, h⟩ := ob h
  refine r_cv hS (r_runSN (As := [.ref (ad (q1 + 5)), .ref (ad (q + 5))]) (rest := []) (host := RX6) X hS (c_X6_copyRow l hE (w := w) (ad := ad) (μ := μ4) (D := D) (cI := cI) (cG := cG) (cL := cL) hw1.2.2.2.2.2.1 hw.2.2.2.2.2.1 eμ5) (va_cnB 2 X.1.2.2.2.2 gX1_copyFrom_X6_copyRow_n43 rfl rfl rfl (X.nest 4 rfl) (X.1.2.2.2.2 _ miX6) (by decide +kernel) ⟨Nat.le_of_ble_eq_true rfl, Nat.le_of_ble_eq_true rfl⟩) (X.1.2.2.2.2 _ ms43) rfl hl.1 rfl (Nat.le_of_ble_eq_true rfl) dX1_copyFrom_52 ⟨Nat.zero_le _, Nat.zero_le _⟩) (fun H locs hS => ?_)
  refine lv_aload_n hx hb dX1_copyFrom_55 rfl (lv_at hl 1 rfl) ?_
  refine r_get X hS (T := TX1) (k := 5) (hw1.1 μ5).1 rfl hiX1 (by decide) mf27 rfl dX1_copyFrom_56 ?_
  refine lv_aload_n hx hb dX1_copyFrom_59 rfl (lv_at hl 0 rfl) ?_
  refine r_get X hS (T := TX1) (k := 5) (hw.1 μ5).1 rfl hiX1 (by decide) mf27 rfl dX1_copyFrom_60 ?_
  obtain ⟨μ6, eμ6, h⟩ := ob h
  refine r_cv hS (r_runSN (As := [.ref (ad (q1 + 6)), .ref (ad (q + 6))]) (rest := []) (host := RX6) X hS (c_X6_copyRow l hE (w := w) (ad := ad) (μ := μ5) (D := D) (cI := cI) (cG := cG) (cL := cL) hw1.2.2.2.2.2.2.1 hw.2.2.2.2.2.2.1 eμ6) (va_cnB 2 X.1.2.2.2.2 gX1_copyFrom_X6_copyRow_n43 rfl rfl rfl (X.nest 4 rfl) (X.1.2.2.2.2 _ miX6) (by decide +kernel) ⟨Nat.le_of_ble_eq_true rfl, Nat.le_of_ble_eq_true rfl⟩) (X.1.2.2.2.2 _ ms43) rfl hl.1 rfl (Nat.le_of_ble_eq_true rfl) dX1_copyFrom_63 ⟨Nat.zero_le _, Nat.zero_le _⟩) (fun H locs hS => ?_)
  refine lv_aload_n hx hb dX1_copyFrom_66 rfl (lv_at hl 1 rfl) ?_
  refine r_get X hS (T := TX1) (k := 6) (hw1.1 μ6).1 rfl hiX1 (by decide) mf30 rfl dX1_copyFrom_67 ?_
  refine lv_aload_n hx hb dX1_copyFrom_70 rfl (lv_at hl 0 rfl) ?_
  refine r_get X hS (T := TX1) (k := 6) (hw.1 μ6).1 rfl hiX1 (by decide) mf30 rfl dX1_copyFrom_71 ?_
  obtain ⟨μ7, eμ7, h⟩ := ob h
  refine r_cv hS (r_runSN (As := [.ref (ad (q1 + 7)), .ref (ad (q + 7))]) (rest := []) (host := RX6) X hS (c_X6_copyRow l hE (w := w) (ad := ad) (μ := μ6) (D := D) (cI := cI) (cG := cG) (cL := cL) hw1.2.2.2.2.2.2.2.1 hw.2.2.2.2.2.2.2.1 eμ7) (va_cnB 2 X.1.2.2.2.2 gX1_copyFrom_X6_copyRow_n43 rfl rfl rfl (X.nest 4 rfl) (X.1.2.2.2.2 _ miX6) (by decide +kernel) ⟨Nat.le_of_ble_eq_true rfl, Nat.le_of_ble_eq_true rfl⟩) (X.1.2.2.2.2 _ ms43) rfl hl.1 rfl (Nat.le_of_ble_eq_true rfl) dX1_copyFrom_74 ⟨Nat.zero_le _, Nat.zero_le _⟩) (fun H locs hS => ?_)
  refine lv_aload_n hx hb dX1_copyFrom_77 rfl (lv_at hl 1 rfl) ?_
  refine r_get X hS (T := TX1) (k := 7) (hw1.1 μ7).1 rfl hiX1 (by decide) mf33 rfl dX1_copyFrom_78 ?_
  refine lv_aload_n hx hb dX1_copyFrom_81 rfl (lv_at hl 0 rfl) ?_
  refine r_get X hS (T := TX1) (k := 7) (hw.1 μ7).1 rfl hiX1 (by decide) mf33 rfl dX1_copyFrom_82 ?_
  obtain ⟨μ8, eμ8, h⟩ := ob h
  refine r_cv hS (r_runSN (As := [.ref (ad (q1 + 8)), .ref (ad (q + 8))]) (rest := []) (host := RX6) X hS (c_X6_copyRow l hE (w := w) (ad := ad) (μ := μ7) (D := D) (cI := cI) (cG := cG) (cL := cL) hw1.2.2.2.2.2.2.2.2.1 hw.2.2.2.2.2.2.2.2.1 eμ8) (va_cnB 2 X.1.2.2.2.2 gX1_copyFrom_X6_copyRow_n43 rfl rfl rfl (X.nest 4 rfl) (X.1.2.2.2.2 _ miX6) (by decide +kernel) ⟨Nat.le_of_ble_eq_true rfl, Nat.le_of_ble_eq_true rfl⟩) (X.1.2.2.2.2 _ ms43) rfl hl.1 rfl (Nat.le_of_ble_eq_true rfl) dX1_copyFrom_85 ⟨Nat.zero_le _, Nat.zero_le _⟩) (fun H locs hS => ?_)
  refine lv_aload_n hx hb dX1_copyFrom_88 rfl (lv_at hl 1 rfl) ?_
  refine r_get X hS (T := TX1) (k := 8) (hw1.1 μ8).1 rfl hiX1 (by decide) mf36 rfl dX1_copyFrom_89 ?_
  refine lv_aload_n hx hb dX1_copyFrom_92 rfl (lv_at hl 0 rfl) ?_
  refine r_get X hS (T := TX1) (k := 8) (hw.1 μ8).1 rfl hiX1 (by decide) mf36 rfl dX1_copyFrom_93 ?_
  obtain ⟨μ9, eμ9, h⟩ := ob h
  refine r_cv hS (r_runSN (As := [.ref (ad (q1 + 9)), .ref (ad (q + 9))]) (rest := []) (host := RX6) X hS (c_X6_copyRow l hE (w := w) (ad := ad) (μ := μ8) (D := D) (cI := cI) (cG := cG) (cL := cL) hw1.2.2.2.2.2.2.2.2.2 hw.2.2.2.2.2.2.2.2.2 eμ9) (va_cnB 2 X.1.2.2.2.2 gX1_copyFrom_X6_copyRow_n43 rfl rfl rfl (X.nest 4 rfl) (X.1.2.2.2.2 _ miX6) (by decide +kernel) ⟨Nat.le_of_ble_eq_true rfl, Nat.le_of_ble_eq_true rfl⟩) (X.1.2.2.2.2 _ ms43) rfl hl.1 rfl (Nat.le_of_ble_eq_true rfl) dX1_copyFrom_96 ⟨Nat.zero_le _, Nat.zero_le _⟩) (fun H locs hS => ?_)
  cases h
  exact r_vret X hS hr hlk dX1_copyFrom_99
def f_X1_sizeOf_b25 (q : Nat) (s0 : Int32) (μ : Mem) : Option Int32 := (some s0)
def f_X1_sizeOf_b22 (q : Nat)  (μ : Mem) : Option Int32 := f_X1_sizeOf_b25 q (-1000) μ
def f_X1_sizeOf (q : Nat) (a1 : Int32) (μ : Mem) : Option Int32 := (if a1 < 0 then f_X1_sizeOf_b22 q μ else (if 32 ≤ a1 then f_X1_sizeOf_b22 q μ else (rd 32 (μ (q + 3)) a1).bind (fun v1 => f_X1_sizeOf_b25 q v1 μ)))
set_option maxHeartbeats 4000000 in
set_option maxRecDepth 100000 in
theorem c_X1_sizeOf (l : Launch) {D : va_G} {cI cG cL : ClassId} {A : Nat → Prop} {EN : State → Heap → Prop} (hE : EnOK EN A) {w : Mem → va_W} {ad : Nat → Nat} {q : Nat} {a1 : Int32} {μ : Mem} {r : Int32} (hw : BedsAt cI w ad q) (h : f_X1_sizeOf q a1 μ = some r) : Met l yX1_sizeOf wsX1_sizeOf (rmk 0 0) (WPre D (tyl cI cG cL) A EN (w μ) [.ref (ad q), .int a1]) (PI D A (w μ) r) 0 0 A := by
  have hiX1 : ∀ w ∈ u_ws RX1 TX1 9, w ∈ wsX1_sizeOf := by decide +kernel
  have mf18 : Cond.fieldLink RX1 18 (TX1 2).1 (TX1 2).2.1 (TX1 2).2.2.1 ∈ wsX1_sizeOf := by decide +kernel
  refine met_start (cc := cX1_sizeOf) (nL := 2) (ret := (some .int)) (own := RX1) hE (by decide) rfl rfl (Nat.le_of_ble_eq_true rfl) (fun p e s m args below meth c ls X hS hl hr hlk => ?_)
  have hx := X.1.1
  have hb := X.1.2.1
  replace hl : lv_has ls 2 [(0, .ref (ad q)), (1, .int a1)] := hl
  have hb25 : ∀ (s0 : Int32) (H : Heap) (locs : List Loc) (ls : Array Slot), HS D A (w μ) s.heap H locs → lv_has ls 2 [] → f_X1_sizeOf_b25 q s0 μ = some r → W p l e (headSpec wsX1_sizeOf (rmk 0 0)).room s m args below meth c H locs 0 0 (MQ below (PI D A (w μ) r) args s 0 0 A) (F0 m 25 ls [.int s0]) := by
    intro s0 H locs ls hS hl h
    unfold f_X1_sizeOf_b25 at h
    cases h
    exact r_iret X hS hr hlk dX1_sizeOf_25
  have hb22 : ∀  (H : Heap) (locs : List Loc) (ls : Array Slot), HS D A (w μ) s.heap H locs → lv_has ls 2 [] → f_X1_sizeOf_b22 q μ = some r → W p l e (headSpec wsX1_sizeOf (rmk 0 0)).room s m args below meth c H locs 0 0 (MQ below (PI D A (w μ) r) args s 0 0 A) (F0 m 22 ls []) := by
    intro H locs ls hS hl h
    unfold f_X1_sizeOf_b22 at h
    refine lv_sipush (v := (-1000)) hx hb dX1_sizeOf_22 (by decide) ?_
    exact hb25 (-1000) _ _ _ hS (lv_sub hl [] rfl) h
  unfold f_X1_sizeOf at h
  refine lv_iload_n hx hb dX1_sizeOf_0 rfl (lv_at hl 1 rfl) ?_
  refine lv_if_lt (tgt := 22) hx hb dX1_sizeOf_1 (by decide) (fun cc => ?_) (fun cc => ?_)
  · replace h := it h cc
    exact hb22  _ _ _ hS (lv_sub hl [] rfl) h
  · replace h := ie h cc
    refine lv_iload_n hx hb dX1_sizeOf_4 rfl (lv_at hl 1 rfl) ?_
    refine lv_aload_n hx hb dX1_sizeOf_5 rfl (lv_at hl 0 rfl) ?_
    refine r_get X hS (T := TX1) (k := 2) (hw.1 μ).1 rfl hiX1 (by decide) mf18 rfl dX1_sizeOf_6 ?_
    refine r_alen X hS (hw.2.2.2.1 μ).1 (v := 32) (by decide) dX1_sizeOf_9 ?_
    refine lv_icmp_ge (tgt := 22) hx hb dX1_sizeOf_10 (by decide) (fun cc => ?_) (fun cc => ?_)
    · replace h := it h cc
      exact hb22  _ _ _ hS (lv_sub hl [] rfl) h
    · replace h := ie h cc
      refine lv_aload_n hx hb dX1_sizeOf_13 rfl (lv_at hl 0 rfl) ?_
      refine r_get X hS (T := TX1) (k := 2) (hw.1 μ).1 rfl hiX1 (by decide) mf18 rfl dX1_sizeOf_14 ?_
      refine lv_iload_n hx hb dX1_sizeOf_17 rfl (lv_at hl 1 rfl) ?_
      obtain ⟨v1, ev1, h⟩ := ob h
      refine r_iald X hS (hw.2.2.2.1 μ).1 ev1 dX1_sizeOf_18 ?_
      refine lv_goto (tgt := 25) hx hb dX1_sizeOf_19 (by decide) ?_
      exact hb25 v1 _ _ _ hS (lv_sub hl [] rfl) h
def f_X1_isFresh_b28 (q : Nat) (s0 : Int32) (μ : Mem) : Option Int32 := (zr s0).bind (fun v1 => (some v1))
def f_X1_isFresh_b27 (q : Nat)  (μ : Mem) : Option Int32 := f_X1_isFresh_b28 q 0 μ
def f_X1_isFresh (q : Nat) (a1 : Int32) (μ : Mem) : Option Int32 := (if a1 < 0 then f_X1_isFresh_b27 q μ else (if 32 ≤ a1 then f_X1_isFresh_b27 q μ else (rd 32 (μ (q + 5)) a1).bind (fun v2 => (if v2 = 1 then f_X1_isFresh_b28 q 1 μ else f_X1_isFresh_b27 q μ))))
set_option maxHeartbeats 4000000 in
set_option maxRecDepth 100000 in
theorem c_X1_isFresh (l : Launch) {D : va_G} {cI cG cL : ClassId} {A : Nat → Prop} {EN : State → Heap → Prop} (hE : EnOK EN A) {w : Mem → va_W} {ad : Nat → Nat} {q : Nat} {a1 : Int32} {μ : Mem} {r : Int32} (hw : BedsAt cI w ad q) (h : f_X1_isFresh q a1 μ = some r) : Met l yX1_isFresh wsX1_isFresh (rmk 0 0) (WPre D (tyl cI cG cL) A EN (w μ) [.ref (ad q), .int a1]) (PI D A (w μ) r) 0 0 A := by
  have hiX1 : ∀ w ∈ u_ws RX1 TX1 9, w ∈ wsX1_isFresh := by decide +kernel
  have mf24 : Cond.fieldLink RX1 24 (TX1 4).1 (TX1 4).2.1 (TX1 4).2.2.1 ∈ wsX1_isFresh := by decide +kernel
  refine met_start (cc := cX1_isFresh) (nL := 2) (ret := (some .boolean)) (own := RX1) hE (by decide) rfl rfl (Nat.le_of_ble_eq_true rfl) (fun p e s m args below meth c ls X hS hl hr hlk => ?_)
  have hx := X.1.1
  have hb := X.1.2.1
  replace hl : lv_has ls 2 [(0, .ref (ad q)), (1, .int a1)] := hl
  have hb28 : ∀ (s0 : Int32) (H : Heap) (locs : List Loc) (ls : Array Slot), HS D A (w μ) s.heap H locs → lv_has ls 2 [] → f_X1_isFresh_b28 q s0 μ = some r → W p l e (headSpec wsX1_isFresh (rmk 0 0)).room s m args below meth c H locs 0 0 (MQ below (PI D A (w μ) r) args s 0 0 A) (F0 m 28 ls [.int s0]) := by
    intro s0 H locs ls hS hl h
    unfold f_X1_isFresh_b28 at h
    obtain ⟨v1, ev1, h⟩ := ob h
    obtain ⟨ezv1, eov1⟩ := zr_ok ev1
    rw [ezv1]
    cases h
    exact r_zret X hS hr hlk eov1 dX1_isFresh_28
  have hb27 : ∀  (H : Heap) (locs : List Loc) (ls : Array Slot), HS D A (w μ) s.heap H locs → lv_has ls 2 [] → f_X1_isFresh_b27 q μ = some r → W p l e (headSpec wsX1_isFresh (rmk 0 0)).room s m args below meth c H locs 0 0 (MQ below (PI D A (w μ) r) args s 0 0 A) (F0 m 27 ls []) := by
    intro H locs ls hS hl h
    unfold f_X1_isFresh_b27 at h
    refine lv_iconst (v := 0) hx hb dX1_isFresh_27 (by decide) ?_
    exact hb28 0 _ _ _ hS (lv_sub hl [] rfl) h
  unfold f_X1_isFresh at h
  refine lv_iload_n hx hb dX1_isFresh_0 rfl (lv_at hl 1 rfl) ?_
  refine lv_if_lt (tgt := 27) hx hb dX1_isFresh_1 (by decide) (fun cc => ?_) (fun cc => ?_)
  · replace h := it h cc
    exact hb27  _ _ _ hS (lv_sub hl [] rfl) h
  · replace h := ie h cc
    refine lv_iload_n hx hb dX1_isFresh_4 rfl (lv_at hl 1 rfl) ?_
    refine lv_aload_n hx hb dX1_isFresh_5 rfl (lv_at hl 0 rfl) ?_
    refine r_get X hS (T := TX1) (k := 4) (hw.1 μ).1 rfl hiX1 (by decide) mf24 rfl dX1_isFresh_6 ?_
    refine r_alen X hS (hw.2.2.2.2.2.1 μ).1 (v := 32) (by decide) dX1_isFresh_9 ?_
    refine lv_icmp_ge (tgt := 27) hx hb dX1_isFresh_10 (by decide) (fun cc => ?_) (fun cc => ?_)
    · replace h := it h cc
      exact hb27  _ _ _ hS (lv_sub hl [] rfl) h
    · replace h := ie h cc
      refine lv_aload_n hx hb dX1_isFresh_13 rfl (lv_at hl 0 rfl) ?_
      refine r_get X hS (T := TX1) (k := 4) (hw.1 μ).1 rfl hiX1 (by decide) mf24 rfl dX1_isFresh_14 ?_
      refine lv_iload_n hx hb dX1_isFresh_17 rfl (lv_at hl 1 rfl) ?_
      obtain ⟨v2, ev2, h⟩ := ob h
      refine r_iald X hS (hw.2.2.2.2.2.1 μ).1 ev2 dX1_isFresh_18 ?_
      refine lv_iconst (v := 1) hx hb dX1_isFresh_19 (by decide) ?_
      refine lv_icmp_ne (tgt := 27) hx hb dX1_isFresh_20 (by decide) (fun cc => ?_) (fun cc => ?_)
      · replace h := ie h cc
        exact hb27  _ _ _ hS (lv_sub hl [] rfl) h
      · replace h := it h cc
        refine lv_iconst (v := 1) hx hb dX1_isFresh_23 (by decide) ?_
        refine lv_goto (tgt := 28) hx hb dX1_isFresh_24 (by decide) ?_
        exact hb28 1 _ _ _ hS (lv_sub hl [] rfl) h
def f_X1_canBeDug_b35 (q : Nat) (s0 : Int32) (μ : Mem) : Option Int32 := (zr s0).bind (fun v1 => (some v1))
def f_X1_canBeDug_b34 (q : Nat)  (μ : Mem) : Option Int32 := f_X1_canBeDug_b35 q 0 μ
def f_X1_canBeDug (q : Nat) (a1 : Int32) (a2 : Int32) (μ : Mem) : Option Int32 := (if a1 < 0 then f_X1_canBeDug_b34 q μ else (if 32 ≤ a1 then f_X1_canBeDug_b34 q μ else (rd 32 (μ (q + 1)) a1).bind (fun v2 => (if v2 = 2 then (rd 32 (μ (q + 4)) a1).bind (fun v3 => (if a2 < v3 then f_X1_canBeDug_b34 q μ else f_X1_canBeDug_b35 q 1 μ)) else f_X1_canBeDug_b34 q μ))))
set_option maxHeartbeats 4000000 in
set_option maxRecDepth 100000 in
theorem c_X1_canBeDug (l : Launch) {D : va_G} {cI cG cL : ClassId} {A : Nat → Prop} {EN : State → Heap → Prop} (hE : EnOK EN A) {w : Mem → va_W} {ad : Nat → Nat} {q : Nat} {a1 : Int32} {a2 : Int32} {μ : Mem} {r : Int32} (hw : BedsAt cI w ad q) (h : f_X1_canBeDug q a1 a2 μ = some r) : Met l yX1_canBeDug wsX1_canBeDug (rmk 0 0) (WPre D (tyl cI cG cL) A EN (w μ) [.ref (ad q), .int a1, .int a2]) (PI D A (w μ) r) 0 0 A := by
  have hiX1 : ∀ w ∈ u_ws RX1 TX1 9, w ∈ wsX1_canBeDug := by decide +kernel
  have mf9 : Cond.fieldLink RX1 9 (TX1 0).1 (TX1 0).2.1 (TX1 0).2.2.1 ∈ wsX1_canBeDug := by decide +kernel
  have mf21 : Cond.fieldLink RX1 21 (TX1 3).1 (TX1 3).2.1 (TX1 3).2.2.1 ∈ wsX1_canBeDug := by decide +kernel
  refine met_start (cc := cX1_canBeDug) (nL := 3) (ret := (some .boolean)) (own := RX1) hE (by decide) rfl rfl (Nat.le_of_ble_eq_true rfl) (fun p e s m args below meth c ls X hS hl hr hlk => ?_)
  have hx := X.1.1
  have hb := X.1.2.1
  replace hl : lv_has ls 3 [(0, .ref (ad q)), (1, .int a1), (2, .int a2)] := hl
  have hb35 : ∀ (s0 : Int32) (H : Heap) (locs : List Loc) (ls : Array Slot), HS D A (w μ) s.heap H locs → lv_has ls 3 [] → f_X1_canBeDug_b35 q s0 μ = some r → W p l e (headSpec wsX1_canBeDug (rmk 0 0)).room s m args below meth c H locs 0 0 (MQ below (PI D A (w μ) r) args s 0 0 A) (F0 m 35 ls [.int s0]) := by
    intro s0 H locs ls hS hl h
    unfold f_X1_canBeDug_b35 at h
    obtain ⟨v1, ev1, h⟩ := ob h
    obtain ⟨ezv1, eov1⟩ := zr_ok ev1
    rw [ezv1]
    cases h
    exact r_zret X hS hr hlk eov1 dX1_canBeDug_35
  have hb34 : ∀  (H : Heap) (locs : List Loc) (ls : Array Slot), HS D A (w μ) s.heap H locs → lv_has ls 3 [] → f_X1_canBeDug_b34 q μ = some r → W p l e (headSpec wsX1_canBeDug (rmk 0 0)).room s m args below meth c H locs 0 0 (MQ below (PI D A (w μ) r) args s 0 0 A) (F0 m 34 ls []) := by
    intro H locs ls hS hl h
    unfold f_X1_canBeDug_b34 at h
    refine lv_iconst (v := 0) hx hb dX1_canBeDug_34 (by decide) ?_
    exact hb35 0 _ _ _ hS (lv_sub hl [] rfl) h
  unfold f_X1_canBeDug at h
  refine lv_iload_n hx hb dX1_canBeDug_0 rfl (lv_at hl 1 rfl) ?_
  refine lv_if_lt (tgt := 34) hx hb dX1_canBeDug_1 (by decide) (fun cc => ?_) (fun cc => ?_)
  · replace h := it h cc
    exact hb34  _ _ _ hS (lv_sub hl [] rfl) h
  · replace h := ie h cc
    refine lv_iload_n hx hb dX1_canBeDug_4 rfl (lv_at hl 1 rfl) ?_
    refine lv_bipush (v := 32) hx hb dX1_canBeDug_5 (by decide) ?_
    refine lv_icmp_ge (tgt := 34) hx hb dX1_canBeDug_7 (by decide) (fun cc => ?_) (fun cc => ?_)
    · replace h := it h cc
      exact hb34  _ _ _ hS (lv_sub hl [] rfl) h
    · replace h := ie h cc
      refine lv_aload_n hx hb dX1_canBeDug_10 rfl (lv_at hl 0 rfl) ?_
      refine r_get X hS (T := TX1) (k := 0) (hw.1 μ).1 rfl hiX1 (by decide) mf9 rfl dX1_canBeDug_11 ?_
      refine lv_iload_n hx hb dX1_canBeDug_14 rfl (lv_at hl 1 rfl) ?_
      obtain ⟨v2, ev2, h⟩ := ob h
      refine r_iald X hS (hw.2.1 μ).1 ev2 dX1_canBeDug_15 ?_
      refine lv_iconst (v := 2) hx hb dX1_canBeDug_16 (by decide) ?_
      refine lv_icmp_ne (tgt := 34) hx hb dX1_canBeDug_17 (by decide) (fun cc => ?_) (fun cc => ?_)
      · replace h := ie h cc
        exact hb34  _ _ _ hS (lv_sub hl [] rfl) h
      · replace h := it h cc
        refine lv_aload_n hx hb dX1_canBeDug_20 rfl (lv_at hl 0 rfl) ?_
        refine r_get X hS (T := TX1) (k := 3) (hw.1 μ).1 rfl hiX1 (by decide) mf21 rfl dX1_canBeDug_21 ?_
        refine lv_iload_n hx hb dX1_canBeDug_24 rfl (lv_at hl 1 rfl) ?_
        obtain ⟨v3, ev3, h⟩ := ob h
        refine r_iald X hS (hw.2.2.2.2.1 μ).1 ev3 dX1_canBeDug_25 ?_
        refine lv_iload_n hx hb dX1_canBeDug_26 rfl (lv_at hl 2 rfl) ?_
        refine lv_icmp_gt (tgt := 34) hx hb dX1_canBeDug_27 (by decide) (fun cc => ?_) (fun cc => ?_)
        · replace h := it h cc
          exact hb34  _ _ _ hS (lv_sub hl [] rfl) h
        · replace h := ie h cc
          refine lv_iconst (v := 1) hx hb dX1_canBeDug_30 (by decide) ?_
          refine lv_goto (tgt := 35) hx hb dX1_canBeDug_31 (by decide) ?_
          exact hb35 1 _ _ _ hS (lv_sub hl [] rfl) h
def f_X1_part (q : Nat) (a1 : Int32) (a2 : Int32) (a3 : Int32) (μ : Mem) : Option Int32 := (if a2 = 0 then (f_X6_cell (q + 1) 32 a1 μ).bind (fun v1 => (some v1)) else (if a2 = 1 then (f_X6_cell (q + 2) 32 a1 μ).bind (fun v2 => (some v2)) else (if a2 = 2 then (f_X6_cell (q + 3) 32 a1 μ).bind (fun v3 => (some v3)) else (if a2 = 3 then (f_X6_cell (q + 4) 32 a1 μ).bind (fun v4 => (some v4)) else (if a2 = 4 then (f_X1_canBeDug q a1 a3 μ).bind (fun v5 => (f_X6_one v5).bind (fun v6 => (some v6))) else (if a2 = 5 then (f_X6_cell (q + 5) 32 a1 μ).bind (fun v7 => (some v7)) else ((some (-1000)))))))))
set_option maxHeartbeats 4000000 in
set_option maxRecDepth 100000 in
theorem c_X1_part (l : Launch) {D : va_G} {cI cG cL : ClassId} {A : Nat → Prop} {EN : State → Heap → Prop} (hE : EnOK EN A) {w : Mem → va_W} {ad : Nat → Nat} {q : Nat} {a1 : Int32} {a2 : Int32} {a3 : Int32} {μ : Mem} {r : Int32} (hw : BedsAt cI w ad q) (h : f_X1_part q a1 a2 a3 μ = some r) : Met l yX1_part wsX1_part (rmk 1 22) (WPre D (tyl cI cG cL) A EN (w μ) [.ref (ad q), .int a1, .int a2, .int a3]) (PI D A (w μ) r) 0 0 A := by
  have hiX1 : ∀ w ∈ u_ws RX1 TX1 9, w ∈ wsX1_part := by decide +kernel
  have mf9 : Cond.fieldLink RX1 9 (TX1 0).1 (TX1 0).2.1 (TX1 0).2.2.1 ∈ wsX1_part := by decide +kernel
  have miX6 : Cond.initialized RX6 ∈ wsX1_part := by decide +kernel
  have ms47 : Cond.static yX6_cell ∈ wsX1_part := by decide +kernel
  have mf15 : Cond.fieldLink RX1 15 (TX1 1).1 (TX1 1).2.1 (TX1 1).2.2.1 ∈ wsX1_part := by decide +kernel
  have mf18 : Cond.fieldLink RX1 18 (TX1 2).1 (TX1 2).2.1 (TX1 2).2.2.1 ∈ wsX1_part := by decide +kernel
  have mf21 : Cond.fieldLink RX1 21 (TX1 3).1 (TX1 3).2.1 (TX1 3).2.2.1 ∈ wsX1_part := by decide +kernel
  have ms55 : Cond.static yX6_one ∈ wsX1_part := by decide +kernel
  have mf24 : Cond.fieldLink RX1 24 (TX1 4).1 (TX1 4).2.1 (TX1 4).2.2.1 ∈ wsX1_part := by decide +kernel
  refine met_start (cc := cX1_part) (nL := 4) (ret := (some .int)) (own := RX1) hE (by decide) rfl rfl (Nat.le_of_ble_eq_true rfl) (fun p e s m args below meth c ls X hS hl hr hlk => ?_)
  have hx := X.1.1
  have hb := X.1.2.1
  replace hl : lv_has ls 4 [(0, .ref (ad q)), (1, .int a1), (2, .int a2), (3, .int a3)] := hl
  unfold f_X1_part at h
  refine lv_iload_n hx hb dX1_part_0 rfl (lv_at hl 2 rfl) ?_
  by_cases cc0 : a2 = 0
  · replace h := it h cc0
    rw [cc0]
    refine lv_tableIn (off := 39) (tgt := 40) hx hb dX1_part_1 (by decide) (by decide) rfl (by decide) ?_
    refine lv_aload_n hx hb dX1_part_40 rfl (lv_at hl 0 rfl) ?_
    refine r_get X hS (T := TX1) (k := 0) (hw.1 μ).1 rfl hiX1 (by decide) mf9 rfl dX1_part_41 ?_
    refine lv_iload_n hx hb dX1_part_44 rfl (lv_at hl 1 rfl) ?_
    obtain ⟨v1, ev1, h⟩ := ob h
    refine r_ci hS (r_runSN (As := [.ref (ad (q + 1)), .int a1]) (rest := []) (host := RX6) X hS (c_X6_cell l hE (w := w) (ad := ad) (μ := μ) (D := D) (cI := cI) (cG := cG) (cL := cL) hw.2.1 ev1) (va_cnB 2 X.1.2.2.2.2 gX1_part_X6_cell_n47 rfl rfl rfl (X.nest 10 rfl) (X.1.2.2.2.2 _ miX6) (by decide +kernel) ⟨Nat.le_of_ble_eq_true rfl, Nat.le_of_ble_eq_true rfl⟩) (X.1.2.2.2.2 _ ms47) rfl hl.1 rfl (Nat.le_of_ble_eq_true rfl) dX1_part_45 ⟨Nat.zero_le _, Nat.zero_le _⟩) (fun H locs hS => ?_)
    cases h
    exact r_iret X hS hr hlk dX1_part_48
  · replace h := ie h cc0
    by_cases cc1 : a2 = 1
    · replace h := it h cc1
      rw [cc1]
      refine lv_tableIn (off := 48) (tgt := 49) hx hb dX1_part_1 (by decide) (by decide) rfl (by decide) ?_
      refine lv_aload_n hx hb dX1_part_49 rfl (lv_at hl 0 rfl) ?_
      refine r_get X hS (T := TX1) (k := 1) (hw.1 μ).1 rfl hiX1 (by decide) mf15 rfl dX1_part_50 ?_
      refine lv_iload_n hx hb dX1_part_53 rfl (lv_at hl 1 rfl) ?_
      obtain ⟨v2, ev2, h⟩ := ob h
      refine r_ci hS (r_runSN (As := [.ref (ad (q + 2)), .int a1]) (rest := []) (host := RX6) X hS (c_X6_cell l hE (w := w) (ad := ad) (μ := μ) (D := D) (cI := cI) (cG := cG) (cL := cL) hw.2.2.1 ev2) (va_cnB 2 X.1.2.2.2.2 gX1_part_X6_cell_n47 rfl rfl rfl (X.nest 10 rfl) (X.1.2.2.2.2 _ miX6) (by decide +kernel) ⟨Nat.le_of_ble_eq_true rfl, Nat.le_of_ble_eq_true rfl⟩) (X.1.2.2.2.2 _ ms47) rfl hl.1 rfl (Nat.le_of_ble_eq_true rfl) dX1_part_54 ⟨Nat.zero_le _, Nat.zero_le _⟩) (fun H locs hS => ?_)
      cases h
      exact r_iret X hS hr hlk dX1_part_57
    · replace h := ie h cc1
      by_cases cc2 : a2 = 2
      · replace h := it h cc2
        rw [cc2]
        refine lv_tableIn (off := 57) (tgt := 58) hx hb dX1_part_1 (by decide) (by decide) rfl (by decide) ?_
        refine lv_aload_n hx hb dX1_part_58 rfl (lv_at hl 0 rfl) ?_
        refine r_get X hS (T := TX1) (k := 2) (hw.1 μ).1 rfl hiX1 (by decide) mf18 rfl dX1_part_59 ?_
        refine lv_iload_n hx hb dX1_part_62 rfl (lv_at hl 1 rfl) ?_
        obtain ⟨v3, ev3, h⟩ := ob h
        refine r_ci hS (r_runSN (As := [.ref (ad (q + 3)), .int a1]) (rest := []) (host := RX6) X hS (c_X6_cell l hE (w := w) (ad := ad) (μ := μ) (D := D) (cI := cI) (cG := cG) (cL := cL) hw.2.2.2.1 ev3) (va_cnB 2 X.1.2.2.2.2 gX1_part_X6_cell_n47 rfl rfl rfl (X.nest 10 rfl) (X.1.2.2.2.2 _ miX6) (by decide +kernel) ⟨Nat.le_of_ble_eq_true rfl, Nat.le_of_ble_eq_true rfl⟩) (X.1.2.2.2.2 _ ms47) rfl hl.1 rfl (Nat.le_of_ble_eq_true rfl) dX1_part_63 ⟨Nat.zero_le _, Nat.zero_le _⟩) (fun H locs hS => ?_)
        cases h
        exact r_iret X hS hr hlk dX1_part_66
      · replace h := ie h cc2
        by_cases cc3 : a2 = 3
        · replace h := it h cc3
          rw [cc3]
          refine lv_tableIn (off := 66) (tgt := 67) hx hb dX1_part_1 (by decide) (by decide) rfl (by decide) ?_
          refine lv_aload_n hx hb dX1_part_67 rfl (lv_at hl 0 rfl) ?_
          refine r_get X hS (T := TX1) (k := 3) (hw.1 μ).1 rfl hiX1 (by decide) mf21 rfl dX1_part_68 ?_
          refine lv_iload_n hx hb dX1_part_71 rfl (lv_at hl 1 rfl) ?_
          obtain ⟨v4, ev4, h⟩ := ob h
          refine r_ci hS (r_runSN (As := [.ref (ad (q + 4)), .int a1]) (rest := []) (host := RX6) X hS (c_X6_cell l hE (w := w) (ad := ad) (μ := μ) (D := D) (cI := cI) (cG := cG) (cL := cL) hw.2.2.2.2.1 ev4) (va_cnB 2 X.1.2.2.2.2 gX1_part_X6_cell_n47 rfl rfl rfl (X.nest 10 rfl) (X.1.2.2.2.2 _ miX6) (by decide +kernel) ⟨Nat.le_of_ble_eq_true rfl, Nat.le_of_ble_eq_true rfl⟩) (X.1.2.2.2.2 _ ms47) rfl hl.1 rfl (Nat.le_of_ble_eq_true rfl) dX1_part_72 ⟨Nat.zero_le _, Nat.zero_le _⟩) (fun H locs hS => ?_)
          cases h
          exact r_iret X hS hr hlk dX1_part_75
        · replace h := ie h cc3
          by_cases cc4 : a2 = 4
          · replace h := it h cc4
            rw [cc4]
            refine lv_tableIn (off := 75) (tgt := 76) hx hb dX1_part_1 (by decide) (by decide) rfl (by decide) ?_
            refine lv_aload_n hx hb dX1_part_76 rfl (lv_at hl 0 rfl) ?_
            refine lv_iload_n hx hb dX1_part_77 rfl (lv_at hl 1 rfl) ?_
            refine lv_iload_n hx hb dX1_part_78 rfl (lv_at hl 3 rfl) ?_
            obtain ⟨v5, ev5, h⟩ := ob h
            refine r_ci hS (r_runV (As := [.int a1, .int a3]) (rest := []) X hS (c_X1_canBeDug l hE (w := w) (ad := ad) (μ := μ) (D := D) (cI := cI) (cG := cG) (cL := cL) hw ev5) (cwV 2 X.1.2.2.2.2 gX1_part_X1_canBeDug rfl rfl rfl (by decide +kernel) ⟨Nat.le_of_ble_eq_true rfl, Nat.le_of_ble_eq_true rfl⟩) (q0 := q) (ci := 0) rfl (hw.1 μ).1 rfl hl.1 rfl (Nat.le_of_ble_eq_true rfl) dX1_part_79 ⟨Nat.zero_le _, Nat.zero_le _⟩) (fun H locs hS => ?_)
            obtain ⟨v6, ev6, h⟩ := ob h
            refine r_ci hS (r_runSN (As := [.int v5]) (rest := []) (host := RX6) X hS (c_X6_one l hE (w := w) (ad := ad) (μ := μ) (D := D) (cI := cI) (cG := cG) (cL := cL) ev6) (va_cnB 1 X.1.2.2.2.2 gX1_part_X6_one_n55 rfl rfl rfl (X.nest 8 rfl) (X.1.2.2.2.2 _ miX6) (by decide +kernel) ⟨Nat.le_of_ble_eq_true rfl, Nat.le_of_ble_eq_true rfl⟩) (X.1.2.2.2.2 _ ms55) rfl hl.1 rfl (Nat.le_of_ble_eq_true rfl) dX1_part_82 ⟨Nat.zero_le _, Nat.zero_le _⟩) (fun H locs hS => ?_)
            cases h
            exact r_iret X hS hr hlk dX1_part_85
          · replace h := ie h cc4
            by_cases cc5 : a2 = 5
            · replace h := it h cc5
              rw [cc5]
              refine lv_tableIn (off := 85) (tgt := 86) hx hb dX1_part_1 (by decide) (by decide) rfl (by decide) ?_
              refine lv_aload_n hx hb dX1_part_86 rfl (lv_at hl 0 rfl) ?_
              refine r_get X hS (T := TX1) (k := 4) (hw.1 μ).1 rfl hiX1 (by decide) mf24 rfl dX1_part_87 ?_
              refine lv_iload_n hx hb dX1_part_90 rfl (lv_at hl 1 rfl) ?_
              obtain ⟨v7, ev7, h⟩ := ob h
              refine r_ci hS (r_runSN (As := [.ref (ad (q + 5)), .int a1]) (rest := []) (host := RX6) X hS (c_X6_cell l hE (w := w) (ad := ad) (μ := μ) (D := D) (cI := cI) (cG := cG) (cL := cL) hw.2.2.2.2.2.1 ev7) (va_cnB 2 X.1.2.2.2.2 gX1_part_X6_cell_n47 rfl rfl rfl (X.nest 10 rfl) (X.1.2.2.2.2 _ miX6) (by decide +kernel) ⟨Nat.le_of_ble_eq_true rfl, Nat.le_of_ble_eq_true rfl⟩) (X.1.2.2.2.2 _ ms47) rfl hl.1 rfl (Nat.le_of_ble_eq_true rfl) dX1_part_91 ⟨Nat.zero_le _, Nat.zero_le _⟩) (fun H locs hS => ?_)
              cases h
              exact r_iret X hS hr hlk dX1_part_94
            · replace h := ie h cc5
              refine lv_tableOut (tgt := 95) hx hb dX1_part_1 (sw_0_5 cc0 cc1 cc2 cc3 cc4 cc5) (by decide) ?_
              refine lv_sipush (v := (-1000)) hx hb dX1_part_95 (by decide) ?_
              cases h
              exact r_iret X hS hr hlk dX1_part_98
def f_X1_countInState_b26 (q : Nat) (k4 : Int32 → Int32 → Int32 → Mem → Option Int32) (x1 : Int32) (x3 : Int32) (s0 : Int32) (s1 : Int32) (μ : Mem) : Option Int32 := (f_X6_one s0).bind (fun v2 => k4 x1 (s1 + v2) (x3 + 1) μ)
def f_X1_countInState_b4 (q : Nat)  : Nat → Int32 → Int32 → Int32 → Mem → Option Int32
  | 0, _, _, _, _ => none
  | fuel4 + 1, x1, x2, x3, μ => (if 32 ≤ x3 then (some x2) else (rd 32 (μ (q + 1)) x3).bind (fun v1 => (if v1 = x1 then f_X1_countInState_b26 q (f_X1_countInState_b4 q fuel4) x1 x3 1 x2 μ else f_X1_countInState_b26 q (f_X1_countInState_b4 q fuel4) x1 x3 0 x2 μ)))
def f_X1_countInState (q : Nat) (a1 : Int32) (μ : Mem) : Option Int32 := f_X1_countInState_b4 q FU a1 0 0 μ
set_option maxHeartbeats 4000000 in
set_option maxRecDepth 100000 in
theorem c_X1_countInState (l : Launch) {D : va_G} {cI cG cL : ClassId} {A : Nat → Prop} {EN : State → Heap → Prop} (hE : EnOK EN A) {w : Mem → va_W} {ad : Nat → Nat} {q : Nat} {a1 : Int32} {μ : Mem} {r : Int32} (hw : BedsAt cI w ad q) (h : f_X1_countInState q a1 μ = some r) : Met l yX1_countInState wsX1_countInState (rmk 1 20) (WPre D (tyl cI cG cL) A EN (w μ) [.ref (ad q), .int a1]) (PI D A (w μ) r) 0 0 A := by
  have hiX1 : ∀ w ∈ u_ws RX1 TX1 9, w ∈ wsX1_countInState := by decide +kernel
  have mf9 : Cond.fieldLink RX1 9 (TX1 0).1 (TX1 0).2.1 (TX1 0).2.2.1 ∈ wsX1_countInState := by decide +kernel
  have miX6 : Cond.initialized RX6 ∈ wsX1_countInState := by decide +kernel
  have ms55 : Cond.static yX6_one ∈ wsX1_countInState := by decide +kernel
  refine met_start (cc := cX1_countInState) (nL := 4) (ret := (some .int)) (own := RX1) hE (by decide) rfl rfl (Nat.le_of_ble_eq_true rfl) (fun p e s m args below meth c ls X hS hl hr hlk => ?_)
  have hx := X.1.1
  have hb := X.1.2.1
  replace hl : lv_has ls 4 [(0, .ref (ad q)), (1, .int a1)] := hl
  have hb26 : ∀ (k4 : Int32 → Int32 → Int32 → Mem → Option Int32), (∀ (x1 : Int32) (x2 : Int32) (x3 : Int32) (H : Heap) (locs : List Loc) (ls : Array Slot), HS D A (w μ) s.heap H locs → lv_has ls 4 [(0, .ref (ad q)), (1, .int x1), (2, .int x2), (3, .int x3)] → k4 x1 x2 x3 μ = some r → W p l e (headSpec wsX1_countInState (rmk 1 20)).room s m args below meth c H locs 0 0 (MQ below (PI D A (w μ) r) args s 0 0 A) (F0 m 4 ls [])) → ∀ (x1 : Int32) (x3 : Int32) (s0 : Int32) (s1 : Int32) (H : Heap) (locs : List Loc) (ls : Array Slot), HS D A (w μ) s.heap H locs → lv_has ls 4 [(0, .ref (ad q)), (1, .int x1), (3, .int x3)] → f_X1_countInState_b26 q k4 x1 x3 s0 s1 μ = some r → W p l e (headSpec wsX1_countInState (rmk 1 20)).room s m args below meth c H locs 0 0 (MQ below (PI D A (w μ) r) args s 0 0 A) (F0 m 26 ls [.int s0, .int s1]) := by
    intro k4 hk4 x1 x3 s0 s1 H locs ls hS hl h
    unfold f_X1_countInState_b26 at h
    obtain ⟨v2, ev2, h⟩ := ob h
    refine r_ci hS (r_runSN (As := [.int s0]) (rest := [.int s1]) (host := RX6) X hS (c_X6_one l hE (w := w) (ad := ad) (μ := μ) (D := D) (cI := cI) (cG := cG) (cL := cL) ev2) (va_cnB 1 X.1.2.2.2.2 gX1_countInState_X6_one_n55 rfl rfl rfl (X.nest 8 rfl) (X.1.2.2.2.2 _ miX6) (by decide +kernel) ⟨Nat.le_of_ble_eq_true rfl, Nat.le_of_ble_eq_true rfl⟩) (X.1.2.2.2.2 _ ms55) rfl hl.1 rfl (Nat.le_of_ble_eq_true rfl) dX1_countInState_26 ⟨Nat.zero_le _, Nat.zero_le _⟩) (fun H locs hS => ?_)
    refine lv_iadd hx hb dX1_countInState_29 ?_
    refine lv_istore_n (lv' := [(2, .int (s1 + v2)), (0, .ref (ad q)), (1, .int x1), (3, .int x3)]) hx hb dX1_countInState_30 rfl hl (by decide) rfl (fun ls hl => ?_)
    refine lv_iinc (v := x3 + 1) (lv' := [(3, .int (x3 + 1)), (2, .int (s1 + v2)), (0, .ref (ad q)), (1, .int x1)]) hx hb dX1_countInState_31 hl (k := 3) rfl rfl (by decide) rfl (fun ls hl => ?_)
    refine lv_goto (tgt := 4) hx hb dX1_countInState_34 (by decide) ?_
    exact hk4 x1 (s1 + v2) (x3 + 1) _ _ _ hS (lv_sub hl [2, 3, 1, 0] rfl) h
  have hb4 : ∀ (fu : Nat) (x1 : Int32) (x2 : Int32) (x3 : Int32) (H : Heap) (locs : List Loc) (ls : Array Slot), HS D A (w μ) s.heap H locs → lv_has ls 4 [(0, .ref (ad q)), (1, .int x1), (2, .int x2), (3, .int x3)] → f_X1_countInState_b4 q fu x1 x2 x3 μ = some r → W p l e (headSpec wsX1_countInState (rmk 1 20)).room s m args below meth c H locs 0 0 (MQ below (PI D A (w μ) r) args s 0 0 A) (F0 m 4 ls []) := by
    intro fu
    induction fu with
    | zero =>
      intro x1 x2 x3 H locs ls hS hl h
      rw [f_X1_countInState_b4] at h
      cases h
    | succ fuel4 ih4 =>
      intro x1 x2 x3 H locs ls hS hl h
      rw [f_X1_countInState_b4] at h
      refine lv_iload_n hx hb dX1_countInState_4 rfl (lv_at hl 3 rfl) ?_
      refine lv_bipush (v := 32) hx hb dX1_countInState_5 (by decide) ?_
      refine lv_icmp_ge (tgt := 37) hx hb dX1_countInState_7 (by decide) (fun cc => ?_) (fun cc => ?_)
      · replace h := it h cc
        refine lv_iload_n hx hb dX1_countInState_37 rfl (lv_at hl 2 rfl) ?_
        cases h
        exact r_iret X hS hr hlk dX1_countInState_38
      · replace h := ie h cc
        refine lv_iload_n hx hb dX1_countInState_10 rfl (lv_at hl 2 rfl) ?_
        refine lv_aload_n hx hb dX1_countInState_11 rfl (lv_at hl 0 rfl) ?_
        refine r_get X hS (T := TX1) (k := 0) (hw.1 μ).1 rfl hiX1 (by decide) mf9 rfl dX1_countInState_12 ?_
        refine lv_iload_n hx hb dX1_countInState_15 rfl (lv_at hl 3 rfl) ?_
        obtain ⟨v1, ev1, h⟩ := ob h
        refine r_iald X hS (hw.2.1 μ).1 ev1 dX1_countInState_16 ?_
        refine lv_iload_n hx hb dX1_countInState_17 rfl (lv_at hl 1 rfl) ?_
        refine lv_icmp_ne (tgt := 25) hx hb dX1_countInState_18 (by decide) (fun cc => ?_) (fun cc => ?_)
        · replace h := ie h cc
          refine lv_iconst (v := 0) hx hb dX1_countInState_25 (by decide) ?_
          exact hb26 (f_X1_countInState_b4 q fuel4) ih4 x1 x3 0 x2 _ _ _ hS (lv_sub hl [0, 1, 3] rfl) h
        · replace h := it h cc
          refine lv_iconst (v := 1) hx hb dX1_countInState_21 (by decide) ?_
          refine lv_goto (tgt := 26) hx hb dX1_countInState_22 (by decide) ?_
          exact hb26 (f_X1_countInState_b4 q fuel4) ih4 x1 x3 1 x2 _ _ _ hS (lv_sub hl [0, 1, 3] rfl) h
  unfold f_X1_countInState at h
  refine lv_iconst (v := 0) hx hb dX1_countInState_0 (by decide) ?_
  refine lv_istore_n (lv' := [(2, .int 0), (0, .ref (ad q)), (1, .int a1)]) hx hb dX1_countInState_1 rfl hl (by decide) rfl (fun ls hl => ?_)
  refine lv_iconst (v := 0) hx hb dX1_countInState_2 (by decide) ?_
  refine lv_istore_n (lv' := [(3, .int 0), (2, .int 0), (0, .ref (ad q)), (1, .int a1)]) hx hb dX1_countInState_3 rfl hl (by decide) rfl (fun ls hl => ?_)
  exact hb4 FU a1 0 0 _ _ _ hS (lv_sub hl [2, 3, 1, 0] rfl) h
def f_X1_countFresh_b4 (q : Nat)  : Nat → Int32 → Int32 → Mem → Option Int32
  | 0, _, _, _ => none
  | fuel4 + 1, x1, x2, μ => (if 32 ≤ x2 then (some x1) else (rd 32 (μ (q + 5)) x2).bind (fun v1 => f_X1_countFresh_b4 q fuel4 (x1 + v1) (x2 + 1) μ))
def f_X1_countFresh (q : Nat) (μ : Mem) : Option Int32 := f_X1_countFresh_b4 q FU 0 0 μ
set_option maxHeartbeats 4000000 in
set_option maxRecDepth 100000 in
theorem c_X1_countFresh (l : Launch) {D : va_G} {cI cG cL : ClassId} {A : Nat → Prop} {EN : State → Heap → Prop} (hE : EnOK EN A) {w : Mem → va_W} {ad : Nat → Nat} {q : Nat} {μ : Mem} {r : Int32} (hw : BedsAt cI w ad q) (h : f_X1_countFresh q μ = some r) : Met l yX1_countFresh wsX1_countFresh (rmk 0 0) (WPre D (tyl cI cG cL) A EN (w μ) [.ref (ad q)]) (PI D A (w μ) r) 0 0 A := by
  have hiX1 : ∀ w ∈ u_ws RX1 TX1 9, w ∈ wsX1_countFresh := by decide +kernel
  have mf24 : Cond.fieldLink RX1 24 (TX1 4).1 (TX1 4).2.1 (TX1 4).2.2.1 ∈ wsX1_countFresh := by decide +kernel
  refine met_start (cc := cX1_countFresh) (nL := 3) (ret := (some .int)) (own := RX1) hE (by decide) rfl rfl (Nat.le_of_ble_eq_true rfl) (fun p e s m args below meth c ls X hS hl hr hlk => ?_)
  have hx := X.1.1
  have hb := X.1.2.1
  replace hl : lv_has ls 3 [(0, .ref (ad q))] := hl
  have hb4 : ∀ (fu : Nat) (x1 : Int32) (x2 : Int32) (H : Heap) (locs : List Loc) (ls : Array Slot), HS D A (w μ) s.heap H locs → lv_has ls 3 [(0, .ref (ad q)), (1, .int x1), (2, .int x2)] → f_X1_countFresh_b4 q fu x1 x2 μ = some r → W p l e (headSpec wsX1_countFresh (rmk 0 0)).room s m args below meth c H locs 0 0 (MQ below (PI D A (w μ) r) args s 0 0 A) (F0 m 4 ls []) := by
    intro fu
    induction fu with
    | zero =>
      intro x1 x2 H locs ls hS hl h
      rw [f_X1_countFresh_b4] at h
      cases h
    | succ fuel4 ih4 =>
      intro x1 x2 H locs ls hS hl h
      rw [f_X1_countFresh_b4] at h
      refine lv_iload_n hx hb dX1_countFresh_4 rfl (lv_at hl 2 rfl) ?_
      refine lv_bipush (v := 32) hx hb dX1_countFresh_5 (by decide) ?_
      refine lv_icmp_ge (tgt := 25) hx hb dX1_countFresh_7 (by decide) (fun cc => ?_) (fun cc => ?_)
      · replace h := it h cc
        refine lv_iload_n hx hb dX1_countFresh_25 rfl (lv_at hl 1 rfl) ?_
        cases h
        exact r_iret X hS hr hlk dX1_countFresh_26
      · replace h := ie h cc
        refine lv_iload_n hx hb dX1_countFresh_10 rfl (lv_at hl 1 rfl) ?_
        refine lv_aload_n hx hb dX1_countFresh_11 rfl (lv_at hl 0 rfl) ?_
        refine r_get X hS (T := TX1) (k := 4) (hw.1 μ).1 rfl hiX1 (by decide) mf24 rfl dX1_countFresh_12 ?_
        refine lv_iload_n hx hb dX1_countFresh_15 rfl (lv_at hl 2 rfl) ?_
        obtain ⟨v1, ev1, h⟩ := ob h
        refine r_iald X hS (hw.2.2.2.2.2.1 μ).1 ev1 dX1_countFresh_16 ?_
        refine lv_iadd hx hb dX1_countFresh_17 ?_
        refine lv_istore_n (lv' := [(1, .int (x1 + v1)), (0, .ref (ad q)), (2, .int x2)]) hx hb dX1_countFresh_18 rfl hl (by decide) rfl (fun ls hl => ?_)
        refine lv_iinc (v := x2 + 1) (lv' := [(2, .int (x2 + 1)), (1, .int (x1 + v1)), (0, .ref (ad q))]) hx hb dX1_countFresh_19 hl (k := 2) rfl rfl (by decide) rfl (fun ls hl => ?_)
        refine lv_goto (tgt := 4) hx hb dX1_countFresh_22 (by decide) ?_
        exact ih4 (x1 + v1) (x2 + 1) _ _ _ hS (lv_sub hl [2, 1, 0] rfl) h
  unfold f_X1_countFresh at h
  refine lv_iconst (v := 0) hx hb dX1_countFresh_0 (by decide) ?_
  refine lv_istore_n (lv' := [(1, .int 0), (0, .ref (ad q))]) hx hb dX1_countFresh_1 rfl hl (by decide) rfl (fun ls hl => ?_)
  refine lv_iconst (v := 0) hx hb dX1_countFresh_2 (by decide) ?_
  refine lv_istore_n (lv' := [(2, .int 0), (1, .int 0), (0, .ref (ad q))]) hx hb dX1_countFresh_3 rfl hl (by decide) rfl (fun ls hl => ?_)
  exact hb4 FU 0 0 _ _ _ hS (lv_sub hl [2, 1, 0] rfl) h
def f_X1_countLeft_b4 (q : Nat)  : Nat → Int32 → Int32 → Mem → Option Int32
  | 0, _, _, _ => none
  | fuel4 + 1, x1, x2, μ => (if 32 ≤ x2 then (some x1) else (rd 32 (μ (q + 6)) x2).bind (fun v1 => f_X1_countLeft_b4 q fuel4 (x1 + v1) (x2 + 1) μ))
def f_X1_countLeft (q : Nat) (μ : Mem) : Option Int32 := f_X1_countLeft_b4 q FU 0 0 μ
set_option maxHeartbeats 4000000 in
set_option maxRecDepth 100000 in
theorem c_X1_countLeft (l : Launch) {D : va_G} {cI cG cL : ClassId} {A : Nat → Prop} {EN : State → Heap → Prop} (hE : EnOK EN A) {w : Mem → va_W} {ad : Nat → Nat} {q : Nat} {μ : Mem} {r : Int32} (hw : BedsAt cI w ad q) (h : f_X1_countLeft q μ = some r) : Met l yX1_countLeft wsX1_countLeft (rmk 0 0) (WPre D (tyl cI cG cL) A EN (w μ) [.ref (ad q)]) (PI D A (w μ) r) 0 0 A := by
  have hiX1 : ∀ w ∈ u_ws RX1 TX1 9, w ∈ wsX1_countLeft := by decide +kernel
  have mf27 : Cond.fieldLink RX1 27 (TX1 5).1 (TX1 5).2.1 (TX1 5).2.2.1 ∈ wsX1_countLeft := by decide +kernel
  refine met_start (cc := cX1_countLeft) (nL := 3) (ret := (some .int)) (own := RX1) hE (by decide) rfl rfl (Nat.le_of_ble_eq_true rfl) (fun p e s m args below meth c ls X hS hl hr hlk => ?_)
  have hx := X.1.1
  have hb := X.1.2.1
  replace hl : lv_has ls 3 [(0, .ref (ad q))] := hl
  have hb4 : ∀ (fu : Nat) (x1 : Int32) (x2 : Int32) (H : Heap) (locs : List Loc) (ls : Array Slot), HS D A (w μ) s.heap H locs → lv_has ls 3 [(0, .ref (ad q)), (1, .int x1), (2, .int x2)] → f_X1_countLeft_b4 q fu x1 x2 μ = some r → W p l e (headSpec wsX1_countLeft (rmk 0 0)).room s m args below meth c H locs 0 0 (MQ below (PI D A (w μ) r) args s 0 0 A) (F0 m 4 ls []) := by
    intro fu
    induction fu with
    | zero =>
      intro x1 x2 H locs ls hS hl h
      rw [f_X1_countLeft_b4] at h
      cases h
    | succ fuel4 ih4 =>
      intro x1 x2 H locs ls hS hl h
      rw [f_X1_countLeft_b4] at h
      refine lv_iload_n hx hb dX1_countLeft_4 rfl (lv_at hl 2 rfl) ?_
      refine lv_bipush (v := 32) hx hb dX1_countLeft_5 (by decide) ?_
      refine lv_icmp_ge (tgt := 25) hx hb dX1_countLeft_7 (by decide) (fun cc => ?_) (fun cc => ?_)
      · replace h := it h cc
        refine lv_iload_n hx hb dX1_countLeft_25 rfl (lv_at hl 1 rfl) ?_
        cases h
        exact r_iret X hS hr hlk dX1_countLeft_26
      · replace h := ie h cc
        refine lv_iload_n hx hb dX1_countLeft_10 rfl (lv_at hl 1 rfl) ?_
        refine lv_aload_n hx hb dX1_countLeft_11 rfl (lv_at hl 0 rfl) ?_
        refine r_get X hS (T := TX1) (k := 5) (hw.1 μ).1 rfl hiX1 (by decide) mf27 rfl dX1_countLeft_12 ?_
        refine lv_iload_n hx hb dX1_countLeft_15 rfl (lv_at hl 2 rfl) ?_
        obtain ⟨v1, ev1, h⟩ := ob h
        refine r_iald X hS (hw.2.2.2.2.2.2.1 μ).1 ev1 dX1_countLeft_16 ?_
        refine lv_iadd hx hb dX1_countLeft_17 ?_
        refine lv_istore_n (lv' := [(1, .int (x1 + v1)), (0, .ref (ad q)), (2, .int x2)]) hx hb dX1_countLeft_18 rfl hl (by decide) rfl (fun ls hl => ?_)
        refine lv_iinc (v := x2 + 1) (lv' := [(2, .int (x2 + 1)), (1, .int (x1 + v1)), (0, .ref (ad q))]) hx hb dX1_countLeft_19 hl (k := 2) rfl rfl (by decide) rfl (fun ls hl => ?_)
        refine lv_goto (tgt := 4) hx hb dX1_countLeft_22 (by decide) ?_
        exact ih4 (x1 + v1) (x2 + 1) _ _ _ hS (lv_sub hl [2, 1, 0] rfl) h
  unfold f_X1_countLeft at h
  refine lv_iconst (v := 0) hx hb dX1_countLeft_0 (by decide) ?_
  refine lv_istore_n (lv' := [(1, .int 0), (0, .ref (ad q))]) hx hb dX1_countLeft_1 rfl hl (by decide) rfl (fun ls hl => ?_)
  refine lv_iconst (v := 0) hx hb dX1_countLeft_2 (by decide) ?_
  refine lv_istore_n (lv' := [(2, .int 0), (1, .int 0), (0, .ref (ad q))]) hx hb dX1_countLeft_3 rfl hl (by decide) rfl (fun ls hl => ?_)
  exact hb4 FU 0 0 _ _ _ hS (lv_sub hl [2, 1, 0] rfl) h
def f_X1_countFreedToDig_b4 (q : Nat)  : Nat → Int32 → Int32 → Int32 → Mem → Option Int32
  | 0, _, _, _, _ => none
  | fuel4 + 1, x1, x2, x3, μ => (if 32 ≤ x3 then (some x2) else (f_X1_canBeDug q x3 x1 μ).bind (fun v1 => (f_X6_one v1).bind (fun v2 => f_X1_countFreedToDig_b4 q fuel4 x1 (x2 + v2) (x3 + 1) μ)))
def f_X1_countFreedToDig (q : Nat) (a1 : Int32) (μ : Mem) : Option Int32 := f_X1_countFreedToDig_b4 q FU a1 0 0 μ
set_option maxHeartbeats 4000000 in
set_option maxRecDepth 100000 in
theorem c_X1_countFreedToDig (l : Launch) {D : va_G} {cI cG cL : ClassId} {A : Nat → Prop} {EN : State → Heap → Prop} (hE : EnOK EN A) {w : Mem → va_W} {ad : Nat → Nat} {q : Nat} {a1 : Int32} {μ : Mem} {r : Int32} (hw : BedsAt cI w ad q) (h : f_X1_countFreedToDig q a1 μ = some r) : Met l yX1_countFreedToDig wsX1_countFreedToDig (rmk 1 22) (WPre D (tyl cI cG cL) A EN (w μ) [.ref (ad q), .int a1]) (PI D A (w μ) r) 0 0 A := by
  have miX6 : Cond.initialized RX6 ∈ wsX1_countFreedToDig := by decide +kernel
  have ms55 : Cond.static yX6_one ∈ wsX1_countFreedToDig := by decide +kernel
  refine met_start (cc := cX1_countFreedToDig) (nL := 4) (ret := (some .int)) (own := RX1) hE (by decide) rfl rfl (Nat.le_of_ble_eq_true rfl) (fun p e s m args below meth c ls X hS hl hr hlk => ?_)
  have hx := X.1.1
  have hb := X.1.2.1
  replace hl : lv_has ls 4 [(0, .ref (ad q)), (1, .int a1)] := hl
  have hb4 : ∀ (fu : Nat) (x1 : Int32) (x2 : Int32) (x3 : Int32) (H : Heap) (locs : List Loc) (ls : Array Slot), HS D A (w μ) s.heap H locs → lv_has ls 4 [(0, .ref (ad q)), (1, .int x1), (2, .int x2), (3, .int x3)] → f_X1_countFreedToDig_b4 q fu x1 x2 x3 μ = some r → W p l e (headSpec wsX1_countFreedToDig (rmk 1 22)).room s m args below meth c H locs 0 0 (MQ below (PI D A (w μ) r) args s 0 0 A) (F0 m 4 ls []) := by
    intro fu
    induction fu with
    | zero =>
      intro x1 x2 x3 H locs ls hS hl h
      rw [f_X1_countFreedToDig_b4] at h
      cases h
    | succ fuel4 ih4 =>
      intro x1 x2 x3 H locs ls hS hl h
      rw [f_X1_countFreedToDig_b4] at h
      refine lv_iload_n hx hb dX1_countFreedToDig_4 rfl (lv_at hl 3 rfl) ?_
      refine lv_bipush (v := 32) hx hb dX1_countFreedToDig_5 (by decide) ?_
      refine lv_icmp_ge (tgt := 28) hx hb dX1_countFreedToDig_7 (by decide) (fun cc => ?_) (fun cc => ?_)
      · replace h := it h cc
        refine lv_iload_n hx hb dX1_countFreedToDig_28 rfl (lv_at hl 2 rfl) ?_
        cases h
        exact r_iret X hS hr hlk dX1_countFreedToDig_29
      · replace h := ie h cc
        refine lv_iload_n hx hb dX1_countFreedToDig_10 rfl (lv_at hl 2 rfl) ?_
        refine lv_aload_n hx hb dX1_countFreedToDig_11 rfl (lv_at hl 0 rfl) ?_
        refine lv_iload_n hx hb dX1_countFreedToDig_12 rfl (lv_at hl 3 rfl) ?_
        refine lv_iload_n hx hb dX1_countFreedToDig_13 rfl (lv_at hl 1 rfl) ?_
        obtain ⟨v1, ev1, h⟩ := ob h
        refine r_ci hS (r_runV (As := [.int x3, .int x1]) (rest := [.int x2]) X hS (c_X1_canBeDug l hE (w := w) (ad := ad) (μ := μ) (D := D) (cI := cI) (cG := cG) (cL := cL) hw ev1) (cwV 2 X.1.2.2.2.2 gX1_countFreedToDig_X1_canBeDug rfl rfl rfl (by decide +kernel) ⟨Nat.le_of_ble_eq_true rfl, Nat.le_of_ble_eq_true rfl⟩) (q0 := q) (ci := 0) rfl (hw.1 μ).1 rfl hl.1 rfl (Nat.le_of_ble_eq_true rfl) dX1_countFreedToDig_14 ⟨Nat.zero_le _, Nat.zero_le _⟩) (fun H locs hS => ?_)
        obtain ⟨v2, ev2, h⟩ := ob h
        refine r_ci hS (r_runSN (As := [.int v1]) (rest := [.int x2]) (host := RX6) X hS (c_X6_one l hE (w := w) (ad := ad) (μ := μ) (D := D) (cI := cI) (cG := cG) (cL := cL) ev2) (va_cnB 1 X.1.2.2.2.2 gX1_countFreedToDig_X6_one_n55 rfl rfl rfl (X.nest 8 rfl) (X.1.2.2.2.2 _ miX6) (by decide +kernel) ⟨Nat.le_of_ble_eq_true rfl, Nat.le_of_ble_eq_true rfl⟩) (X.1.2.2.2.2 _ ms55) rfl hl.1 rfl (Nat.le_of_ble_eq_true rfl) dX1_countFreedToDig_17 ⟨Nat.zero_le _, Nat.zero_le _⟩) (fun H locs hS => ?_)
        refine lv_iadd hx hb dX1_countFreedToDig_20 ?_
        refine lv_istore_n (lv' := [(2, .int (x2 + v2)), (0, .ref (ad q)), (1, .int x1), (3, .int x3)]) hx hb dX1_countFreedToDig_21 rfl hl (by decide) rfl (fun ls hl => ?_)
        refine lv_iinc (v := x3 + 1) (lv' := [(3, .int (x3 + 1)), (2, .int (x2 + v2)), (0, .ref (ad q)), (1, .int x1)]) hx hb dX1_countFreedToDig_22 hl (k := 3) rfl rfl (by decide) rfl (fun ls hl => ?_)
        refine lv_goto (tgt := 4) hx hb dX1_countFreedToDig_25 (by decide) ?_
        exact ih4 x1 (x2 + v2) (x3 + 1) _ _ _ hS (lv_sub hl [2, 3, 1, 0] rfl) h
  unfold f_X1_countFreedToDig at h
  refine lv_iconst (v := 0) hx hb dX1_countFreedToDig_0 (by decide) ?_
  refine lv_istore_n (lv' := [(2, .int 0), (0, .ref (ad q)), (1, .int a1)]) hx hb dX1_countFreedToDig_1 rfl hl (by decide) rfl (fun ls hl => ?_)
  refine lv_iconst (v := 0) hx hb dX1_countFreedToDig_2 (by decide) ?_
  refine lv_istore_n (lv' := [(3, .int 0), (2, .int 0), (0, .ref (ad q)), (1, .int a1)]) hx hb dX1_countFreedToDig_3 rfl hl (by decide) rfl (fun ls hl => ?_)
  exact hb4 FU a1 0 0 _ _ _ hS (lv_sub hl [2, 3, 1, 0] rfl) h
def f_X1_lowestWild_b2 (q : Nat)  : Nat → Int32 → Mem → Option Int32
  | 0, _, _ => none
  | fuel2 + 1, x1, μ => (if 32 ≤ x1 then (some (-1000)) else (rd 32 (μ (q + 1)) x1).bind (fun v1 => (if v1 = 0 then (some x1) else f_X1_lowestWild_b2 q fuel2 (x1 + 1) μ)))
def f_X1_lowestWild (q : Nat) (μ : Mem) : Option Int32 := f_X1_lowestWild_b2 q FU 0 μ
set_option maxHeartbeats 4000000 in
set_option maxRecDepth 100000 in
theorem c_X1_lowestWild (l : Launch) {D : va_G} {cI cG cL : ClassId} {A : Nat → Prop} {EN : State → Heap → Prop} (hE : EnOK EN A) {w : Mem → va_W} {ad : Nat → Nat} {q : Nat} {μ : Mem} {r : Int32} (hw : BedsAt cI w ad q) (h : f_X1_lowestWild q μ = some r) : Met l yX1_lowestWild wsX1_lowestWild (rmk 0 0) (WPre D (tyl cI cG cL) A EN (w μ) [.ref (ad q)]) (PI D A (w μ) r) 0 0 A := by
  have hiX1 : ∀ w ∈ u_ws RX1 TX1 9, w ∈ wsX1_lowestWild := by decide +kernel
  have mf9 : Cond.fieldLink RX1 9 (TX1 0).1 (TX1 0).2.1 (TX1 0).2.2.1 ∈ wsX1_lowestWild := by decide +kernel
  refine met_start (cc := cX1_lowestWild) (nL := 2) (ret := (some .int)) (own := RX1) hE (by decide) rfl rfl (Nat.le_of_ble_eq_true rfl) (fun p e s m args below meth c ls X hS hl hr hlk => ?_)
  have hx := X.1.1
  have hb := X.1.2.1
  replace hl : lv_has ls 2 [(0, .ref (ad q))] := hl
  have hb2 : ∀ (fu : Nat) (x1 : Int32) (H : Heap) (locs : List Loc) (ls : Array Slot), HS D A (w μ) s.heap H locs → lv_has ls 2 [(0, .ref (ad q)), (1, .int x1)] → f_X1_lowestWild_b2 q fu x1 μ = some r → W p l e (headSpec wsX1_lowestWild (rmk 0 0)).room s m args below meth c H locs 0 0 (MQ below (PI D A (w μ) r) args s 0 0 A) (F0 m 2 ls []) := by
    intro fu
    induction fu with
    | zero =>
      intro x1 H locs ls hS hl h
      rw [f_X1_lowestWild_b2] at h
      cases h
    | succ fuel2 ih2 =>
      intro x1 H locs ls hS hl h
      rw [f_X1_lowestWild_b2] at h
      refine lv_iload_n hx hb dX1_lowestWild_2 rfl (lv_at hl 1 rfl) ?_
      refine lv_bipush (v := 32) hx hb dX1_lowestWild_3 (by decide) ?_
      refine lv_icmp_ge (tgt := 25) hx hb dX1_lowestWild_5 (by decide) (fun cc => ?_) (fun cc => ?_)
      · replace h := it h cc
        refine lv_sipush (v := (-1000)) hx hb dX1_lowestWild_25 (by decide) ?_
        cases h
        exact r_iret X hS hr hlk dX1_lowestWild_28
      · replace h := ie h cc
        refine lv_aload_n hx hb dX1_lowestWild_8 rfl (lv_at hl 0 rfl) ?_
        refine r_get X hS (T := TX1) (k := 0) (hw.1 μ).1 rfl hiX1 (by decide) mf9 rfl dX1_lowestWild_9 ?_
        refine lv_iload_n hx hb dX1_lowestWild_12 rfl (lv_at hl 1 rfl) ?_
        obtain ⟨v1, ev1, h⟩ := ob h
        refine r_iald X hS (hw.2.1 μ).1 ev1 dX1_lowestWild_13 ?_
        refine lv_if_ne (tgt := 19) hx hb dX1_lowestWild_14 (by decide) (fun cc => ?_) (fun cc => ?_)
        · replace h := ie h cc
          refine lv_iinc (v := x1 + 1) (lv' := [(1, .int (x1 + 1)), (0, .ref (ad q))]) hx hb dX1_lowestWild_19 hl (k := 1) rfl rfl (by decide) rfl (fun ls hl => ?_)
          refine lv_goto (tgt := 2) hx hb dX1_lowestWild_22 (by decide) ?_
          exact ih2 (x1 + 1) _ _ _ hS (lv_sub hl [1, 0] rfl) h
        · replace h := it h cc
          refine lv_iload_n hx hb dX1_lowestWild_17 rfl (lv_at hl 1 rfl) ?_
          cases h
          exact r_iret X hS hr hlk dX1_lowestWild_18
  unfold f_X1_lowestWild at h
  refine lv_iconst (v := 0) hx hb dX1_lowestWild_0 (by decide) ?_
  refine lv_istore_n (lv' := [(1, .int 0), (0, .ref (ad q))]) hx hb dX1_lowestWild_1 rfl hl (by decide) rfl (fun ls hl => ?_)
  exact hb2 FU 0 _ _ _ hS (lv_sub hl [1, 0] rfl) h
def f_X1_bedToDig_b78 (q : Nat) (s0 : Int32) (μ : Mem) : Option Int32 := (some s0)
def f_X1_bedToDig_b57 (q : Nat) (k11 : Int32 → Int32 → Int32 → Int32 → Mem → Option Int32) (x1 : Int32) (x2 : Int32) (x3 : Int32) (x4 : Int32) (μ : Mem) : Option Int32 := k11 x1 x2 x3 (x4 + 1) μ
def f_X1_bedToDig_b46 (q : Nat) (k11 : Int32 → Int32 → Int32 → Int32 → Mem → Option Int32) (x1 : Int32) (x4 : Int32) (μ : Mem) : Option Int32 := (rd 32 (μ (q + 4)) x4).bind (fun v3 => f_X1_bedToDig_b57 q k11 x1 x4 v3 x4 μ)
def f_X1_bedToDig_b11 (q : Nat)  : Nat → Int32 → Int32 → Int32 → Int32 → Mem → Option Int32
  | 0, _, _, _, _, _ => none
  | fuel11 + 1, x1, x2, x3, x4, μ => (if 32 ≤ x4 then (if x2 = (-1000) then (f_X1_lowestWild q μ).bind (fun v1 => f_X1_bedToDig_b78 q v1 μ) else f_X1_bedToDig_b78 q x2 μ) else (f_X1_canBeDug q x4 x1 μ).bind (fun v2 => (if v2 = 0 then f_X1_bedToDig_b57 q (f_X1_bedToDig_b11 q fuel11) x1 x2 x3 x4 μ else (if x2 = (-1000) then f_X1_bedToDig_b46 q (f_X1_bedToDig_b11 q fuel11) x1 x4 μ else (rd 32 (μ (q + 4)) x4).bind (fun v4 => (if x3 ≤ v4 then f_X1_bedToDig_b57 q (f_X1_bedToDig_b11 q fuel11) x1 x2 x3 x4 μ else f_X1_bedToDig_b46 q (f_X1_bedToDig_b11 q fuel11) x1 x4 μ))))))
def f_X1_bedToDig (q : Nat) (a1 : Int32) (μ : Mem) : Option Int32 := f_X1_bedToDig_b11 q FU a1 (-1000) (-1000) 0 μ
set_option maxHeartbeats 4000000 in
set_option maxRecDepth 100000 in
theorem c_X1_bedToDig (l : Launch) {D : va_G} {cI cG cL : ClassId} {A : Nat → Prop} {EN : State → Heap → Prop} (hE : EnOK EN A) {w : Mem → va_W} {ad : Nat → Nat} {q : Nat} {a1 : Int32} {μ : Mem} {r : Int32} (hw : BedsAt cI w ad q) (h : f_X1_bedToDig q a1 μ = some r) : Met l yX1_bedToDig wsX1_bedToDig (rmk 1 22) (WPre D (tyl cI cG cL) A EN (w μ) [.ref (ad q), .int a1]) (PI D A (w μ) r) 0 0 A := by
  have hiX1 : ∀ w ∈ u_ws RX1 TX1 9, w ∈ wsX1_bedToDig := by decide +kernel
  have mf21 : Cond.fieldLink RX1 21 (TX1 3).1 (TX1 3).2.1 (TX1 3).2.2.1 ∈ wsX1_bedToDig := by decide +kernel
  refine met_start (cc := cX1_bedToDig) (nL := 5) (ret := (some .int)) (own := RX1) hE (by decide) rfl rfl (Nat.le_of_ble_eq_true rfl) (fun p e s m args below meth c ls X hS hl hr hlk => ?_)
  have hx := X.1.1
  have hb := X.1.2.1
  replace hl : lv_has ls 5 [(0, .ref (ad q)), (1, .int a1)] := hl
  have hb78 : ∀ (s0 : Int32) (H : Heap) (locs : List Loc) (ls : Array Slot), HS D A (w μ) s.heap H locs → lv_has ls 5 [] → f_X1_bedToDig_b78 q s0 μ = some r → W p l e (headSpec wsX1_bedToDig (rmk 1 22)).room s m args below meth c H locs 0 0 (MQ below (PI D A (w μ) r) args s 0 0 A) (F0 m 78 ls [.int s0]) := by
    intro s0 H locs ls hS hl h
    unfold f_X1_bedToDig_b78 at h
    cases h
    exact r_iret X hS hr hlk dX1_bedToDig_78
  have hb57 : ∀ (k11 : Int32 → Int32 → Int32 → Int32 → Mem → Option Int32), (∀ (x1 : Int32) (x2 : Int32) (x3 : Int32) (x4 : Int32) (H : Heap) (locs : List Loc) (ls : Array Slot), HS D A (w μ) s.heap H locs → lv_has ls 5 [(0, .ref (ad q)), (1, .int x1), (2, .int x2), (3, .int x3), (4, .int x4)] → k11 x1 x2 x3 x4 μ = some r → W p l e (headSpec wsX1_bedToDig (rmk 1 22)).room s m args below meth c H locs 0 0 (MQ below (PI D A (w μ) r) args s 0 0 A) (F0 m 11 ls [])) → ∀ (x1 : Int32) (x2 : Int32) (x3 : Int32) (x4 : Int32) (H : Heap) (locs : List Loc) (ls : Array Slot), HS D A (w μ) s.heap H locs → lv_has ls 5 [(0, .ref (ad q)), (1, .int x1), (2, .int x2), (3, .int x3), (4, .int x4)] → f_X1_bedToDig_b57 q k11 x1 x2 x3 x4 μ = some r → W p l e (headSpec wsX1_bedToDig (rmk 1 22)).room s m args below meth c H locs 0 0 (MQ below (PI D A (w μ) r) args s 0 0 A) (F0 m 57 ls []) := by
    intro k11 hk11 x1 x2 x3 x4 H locs ls hS hl h
    unfold f_X1_bedToDig_b57 at h
    refine lv_iinc (v := x4 + 1) (lv' := [(4, .int (x4 + 1)), (0, .ref (ad q)), (1, .int x1), (2, .int x2), (3, .int x3)]) hx hb dX1_bedToDig_57 hl (k := 4) rfl rfl (by decide) rfl (fun ls hl => ?_)
    refine lv_goto (tgt := 11) hx hb dX1_bedToDig_60 (by decide) ?_
    exact hk11 x1 x2 x3 (x4 + 1) _ _ _ hS (lv_sub hl [1, 2, 3, 4, 0] rfl) h
  have hb46 : ∀ (k11 : Int32 → Int32 → Int32 → Int32 → Mem → Option Int32), (∀ (x1 : Int32) (x2 : Int32) (x3 : Int32) (x4 : Int32) (H : Heap) (locs : List Loc) (ls : Array Slot), HS D A (w μ) s.heap H locs → lv_has ls 5 [(0, .ref (ad q)), (1, .int x1), (2, .int x2), (3, .int x3), (4, .int x4)] → k11 x1 x2 x3 x4 μ = some r → W p l e (headSpec wsX1_bedToDig (rmk 1 22)).room s m args below meth c H locs 0 0 (MQ below (PI D A (w μ) r) args s 0 0 A) (F0 m 11 ls [])) → ∀ (x1 : Int32) (x4 : Int32) (H : Heap) (locs : List Loc) (ls : Array Slot), HS D A (w μ) s.heap H locs → lv_has ls 5 [(0, .ref (ad q)), (1, .int x1), (4, .int x4)] → f_X1_bedToDig_b46 q k11 x1 x4 μ = some r → W p l e (headSpec wsX1_bedToDig (rmk 1 22)).room s m args below meth c H locs 0 0 (MQ below (PI D A (w μ) r) args s 0 0 A) (F0 m 46 ls []) := by
    intro k11 hk11 x1 x4 H locs ls hS hl h
    unfold f_X1_bedToDig_b46 at h
    refine lv_iload hx hb dX1_bedToDig_46 (lv_at hl 2 rfl) ?_
    refine lv_istore_n (lv' := [(2, .int x4), (0, .ref (ad q)), (1, .int x1), (4, .int x4)]) hx hb dX1_bedToDig_48 rfl hl (by decide) rfl (fun ls hl => ?_)
    refine lv_aload_n hx hb dX1_bedToDig_49 rfl (lv_at hl 1 rfl) ?_
    refine r_get X hS (T := TX1) (k := 3) (hw.1 μ).1 rfl hiX1 (by decide) mf21 rfl dX1_bedToDig_50 ?_
    refine lv_iload hx hb dX1_bedToDig_53 (lv_at hl 3 rfl) ?_
    obtain ⟨v3, ev3, h⟩ := ob h
    refine r_iald X hS (hw.2.2.2.2.1 μ).1 ev3 dX1_bedToDig_55 ?_
    refine lv_istore_n (lv' := [(3, .int v3), (2, .int x4), (0, .ref (ad q)), (1, .int x1), (4, .int x4)]) hx hb dX1_bedToDig_56 rfl hl (by decide) rfl (fun ls hl => ?_)
    exact hb57 k11 hk11 x1 x4 v3 x4 _ _ _ hS (lv_sub hl [2, 3, 1, 0, 4] rfl) h
  have hb11 : ∀ (fu : Nat) (x1 : Int32) (x2 : Int32) (x3 : Int32) (x4 : Int32) (H : Heap) (locs : List Loc) (ls : Array Slot), HS D A (w μ) s.heap H locs → lv_has ls 5 [(0, .ref (ad q)), (1, .int x1), (2, .int x2), (3, .int x3), (4, .int x4)] → f_X1_bedToDig_b11 q fu x1 x2 x3 x4 μ = some r → W p l e (headSpec wsX1_bedToDig (rmk 1 22)).room s m args below meth c H locs 0 0 (MQ below (PI D A (w μ) r) args s 0 0 A) (F0 m 11 ls []) := by
    intro fu
    induction fu with
    | zero =>
      intro x1 x2 x3 x4 H locs ls hS hl h
      rw [f_X1_bedToDig_b11] at h
      cases h
    | succ fuel11 ih11 =>
      intro x1 x2 x3 x4 H locs ls hS hl h
      rw [f_X1_bedToDig_b11] at h
      refine lv_iload hx hb dX1_bedToDig_11 (lv_at hl 4 rfl) ?_
      refine lv_bipush (v := 32) hx hb dX1_bedToDig_13 (by decide) ?_
      refine lv_icmp_ge (tgt := 63) hx hb dX1_bedToDig_15 (by decide) (fun cc => ?_) (fun cc => ?_)
      · replace h := it h cc
        refine lv_iload_n hx hb dX1_bedToDig_63 rfl (lv_at hl 2 rfl) ?_
        refine lv_sipush (v := (-1000)) hx hb dX1_bedToDig_64 (by decide) ?_
        refine lv_icmp_ne (tgt := 77) hx hb dX1_bedToDig_67 (by decide) (fun cc => ?_) (fun cc => ?_)
        · replace h := ie h cc
          refine lv_iload_n hx hb dX1_bedToDig_77 rfl (lv_at hl 2 rfl) ?_
          exact hb78 x2 _ _ _ hS (lv_sub hl [] rfl) h
        · replace h := it h cc
          refine lv_aload_n hx hb dX1_bedToDig_70 rfl (lv_at hl 0 rfl) ?_
          obtain ⟨v1, ev1, h⟩ := ob h
          refine r_ci hS (r_runV (As := []) (rest := []) X hS (c_X1_lowestWild l hE (w := w) (ad := ad) (μ := μ) (D := D) (cI := cI) (cG := cG) (cL := cL) hw ev1) (cwV 0 X.1.2.2.2.2 gX1_bedToDig_X1_lowestWild rfl rfl rfl (by decide +kernel) ⟨Nat.le_of_ble_eq_true rfl, Nat.le_of_ble_eq_true rfl⟩) (q0 := q) (ci := 0) rfl (hw.1 μ).1 rfl hl.1 rfl (Nat.le_of_ble_eq_true rfl) dX1_bedToDig_71 ⟨Nat.zero_le _, Nat.zero_le _⟩) (fun H locs hS => ?_)
          refine lv_goto (tgt := 78) hx hb dX1_bedToDig_74 (by decide) ?_
          exact hb78 v1 _ _ _ hS (lv_sub hl [] rfl) h
      · replace h := ie h cc
        refine lv_aload_n hx hb dX1_bedToDig_18 rfl (lv_at hl 0 rfl) ?_
        refine lv_iload hx hb dX1_bedToDig_19 (lv_at hl 4 rfl) ?_
        refine lv_iload_n hx hb dX1_bedToDig_21 rfl (lv_at hl 1 rfl) ?_
        obtain ⟨v2, ev2, h⟩ := ob h
        refine r_ci hS (r_runV (As := [.int x4, .int x1]) (rest := []) X hS (c_X1_canBeDug l hE (w := w) (ad := ad) (μ := μ) (D := D) (cI := cI) (cG := cG) (cL := cL) hw ev2) (cwV 2 X.1.2.2.2.2 gX1_bedToDig_X1_canBeDug rfl rfl rfl (by decide +kernel) ⟨Nat.le_of_ble_eq_true rfl, Nat.le_of_ble_eq_true rfl⟩) (q0 := q) (ci := 0) rfl (hw.1 μ).1 rfl hl.1 rfl (Nat.le_of_ble_eq_true rfl) dX1_bedToDig_22 ⟨Nat.zero_le _, Nat.zero_le _⟩) (fun H locs hS => ?_)
        refine lv_if_eq (tgt := 57) hx hb dX1_bedToDig_25 (by decide) (fun cc => ?_) (fun cc => ?_)
        · replace h := it h cc
          exact hb57 (f_X1_bedToDig_b11 q fuel11) ih11 x1 x2 x3 x4 _ _ _ hS (lv_sub hl [0, 1, 2, 3, 4] rfl) h
        · replace h := ie h cc
          refine lv_iload_n hx hb dX1_bedToDig_28 rfl (lv_at hl 2 rfl) ?_
          refine lv_sipush (v := (-1000)) hx hb dX1_bedToDig_29 (by decide) ?_
          refine lv_icmp_eq (tgt := 46) hx hb dX1_bedToDig_32 (by decide) (fun cc => ?_) (fun cc => ?_)
          · replace h := it h cc
            exact hb46 (f_X1_bedToDig_b11 q fuel11) ih11 x1 x4 _ _ _ hS (lv_sub hl [0, 1, 4] rfl) h
          · replace h := ie h cc
            refine lv_aload_n hx hb dX1_bedToDig_35 rfl (lv_at hl 0 rfl) ?_
            refine r_get X hS (T := TX1) (k := 3) (hw.1 μ).1 rfl hiX1 (by decide) mf21 rfl dX1_bedToDig_36 ?_
            refine lv_iload hx hb dX1_bedToDig_39 (lv_at hl 4 rfl) ?_
            obtain ⟨v4, ev4, h⟩ := ob h
            refine r_iald X hS (hw.2.2.2.2.1 μ).1 ev4 dX1_bedToDig_41 ?_
            refine lv_iload_n hx hb dX1_bedToDig_42 rfl (lv_at hl 3 rfl) ?_
            refine lv_icmp_ge (tgt := 57) hx hb dX1_bedToDig_43 (by decide) (fun cc => ?_) (fun cc => ?_)
            · replace h := it h cc
              exact hb57 (f_X1_bedToDig_b11 q fuel11) ih11 x1 x2 x3 x4 _ _ _ hS (lv_sub hl [0, 1, 2, 3, 4] rfl) h
            · replace h := ie h cc
              exact hb46 (f_X1_bedToDig_b11 q fuel11) ih11 x1 x4 _ _ _ hS (lv_sub hl [0, 1, 4] rfl) h
  unfold f_X1_bedToDig at h
  refine lv_sipush (v := (-1000)) hx hb dX1_bedToDig_0 (by decide) ?_
  refine lv_istore_n (lv' := [(2, .int (-1000)), (0, .ref (ad q)), (1, .int a1)]) hx hb dX1_bedToDig_3 rfl hl (by decide) rfl (fun ls hl => ?_)
  refine lv_sipush (v := (-1000)) hx hb dX1_bedToDig_4 (by decide) ?_
  refine lv_istore_n (lv' := [(3, .int (-1000)), (2, .int (-1000)), (0, .ref (ad q)), (1, .int a1)]) hx hb dX1_bedToDig_7 rfl hl (by decide) rfl (fun ls hl => ?_)
  refine lv_iconst (v := 0) hx hb dX1_bedToDig_8 (by decide) ?_
  refine lv_istore (lv' := [(4, .int 0), (3, .int (-1000)), (2, .int (-1000)), (0, .ref (ad q)), (1, .int a1)]) hx hb dX1_bedToDig_9 hl (by decide) rfl (fun ls hl => ?_)
  exact hb11 FU a1 (-1000) (-1000) 0 _ _ _ hS (lv_sub hl [3, 4, 2, 1, 0] rfl) h
def f_X1_useFresh (q : Nat) (a1 : Int32) (a2 : Int32) (μ : Mem) : Option Mem := (f_X6_setCell (q + 1) 32 a1 1 μ).bind (fun μ1 => (f_X6_setCell (q + 2) 32 a1 a2 μ1).bind (fun μ2 => (f_X6_setCell (q + 3) 32 a1 0 μ2).bind (fun μ3 => (f_X6_setCell (q + 4) 32 a1 (-1000) μ3).bind (fun μ4 => (f_X6_setCell (q + 5) 32 a1 1 μ4).bind (fun μ5 => (some μ5))))))
set_option maxHeartbeats 4000000 in
set_option maxRecDepth 100000 in
theorem c_X1_useFresh (l : Launch) {D : va_G} {cI cG cL : ClassId} {A : Nat → Prop} {EN : State → Heap → Prop} (hE : EnOK EN A) {w : Mem → va_W} {ad : Nat → Nat} {q : Nat} {a1 : Int32} {a2 : Int32} {μ : Mem}  {μ' : Mem} (hw : BedsAt cI w ad q) (h : f_X1_useFresh q a1 a2 μ = some μ') : Met l yX1_useFresh wsX1_useFresh (rmk 1 22) (WPre D (tyl cI cG cL) A EN (w μ) [.ref (ad q), .int a1, .int a2]) (PV D A (w μ')) 0 0 A := by
  have hiX1 : ∀ w ∈ u_ws RX1 TX1 9, w ∈ wsX1_useFresh := by decide +kernel
  have mf9 : Cond.fieldLink RX1 9 (TX1 0).1 (TX1 0).2.1 (TX1 0).2.2.1 ∈ wsX1_useFresh := by decide +kernel
  have miX6 : Cond.initialized RX6 ∈ wsX1_useFresh := by decide +kernel
  have ms63 : Cond.static yX6_setCell ∈ wsX1_useFresh := by decide +kernel
  have mf15 : Cond.fieldLink RX1 15 (TX1 1).1 (TX1 1).2.1 (TX1 1).2.2.1 ∈ wsX1_useFresh := by decide +kernel
  have mf18 : Cond.fieldLink RX1 18 (TX1 2).1 (TX1 2).2.1 (TX1 2).2.2.1 ∈ wsX1_useFresh := by decide +kernel
  have mf21 : Cond.fieldLink RX1 21 (TX1 3).1 (TX1 3).2.1 (TX1 3).2.2.1 ∈ wsX1_useFresh := by decide +kernel
  have mf24 : Cond.fieldLink RX1 24 (TX1 4).1 (TX1 4).2.1 (TX1 4).2.2.1 ∈ wsX1_useFresh := by decide +kernel
  refine met_start (cc := cX1_useFresh) (nL := 3) (ret := none) (own := RX1) hE (by decide) rfl rfl (Nat.le_of_ble_eq_true rfl) (fun p e s m args below meth c ls X hS hl hr hlk => ?_)
  have hx := X.1.1
  have hb := X.1.2.1
  replace hl : lv_has ls 3 [(0, .ref (ad q)), (1, .int a1), (2, .int a2)] := hl
  unfold f_X1_useFresh at h
  refine lv_aload_n hx hb dX1_useFresh_0 rfl (lv_at hl 0 rfl) ?_
  refine r_get X hS (T := TX1) (k := 0) (hw.1 μ).1 rfl hiX1 (by decide) mf9 rfl dX1_useFresh_1 ?_
  refine lv_iload_n hx hb dX1_useFresh_4 rfl (lv_at hl 1 rfl) ?_
  refine lv_iconst (v := 1) hx hb dX1_useFresh_5 (by decide) ?_
  obtain ⟨μ1, eμ1, h⟩ := ob h
  refine r_cv hS (r_runSN (As := [.ref (ad (q + 1)), .int a1, .int 1]) (rest := []) (host := RX6) X hS (c_X6_setCell l hE (w := w) (ad := ad) (μ := μ) (D := D) (cI := cI) (cG := cG) (cL := cL) hw.2.1 eμ1) (va_cnB 3 X.1.2.2.2.2 gX1_useFresh_X6_setCell_n63 rfl rfl rfl (X.nest 2 rfl) (X.1.2.2.2.2 _ miX6) (by decide +kernel) ⟨Nat.le_of_ble_eq_true rfl, Nat.le_of_ble_eq_true rfl⟩) (X.1.2.2.2.2 _ ms63) rfl hl.1 rfl (Nat.le_of_ble_eq_true rfl) dX1_useFresh_6 ⟨Nat.zero_le _, Nat.zero_le _⟩) (fun H locs hS => ?_)
  refine lv_aload_n hx hb dX1_useFresh_9 rfl (lv_at hl 0 rfl) ?_
  refine r_get X hS (T := TX1) (k := 1) (hw.1 μ1).1 rfl hiX1 (by decide) mf15 rfl dX1_useFresh_10 ?_
  refine lv_iload_n hx hb dX1_useFresh_13 rfl (lv_at hl 1 rfl) ?_
  refine lv_iload_n hx hb dX1_useFresh_14 rfl (lv_at hl 2 rfl) ?_
  obtain ⟨μ2, eμ2, h⟩ := ob h
  refine r_cv hS (r_runSN (As := [.ref (ad (q + 2)), .int a1, .int a2]) (rest := []) (host := RX6) X hS (c_X6_setCell l hE (w := w) (ad := ad) (μ := μ1) (D := D) (cI := cI) (cG := cG) (cL := cL) hw.2.2.1 eμ2) (va_cnB 3 X.1.2.2.2.2 gX1_useFresh_X6_setCell_n63 rfl rfl rfl (X.nest 2 rfl) (X.1.2.2.2.2 _ miX6) (by decide +kernel) ⟨Nat.le_of_ble_eq_true rfl, Nat.le_of_ble_eq_true rfl⟩) (X.1.2.2.2.2 _ ms63) rfl hl.1 rfl (Nat.le_of_ble_eq_true rfl) dX1_useFresh_15 ⟨Nat.zero_le _, Nat.zero_le _⟩) (fun H locs hS => ?_)
  refine lv_aload_n hx hb dX1_useFresh_18 rfl (lv_at hl 0 rfl) ?_
  refine r_get X hS (T := TX1) (k := 2) (hw.1 μ2).1 rfl hiX1 (by decide) mf18 rfl dX1_useFresh_19 ?_
  refine lv_iload_n hx hb dX1_useFresh_22 rfl (lv_at hl 1 rfl) ?_
  refine lv_iconst (v := 0) hx hb dX1_useFresh_23 (by decide) ?_
  obtain ⟨μ3, eμ3, h⟩ := ob h
  refine r_cv hS (r_runSN (As := [.ref (ad (q + 3)), .int a1, .int 0]) (rest := []) (host := RX6) X hS (c_X6_setCell l hE (w := w) (ad := ad) (μ := μ2) (D := D) (cI := cI) (cG := cG) (cL := cL) hw.2.2.2.1 eμ3) (va_cnB 3 X.1.2.2.2.2 gX1_useFresh_X6_setCell_n63 rfl rfl rfl (X.nest 2 rfl) (X.1.2.2.2.2 _ miX6) (by decide +kernel) ⟨Nat.le_of_ble_eq_true rfl, Nat.le_of_ble_eq_true rfl⟩) (X.1.2.2.2.2 _ ms63) rfl hl.1 rfl (Nat.le_of_ble_eq_true rfl) dX1_useFresh_24 ⟨Nat.zero_le _, Nat.zero_le _⟩) (fun H locs hS => ?_)
  refine lv_aload_n hx hb dX1_useFresh_27 rfl (lv_at hl 0 rfl) ?_
  refine r_get X hS (T := TX1) (k := 3) (hw.1 μ3).1 rfl hiX1 (by decide) mf21 rfl dX1_useFresh_28 ?_
  refine lv_iload_n hx hb dX1_useFresh_31 rfl (lv_at hl 1 rfl) ?_
  refine lv_sipush (v := (-1000)) hx hb dX1_useFresh_32 (by decide) ?_
  obtain ⟨μ4, eμ4, h⟩ := ob h
  refine r_cv hS (r_runSN (As := [.ref (ad (q + 4)), .int a1, .int (-1000)]) (rest := []) (host := RX6) X hS (c_X6_setCell l hE (w := w) (ad := ad) (μ := μ3) (D := D) (cI := cI) (cG := cG) (cL := cL) hw.2.2.2.2.1 eμ4) (va_cnB 3 X.1.2.2.2.2 gX1_useFresh_X6_setCell_n63 rfl rfl rfl (X.nest 2 rfl) (X.1.2.2.2.2 _ miX6) (by decide +kernel) ⟨Nat.le_of_ble_eq_true rfl, Nat.le_of_ble_eq_true rfl⟩) (X.1.2.2.2.2 _ ms63) rfl hl.1 rfl (Nat.le_of_ble_eq_true rfl) dX1_useFresh_35 ⟨Nat.zero_le _, Nat.zero_le _⟩) (fun H locs hS => ?_)
  refine lv_aload_n hx hb dX1_useFresh_38 rfl (lv_at hl 0 rfl) ?_
  refine r_get X hS (T := TX1) (k := 4) (hw.1 μ4).1 rfl hiX1 (by decide) mf24 rfl dX1_useFresh_39 ?_
  refine lv_iload_n hx hb dX1_useFresh_42 rfl (lv_at hl 1 rfl) ?_
  refine lv_iconst (v := 1) hx hb dX1_useFresh_43 (by decide) ?_
  obtain ⟨μ5, eμ5, h⟩ := ob h
  refine r_cv hS (r_runSN (As := [.ref (ad (q + 5)), .int a1, .int 1]) (rest := []) (host := RX6) X hS (c_X6_setCell l hE (w := w) (ad := ad) (μ := μ4) (D := D) (cI := cI) (cG := cG) (cL := cL) hw.2.2.2.2.2.1 eμ5) (va_cnB 3 X.1.2.2.2.2 gX1_useFresh_X6_setCell_n63 rfl rfl rfl (X.nest 2 rfl) (X.1.2.2.2.2 _ miX6) (by decide +kernel) ⟨Nat.le_of_ble_eq_true rfl, Nat.le_of_ble_eq_true rfl⟩) (X.1.2.2.2.2 _ ms63) rfl hl.1 rfl (Nat.le_of_ble_eq_true rfl) dX1_useFresh_44 ⟨Nat.zero_le _, Nat.zero_le _⟩) (fun H locs hS => ?_)
  cases h
  exact r_vret X hS hr hlk dX1_useFresh_47
def f_X1_makeWild (q : Nat) (a1 : Int32) (μ : Mem) : Option Mem := (f_X6_setCell (q + 1) 32 a1 0 μ).bind (fun μ1 => (f_X6_setCell (q + 2) 32 a1 (-1000) μ1).bind (fun μ2 => (f_X6_setCell (q + 3) 32 a1 (-1000) μ2).bind (fun μ3 => (f_X6_setCell (q + 4) 32 a1 (-1000) μ3).bind (fun μ4 => (f_X6_setCell (q + 5) 32 a1 0 μ4).bind (fun μ5 => (some μ5))))))
set_option maxHeartbeats 4000000 in
set_option maxRecDepth 100000 in
theorem c_X1_makeWild (l : Launch) {D : va_G} {cI cG cL : ClassId} {A : Nat → Prop} {EN : State → Heap → Prop} (hE : EnOK EN A) {w : Mem → va_W} {ad : Nat → Nat} {q : Nat} {a1 : Int32} {μ : Mem}  {μ' : Mem} (hw : BedsAt cI w ad q) (h : f_X1_makeWild q a1 μ = some μ') : Met l yX1_makeWild wsX1_makeWild (rmk 1 22) (WPre D (tyl cI cG cL) A EN (w μ) [.ref (ad q), .int a1]) (PV D A (w μ')) 0 0 A := by
  have hiX1 : ∀ w ∈ u_ws RX1 TX1 9, w ∈ wsX1_makeWild := by decide +kernel
  have mf9 : Cond.fieldLink RX1 9 (TX1 0).1 (TX1 0).2.1 (TX1 0).2.2.1 ∈ wsX1_makeWild := by decide +kernel
  have miX6 : Cond.initialized RX6 ∈ wsX1_makeWild := by decide +kernel
  have ms63 : Cond.static yX6_setCell ∈ wsX1_makeWild := by decide +kernel
  have mf15 : Cond.fieldLink RX1 15 (TX1 1).1 (TX1 1).2.1 (TX1 1).2.2.1 ∈ wsX1_makeWild := by decide +kernel
  have mf18 : Cond.fieldLink RX1 18 (TX1 2).1 (TX1 2).2.1 (TX1 2).2.2.1 ∈ wsX1_makeWild := by decide +kernel
  have mf21 : Cond.fieldLink RX1 21 (TX1 3).1 (TX1 3).2.1 (TX1 3).2.2.1 ∈ wsX1_makeWild := by decide +kernel
  have mf24 : Cond.fieldLink RX1 24 (TX1 4).1 (TX1 4).2.1 (TX1 4).2.2.1 ∈ wsX1_makeWild := by decide +kernel
  refine met_start (cc := cX1_makeWild) (nL := 2) (ret := none) (own := RX1) hE (by decide) rfl rfl (Nat.le_of_ble_eq_true rfl) (fun p e s m args below meth c ls X hS hl hr hlk => ?_)
  have hx := X.1.1
  have hb := X.1.2.1
  replace hl : lv_has ls 2 [(0, .ref (ad q)), (1, .int a1)] := hl
  unfold f_X1_makeWild at h
  refine lv_aload_n hx hb dX1_makeWild_0 rfl (lv_at hl 0 rfl) ?_
  refine r_get X hS (T := TX1) (k := 0) (hw.1 μ).1 rfl hiX1 (by decide) mf9 rfl dX1_makeWild_1 ?_
  refine lv_iload_n hx hb dX1_makeWild_4 rfl (lv_at hl 1 rfl) ?_
  refine lv_iconst (v := 0) hx hb dX1_makeWild_5 (by decide) ?_
  obtain ⟨μ1, eμ1, h⟩ := ob h
  refine r_cv hS (r_runSN (As := [.ref (ad (q + 1)), .int a1, .int 0]) (rest := []) (host := RX6) X hS (c_X6_setCell l hE (w := w) (ad := ad) (μ := μ) (D := D) (cI := cI) (cG := cG) (cL := cL) hw.2.1 eμ1) (va_cnB 3 X.1.2.2.2.2 gX1_makeWild_X6_setCell_n63 rfl rfl rfl (X.nest 2 rfl) (X.1.2.2.2.2 _ miX6) (by decide +kernel) ⟨Nat.le_of_ble_eq_true rfl, Nat.le_of_ble_eq_true rfl⟩) (X.1.2.2.2.2 _ ms63) rfl hl.1 rfl (Nat.le_of_ble_eq_true rfl) dX1_makeWild_6 ⟨Nat.zero_le _, Nat.zero_le _⟩) (fun H locs hS => ?_)
  refine lv_aload_n hx hb dX1_makeWild_9 rfl (lv_at hl 0 rfl) ?_
  refine r_get X hS (T := TX1) (k := 1) (hw.1 μ1).1 rfl hiX1 (by decide) mf15 rfl dX1_makeWild_10 ?_
  refine lv_iload_n hx hb dX1_makeWild_13 rfl (lv_at hl 1 rfl) ?_
  refine lv_sipush (v := (-1000)) hx hb dX1_makeWild_14 (by decide) ?_
  obtain ⟨μ2, eμ2, h⟩ := ob h
  refine r_cv hS (r_runSN (As := [.ref (ad (q + 2)), .int a1, .int (-1000)]) (rest := []) (host := RX6) X hS (c_X6_setCell l hE (w := w) (ad := ad) (μ := μ1) (D := D) (cI := cI) (cG := cG) (cL := cL) hw.2.2.1 eμ2) (va_cnB 3 X.1.2.2.2.2 gX1_makeWild_X6_setCell_n63 rfl rfl rfl (X.nest 2 rfl) (X.1.2.2.2.2 _ miX6) (by decide +kernel) ⟨Nat.le_of_ble_eq_true rfl, Nat.le_of_ble_eq_true rfl⟩) (X.1.2.2.2.2 _ ms63) rfl hl.1 rfl (Nat.le_of_ble_eq_true rfl) dX1_makeWild_17 ⟨Nat.zero_le _, Nat.zero_le _⟩) (fun H locs hS => ?_)
  refine lv_aload_n hx hb dX1_makeWild_20 rfl (lv_at hl 0 rfl) ?_
  refine r_get X hS (T := TX1) (k := 2) (hw.1 μ2).1 rfl hiX1 (by decide) mf18 rfl dX1_makeWild_21 ?_
  refine lv_iload_n hx hb dX1_makeWild_24 rfl (lv_at hl 1 rfl) ?_
  refine lv_sipush (v := (-1000)) hx hb dX1_makeWild_25 (by decide) ?_
  obtain ⟨μ3, eμ3, h⟩ := ob h
  refine r_cv hS (r_runSN (As := [.ref (ad (q + 3)), .int a1, .int (-1000)]) (rest := []) (host := RX6) X hS (c_X6_setCell l hE (w := w) (ad := ad) (μ := μ2) (D := D) (cI := cI) (cG := cG) (cL := cL) hw.2.2.2.1 eμ3) (va_cnB 3 X.1.2.2.2.2 gX1_makeWild_X6_setCell_n63 rfl rfl rfl (X.nest 2 rfl) (X.1.2.2.2.2 _ miX6) (by decide +kernel) ⟨Nat.le_of_ble_eq_true rfl, Nat.le_of_ble_eq_true rfl⟩) (X.1.2.2.2.2 _ ms63) rfl hl.1 rfl (Nat.le_of_ble_eq_true rfl) dX1_makeWild_28 ⟨Nat.zero_le _, Nat.zero_le _⟩) (fun H locs hS => ?_)
  refine lv_aload_n hx hb dX1_makeWild_31 rfl (lv_at hl 0 rfl) ?_
  refine r_get X hS (T := TX1) (k := 3) (hw.1 μ3).1 rfl hiX1 (by decide) mf21 rfl dX1_makeWild_32 ?_
  refine lv_iload_n hx hb dX1_makeWild_35 rfl (lv_at hl 1 rfl) ?_
  refine lv_sipush (v := (-1000)) hx hb dX1_makeWild_36 (by decide) ?_
  obtain ⟨μ4, eμ4, h⟩ := ob h
  refine r_cv hS (r_runSN (As := [.ref (ad (q + 4)), .int a1, .int (-1000)]) (rest := []) (host := RX6) X hS (c_X6_setCell l hE (w := w) (ad := ad) (μ := μ3) (D := D) (cI := cI) (cG := cG) (cL := cL) hw.2.2.2.2.1 eμ4) (va_cnB 3 X.1.2.2.2.2 gX1_makeWild_X6_setCell_n63 rfl rfl rfl (X.nest 2 rfl) (X.1.2.2.2.2 _ miX6) (by decide +kernel) ⟨Nat.le_of_ble_eq_true rfl, Nat.le_of_ble_eq_true rfl⟩) (X.1.2.2.2.2 _ ms63) rfl hl.1 rfl (Nat.le_of_ble_eq_true rfl) dX1_makeWild_39 ⟨Nat.zero_le _, Nat.zero_le _⟩) (fun H locs hS => ?_)
  refine lv_aload_n hx hb dX1_makeWild_42 rfl (lv_at hl 0 rfl) ?_
  refine r_get X hS (T := TX1) (k := 4) (hw.1 μ4).1 rfl hiX1 (by decide) mf24 rfl dX1_makeWild_43 ?_
  refine lv_iload_n hx hb dX1_makeWild_46 rfl (lv_at hl 1 rfl) ?_
  refine lv_iconst (v := 0) hx hb dX1_makeWild_47 (by decide) ?_
  obtain ⟨μ5, eμ5, h⟩ := ob h
  refine r_cv hS (r_runSN (As := [.ref (ad (q + 5)), .int a1, .int 0]) (rest := []) (host := RX6) X hS (c_X6_setCell l hE (w := w) (ad := ad) (μ := μ4) (D := D) (cI := cI) (cG := cG) (cL := cL) hw.2.2.2.2.2.1 eμ5) (va_cnB 3 X.1.2.2.2.2 gX1_makeWild_X6_setCell_n63 rfl rfl rfl (X.nest 2 rfl) (X.1.2.2.2.2 _ miX6) (by decide +kernel) ⟨Nat.le_of_ble_eq_true rfl, Nat.le_of_ble_eq_true rfl⟩) (X.1.2.2.2.2 _ ms63) rfl hl.1 rfl (Nat.le_of_ble_eq_true rfl) dX1_makeWild_48 ⟨Nat.zero_le _, Nat.zero_le _⟩) (fun H locs hS => ?_)
  cases h
  exact r_vret X hS hr hlk dX1_makeWild_51
def f_X1_leave_b25 (q : Nat)  (μ : Mem) : Option Mem := (some μ)
def f_X1_leave (q : Nat) (a1 : Int32) (μ : Mem) : Option Mem := (f_X1_isFresh q a1 μ).bind (fun v1 => (if v1 = 0 then (f_X6_setCell (q + 6) 32 a1 1 μ).bind (fun μ2 => f_X1_leave_b25 q μ2) else (f_X1_makeWild q a1 μ).bind (fun μ3 => f_X1_leave_b25 q μ3)))
set_option maxHeartbeats 4000000 in
set_option maxRecDepth 100000 in
theorem c_X1_leave (l : Launch) {D : va_G} {cI cG cL : ClassId} {A : Nat → Prop} {EN : State → Heap → Prop} (hE : EnOK EN A) {w : Mem → va_W} {ad : Nat → Nat} {q : Nat} {a1 : Int32} {μ : Mem}  {μ' : Mem} (hw : BedsAt cI w ad q) (h : f_X1_leave q a1 μ = some μ') : Met l yX1_leave wsX1_leave (rmk 2 43) (WPre D (tyl cI cG cL) A EN (w μ) [.ref (ad q), .int a1]) (PV D A (w μ')) 0 0 A := by
  have hiX1 : ∀ w ∈ u_ws RX1 TX1 9, w ∈ wsX1_leave := by decide +kernel
  have mf27 : Cond.fieldLink RX1 27 (TX1 5).1 (TX1 5).2.1 (TX1 5).2.2.1 ∈ wsX1_leave := by decide +kernel
  have miX6 : Cond.initialized RX6 ∈ wsX1_leave := by decide +kernel
  have ms63 : Cond.static yX6_setCell ∈ wsX1_leave := by decide +kernel
  refine met_start (cc := cX1_leave) (nL := 2) (ret := none) (own := RX1) hE (by decide) rfl rfl (Nat.le_of_ble_eq_true rfl) (fun p e s m args below meth c ls X hS hl hr hlk => ?_)
  have hx := X.1.1
  have hb := X.1.2.1
  replace hl : lv_has ls 2 [(0, .ref (ad q)), (1, .int a1)] := hl
  have hb25 : ∀  (μ : Mem) (H : Heap) (locs : List Loc) (ls : Array Slot), HS D A (w μ) s.heap H locs → lv_has ls 2 [] → f_X1_leave_b25 q μ = some μ' → W p l e (headSpec wsX1_leave (rmk 2 43)).room s m args below meth c H locs 0 0 (MQ below (PV D A (w μ')) args s 0 0 A) (F0 m 25 ls []) := by
    intro μ H locs ls hS hl h
    unfold f_X1_leave_b25 at h
    cases h
    exact r_vret X hS hr hlk dX1_leave_25
  unfold f_X1_leave at h
  refine lv_aload_n hx hb dX1_leave_0 rfl (lv_at hl 0 rfl) ?_
  refine lv_iload_n hx hb dX1_leave_1 rfl (lv_at hl 1 rfl) ?_
  obtain ⟨v1, ev1, h⟩ := ob h
  refine r_ci hS (r_runV (As := [.int a1]) (rest := []) X hS (c_X1_isFresh l hE (w := w) (ad := ad) (μ := μ) (D := D) (cI := cI) (cG := cG) (cL := cL) hw ev1) (cwV 1 X.1.2.2.2.2 gX1_leave_X1_isFresh rfl rfl rfl (by decide +kernel) ⟨Nat.le_of_ble_eq_true rfl, Nat.le_of_ble_eq_true rfl⟩) (q0 := q) (ci := 0) rfl (hw.1 μ).1 rfl hl.1 rfl (Nat.le_of_ble_eq_true rfl) dX1_leave_2 ⟨Nat.zero_le _, Nat.zero_le _⟩) (fun H locs hS => ?_)
  refine lv_if_eq (tgt := 16) hx hb dX1_leave_5 (by decide) (fun cc => ?_) (fun cc => ?_)
  · replace h := it h cc
    refine lv_aload_n hx hb dX1_leave_16 rfl (lv_at hl 0 rfl) ?_
    refine r_get X hS (T := TX1) (k := 5) (hw.1 μ).1 rfl hiX1 (by decide) mf27 rfl dX1_leave_17 ?_
    refine lv_iload_n hx hb dX1_leave_20 rfl (lv_at hl 1 rfl) ?_
    refine lv_iconst (v := 1) hx hb dX1_leave_21 (by decide) ?_
    obtain ⟨μ2, eμ2, h⟩ := ob h
    refine r_cv hS (r_runSN (As := [.ref (ad (q + 6)), .int a1, .int 1]) (rest := []) (host := RX6) X hS (c_X6_setCell l hE (w := w) (ad := ad) (μ := μ) (D := D) (cI := cI) (cG := cG) (cL := cL) hw.2.2.2.2.2.2.1 eμ2) (va_cnB 3 X.1.2.2.2.2 gX1_leave_X6_setCell_n63 rfl rfl rfl (X.nest 2 rfl) (X.1.2.2.2.2 _ miX6) (by decide +kernel) ⟨Nat.le_of_ble_eq_true rfl, Nat.le_of_ble_eq_true rfl⟩) (X.1.2.2.2.2 _ ms63) rfl hl.1 rfl (Nat.le_of_ble_eq_true rfl) dX1_leave_22 ⟨Nat.zero_le _, Nat.zero_le _⟩) (fun H locs hS => ?_)
    exact hb25 μ2 _ _ _ hS (lv_sub hl [] rfl) h
  · replace h := ie h cc
    refine lv_aload_n hx hb dX1_leave_8 rfl (lv_at hl 0 rfl) ?_
    refine lv_iload_n hx hb dX1_leave_9 rfl (lv_at hl 1 rfl) ?_
    obtain ⟨μ3, eμ3, h⟩ := ob h
    refine r_cv hS (r_runV (As := [.int a1]) (rest := []) X hS (c_X1_makeWild l hE (w := w) (ad := ad) (μ := μ) (D := D) (cI := cI) (cG := cG) (cL := cL) hw eμ3) (cwV 1 X.1.2.2.2.2 gX1_leave_X1_makeWild rfl rfl rfl (by decide +kernel) ⟨Nat.le_of_ble_eq_true rfl, Nat.le_of_ble_eq_true rfl⟩) (q0 := q) (ci := 0) rfl (hw.1 μ).1 rfl hl.1 rfl (Nat.le_of_ble_eq_true rfl) dX1_leave_10 ⟨Nat.zero_le _, Nat.zero_le _⟩) (fun H locs hS => ?_)
    refine lv_goto (tgt := 25) hx hb dX1_leave_13 (by decide) ?_
    exact hb25 μ3 _ _ _ hS (lv_sub hl [] rfl) h
def f_X1_freeLeft_b44 (q : Nat) (k4 : Int32 → Int32 → Int32 → Mem → Option (Int32 × Mem)) (x1 : Int32) (x2 : Int32) (x3 : Int32) (μ : Mem) : Option (Int32 × Mem) := k4 x1 x2 (x3 + 1) μ
def f_X1_freeLeft_b4 (q : Nat)  : Nat → Int32 → Int32 → Int32 → Mem → Option (Int32 × Mem)
  | 0, _, _, _, _ => none
  | fuel4 + 1, x1, x2, x3, μ => (if 32 ≤ x3 then (some (x2, μ)) else (rd 32 (μ (q + 6)) x3).bind (fun v1 => (if v1 = 1 then (wr μ (q + 1) 32 x3 2).bind (fun μ2 => (wr μ2 (q + 4) 32 x3 x1).bind (fun μ3 => (wr μ3 (q + 6) 32 x3 0).bind (fun μ4 => f_X1_freeLeft_b44 q (f_X1_freeLeft_b4 q fuel4) x1 (x2 + 1) x3 μ4))) else f_X1_freeLeft_b44 q (f_X1_freeLeft_b4 q fuel4) x1 x2 x3 μ)))
def f_X1_freeLeft (q : Nat) (a1 : Int32) (μ : Mem) : Option (Int32 × Mem) := f_X1_freeLeft_b4 q FU a1 0 0 μ
set_option maxHeartbeats 4000000 in
set_option maxRecDepth 100000 in
theorem c_X1_freeLeft (l : Launch) {D : va_G} {cI cG cL : ClassId} {A : Nat → Prop} {EN : State → Heap → Prop} (hE : EnOK EN A) {w : Mem → va_W} {ad : Nat → Nat} {q : Nat} {a1 : Int32} {μ : Mem} {r : Int32} {μ' : Mem} (hw : BedsAt cI w ad q) (h : f_X1_freeLeft q a1 μ = some (r, μ')) : Met l yX1_freeLeft wsX1_freeLeft (rmk 0 0) (WPre D (tyl cI cG cL) A EN (w μ) [.ref (ad q), .int a1]) (PI D A (w μ') r) 0 0 A := by
  have hiX1 : ∀ w ∈ u_ws RX1 TX1 9, w ∈ wsX1_freeLeft := by decide +kernel
  have mf27 : Cond.fieldLink RX1 27 (TX1 5).1 (TX1 5).2.1 (TX1 5).2.2.1 ∈ wsX1_freeLeft := by decide +kernel
  have mf9 : Cond.fieldLink RX1 9 (TX1 0).1 (TX1 0).2.1 (TX1 0).2.2.1 ∈ wsX1_freeLeft := by decide +kernel
  have mf21 : Cond.fieldLink RX1 21 (TX1 3).1 (TX1 3).2.1 (TX1 3).2.2.1 ∈ wsX1_freeLeft := by decide +kernel
  refine met_start (cc := cX1_freeLeft) (nL := 4) (ret := (some .int)) (own := RX1) hE (by decide) rfl rfl (Nat.le_of_ble_eq_true rfl) (fun p e s m args below meth c ls X hS hl hr hlk => ?_)
  have hx := X.1.1
  have hb := X.1.2.1
  replace hl : lv_has ls 4 [(0, .ref (ad q)), (1, .int a1)] := hl
  have hb44 : ∀ (k4 : Int32 → Int32 → Int32 → Mem → Option (Int32 × Mem)), (∀ (x1 : Int32) (x2 : Int32) (x3 : Int32) (μ : Mem) (H : Heap) (locs : List Loc) (ls : Array Slot), HS D A (w μ) s.heap H locs → lv_has ls 4 [(0, .ref (ad q)), (1, .int x1), (2, .int x2), (3, .int x3)] → k4 x1 x2 x3 μ = some (r, μ') → W p l e (headSpec wsX1_freeLeft (rmk 0 0)).room s m args below meth c H locs 0 0 (MQ below (PI D A (w μ') r) args s 0 0 A) (F0 m 4 ls [])) → ∀ (x1 : Int32) (x2 : Int32) (x3 : Int32) (μ : Mem) (H : Heap) (locs : List Loc) (ls : Array Slot), HS D A (w μ) s.heap H locs → lv_has ls 4 [(0, .ref (ad q)), (1, .int x1), (2, .int x2), (3, .int x3)] → f_X1_freeLeft_b44 q k4 x1 x2 x3 μ = some (r, μ') → W p l e (headSpec wsX1_freeLeft (rmk 0 0)).room s m args below meth c H locs 0 0 (MQ below (PI D A (w μ') r) args s 0 0 A) (F0 m 44 ls []) := by
    intro k4 hk4 x1 x2 x3 μ H locs ls hS hl h
    unfold f_X1_freeLeft_b44 at h
    refine lv_iinc (v := x3 + 1) (lv' := [(3, .int (x3 + 1)), (0, .ref (ad q)), (1, .int x1), (2, .int x2)]) hx hb dX1_freeLeft_44 hl (k := 3) rfl rfl (by decide) rfl (fun ls hl => ?_)
    refine lv_goto (tgt := 4) hx hb dX1_freeLeft_47 (by decide) ?_
    exact hk4 x1 x2 (x3 + 1) μ _ _ _ hS (lv_sub hl [1, 2, 3, 0] rfl) h
  have hb4 : ∀ (fu : Nat) (x1 : Int32) (x2 : Int32) (x3 : Int32) (μ : Mem) (H : Heap) (locs : List Loc) (ls : Array Slot), HS D A (w μ) s.heap H locs → lv_has ls 4 [(0, .ref (ad q)), (1, .int x1), (2, .int x2), (3, .int x3)] → f_X1_freeLeft_b4 q fu x1 x2 x3 μ = some (r, μ') → W p l e (headSpec wsX1_freeLeft (rmk 0 0)).room s m args below meth c H locs 0 0 (MQ below (PI D A (w μ') r) args s 0 0 A) (F0 m 4 ls []) := by
    intro fu
    induction fu with
    | zero =>
      intro x1 x2 x3 μ H locs ls hS hl h
      rw [f_X1_freeLeft_b4] at h
      cases h
    | succ fuel4 ih4 =>
      intro x1 x2 x3 μ H locs ls hS hl h
      rw [f_X1_freeLeft_b4] at h
      refine lv_iload_n hx hb dX1_freeLeft_4 rfl (lv_at hl 3 rfl) ?_
      refine lv_bipush (v := 32) hx hb dX1_freeLeft_5 (by decide) ?_
      refine lv_icmp_ge (tgt := 50) hx hb dX1_freeLeft_7 (by decide) (fun cc => ?_) (fun cc => ?_)
      · replace h := it h cc
        refine lv_iload_n hx hb dX1_freeLeft_50 rfl (lv_at hl 2 rfl) ?_
        obtain ⟨rfl, rfl⟩ := pr2 h
        exact r_iret X hS hr hlk dX1_freeLeft_51
      · replace h := ie h cc
        refine lv_aload_n hx hb dX1_freeLeft_10 rfl (lv_at hl 0 rfl) ?_
        refine r_get X hS (T := TX1) (k := 5) (hw.1 μ).1 rfl hiX1 (by decide) mf27 rfl dX1_freeLeft_11 ?_
        refine lv_iload_n hx hb dX1_freeLeft_14 rfl (lv_at hl 3 rfl) ?_
        obtain ⟨v1, ev1, h⟩ := ob h
        refine r_iald X hS (hw.2.2.2.2.2.2.1 μ).1 ev1 dX1_freeLeft_15 ?_
        refine lv_iconst (v := 1) hx hb dX1_freeLeft_16 (by decide) ?_
        refine lv_icmp_ne (tgt := 44) hx hb dX1_freeLeft_17 (by decide) (fun cc => ?_) (fun cc => ?_)
        · replace h := ie h cc
          exact hb44 (f_X1_freeLeft_b4 q fuel4) ih4 x1 x2 x3 μ _ _ _ hS (lv_sub hl [0, 1, 2, 3] rfl) h
        · replace h := it h cc
          refine lv_aload_n hx hb dX1_freeLeft_20 rfl (lv_at hl 0 rfl) ?_
          refine r_get X hS (T := TX1) (k := 0) (hw.1 μ).1 rfl hiX1 (by decide) mf9 rfl dX1_freeLeft_21 ?_
          refine lv_iload_n hx hb dX1_freeLeft_24 rfl (lv_at hl 3 rfl) ?_
          refine lv_iconst (v := 2) hx hb dX1_freeLeft_25 (by decide) ?_
          obtain ⟨μ2, eμ2, h⟩ := ob h
          refine r_iast X hS hw.2.1 eμ2 dX1_freeLeft_26 (fun H locs hS => ?_)
          refine lv_aload_n hx hb dX1_freeLeft_27 rfl (lv_at hl 0 rfl) ?_
          refine r_get X hS (T := TX1) (k := 3) (hw.1 μ2).1 rfl hiX1 (by decide) mf21 rfl dX1_freeLeft_28 ?_
          refine lv_iload_n hx hb dX1_freeLeft_31 rfl (lv_at hl 3 rfl) ?_
          refine lv_iload_n hx hb dX1_freeLeft_32 rfl (lv_at hl 1 rfl) ?_
          obtain ⟨μ3, eμ3, h⟩ := ob h
          refine r_iast X hS hw.2.2.2.2.1 eμ3 dX1_freeLeft_33 (fun H locs hS => ?_)
          refine lv_aload_n hx hb dX1_freeLeft_34 rfl (lv_at hl 0 rfl) ?_
          refine r_get X hS (T := TX1) (k := 5) (hw.1 μ3).1 rfl hiX1 (by decide) mf27 rfl dX1_freeLeft_35 ?_
          refine lv_iload_n hx hb dX1_freeLeft_38 rfl (lv_at hl 3 rfl) ?_
          refine lv_iconst (v := 0) hx hb dX1_freeLeft_39 (by decide) ?_
          obtain ⟨μ4, eμ4, h⟩ := ob h
          refine r_iast X hS hw.2.2.2.2.2.2.1 eμ4 dX1_freeLeft_40 (fun H locs hS => ?_)
          refine lv_iinc (v := x2 + 1) (lv' := [(2, .int (x2 + 1)), (0, .ref (ad q)), (1, .int x1), (3, .int x3)]) hx hb dX1_freeLeft_41 hl (k := 2) rfl rfl (by decide) rfl (fun ls hl => ?_)
          exact hb44 (f_X1_freeLeft_b4 q fuel4) ih4 x1 (x2 + 1) x3 μ4 _ _ _ hS (lv_sub hl [1, 2, 0, 3] rfl) h
  unfold f_X1_freeLeft at h
  refine lv_iconst (v := 0) hx hb dX1_freeLeft_0 (by decide) ?_
  refine lv_istore_n (lv' := [(2, .int 0), (0, .ref (ad q)), (1, .int a1)]) hx hb dX1_freeLeft_1 rfl hl (by decide) rfl (fun ls hl => ?_)
  refine lv_iconst (v := 0) hx hb dX1_freeLeft_2 (by decide) ?_
  refine lv_istore_n (lv' := [(3, .int 0), (2, .int 0), (0, .ref (ad q)), (1, .int a1)]) hx hb dX1_freeLeft_3 rfl hl (by decide) rfl (fun ls hl => ?_)
  exact hb4 FU a1 0 0 μ _ _ _ hS (lv_sub hl [2, 3, 1, 0] rfl) h
def f_X1_keepFresh (q : Nat) (μ : Mem) : Option Mem := (f_X6_fillRow (q + 5) 32 0 μ).bind (fun μ1 => (some μ1))
set_option maxHeartbeats 4000000 in
set_option maxRecDepth 100000 in
theorem c_X1_keepFresh (l : Launch) {D : va_G} {cI cG cL : ClassId} {A : Nat → Prop} {EN : State → Heap → Prop} (hE : EnOK EN A) {w : Mem → va_W} {ad : Nat → Nat} {q : Nat} {μ : Mem}  {μ' : Mem} (hw : BedsAt cI w ad q) (h : f_X1_keepFresh q μ = some μ') : Met l yX1_keepFresh wsX1_keepFresh (rmk 1 22) (WPre D (tyl cI cG cL) A EN (w μ) [.ref (ad q)]) (PV D A (w μ')) 0 0 A := by
  have hiX1 : ∀ w ∈ u_ws RX1 TX1 9, w ∈ wsX1_keepFresh := by decide +kernel
  have mf24 : Cond.fieldLink RX1 24 (TX1 4).1 (TX1 4).2.1 (TX1 4).2.2.1 ∈ wsX1_keepFresh := by decide +kernel
  have miX6 : Cond.initialized RX6 ∈ wsX1_keepFresh := by decide +kernel
  have ms39 : Cond.static yX6_fillRow ∈ wsX1_keepFresh := by decide +kernel
  refine met_start (cc := cX1_keepFresh) (nL := 1) (ret := none) (own := RX1) hE (by decide) rfl rfl (Nat.le_of_ble_eq_true rfl) (fun p e s m args below meth c ls X hS hl hr hlk => ?_)
  have hx := X.1.1
  have hb := X.1.2.1
  replace hl : lv_has ls 1 [(0, .ref (ad q))] := hl
  unfold f_X1_keepFresh at h
  refine lv_aload_n hx hb dX1_keepFresh_0 rfl (lv_at hl 0 rfl) ?_
  refine r_get X hS (T := TX1) (k := 4) (hw.1 μ).1 rfl hiX1 (by decide) mf24 rfl dX1_keepFresh_1 ?_
  refine lv_iconst (v := 0) hx hb dX1_keepFresh_4 (by decide) ?_
  obtain ⟨μ1, eμ1, h⟩ := ob h
  refine r_cv hS (r_runSN (As := [.ref (ad (q + 5)), .int 0]) (rest := []) (host := RX6) X hS (c_X6_fillRow l hE (w := w) (ad := ad) (μ := μ) (D := D) (cI := cI) (cG := cG) (cL := cL) hw.2.2.2.2.2.1 eμ1) (va_cnB 2 X.1.2.2.2.2 gX1_keepFresh_X6_fillRow_n39 rfl rfl rfl (X.nest 0 rfl) (X.1.2.2.2.2 _ miX6) (by decide +kernel) ⟨Nat.le_of_ble_eq_true rfl, Nat.le_of_ble_eq_true rfl⟩) (X.1.2.2.2.2 _ ms39) rfl hl.1 rfl (Nat.le_of_ble_eq_true rfl) dX1_keepFresh_5 ⟨Nat.zero_le _, Nat.zero_le _⟩) (fun H locs hS => ?_)
  cases h
  exact r_vret X hS hr hlk dX1_keepFresh_8
def f_X1_dropFresh_b28 (q : Nat) (k4 : Int32 → Int32 → Mem → Option (Int32 × Mem)) (x1 : Int32) (x2 : Int32) (μ : Mem) : Option (Int32 × Mem) := k4 x1 (x2 + 1) μ
def f_X1_dropFresh_b4 (q : Nat)  : Nat → Int32 → Int32 → Mem → Option (Int32 × Mem)
  | 0, _, _, _ => none
  | fuel4 + 1, x1, x2, μ => (if 32 ≤ x2 then (f_X6_fillRow (q + 6) 32 0 μ).bind (fun μ1 => (some (x1, μ1))) else (rd 32 (μ (q + 5)) x2).bind (fun v2 => (if v2 = 1 then (f_X1_makeWild q x2 μ).bind (fun μ3 => f_X1_dropFresh_b28 q (f_X1_dropFresh_b4 q fuel4) (x1 + 1) x2 μ3) else f_X1_dropFresh_b28 q (f_X1_dropFresh_b4 q fuel4) x1 x2 μ)))
def f_X1_dropFresh (q : Nat) (μ : Mem) : Option (Int32 × Mem) := f_X1_dropFresh_b4 q FU 0 0 μ
set_option maxHeartbeats 4000000 in
set_option maxRecDepth 100000 in
theorem c_X1_dropFresh (l : Launch) {D : va_G} {cI cG cL : ClassId} {A : Nat → Prop} {EN : State → Heap → Prop} (hE : EnOK EN A) {w : Mem → va_W} {ad : Nat → Nat} {q : Nat} {μ : Mem} {r : Int32} {μ' : Mem} (hw : BedsAt cI w ad q) (h : f_X1_dropFresh q μ = some (r, μ')) : Met l yX1_dropFresh wsX1_dropFresh (rmk 2 43) (WPre D (tyl cI cG cL) A EN (w μ) [.ref (ad q)]) (PI D A (w μ') r) 0 0 A := by
  have hiX1 : ∀ w ∈ u_ws RX1 TX1 9, w ∈ wsX1_dropFresh := by decide +kernel
  have mf27 : Cond.fieldLink RX1 27 (TX1 5).1 (TX1 5).2.1 (TX1 5).2.2.1 ∈ wsX1_dropFresh := by decide +kernel
  have miX6 : Cond.initialized RX6 ∈ wsX1_dropFresh := by decide +kernel
  have ms39 : Cond.static yX6_fillRow ∈ wsX1_dropFresh := by decide +kernel
  have mf24 : Cond.fieldLink RX1 24 (TX1 4).1 (TX1 4).2.1 (TX1 4).2.2.1 ∈ wsX1_dropFresh := by decide +kernel
  refine met_start (cc := cX1_dropFresh) (nL := 3) (ret := (some .int)) (own := RX1) hE (by decide) rfl rfl (Nat.le_of_ble_eq_true rfl) (fun p e s m args below meth c ls X hS hl hr hlk => ?_)
  have hx := X.1.1
  have hb := X.1.2.1
  replace hl : lv_has ls 3 [(0, .ref (ad q))] := hl
  have hb28 : ∀ (k4 : Int32 → Int32 → Mem → Option (Int32 × Mem)), (∀ (x1 : Int32) (x2 : Int32) (μ : Mem) (H : Heap) (locs : List Loc) (ls : Array Slot), HS D A (w μ) s.heap H locs → lv_has ls 3 [(0, .ref (ad q)), (1, .int x1), (2, .int x2)] → k4 x1 x2 μ = some (r, μ') → W p l e (headSpec wsX1_dropFresh (rmk 2 43)).room s m args below meth c H locs 0 0 (MQ below (PI D A (w μ') r) args s 0 0 A) (F0 m 4 ls [])) → ∀ (x1 : Int32) (x2 : Int32) (μ : Mem) (H : Heap) (locs : List Loc) (ls : Array Slot), HS D A (w μ) s.heap H locs → lv_has ls 3 [(0, .ref (ad q)), (1, .int x1), (2, .int x2)] → f_X1_dropFresh_b28 q k4 x1 x2 μ = some (r, μ') → W p l e (headSpec wsX1_dropFresh (rmk 2 43)).room s m args below meth c H locs 0 0 (MQ below (PI D A (w μ') r) args s 0 0 A) (F0 m 28 ls []) := by
    intro k4 hk4 x1 x2 μ H locs ls hS hl h
    unfold f_X1_dropFresh_b28 at h
    refine lv_iinc (v := x2 + 1) (lv' := [(2, .int (x2 + 1)), (0, .ref (ad q)), (1, .int x1)]) hx hb dX1_dropFresh_28 hl (k := 2) rfl rfl (by decide) rfl (fun ls hl => ?_)
    refine lv_goto (tgt := 4) hx hb dX1_dropFresh_31 (by decide) ?_
    exact hk4 x1 (x2 + 1) μ _ _ _ hS (lv_sub hl [1, 2, 0] rfl) h
  have hb4 : ∀ (fu : Nat) (x1 : Int32) (x2 : Int32) (μ : Mem) (H : Heap) (locs : List Loc) (ls : Array Slot), HS D A (w μ) s.heap H locs → lv_has ls 3 [(0, .ref (ad q)), (1, .int x1), (2, .int x2)] → f_X1_dropFresh_b4 q fu x1 x2 μ = some (r, μ') → W p l e (headSpec wsX1_dropFresh (rmk 2 43)).room s m args below meth c H locs 0 0 (MQ below (PI D A (w μ') r) args s 0 0 A) (F0 m 4 ls []) := by
    intro fu
    induction fu with
    | zero =>
      intro x1 x2 μ H locs ls hS hl h
      rw [f_X1_dropFresh_b4] at h
      cases h
    | succ fuel4 ih4 =>
      intro x1 x2 μ H locs ls hS hl h
      rw [f_X1_dropFresh_b4] at h
      refine lv_iload_n hx hb dX1_dropFresh_4 rfl (lv_at hl 2 rfl) ?_
      refine lv_bipush (v := 32) hx hb dX1_dropFresh_5 (by decide) ?_
      refine lv_icmp_ge (tgt := 34) hx hb dX1_dropFresh_7 (by decide) (fun cc => ?_) (fun cc => ?_)
      · replace h := it h cc
        refine lv_aload_n hx hb dX1_dropFresh_34 rfl (lv_at hl 0 rfl) ?_
        refine r_get X hS (T := TX1) (k := 5) (hw.1 μ).1 rfl hiX1 (by decide) mf27 rfl dX1_dropFresh_35 ?_
        refine lv_iconst (v := 0) hx hb dX1_dropFresh_38 (by decide) ?_
        obtain ⟨μ1, eμ1, h⟩ := ob h
        refine r_cv hS (r_runSN (As := [.ref (ad (q + 6)), .int 0]) (rest := []) (host := RX6) X hS (c_X6_fillRow l hE (w := w) (ad := ad) (μ := μ) (D := D) (cI := cI) (cG := cG) (cL := cL) hw.2.2.2.2.2.2.1 eμ1) (va_cnB 2 X.1.2.2.2.2 gX1_dropFresh_X6_fillRow_n39 rfl rfl rfl (X.nest 0 rfl) (X.1.2.2.2.2 _ miX6) (by decide +kernel) ⟨Nat.le_of_ble_eq_true rfl, Nat.le_of_ble_eq_true rfl⟩) (X.1.2.2.2.2 _ ms39) rfl hl.1 rfl (Nat.le_of_ble_eq_true rfl) dX1_dropFresh_39 ⟨Nat.zero_le _, Nat.zero_le _⟩) (fun H locs hS => ?_)
        refine lv_iload_n hx hb dX1_dropFresh_42 rfl (lv_at hl 1 rfl) ?_
        obtain ⟨rfl, rfl⟩ := pr2 h
        exact r_iret X hS hr hlk dX1_dropFresh_43
      · replace h := ie h cc
        refine lv_aload_n hx hb dX1_dropFresh_10 rfl (lv_at hl 0 rfl) ?_
        refine r_get X hS (T := TX1) (k := 4) (hw.1 μ).1 rfl hiX1 (by decide) mf24 rfl dX1_dropFresh_11 ?_
        refine lv_iload_n hx hb dX1_dropFresh_14 rfl (lv_at hl 2 rfl) ?_
        obtain ⟨v2, ev2, h⟩ := ob h
        refine r_iald X hS (hw.2.2.2.2.2.1 μ).1 ev2 dX1_dropFresh_15 ?_
        refine lv_iconst (v := 1) hx hb dX1_dropFresh_16 (by decide) ?_
        refine lv_icmp_ne (tgt := 28) hx hb dX1_dropFresh_17 (by decide) (fun cc => ?_) (fun cc => ?_)
        · replace h := ie h cc
          exact hb28 (f_X1_dropFresh_b4 q fuel4) ih4 x1 x2 μ _ _ _ hS (lv_sub hl [0, 1, 2] rfl) h
        · replace h := it h cc
          refine lv_aload_n hx hb dX1_dropFresh_20 rfl (lv_at hl 0 rfl) ?_
          refine lv_iload_n hx hb dX1_dropFresh_21 rfl (lv_at hl 2 rfl) ?_
          obtain ⟨μ3, eμ3, h⟩ := ob h
          refine r_cv hS (r_runV (As := [.int x2]) (rest := []) X hS (c_X1_makeWild l hE (w := w) (ad := ad) (μ := μ) (D := D) (cI := cI) (cG := cG) (cL := cL) hw eμ3) (cwV 1 X.1.2.2.2.2 gX1_dropFresh_X1_makeWild rfl rfl rfl (by decide +kernel) ⟨Nat.le_of_ble_eq_true rfl, Nat.le_of_ble_eq_true rfl⟩) (q0 := q) (ci := 0) rfl (hw.1 μ).1 rfl hl.1 rfl (Nat.le_of_ble_eq_true rfl) dX1_dropFresh_22 ⟨Nat.zero_le _, Nat.zero_le _⟩) (fun H locs hS => ?_)
          refine lv_iinc (v := x1 + 1) (lv' := [(1, .int (x1 + 1)), (0, .ref (ad q)), (2, .int x2)]) hx hb dX1_dropFresh_25 hl (k := 1) rfl rfl (by decide) rfl (fun ls hl => ?_)
          exact hb28 (f_X1_dropFresh_b4 q fuel4) ih4 (x1 + 1) x2 μ3 _ _ _ hS (lv_sub hl [1, 0, 2] rfl) h
  unfold f_X1_dropFresh at h
  refine lv_iconst (v := 0) hx hb dX1_dropFresh_0 (by decide) ?_
  refine lv_istore_n (lv' := [(1, .int 0), (0, .ref (ad q))]) hx hb dX1_dropFresh_1 rfl hl (by decide) rfl (fun ls hl => ?_)
  refine lv_iconst (v := 0) hx hb dX1_dropFresh_2 (by decide) ?_
  refine lv_istore_n (lv' := [(2, .int 0), (1, .int 0), (0, .ref (ad q))]) hx hb dX1_dropFresh_3 rfl hl (by decide) rfl (fun ls hl => ?_)
  exact hb4 FU 0 0 μ _ _ _ hS (lv_sub hl [2, 1, 0] rfl) h
def f_X1_leafAt_b42 (q : Nat) (s0 : Int32) (μ : Mem) : Option Int32 := (some s0)
def f_X1_leafAt_b39 (q : Nat)  (μ : Mem) : Option Int32 := f_X1_leafAt_b42 q (-1000) μ
def f_X1_leafAt (q : Nat) (a1 : Int32) (a2 : Int32) (μ : Mem) : Option Int32 := (if a2 < 0 then f_X1_leafAt_b39 q μ else (if 6 ≤ a2 then f_X1_leafAt_b39 q μ else (if ((a1 * 6) + a2) < 0 then f_X1_leafAt_b39 q μ else (if 192 ≤ ((a1 * 6) + a2) then f_X1_leafAt_b39 q μ else (rd 192 (μ (q + 9)) ((a1 * 6) + a2)).bind (fun v1 => f_X1_leafAt_b42 q v1 μ)))))
set_option maxHeartbeats 4000000 in
set_option maxRecDepth 100000 in
theorem c_X1_leafAt (l : Launch) {D : va_G} {cI cG cL : ClassId} {A : Nat → Prop} {EN : State → Heap → Prop} (hE : EnOK EN A) {w : Mem → va_W} {ad : Nat → Nat} {q : Nat} {a1 : Int32} {a2 : Int32} {μ : Mem} {r : Int32} (hw : BedsAt cI w ad q) (h : f_X1_leafAt q a1 a2 μ = some r) : Met l yX1_leafAt wsX1_leafAt (rmk 0 0) (WPre D (tyl cI cG cL) A EN (w μ) [.ref (ad q), .int a1, .int a2]) (PI D A (w μ) r) 0 0 A := by
  have hiX1 : ∀ w ∈ u_ws RX1 TX1 9, w ∈ wsX1_leafAt := by decide +kernel
  have mf36 : Cond.fieldLink RX1 36 (TX1 8).1 (TX1 8).2.1 (TX1 8).2.2.1 ∈ wsX1_leafAt := by decide +kernel
  refine met_start (cc := cX1_leafAt) (nL := 4) (ret := (some .int)) (own := RX1) hE (by decide) rfl rfl (Nat.le_of_ble_eq_true rfl) (fun p e s m args below meth c ls X hS hl hr hlk => ?_)
  have hx := X.1.1
  have hb := X.1.2.1
  replace hl : lv_has ls 4 [(0, .ref (ad q)), (1, .int a1), (2, .int a2)] := hl
  have hb42 : ∀ (s0 : Int32) (H : Heap) (locs : List Loc) (ls : Array Slot), HS D A (w μ) s.heap H locs → lv_has ls 4 [] → f_X1_leafAt_b42 q s0 μ = some r → W p l e (headSpec wsX1_leafAt (rmk 0 0)).room s m args below meth c H locs 0 0 (MQ below (PI D A (w μ) r) args s 0 0 A) (F0 m 42 ls [.int s0]) := by
    intro s0 H locs ls hS hl h
    unfold f_X1_leafAt_b42 at h
    cases h
    exact r_iret X hS hr hlk dX1_leafAt_42
  have hb39 : ∀  (H : Heap) (locs : List Loc) (ls : Array Slot), HS D A (w μ) s.heap H locs → lv_has ls 4 [] → f_X1_leafAt_b39 q μ = some r → W p l e (headSpec wsX1_leafAt (rmk 0 0)).room s m args below meth c H locs 0 0 (MQ below (PI D A (w μ) r) args s 0 0 A) (F0 m 39 ls []) := by
    intro H locs ls hS hl h
    unfold f_X1_leafAt_b39 at h
    refine lv_sipush (v := (-1000)) hx hb dX1_leafAt_39 (by decide) ?_
    exact hb42 (-1000) _ _ _ hS (lv_sub hl [] rfl) h
  unfold f_X1_leafAt at h
  refine lv_iload_n hx hb dX1_leafAt_0 rfl (lv_at hl 1 rfl) ?_
  refine lv_bipush (v := 6) hx hb dX1_leafAt_1 (by decide) ?_
  refine lv_imul hx hb dX1_leafAt_3 ?_
  refine lv_iload_n hx hb dX1_leafAt_4 rfl (lv_at hl 2 rfl) ?_
  refine lv_iadd hx hb dX1_leafAt_5 ?_
  refine lv_istore_n (lv' := [(3, .int ((a1 * 6) + a2)), (0, .ref (ad q)), (1, .int a1), (2, .int a2)]) hx hb dX1_leafAt_6 rfl hl (by decide) rfl (fun ls hl => ?_)
  refine lv_iload_n hx hb dX1_leafAt_7 rfl (lv_at hl 3 rfl) ?_
  refine lv_if_lt (tgt := 39) hx hb dX1_leafAt_8 (by decide) (fun cc => ?_) (fun cc => ?_)
  · replace h := it h cc
    exact hb39  _ _ _ hS (lv_sub hl [] rfl) h
  · replace h := ie h cc
    refine lv_iload_n hx hb dX1_leafAt_11 rfl (lv_at hl 3 rfl) ?_
    refine lv_bipush (v := 6) hx hb dX1_leafAt_12 (by decide) ?_
    refine lv_icmp_ge (tgt := 39) hx hb dX1_leafAt_14 (by decide) (fun cc => ?_) (fun cc => ?_)
    · replace h := it h cc
      exact hb39  _ _ _ hS (lv_sub hl [] rfl) h
    · replace h := ie h cc
      refine lv_iload_n hx hb dX1_leafAt_17 rfl (lv_at hl 0 rfl) ?_
      refine lv_if_lt (tgt := 39) hx hb dX1_leafAt_18 (by decide) (fun cc => ?_) (fun cc => ?_)
      · replace h := it h cc
        exact hb39  _ _ _ hS (lv_sub hl [] rfl) h
      · replace h := ie h cc
        refine lv_iload_n hx hb dX1_leafAt_21 rfl (lv_at hl 0 rfl) ?_
        refine lv_aload_n hx hb dX1_leafAt_22 rfl (lv_at hl 1 rfl) ?_
        refine r_get X hS (T := TX1) (k := 8) (hw.1 μ).1 rfl hiX1 (by decide) mf36 rfl dX1_leafAt_23 ?_
        refine r_alen X hS (hw.2.2.2.2.2.2.2.2.2 μ).1 (v := 192) (by decide) dX1_leafAt_26 ?_
        refine lv_icmp_ge (tgt := 39) hx hb dX1_leafAt_27 (by decide) (fun cc => ?_) (fun cc => ?_)
        · replace h := it h cc
          exact hb39  _ _ _ hS (lv_sub hl [] rfl) h
        · replace h := ie h cc
          refine lv_aload_n hx hb dX1_leafAt_30 rfl (lv_at hl 1 rfl) ?_
          refine r_get X hS (T := TX1) (k := 8) (hw.1 μ).1 rfl hiX1 (by decide) mf36 rfl dX1_leafAt_31 ?_
          refine lv_iload_n hx hb dX1_leafAt_34 rfl (lv_at hl 0 rfl) ?_
          obtain ⟨v1, ev1, h⟩ := ob h
          refine r_iald X hS (hw.2.2.2.2.2.2.2.2.2 μ).1 ev1 dX1_leafAt_35 ?_
          refine lv_goto (tgt := 42) hx hb dX1_leafAt_36 (by decide) ?_
          exact hb42 v1 _ _ _ hS (lv_sub hl [] rfl) h
def f_X1_setLeaf_b41 (q : Nat)  (μ : Mem) : Option Mem := (some μ)
def f_X1_setLeaf (q : Nat) (a1 : Int32) (a2 : Int32) (a3 : Int32) (μ : Mem) : Option Mem := (if a2 < 0 then f_X1_setLeaf_b41 q μ else (if 6 ≤ a2 then f_X1_setLeaf_b41 q μ else (if ((a1 * 6) + a2) < 0 then f_X1_setLeaf_b41 q μ else (if 192 ≤ ((a1 * 6) + a2) then f_X1_setLeaf_b41 q μ else (wr μ (q + 9) 192 ((a1 * 6) + a2) a3).bind (fun μ1 => f_X1_setLeaf_b41 q μ1)))))
set_option maxHeartbeats 4000000 in
set_option maxRecDepth 100000 in
theorem c_X1_setLeaf (l : Launch) {D : va_G} {cI cG cL : ClassId} {A : Nat → Prop} {EN : State → Heap → Prop} (hE : EnOK EN A) {w : Mem → va_W} {ad : Nat → Nat} {q : Nat} {a1 : Int32} {a2 : Int32} {a3 : Int32} {μ : Mem}  {μ' : Mem} (hw : BedsAt cI w ad q) (h : f_X1_setLeaf q a1 a2 a3 μ = some μ') : Met l yX1_setLeaf wsX1_setLeaf (rmk 0 0) (WPre D (tyl cI cG cL) A EN (w μ) [.ref (ad q), .int a1, .int a2, .int a3]) (PV D A (w μ')) 0 0 A := by
  have hiX1 : ∀ w ∈ u_ws RX1 TX1 9, w ∈ wsX1_setLeaf := by decide +kernel
  have mf36 : Cond.fieldLink RX1 36 (TX1 8).1 (TX1 8).2.1 (TX1 8).2.2.1 ∈ wsX1_setLeaf := by decide +kernel
  refine met_start (cc := cX1_setLeaf) (nL := 5) (ret := none) (own := RX1) hE (by decide) rfl rfl (Nat.le_of_ble_eq_true rfl) (fun p e s m args below meth c ls X hS hl hr hlk => ?_)
  have hx := X.1.1
  have hb := X.1.2.1
  replace hl : lv_has ls 5 [(0, .ref (ad q)), (1, .int a1), (2, .int a2), (3, .int a3)] := hl
  have hb41 : ∀  (μ : Mem) (H : Heap) (locs : List Loc) (ls : Array Slot), HS D A (w μ) s.heap H locs → lv_has ls 5 [] → f_X1_setLeaf_b41 q μ = some μ' → W p l e (headSpec wsX1_setLeaf (rmk 0 0)).room s m args below meth c H locs 0 0 (MQ below (PV D A (w μ')) args s 0 0 A) (F0 m 41 ls []) := by
    intro μ H locs ls hS hl h
    unfold f_X1_setLeaf_b41 at h
    cases h
    exact r_vret X hS hr hlk dX1_setLeaf_41
  unfold f_X1_setLeaf at h
  refine lv_iload_n hx hb dX1_setLeaf_0 rfl (lv_at hl 1 rfl) ?_
  refine lv_bipush (v := 6) hx hb dX1_setLeaf_1 (by decide) ?_
  refine lv_imul hx hb dX1_setLeaf_3 ?_
  refine lv_iload_n hx hb dX1_setLeaf_4 rfl (lv_at hl 2 rfl) ?_
  refine lv_iadd hx hb dX1_setLeaf_5 ?_
  refine lv_istore (lv' := [(4, .int ((a1 * 6) + a2)), (0, .ref (ad q)), (1, .int a1), (2, .int a2), (3, .int a3)]) hx hb dX1_setLeaf_6 hl (by decide) rfl (fun ls hl => ?_)
  refine lv_iload_n hx hb dX1_setLeaf_8 rfl (lv_at hl 3 rfl) ?_
  refine lv_if_lt (tgt := 41) hx hb dX1_setLeaf_9 (by decide) (fun cc => ?_) (fun cc => ?_)
  · replace h := it h cc
    exact hb41 μ _ _ _ hS (lv_sub hl [] rfl) h
  · replace h := ie h cc
    refine lv_iload_n hx hb dX1_setLeaf_12 rfl (lv_at hl 3 rfl) ?_
    refine lv_bipush (v := 6) hx hb dX1_setLeaf_13 (by decide) ?_
    refine lv_icmp_ge (tgt := 41) hx hb dX1_setLeaf_15 (by decide) (fun cc => ?_) (fun cc => ?_)
    · replace h := it h cc
      exact hb41 μ _ _ _ hS (lv_sub hl [] rfl) h
    · replace h := ie h cc
      refine lv_iload hx hb dX1_setLeaf_18 (lv_at hl 0 rfl) ?_
      refine lv_if_lt (tgt := 41) hx hb dX1_setLeaf_20 (by decide) (fun cc => ?_) (fun cc => ?_)
      · replace h := it h cc
        exact hb41 μ _ _ _ hS (lv_sub hl [] rfl) h
      · replace h := ie h cc
        refine lv_iload hx hb dX1_setLeaf_23 (lv_at hl 0 rfl) ?_
        refine lv_aload_n hx hb dX1_setLeaf_25 rfl (lv_at hl 1 rfl) ?_
        refine r_get X hS (T := TX1) (k := 8) (hw.1 μ).1 rfl hiX1 (by decide) mf36 rfl dX1_setLeaf_26 ?_
        refine r_alen X hS (hw.2.2.2.2.2.2.2.2.2 μ).1 (v := 192) (by decide) dX1_setLeaf_29 ?_
        refine lv_icmp_ge (tgt := 41) hx hb dX1_setLeaf_30 (by decide) (fun cc => ?_) (fun cc => ?_)
        · replace h := it h cc
          exact hb41 μ _ _ _ hS (lv_sub hl [] rfl) h
        · replace h := ie h cc
          refine lv_aload_n hx hb dX1_setLeaf_33 rfl (lv_at hl 1 rfl) ?_
          refine r_get X hS (T := TX1) (k := 8) (hw.1 μ).1 rfl hiX1 (by decide) mf36 rfl dX1_setLeaf_34 ?_
          refine lv_iload hx hb dX1_setLeaf_37 (lv_at hl 0 rfl) ?_
          refine lv_iload_n hx hb dX1_setLeaf_39 rfl (lv_at hl 4 rfl) ?_
          obtain ⟨μ1, eμ1, h⟩ := ob h
          refine r_iast X hS hw.2.2.2.2.2.2.2.2.2 eμ1 dX1_setLeaf_40 (fun H locs hS => ?_)
          exact hb41 μ1 _ _ _ hS (lv_sub hl [] rfl) h
def f_X1_insertLeaf_b11 (q : Nat)  : Nat → Int32 → Int32 → Int32 → Int32 → Int32 → Mem → Option Mem
  | 0, _, _, _, _, _, _ => none
  | fuel11 + 1, x1, x2, x3, x4, x5, μ => (if x5 ≤ x2 then (f_X1_setLeaf q x1 x2 x3 μ).bind (fun μ2 => (f_X6_setCell (q + 3) 32 x1 (x4 + 1) μ2).bind (fun μ3 => (some μ3))) else (f_X1_leafAt q x1 (x5 - 1) μ).bind (fun v4 => (f_X1_setLeaf q x1 x5 v4 μ).bind (fun μ5 => f_X1_insertLeaf_b11 q fuel11 x1 x2 x3 x4 (x5 + (-1)) μ5)))
def f_X1_insertLeaf (q : Nat) (a1 : Int32) (a2 : Int32) (a3 : Int32) (μ : Mem) : Option Mem := (f_X1_sizeOf q a1 μ).bind (fun v1 => f_X1_insertLeaf_b11 q FU a1 a2 a3 v1 v1 μ)
set_option maxHeartbeats 4000000 in
set_option maxRecDepth 100000 in
theorem c_X1_insertLeaf (l : Launch) {D : va_G} {cI cG cL : ClassId} {A : Nat → Prop} {EN : State → Heap → Prop} (hE : EnOK EN A) {w : Mem → va_W} {ad : Nat → Nat} {q : Nat} {a1 : Int32} {a2 : Int32} {a3 : Int32} {μ : Mem}  {μ' : Mem} (hw : BedsAt cI w ad q) (h : f_X1_insertLeaf q a1 a2 a3 μ = some μ') : Met l yX1_insertLeaf wsX1_insertLeaf (rmk 1 24) (WPre D (tyl cI cG cL) A EN (w μ) [.ref (ad q), .int a1, .int a2, .int a3]) (PV D A (w μ')) 0 0 A := by
  have hiX1 : ∀ w ∈ u_ws RX1 TX1 9, w ∈ wsX1_insertLeaf := by decide +kernel
  have mf18 : Cond.fieldLink RX1 18 (TX1 2).1 (TX1 2).2.1 (TX1 2).2.2.1 ∈ wsX1_insertLeaf := by decide +kernel
  have miX6 : Cond.initialized RX6 ∈ wsX1_insertLeaf := by decide +kernel
  have ms63 : Cond.static yX6_setCell ∈ wsX1_insertLeaf := by decide +kernel
  refine met_start (cc := cX1_insertLeaf) (nL := 6) (ret := none) (own := RX1) hE (by decide) rfl rfl (Nat.le_of_ble_eq_true rfl) (fun p e s m args below meth c ls X hS hl hr hlk => ?_)
  have hx := X.1.1
  have hb := X.1.2.1
  replace hl : lv_has ls 6 [(0, .ref (ad q)), (1, .int a1), (2, .int a2), (3, .int a3)] := hl
  have hb11 : ∀ (fu : Nat) (x1 : Int32) (x2 : Int32) (x3 : Int32) (x4 : Int32) (x5 : Int32) (μ : Mem) (H : Heap) (locs : List Loc) (ls : Array Slot), HS D A (w μ) s.heap H locs → lv_has ls 6 [(0, .ref (ad q)), (1, .int x1), (2, .int x2), (3, .int x3), (4, .int x4), (5, .int x5)] → f_X1_insertLeaf_b11 q fu x1 x2 x3 x4 x5 μ = some μ' → W p l e (headSpec wsX1_insertLeaf (rmk 1 24)).room s m args below meth c H locs 0 0 (MQ below (PV D A (w μ')) args s 0 0 A) (F0 m 11 ls []) := by
    intro fu
    induction fu with
    | zero =>
      intro x1 x2 x3 x4 x5 μ H locs ls hS hl h
      rw [f_X1_insertLeaf_b11] at h
      cases h
    | succ fuel11 ih11 =>
      intro x1 x2 x3 x4 x5 μ H locs ls hS hl h
      rw [f_X1_insertLeaf_b11] at h
      refine lv_iload hx hb dX1_insertLeaf_11 (lv_at hl 5 rfl) ?_
      refine lv_iload_n hx hb dX1_insertLeaf_13 rfl (lv_at hl 2 rfl) ?_
      refine lv_icmp_le (tgt := 39) hx hb dX1_insertLeaf_14 (by decide) (fun cc => ?_) (fun cc => ?_)
      · replace h := it h cc
        refine lv_aload_n hx hb dX1_insertLeaf_39 rfl (lv_at hl 0 rfl) ?_
        refine lv_iload_n hx hb dX1_insertLeaf_40 rfl (lv_at hl 1 rfl) ?_
        refine lv_iload_n hx hb dX1_insertLeaf_41 rfl (lv_at hl 2 rfl) ?_
        refine lv_iload_n hx hb dX1_insertLeaf_42 rfl (lv_at hl 3 rfl) ?_
        obtain ⟨μ2, eμ2, h⟩ := ob h
        refine r_cv hS (r_runV (As := [.int x1, .int x2, .int x3]) (rest := []) X hS (c_X1_setLeaf l hE (w := w) (ad := ad) (μ := μ) (D := D) (cI := cI) (cG := cG) (cL := cL) hw eμ2) (cwV 3 X.1.2.2.2.2 gX1_insertLeaf_X1_setLeaf rfl rfl rfl (by decide +kernel) ⟨Nat.le_of_ble_eq_true rfl, Nat.le_of_ble_eq_true rfl⟩) (q0 := q) (ci := 0) rfl (hw.1 μ).1 rfl hl.1 rfl (Nat.le_of_ble_eq_true rfl) dX1_insertLeaf_43 ⟨Nat.zero_le _, Nat.zero_le _⟩) (fun H locs hS => ?_)
        refine lv_aload_n hx hb dX1_insertLeaf_46 rfl (lv_at hl 0 rfl) ?_
        refine r_get X hS (T := TX1) (k := 2) (hw.1 μ2).1 rfl hiX1 (by decide) mf18 rfl dX1_insertLeaf_47 ?_
        refine lv_iload_n hx hb dX1_insertLeaf_50 rfl (lv_at hl 1 rfl) ?_
        refine lv_iload hx hb dX1_insertLeaf_51 (lv_at hl 4 rfl) ?_
        refine lv_iconst (v := 1) hx hb dX1_insertLeaf_53 (by decide) ?_
        refine lv_iadd hx hb dX1_insertLeaf_54 ?_
        obtain ⟨μ3, eμ3, h⟩ := ob h
        refine r_cv hS (r_runSN (As := [.ref (ad (q + 3)), .int x1, .int (x4 + 1)]) (rest := []) (host := RX6) X hS (c_X6_setCell l hE (w := w) (ad := ad) (μ := μ2) (D := D) (cI := cI) (cG := cG) (cL := cL) hw.2.2.2.1 eμ3) (va_cnB 3 X.1.2.2.2.2 gX1_insertLeaf_X6_setCell_n63 rfl rfl rfl (X.nest 2 rfl) (X.1.2.2.2.2 _ miX6) (by decide +kernel) ⟨Nat.le_of_ble_eq_true rfl, Nat.le_of_ble_eq_true rfl⟩) (X.1.2.2.2.2 _ ms63) rfl hl.1 rfl (Nat.le_of_ble_eq_true rfl) dX1_insertLeaf_55 ⟨Nat.zero_le _, Nat.zero_le _⟩) (fun H locs hS => ?_)
        cases h
        exact r_vret X hS hr hlk dX1_insertLeaf_58
      · replace h := ie h cc
        refine lv_aload_n hx hb dX1_insertLeaf_17 rfl (lv_at hl 0 rfl) ?_
        refine lv_iload_n hx hb dX1_insertLeaf_18 rfl (lv_at hl 1 rfl) ?_
        refine lv_iload hx hb dX1_insertLeaf_19 (lv_at hl 5 rfl) ?_
        refine lv_aload_n hx hb dX1_insertLeaf_21 rfl (lv_at hl 0 rfl) ?_
        refine lv_iload_n hx hb dX1_insertLeaf_22 rfl (lv_at hl 1 rfl) ?_
        refine lv_iload hx hb dX1_insertLeaf_23 (lv_at hl 5 rfl) ?_
        refine lv_iconst (v := 1) hx hb dX1_insertLeaf_25 (by decide) ?_
        refine lv_isub hx hb dX1_insertLeaf_26 ?_
        obtain ⟨v4, ev4, h⟩ := ob h
        refine r_ci hS (r_runV (As := [.int x1, .int (x5 - 1)]) (rest := [.int x5, .int x1, .ref (ad q)]) X hS (c_X1_leafAt l hE (w := w) (ad := ad) (μ := μ) (D := D) (cI := cI) (cG := cG) (cL := cL) hw ev4) (cwV 2 X.1.2.2.2.2 gX1_insertLeaf_X1_leafAt rfl rfl rfl (by decide +kernel) ⟨Nat.le_of_ble_eq_true rfl, Nat.le_of_ble_eq_true rfl⟩) (q0 := q) (ci := 0) rfl (hw.1 μ).1 rfl hl.1 rfl (Nat.le_of_ble_eq_true rfl) dX1_insertLeaf_27 ⟨Nat.zero_le _, Nat.zero_le _⟩) (fun H locs hS => ?_)
        obtain ⟨μ5, eμ5, h⟩ := ob h
        refine r_cv hS (r_runV (As := [.int x1, .int x5, .int v4]) (rest := []) X hS (c_X1_setLeaf l hE (w := w) (ad := ad) (μ := μ) (D := D) (cI := cI) (cG := cG) (cL := cL) hw eμ5) (cwV 3 X.1.2.2.2.2 gX1_insertLeaf_X1_setLeaf rfl rfl rfl (by decide +kernel) ⟨Nat.le_of_ble_eq_true rfl, Nat.le_of_ble_eq_true rfl⟩) (q0 := q) (ci := 0) rfl (hw.1 μ).1 rfl hl.1 rfl (Nat.le_of_ble_eq_true rfl) dX1_insertLeaf_30 ⟨Nat.zero_le _, Nat.zero_le _⟩) (fun H locs hS => ?_)
        refine lv_iinc (v := x5 + (-1)) (lv' := [(5, .int (x5 + (-1))), (0, .ref (ad q)), (1, .int x1), (2, .int x2), (3, .int x3), (4, .int x4)]) hx hb dX1_insertLeaf_33 hl (k := 5) rfl rfl (by decide) rfl (fun ls hl => ?_)
        refine lv_goto (tgt := 11) hx hb dX1_insertLeaf_36 (by decide) ?_
        exact ih11 x1 x2 x3 x4 (x5 + (-1)) μ5 _ _ _ hS (lv_sub hl [1, 2, 3, 4, 5, 0] rfl) h
  unfold f_X1_insertLeaf at h
  refine lv_aload_n hx hb dX1_insertLeaf_0 rfl (lv_at hl 0 rfl) ?_
  refine lv_iload_n hx hb dX1_insertLeaf_1 rfl (lv_at hl 1 rfl) ?_
  obtain ⟨v1, ev1, h⟩ := ob h
  refine r_ci hS (r_runV (As := [.int a1]) (rest := []) X hS (c_X1_sizeOf l hE (w := w) (ad := ad) (μ := μ) (D := D) (cI := cI) (cG := cG) (cL := cL) hw ev1) (cwV 1 X.1.2.2.2.2 gX1_insertLeaf_X1_sizeOf rfl rfl rfl (by decide +kernel) ⟨Nat.le_of_ble_eq_true rfl, Nat.le_of_ble_eq_true rfl⟩) (q0 := q) (ci := 0) rfl (hw.1 μ).1 rfl hl.1 rfl (Nat.le_of_ble_eq_true rfl) dX1_insertLeaf_2 ⟨Nat.zero_le _, Nat.zero_le _⟩) (fun H locs hS => ?_)
  refine lv_istore (lv' := [(4, .int v1), (0, .ref (ad q)), (1, .int a1), (2, .int a2), (3, .int a3)]) hx hb dX1_insertLeaf_5 hl (by decide) rfl (fun ls hl => ?_)
  refine lv_iload hx hb dX1_insertLeaf_7 (lv_at hl 0 rfl) ?_
  refine lv_istore (lv' := [(5, .int v1), (4, .int v1), (0, .ref (ad q)), (1, .int a1), (2, .int a2), (3, .int a3)]) hx hb dX1_insertLeaf_9 hl (by decide) rfl (fun ls hl => ?_)
  exact hb11 FU a1 a2 a3 v1 v1 μ _ _ _ hS (lv_sub hl [2, 3, 4, 5, 1, 0] rfl) h
def f_X1_cutLeaf_b9 (q : Nat)  : Nat → Int32 → Int32 → Int32 → Mem → Option Mem
  | 0, _, _, _, _ => none
  | fuel9 + 1, x1, x3, x4, μ => (if (x3 - 1) ≤ x4 then (f_X6_setCell (q + 3) 32 x1 (x3 - 1) μ).bind (fun μ2 => (some μ2)) else (f_X1_leafAt q x1 (x4 + 1) μ).bind (fun v3 => (f_X1_setLeaf q x1 x4 v3 μ).bind (fun μ4 => f_X1_cutLeaf_b9 q fuel9 x1 x3 (x4 + 1) μ4)))
def f_X1_cutLeaf (q : Nat) (a1 : Int32) (a2 : Int32) (μ : Mem) : Option Mem := (f_X1_sizeOf q a1 μ).bind (fun v1 => f_X1_cutLeaf_b9 q FU a1 v1 a2 μ)
set_option maxHeartbeats 4000000 in
set_option maxRecDepth 100000 in
theorem c_X1_cutLeaf (l : Launch) {D : va_G} {cI cG cL : ClassId} {A : Nat → Prop} {EN : State → Heap → Prop} (hE : EnOK EN A) {w : Mem → va_W} {ad : Nat → Nat} {q : Nat} {a1 : Int32} {a2 : Int32} {μ : Mem}  {μ' : Mem} (hw : BedsAt cI w ad q) (h : f_X1_cutLeaf q a1 a2 μ = some μ') : Met l yX1_cutLeaf wsX1_cutLeaf (rmk 1 24) (WPre D (tyl cI cG cL) A EN (w μ) [.ref (ad q), .int a1, .int a2]) (PV D A (w μ')) 0 0 A := by
  have hiX1 : ∀ w ∈ u_ws RX1 TX1 9, w ∈ wsX1_cutLeaf := by decide +kernel
  have mf18 : Cond.fieldLink RX1 18 (TX1 2).1 (TX1 2).2.1 (TX1 2).2.2.1 ∈ wsX1_cutLeaf := by decide +kernel
  have miX6 : Cond.initialized RX6 ∈ wsX1_cutLeaf := by decide +kernel
  have ms63 : Cond.static yX6_setCell ∈ wsX1_cutLeaf := by decide +kernel
  refine met_start (cc := cX1_cutLeaf) (nL := 5) (ret := none) (own := RX1) hE (by decide) rfl rfl (Nat.le_of_ble_eq_true rfl) (fun p e s m args below meth c ls X hS hl hr hlk => ?_)
  have hx := X.1.1
  have hb := X.1.2.1
  replace hl : lv_has ls 5 [(0, .ref (ad q)), (1, .int a1), (2, .int a2)] := hl
  have hb9 : ∀ (fu : Nat) (x1 : Int32) (x3 : Int32) (x4 : Int32) (μ : Mem) (H : Heap) (locs : List Loc) (ls : Array Slot), HS D A (w μ) s.heap H locs → lv_has ls 5 [(0, .ref (ad q)), (1, .int x1), (3, .int x3), (4, .int x4)] → f_X1_cutLeaf_b9 q fu x1 x3 x4 μ = some μ' → W p l e (headSpec wsX1_cutLeaf (rmk 1 24)).room s m args below meth c H locs 0 0 (MQ below (PV D A (w μ')) args s 0 0 A) (F0 m 9 ls []) := by
    intro fu
    induction fu with
    | zero =>
      intro x1 x3 x4 μ H locs ls hS hl h
      rw [f_X1_cutLeaf_b9] at h
      cases h
    | succ fuel9 ih9 =>
      intro x1 x3 x4 μ H locs ls hS hl h
      rw [f_X1_cutLeaf_b9] at h
      refine lv_iload hx hb dX1_cutLeaf_9 (lv_at hl 3 rfl) ?_
      refine lv_iload_n hx hb dX1_cutLeaf_11 rfl (lv_at hl 2 rfl) ?_
      refine lv_iconst (v := 1) hx hb dX1_cutLeaf_12 (by decide) ?_
      refine lv_isub hx hb dX1_cutLeaf_13 ?_
      refine lv_icmp_ge (tgt := 39) hx hb dX1_cutLeaf_14 (by decide) (fun cc => ?_) (fun cc => ?_)
      · replace h := it h cc
        refine lv_aload_n hx hb dX1_cutLeaf_39 rfl (lv_at hl 0 rfl) ?_
        refine r_get X hS (T := TX1) (k := 2) (hw.1 μ).1 rfl hiX1 (by decide) mf18 rfl dX1_cutLeaf_40 ?_
        refine lv_iload_n hx hb dX1_cutLeaf_43 rfl (lv_at hl 1 rfl) ?_
        refine lv_iload_n hx hb dX1_cutLeaf_44 rfl (lv_at hl 2 rfl) ?_
        refine lv_iconst (v := 1) hx hb dX1_cutLeaf_45 (by decide) ?_
        refine lv_isub hx hb dX1_cutLeaf_46 ?_
        obtain ⟨μ2, eμ2, h⟩ := ob h
        refine r_cv hS (r_runSN (As := [.ref (ad (q + 3)), .int x1, .int (x3 - 1)]) (rest := []) (host := RX6) X hS (c_X6_setCell l hE (w := w) (ad := ad) (μ := μ) (D := D) (cI := cI) (cG := cG) (cL := cL) hw.2.2.2.1 eμ2) (va_cnB 3 X.1.2.2.2.2 gX1_cutLeaf_X6_setCell_n63 rfl rfl rfl (X.nest 2 rfl) (X.1.2.2.2.2 _ miX6) (by decide +kernel) ⟨Nat.le_of_ble_eq_true rfl, Nat.le_of_ble_eq_true rfl⟩) (X.1.2.2.2.2 _ ms63) rfl hl.1 rfl (Nat.le_of_ble_eq_true rfl) dX1_cutLeaf_47 ⟨Nat.zero_le _, Nat.zero_le _⟩) (fun H locs hS => ?_)
        cases h
        exact r_vret X hS hr hlk dX1_cutLeaf_50
      · replace h := ie h cc
        refine lv_aload_n hx hb dX1_cutLeaf_17 rfl (lv_at hl 0 rfl) ?_
        refine lv_iload_n hx hb dX1_cutLeaf_18 rfl (lv_at hl 1 rfl) ?_
        refine lv_iload hx hb dX1_cutLeaf_19 (lv_at hl 3 rfl) ?_
        refine lv_aload_n hx hb dX1_cutLeaf_21 rfl (lv_at hl 0 rfl) ?_
        refine lv_iload_n hx hb dX1_cutLeaf_22 rfl (lv_at hl 1 rfl) ?_
        refine lv_iload hx hb dX1_cutLeaf_23 (lv_at hl 3 rfl) ?_
        refine lv_iconst (v := 1) hx hb dX1_cutLeaf_25 (by decide) ?_
        refine lv_iadd hx hb dX1_cutLeaf_26 ?_
        obtain ⟨v3, ev3, h⟩ := ob h
        refine r_ci hS (r_runV (As := [.int x1, .int (x4 + 1)]) (rest := [.int x4, .int x1, .ref (ad q)]) X hS (c_X1_leafAt l hE (w := w) (ad := ad) (μ := μ) (D := D) (cI := cI) (cG := cG) (cL := cL) hw ev3) (cwV 2 X.1.2.2.2.2 gX1_cutLeaf_X1_leafAt rfl rfl rfl (by decide +kernel) ⟨Nat.le_of_ble_eq_true rfl, Nat.le_of_ble_eq_true rfl⟩) (q0 := q) (ci := 0) rfl (hw.1 μ).1 rfl hl.1 rfl (Nat.le_of_ble_eq_true rfl) dX1_cutLeaf_27 ⟨Nat.zero_le _, Nat.zero_le _⟩) (fun H locs hS => ?_)
        obtain ⟨μ4, eμ4, h⟩ := ob h
        refine r_cv hS (r_runV (As := [.int x1, .int x4, .int v3]) (rest := []) X hS (c_X1_setLeaf l hE (w := w) (ad := ad) (μ := μ) (D := D) (cI := cI) (cG := cG) (cL := cL) hw eμ4) (cwV 3 X.1.2.2.2.2 gX1_cutLeaf_X1_setLeaf rfl rfl rfl (by decide +kernel) ⟨Nat.le_of_ble_eq_true rfl, Nat.le_of_ble_eq_true rfl⟩) (q0 := q) (ci := 0) rfl (hw.1 μ).1 rfl hl.1 rfl (Nat.le_of_ble_eq_true rfl) dX1_cutLeaf_30 ⟨Nat.zero_le _, Nat.zero_le _⟩) (fun H locs hS => ?_)
        refine lv_iinc (v := x4 + 1) (lv' := [(4, .int (x4 + 1)), (0, .ref (ad q)), (1, .int x1), (3, .int x3)]) hx hb dX1_cutLeaf_33 hl (k := 3) rfl rfl (by decide) rfl (fun ls hl => ?_)
        refine lv_goto (tgt := 9) hx hb dX1_cutLeaf_36 (by decide) ?_
        exact ih9 x1 x3 (x4 + 1) μ4 _ _ _ hS (lv_sub hl [1, 2, 3, 0] rfl) h
  unfold f_X1_cutLeaf at h
  refine lv_aload_n hx hb dX1_cutLeaf_0 rfl (lv_at hl 0 rfl) ?_
  refine lv_iload_n hx hb dX1_cutLeaf_1 rfl (lv_at hl 1 rfl) ?_
  obtain ⟨v1, ev1, h⟩ := ob h
  refine r_ci hS (r_runV (As := [.int a1]) (rest := []) X hS (c_X1_sizeOf l hE (w := w) (ad := ad) (μ := μ) (D := D) (cI := cI) (cG := cG) (cL := cL) hw ev1) (cwV 1 X.1.2.2.2.2 gX1_cutLeaf_X1_sizeOf rfl rfl rfl (by decide +kernel) ⟨Nat.le_of_ble_eq_true rfl, Nat.le_of_ble_eq_true rfl⟩) (q0 := q) (ci := 0) rfl (hw.1 μ).1 rfl hl.1 rfl (Nat.le_of_ble_eq_true rfl) dX1_cutLeaf_2 ⟨Nat.zero_le _, Nat.zero_le _⟩) (fun H locs hS => ?_)
  refine lv_istore_n (lv' := [(3, .int v1), (0, .ref (ad q)), (1, .int a1), (2, .int a2)]) hx hb dX1_cutLeaf_5 rfl hl (by decide) rfl (fun ls hl => ?_)
  refine lv_iload_n hx hb dX1_cutLeaf_6 rfl (lv_at hl 3 rfl) ?_
  refine lv_istore (lv' := [(4, .int a2), (3, .int v1), (0, .ref (ad q)), (1, .int a1), (2, .int a2)]) hx hb dX1_cutLeaf_7 hl (by decide) rfl (fun ls hl => ?_)
  exact hb9 FU a1 v1 a2 μ _ _ _ hS (lv_sub hl [2, 3, 1, 0] rfl) h
def f_X1_copyDirectory_b9 (q : Nat)  : Nat → Int32 → Int32 → Int32 → Int32 → Mem → Option Mem
  | 0, _, _, _, _, _ => none
  | fuel9 + 1, x1, x2, x3, x4, μ => (if x3 ≤ x4 then (f_X6_setCell (q + 3) 32 x2 x3 μ).bind (fun μ2 => (some μ2)) else (f_X1_leafAt q x1 x4 μ).bind (fun v3 => (f_X1_setLeaf q x2 x4 v3 μ).bind (fun μ4 => f_X1_copyDirectory_b9 q fuel9 x1 x2 x3 (x4 + 1) μ4)))
def f_X1_copyDirectory (q : Nat) (a1 : Int32) (a2 : Int32) (μ : Mem) : Option Mem := (f_X1_sizeOf q a1 μ).bind (fun v1 => f_X1_copyDirectory_b9 q FU a1 a2 v1 0 μ)
set_option maxHeartbeats 4000000 in
set_option maxRecDepth 100000 in
theorem c_X1_copyDirectory (l : Launch) {D : va_G} {cI cG cL : ClassId} {A : Nat → Prop} {EN : State → Heap → Prop} (hE : EnOK EN A) {w : Mem → va_W} {ad : Nat → Nat} {q : Nat} {a1 : Int32} {a2 : Int32} {μ : Mem}  {μ' : Mem} (hw : BedsAt cI w ad q) (h : f_X1_copyDirectory q a1 a2 μ = some μ') : Met l yX1_copyDirectory wsX1_copyDirectory (rmk 1 24) (WPre D (tyl cI cG cL) A EN (w μ) [.ref (ad q), .int a1, .int a2]) (PV D A (w μ')) 0 0 A := by
  have hiX1 : ∀ w ∈ u_ws RX1 TX1 9, w ∈ wsX1_copyDirectory := by decide +kernel
  have mf18 : Cond.fieldLink RX1 18 (TX1 2).1 (TX1 2).2.1 (TX1 2).2.2.1 ∈ wsX1_copyDirectory := by decide +kernel
  have miX6 : Cond.initialized RX6 ∈ wsX1_copyDirectory := by decide +kernel
  have ms63 : Cond.static yX6_setCell ∈ wsX1_copyDirectory := by decide +kernel
  refine met_start (cc := cX1_copyDirectory) (nL := 5) (ret := none) (own := RX1) hE (by decide) rfl rfl (Nat.le_of_ble_eq_true rfl) (fun p e s m args below meth c ls X hS hl hr hlk => ?_)
  have hx := X.1.1
  have hb := X.1.2.1
  replace hl : lv_has ls 5 [(0, .ref (ad q)), (1, .int a1), (2, .int a2)] := hl
  have hb9 : ∀ (fu : Nat) (x1 : Int32) (x2 : Int32) (x3 : Int32) (x4 : Int32) (μ : Mem) (H : Heap) (locs : List Loc) (ls : Array Slot), HS D A (w μ) s.heap H locs → lv_has ls 5 [(0, .ref (ad q)), (1, .int x1), (2, .int x2), (3, .int x3), (4, .int x4)] → f_X1_copyDirectory_b9 q fu x1 x2 x3 x4 μ = some μ' → W p l e (headSpec wsX1_copyDirectory (rmk 1 24)).room s m args below meth c H locs 0 0 (MQ below (PV D A (w μ')) args s 0 0 A) (F0 m 9 ls []) := by
    intro fu
    induction fu with
    | zero =>
      intro x1 x2 x3 x4 μ H locs ls hS hl h
      rw [f_X1_copyDirectory_b9] at h
      cases h
    | succ fuel9 ih9 =>
      intro x1 x2 x3 x4 μ H locs ls hS hl h
      rw [f_X1_copyDirectory_b9] at h
      refine lv_iload hx hb dX1_copyDirectory_9 (lv_at hl 4 rfl) ?_
      refine lv_iload_n hx hb dX1_copyDirectory_11 rfl (lv_at hl 3 rfl) ?_
      refine lv_icmp_ge (tgt := 35) hx hb dX1_copyDirectory_12 (by decide) (fun cc => ?_) (fun cc => ?_)
      · replace h := it h cc
        refine lv_aload_n hx hb dX1_copyDirectory_35 rfl (lv_at hl 0 rfl) ?_
        refine r_get X hS (T := TX1) (k := 2) (hw.1 μ).1 rfl hiX1 (by decide) mf18 rfl dX1_copyDirectory_36 ?_
        refine lv_iload_n hx hb dX1_copyDirectory_39 rfl (lv_at hl 2 rfl) ?_
        refine lv_iload_n hx hb dX1_copyDirectory_40 rfl (lv_at hl 3 rfl) ?_
        obtain ⟨μ2, eμ2, h⟩ := ob h
        refine r_cv hS (r_runSN (As := [.ref (ad (q + 3)), .int x2, .int x3]) (rest := []) (host := RX6) X hS (c_X6_setCell l hE (w := w) (ad := ad) (μ := μ) (D := D) (cI := cI) (cG := cG) (cL := cL) hw.2.2.2.1 eμ2) (va_cnB 3 X.1.2.2.2.2 gX1_copyDirectory_X6_setCell_n63 rfl rfl rfl (X.nest 2 rfl) (X.1.2.2.2.2 _ miX6) (by decide +kernel) ⟨Nat.le_of_ble_eq_true rfl, Nat.le_of_ble_eq_true rfl⟩) (X.1.2.2.2.2 _ ms63) rfl hl.1 rfl (Nat.le_of_ble_eq_true rfl) dX1_copyDirectory_41 ⟨Nat.zero_le _, Nat.zero_le _⟩) (fun H locs hS => ?_)
        cases h
        exact r_vret X hS hr hlk dX1_copyDirectory_44
      · replace h := ie h cc
        refine lv_aload_n hx hb dX1_copyDirectory_15 rfl (lv_at hl 0 rfl) ?_
        refine lv_iload_n hx hb dX1_copyDirectory_16 rfl (lv_at hl 2 rfl) ?_
        refine lv_iload hx hb dX1_copyDirectory_17 (lv_at hl 4 rfl) ?_
        refine lv_aload_n hx hb dX1_copyDirectory_19 rfl (lv_at hl 0 rfl) ?_
        refine lv_iload_n hx hb dX1_copyDirectory_20 rfl (lv_at hl 1 rfl) ?_
        refine lv_iload hx hb dX1_copyDirectory_21 (lv_at hl 4 rfl) ?_
        obtain ⟨v3, ev3, h⟩ := ob h
        refine r_ci hS (r_runV (As := [.int x1, .int x4]) (rest := [.int x4, .int x2, .ref (ad q)]) X hS (c_X1_leafAt l hE (w := w) (ad := ad) (μ := μ) (D := D) (cI := cI) (cG := cG) (cL := cL) hw ev3) (cwV 2 X.1.2.2.2.2 gX1_copyDirectory_X1_leafAt rfl rfl rfl (by decide +kernel) ⟨Nat.le_of_ble_eq_true rfl, Nat.le_of_ble_eq_true rfl⟩) (q0 := q) (ci := 0) rfl (hw.1 μ).1 rfl hl.1 rfl (Nat.le_of_ble_eq_true rfl) dX1_copyDirectory_23 ⟨Nat.zero_le _, Nat.zero_le _⟩) (fun H locs hS => ?_)
        obtain ⟨μ4, eμ4, h⟩ := ob h
        refine r_cv hS (r_runV (As := [.int x2, .int x4, .int v3]) (rest := []) X hS (c_X1_setLeaf l hE (w := w) (ad := ad) (μ := μ) (D := D) (cI := cI) (cG := cG) (cL := cL) hw eμ4) (cwV 3 X.1.2.2.2.2 gX1_copyDirectory_X1_setLeaf rfl rfl rfl (by decide +kernel) ⟨Nat.le_of_ble_eq_true rfl, Nat.le_of_ble_eq_true rfl⟩) (q0 := q) (ci := 0) rfl (hw.1 μ).1 rfl hl.1 rfl (Nat.le_of_ble_eq_true rfl) dX1_copyDirectory_26 ⟨Nat.zero_le _, Nat.zero_le _⟩) (fun H locs hS => ?_)
        refine lv_iinc (v := x4 + 1) (lv' := [(4, .int (x4 + 1)), (0, .ref (ad q)), (1, .int x1), (2, .int x2), (3, .int x3)]) hx hb dX1_copyDirectory_29 hl (k := 4) rfl rfl (by decide) rfl (fun ls hl => ?_)
        refine lv_goto (tgt := 9) hx hb dX1_copyDirectory_32 (by decide) ?_
        exact ih9 x1 x2 x3 (x4 + 1) μ4 _ _ _ hS (lv_sub hl [1, 2, 3, 4, 0] rfl) h
  unfold f_X1_copyDirectory at h
  refine lv_aload_n hx hb dX1_copyDirectory_0 rfl (lv_at hl 0 rfl) ?_
  refine lv_iload_n hx hb dX1_copyDirectory_1 rfl (lv_at hl 1 rfl) ?_
  obtain ⟨v1, ev1, h⟩ := ob h
  refine r_ci hS (r_runV (As := [.int a1]) (rest := []) X hS (c_X1_sizeOf l hE (w := w) (ad := ad) (μ := μ) (D := D) (cI := cI) (cG := cG) (cL := cL) hw ev1) (cwV 1 X.1.2.2.2.2 gX1_copyDirectory_X1_sizeOf rfl rfl rfl (by decide +kernel) ⟨Nat.le_of_ble_eq_true rfl, Nat.le_of_ble_eq_true rfl⟩) (q0 := q) (ci := 0) rfl (hw.1 μ).1 rfl hl.1 rfl (Nat.le_of_ble_eq_true rfl) dX1_copyDirectory_2 ⟨Nat.zero_le _, Nat.zero_le _⟩) (fun H locs hS => ?_)
  refine lv_istore_n (lv' := [(3, .int v1), (0, .ref (ad q)), (1, .int a1), (2, .int a2)]) hx hb dX1_copyDirectory_5 rfl hl (by decide) rfl (fun ls hl => ?_)
  refine lv_iconst (v := 0) hx hb dX1_copyDirectory_6 (by decide) ?_
  refine lv_istore (lv' := [(4, .int 0), (3, .int v1), (0, .ref (ad q)), (1, .int a1), (2, .int a2)]) hx hb dX1_copyDirectory_7 hl (by decide) rfl (fun ls hl => ?_)
  exact hb9 FU a1 a2 v1 0 μ _ _ _ hS (lv_sub hl [2, 3, 4, 1, 0] rfl) h
def f_X1_keyAt_b40 (q : Nat) (s0 : Int32) (μ : Mem) : Option Int32 := (some s0)
def f_X1_keyAt_b37 (q : Nat)  (μ : Mem) : Option Int32 := f_X1_keyAt_b40 q (-1000) μ
def f_X1_keyAt (q : Nat) (a1 : Int32) (a2 : Int32) (μ : Mem) : Option Int32 := (if a2 < 0 then f_X1_keyAt_b37 q μ else (if 5 ≤ a2 then f_X1_keyAt_b37 q μ else (if ((a1 * 5) + a2) < 0 then f_X1_keyAt_b37 q μ else (if 160 ≤ ((a1 * 5) + a2) then f_X1_keyAt_b37 q μ else (rd 160 (μ (q + 7)) ((a1 * 5) + a2)).bind (fun v1 => f_X1_keyAt_b40 q v1 μ)))))
set_option maxHeartbeats 4000000 in
set_option maxRecDepth 100000 in
theorem c_X1_keyAt (l : Launch) {D : va_G} {cI cG cL : ClassId} {A : Nat → Prop} {EN : State → Heap → Prop} (hE : EnOK EN A) {w : Mem → va_W} {ad : Nat → Nat} {q : Nat} {a1 : Int32} {a2 : Int32} {μ : Mem} {r : Int32} (hw : BedsAt cI w ad q) (h : f_X1_keyAt q a1 a2 μ = some r) : Met l yX1_keyAt wsX1_keyAt (rmk 0 0) (WPre D (tyl cI cG cL) A EN (w μ) [.ref (ad q), .int a1, .int a2]) (PI D A (w μ) r) 0 0 A := by
  have hiX1 : ∀ w ∈ u_ws RX1 TX1 9, w ∈ wsX1_keyAt := by decide +kernel
  have mf30 : Cond.fieldLink RX1 30 (TX1 6).1 (TX1 6).2.1 (TX1 6).2.2.1 ∈ wsX1_keyAt := by decide +kernel
  refine met_start (cc := cX1_keyAt) (nL := 4) (ret := (some .int)) (own := RX1) hE (by decide) rfl rfl (Nat.le_of_ble_eq_true rfl) (fun p e s m args below meth c ls X hS hl hr hlk => ?_)
  have hx := X.1.1
  have hb := X.1.2.1
  replace hl : lv_has ls 4 [(0, .ref (ad q)), (1, .int a1), (2, .int a2)] := hl
  have hb40 : ∀ (s0 : Int32) (H : Heap) (locs : List Loc) (ls : Array Slot), HS D A (w μ) s.heap H locs → lv_has ls 4 [] → f_X1_keyAt_b40 q s0 μ = some r → W p l e (headSpec wsX1_keyAt (rmk 0 0)).room s m args below meth c H locs 0 0 (MQ below (PI D A (w μ) r) args s 0 0 A) (F0 m 40 ls [.int s0]) := by
    intro s0 H locs ls hS hl h
    unfold f_X1_keyAt_b40 at h
    cases h
    exact r_iret X hS hr hlk dX1_keyAt_40
  have hb37 : ∀  (H : Heap) (locs : List Loc) (ls : Array Slot), HS D A (w μ) s.heap H locs → lv_has ls 4 [] → f_X1_keyAt_b37 q μ = some r → W p l e (headSpec wsX1_keyAt (rmk 0 0)).room s m args below meth c H locs 0 0 (MQ below (PI D A (w μ) r) args s 0 0 A) (F0 m 37 ls []) := by
    intro H locs ls hS hl h
    unfold f_X1_keyAt_b37 at h
    refine lv_sipush (v := (-1000)) hx hb dX1_keyAt_37 (by decide) ?_
    exact hb40 (-1000) _ _ _ hS (lv_sub hl [] rfl) h
  unfold f_X1_keyAt at h
  refine lv_iload_n hx hb dX1_keyAt_0 rfl (lv_at hl 1 rfl) ?_
  refine lv_iconst (v := 5) hx hb dX1_keyAt_1 (by decide) ?_
  refine lv_imul hx hb dX1_keyAt_2 ?_
  refine lv_iload_n hx hb dX1_keyAt_3 rfl (lv_at hl 2 rfl) ?_
  refine lv_iadd hx hb dX1_keyAt_4 ?_
  refine lv_istore_n (lv' := [(3, .int ((a1 * 5) + a2)), (0, .ref (ad q)), (1, .int a1), (2, .int a2)]) hx hb dX1_keyAt_5 rfl hl (by decide) rfl (fun ls hl => ?_)
  refine lv_iload_n hx hb dX1_keyAt_6 rfl (lv_at hl 3 rfl) ?_
  refine lv_if_lt (tgt := 37) hx hb dX1_keyAt_7 (by decide) (fun cc => ?_) (fun cc => ?_)
  · replace h := it h cc
    exact hb37  _ _ _ hS (lv_sub hl [] rfl) h
  · replace h := ie h cc
    refine lv_iload_n hx hb dX1_keyAt_10 rfl (lv_at hl 3 rfl) ?_
    refine lv_iconst (v := 5) hx hb dX1_keyAt_11 (by decide) ?_
    refine lv_icmp_ge (tgt := 37) hx hb dX1_keyAt_12 (by decide) (fun cc => ?_) (fun cc => ?_)
    · replace h := it h cc
      exact hb37  _ _ _ hS (lv_sub hl [] rfl) h
    · replace h := ie h cc
      refine lv_iload_n hx hb dX1_keyAt_15 rfl (lv_at hl 0 rfl) ?_
      refine lv_if_lt (tgt := 37) hx hb dX1_keyAt_16 (by decide) (fun cc => ?_) (fun cc => ?_)
      · replace h := it h cc
        exact hb37  _ _ _ hS (lv_sub hl [] rfl) h
      · replace h := ie h cc
        refine lv_iload_n hx hb dX1_keyAt_19 rfl (lv_at hl 0 rfl) ?_
        refine lv_aload_n hx hb dX1_keyAt_20 rfl (lv_at hl 1 rfl) ?_
        refine r_get X hS (T := TX1) (k := 6) (hw.1 μ).1 rfl hiX1 (by decide) mf30 rfl dX1_keyAt_21 ?_
        refine r_alen X hS (hw.2.2.2.2.2.2.2.1 μ).1 (v := 160) (by decide) dX1_keyAt_24 ?_
        refine lv_icmp_ge (tgt := 37) hx hb dX1_keyAt_25 (by decide) (fun cc => ?_) (fun cc => ?_)
        · replace h := it h cc
          exact hb37  _ _ _ hS (lv_sub hl [] rfl) h
        · replace h := ie h cc
          refine lv_aload_n hx hb dX1_keyAt_28 rfl (lv_at hl 1 rfl) ?_
          refine r_get X hS (T := TX1) (k := 6) (hw.1 μ).1 rfl hiX1 (by decide) mf30 rfl dX1_keyAt_29 ?_
          refine lv_iload_n hx hb dX1_keyAt_32 rfl (lv_at hl 0 rfl) ?_
          obtain ⟨v1, ev1, h⟩ := ob h
          refine r_iald X hS (hw.2.2.2.2.2.2.2.1 μ).1 ev1 dX1_keyAt_33 ?_
          refine lv_goto (tgt := 40) hx hb dX1_keyAt_34 (by decide) ?_
          exact hb40 v1 _ _ _ hS (lv_sub hl [] rfl) h
def f_X1_leafPlace_b48 (q : Nat) (k22 : Int32 → Int32 → Int32 → Int32 → Int32 → Mem → Option Int32) (x1 : Int32) (x2 : Int32) (x3 : Int32) (x4 : Int32) (x5 : Int32) (μ : Mem) : Option Int32 := k22 x1 x2 x3 x4 (x5 + 1) μ
def f_X1_leafPlace_b22 (q : Nat)  : Nat → Int32 → Int32 → Int32 → Int32 → Int32 → Mem → Option Int32
  | 0, _, _, _, _, _, _ => none
  | fuel22 + 1, x1, x2, x3, x4, x5, μ => (if x3 ≤ x5 then (some x4) else (f_X1_leafAt q x1 x5 μ).bind (fun v2 => (f_X1_keyAt q v2 0 μ).bind (fun v3 => (if x2 < v3 then f_X1_leafPlace_b48 q (f_X1_leafPlace_b22 q fuel22) x1 x2 x3 x4 x5 μ else f_X1_leafPlace_b48 q (f_X1_leafPlace_b22 q fuel22) x1 x2 x3 x5 x5 μ))))
def f_X1_leafPlace_b17 (q : Nat) (x1 : Int32) (x2 : Int32) (x3 : Int32) (s0 : Int32) (μ : Mem) : Option Int32 := f_X1_leafPlace_b22 q FU x1 x2 x3 s0 1 μ
def f_X1_leafPlace (q : Nat) (a1 : Int32) (a2 : Int32) (μ : Mem) : Option Int32 := (f_X1_sizeOf q a1 μ).bind (fun v1 => (if v1 ≤ 0 then f_X1_leafPlace_b17 q a1 a2 v1 (-1000) μ else f_X1_leafPlace_b17 q a1 a2 v1 0 μ))
set_option maxHeartbeats 4000000 in
set_option maxRecDepth 100000 in
theorem c_X1_leafPlace (l : Launch) {D : va_G} {cI cG cL : ClassId} {A : Nat → Prop} {EN : State → Heap → Prop} (hE : EnOK EN A) {w : Mem → va_W} {ad : Nat → Nat} {q : Nat} {a1 : Int32} {a2 : Int32} {μ : Mem} {r : Int32} (hw : BedsAt cI w ad q) (h : f_X1_leafPlace q a1 a2 μ = some r) : Met l yX1_leafPlace wsX1_leafPlace (rmk 1 23) (WPre D (tyl cI cG cL) A EN (w μ) [.ref (ad q), .int a1, .int a2]) (PI D A (w μ) r) 0 0 A := by
  refine met_start (cc := cX1_leafPlace) (nL := 6) (ret := (some .int)) (own := RX1) hE (by decide) rfl rfl (Nat.le_of_ble_eq_true rfl) (fun p e s m args below meth c ls X hS hl hr hlk => ?_)
  have hx := X.1.1
  have hb := X.1.2.1
  replace hl : lv_has ls 6 [(0, .ref (ad q)), (1, .int a1), (2, .int a2)] := hl
  have hb48 : ∀ (k22 : Int32 → Int32 → Int32 → Int32 → Int32 → Mem → Option Int32), (∀ (x1 : Int32) (x2 : Int32) (x3 : Int32) (x4 : Int32) (x5 : Int32) (H : Heap) (locs : List Loc) (ls : Array Slot), HS D A (w μ) s.heap H locs → lv_has ls 6 [(0, .ref (ad q)), (1, .int x1), (2, .int x2), (3, .int x3), (4, .int x4), (5, .int x5)] → k22 x1 x2 x3 x4 x5 μ = some r → W p l e (headSpec wsX1_leafPlace (rmk 1 23)).room s m args below meth c H locs 0 0 (MQ below (PI D A (w μ) r) args s 0 0 A) (F0 m 22 ls [])) → ∀ (x1 : Int32) (x2 : Int32) (x3 : Int32) (x4 : Int32) (x5 : Int32) (H : Heap) (locs : List Loc) (ls : Array Slot), HS D A (w μ) s.heap H locs → lv_has ls 6 [(0, .ref (ad q)), (1, .int x1), (2, .int x2), (3, .int x3), (4, .int x4), (5, .int x5)] → f_X1_leafPlace_b48 q k22 x1 x2 x3 x4 x5 μ = some r → W p l e (headSpec wsX1_leafPlace (rmk 1 23)).room s m args below meth c H locs 0 0 (MQ below (PI D A (w μ) r) args s 0 0 A) (F0 m 48 ls []) := by
    intro k22 hk22 x1 x2 x3 x4 x5 H locs ls hS hl h
    unfold f_X1_leafPlace_b48 at h
    refine lv_iinc (v := x5 + 1) (lv' := [(5, .int (x5 + 1)), (0, .ref (ad q)), (1, .int x1), (2, .int x2), (3, .int x3), (4, .int x4)]) hx hb dX1_leafPlace_48 hl (k := 5) rfl rfl (by decide) rfl (fun ls hl => ?_)
    refine lv_goto (tgt := 22) hx hb dX1_leafPlace_51 (by decide) ?_
    exact hk22 x1 x2 x3 x4 (x5 + 1) _ _ _ hS (lv_sub hl [1, 2, 3, 4, 5, 0] rfl) h
  have hb22 : ∀ (fu : Nat) (x1 : Int32) (x2 : Int32) (x3 : Int32) (x4 : Int32) (x5 : Int32) (H : Heap) (locs : List Loc) (ls : Array Slot), HS D A (w μ) s.heap H locs → lv_has ls 6 [(0, .ref (ad q)), (1, .int x1), (2, .int x2), (3, .int x3), (4, .int x4), (5, .int x5)] → f_X1_leafPlace_b22 q fu x1 x2 x3 x4 x5 μ = some r → W p l e (headSpec wsX1_leafPlace (rmk 1 23)).room s m args below meth c H locs 0 0 (MQ below (PI D A (w μ) r) args s 0 0 A) (F0 m 22 ls []) := by
    intro fu
    induction fu with
    | zero =>
      intro x1 x2 x3 x4 x5 H locs ls hS hl h
      rw [f_X1_leafPlace_b22] at h
      cases h
    | succ fuel22 ih22 =>
      intro x1 x2 x3 x4 x5 H locs ls hS hl h
      rw [f_X1_leafPlace_b22] at h
      refine lv_iload hx hb dX1_leafPlace_22 (lv_at hl 5 rfl) ?_
      refine lv_iload_n hx hb dX1_leafPlace_24 rfl (lv_at hl 3 rfl) ?_
      refine lv_icmp_ge (tgt := 54) hx hb dX1_leafPlace_25 (by decide) (fun cc => ?_) (fun cc => ?_)
      · replace h := it h cc
        refine lv_iload hx hb dX1_leafPlace_54 (lv_at hl 4 rfl) ?_
        cases h
        exact r_iret X hS hr hlk dX1_leafPlace_56
      · replace h := ie h cc
        refine lv_aload_n hx hb dX1_leafPlace_28 rfl (lv_at hl 0 rfl) ?_
        refine lv_aload_n hx hb dX1_leafPlace_29 rfl (lv_at hl 0 rfl) ?_
        refine lv_iload_n hx hb dX1_leafPlace_30 rfl (lv_at hl 1 rfl) ?_
        refine lv_iload hx hb dX1_leafPlace_31 (lv_at hl 5 rfl) ?_
        obtain ⟨v2, ev2, h⟩ := ob h
        refine r_ci hS (r_runV (As := [.int x1, .int x5]) (rest := [.ref (ad q)]) X hS (c_X1_leafAt l hE (w := w) (ad := ad) (μ := μ) (D := D) (cI := cI) (cG := cG) (cL := cL) hw ev2) (cwV 2 X.1.2.2.2.2 gX1_leafPlace_X1_leafAt rfl rfl rfl (by decide +kernel) ⟨Nat.le_of_ble_eq_true rfl, Nat.le_of_ble_eq_true rfl⟩) (q0 := q) (ci := 0) rfl (hw.1 μ).1 rfl hl.1 rfl (Nat.le_of_ble_eq_true rfl) dX1_leafPlace_33 ⟨Nat.zero_le _, Nat.zero_le _⟩) (fun H locs hS => ?_)
        refine lv_iconst (v := 0) hx hb dX1_leafPlace_36 (by decide) ?_
        obtain ⟨v3, ev3, h⟩ := ob h
        refine r_ci hS (r_runV (As := [.int v2, .int 0]) (rest := []) X hS (c_X1_keyAt l hE (w := w) (ad := ad) (μ := μ) (D := D) (cI := cI) (cG := cG) (cL := cL) hw ev3) (cwV 2 X.1.2.2.2.2 gX1_leafPlace_X1_keyAt rfl rfl rfl (by decide +kernel) ⟨Nat.le_of_ble_eq_true rfl, Nat.le_of_ble_eq_true rfl⟩) (q0 := q) (ci := 0) rfl (hw.1 μ).1 rfl hl.1 rfl (Nat.le_of_ble_eq_true rfl) dX1_leafPlace_37 ⟨Nat.zero_le _, Nat.zero_le _⟩) (fun H locs hS => ?_)
        refine lv_iload_n hx hb dX1_leafPlace_40 rfl (lv_at hl 2 rfl) ?_
        refine lv_icmp_gt (tgt := 48) hx hb dX1_leafPlace_41 (by decide) (fun cc => ?_) (fun cc => ?_)
        · replace h := it h cc
          exact hb48 (f_X1_leafPlace_b22 q fuel22) ih22 x1 x2 x3 x4 x5 _ _ _ hS (lv_sub hl [0, 1, 2, 3, 4, 5] rfl) h
        · replace h := ie h cc
          refine lv_iload hx hb dX1_leafPlace_44 (lv_at hl 5 rfl) ?_
          refine lv_istore (lv' := [(4, .int x5), (0, .ref (ad q)), (1, .int x1), (2, .int x2), (3, .int x3), (5, .int x5)]) hx hb dX1_leafPlace_46 hl (by decide) rfl (fun ls hl => ?_)
          exact hb48 (f_X1_leafPlace_b22 q fuel22) ih22 x1 x2 x3 x5 x5 _ _ _ hS (lv_sub hl [1, 2, 3, 4, 0, 5] rfl) h
  have hb17 : ∀ (x1 : Int32) (x2 : Int32) (x3 : Int32) (s0 : Int32) (H : Heap) (locs : List Loc) (ls : Array Slot), HS D A (w μ) s.heap H locs → lv_has ls 6 [(0, .ref (ad q)), (1, .int x1), (2, .int x2), (3, .int x3)] → f_X1_leafPlace_b17 q x1 x2 x3 s0 μ = some r → W p l e (headSpec wsX1_leafPlace (rmk 1 23)).room s m args below meth c H locs 0 0 (MQ below (PI D A (w μ) r) args s 0 0 A) (F0 m 17 ls [.int s0]) := by
    intro x1 x2 x3 s0 H locs ls hS hl h
    unfold f_X1_leafPlace_b17 at h
    refine lv_istore (lv' := [(4, .int s0), (0, .ref (ad q)), (1, .int x1), (2, .int x2), (3, .int x3)]) hx hb dX1_leafPlace_17 hl (by decide) rfl (fun ls hl => ?_)
    refine lv_iconst (v := 1) hx hb dX1_leafPlace_19 (by decide) ?_
    refine lv_istore (lv' := [(5, .int 1), (4, .int s0), (0, .ref (ad q)), (1, .int x1), (2, .int x2), (3, .int x3)]) hx hb dX1_leafPlace_20 hl (by decide) rfl (fun ls hl => ?_)
    exact hb22 FU x1 x2 x3 s0 1 _ _ _ hS (lv_sub hl [2, 3, 4, 5, 1, 0] rfl) h
  unfold f_X1_leafPlace at h
  refine lv_aload_n hx hb dX1_leafPlace_0 rfl (lv_at hl 0 rfl) ?_
  refine lv_iload_n hx hb dX1_leafPlace_1 rfl (lv_at hl 1 rfl) ?_
  obtain ⟨v1, ev1, h⟩ := ob h
  refine r_ci hS (r_runV (As := [.int a1]) (rest := []) X hS (c_X1_sizeOf l hE (w := w) (ad := ad) (μ := μ) (D := D) (cI := cI) (cG := cG) (cL := cL) hw ev1) (cwV 1 X.1.2.2.2.2 gX1_leafPlace_X1_sizeOf rfl rfl rfl (by decide +kernel) ⟨Nat.le_of_ble_eq_true rfl, Nat.le_of_ble_eq_true rfl⟩) (q0 := q) (ci := 0) rfl (hw.1 μ).1 rfl hl.1 rfl (Nat.le_of_ble_eq_true rfl) dX1_leafPlace_2 ⟨Nat.zero_le _, Nat.zero_le _⟩) (fun H locs hS => ?_)
  refine lv_istore_n (lv' := [(3, .int v1), (0, .ref (ad q)), (1, .int a1), (2, .int a2)]) hx hb dX1_leafPlace_5 rfl hl (by decide) rfl (fun ls hl => ?_)
  refine lv_iload_n hx hb dX1_leafPlace_6 rfl (lv_at hl 0 rfl) ?_
  refine lv_if_le (tgt := 14) hx hb dX1_leafPlace_7 (by decide) (fun cc => ?_) (fun cc => ?_)
  · replace h := it h cc
    refine lv_sipush (v := (-1000)) hx hb dX1_leafPlace_14 (by decide) ?_
    exact hb17 a1 a2 v1 (-1000) _ _ _ hS (lv_sub hl [1, 2, 3, 0] rfl) h
  · replace h := ie h cc
    refine lv_iconst (v := 0) hx hb dX1_leafPlace_10 (by decide) ?_
    refine lv_goto (tgt := 17) hx hb dX1_leafPlace_11 (by decide) ?_
    exact hb17 a1 a2 v1 0 _ _ _ hS (lv_sub hl [1, 2, 3, 0] rfl) h
def f_X1_entryPlace_b9 (q : Nat)  : Nat → Int32 → Int32 → Int32 → Int32 → Mem → Option Int32
  | 0, _, _, _, _, _ => none
  | fuel9 + 1, x1, x2, x3, x4, μ => (if x3 ≤ x4 then (some (-1000)) else (f_X1_keyAt q x1 x4 μ).bind (fun v2 => (if v2 = x2 then (some x4) else f_X1_entryPlace_b9 q fuel9 x1 x2 x3 (x4 + 1) μ)))
def f_X1_entryPlace (q : Nat) (a1 : Int32) (a2 : Int32) (μ : Mem) : Option Int32 := (f_X1_sizeOf q a1 μ).bind (fun v1 => f_X1_entryPlace_b9 q FU a1 a2 v1 0 μ)
set_option maxHeartbeats 4000000 in
set_option maxRecDepth 100000 in
theorem c_X1_entryPlace (l : Launch) {D : va_G} {cI cG cL : ClassId} {A : Nat → Prop} {EN : State → Heap → Prop} (hE : EnOK EN A) {w : Mem → va_W} {ad : Nat → Nat} {q : Nat} {a1 : Int32} {a2 : Int32} {μ : Mem} {r : Int32} (hw : BedsAt cI w ad q) (h : f_X1_entryPlace q a1 a2 μ = some r) : Met l yX1_entryPlace wsX1_entryPlace (rmk 1 23) (WPre D (tyl cI cG cL) A EN (w μ) [.ref (ad q), .int a1, .int a2]) (PI D A (w μ) r) 0 0 A := by
  refine met_start (cc := cX1_entryPlace) (nL := 5) (ret := (some .int)) (own := RX1) hE (by decide) rfl rfl (Nat.le_of_ble_eq_true rfl) (fun p e s m args below meth c ls X hS hl hr hlk => ?_)
  have hx := X.1.1
  have hb := X.1.2.1
  replace hl : lv_has ls 5 [(0, .ref (ad q)), (1, .int a1), (2, .int a2)] := hl
  have hb9 : ∀ (fu : Nat) (x1 : Int32) (x2 : Int32) (x3 : Int32) (x4 : Int32) (H : Heap) (locs : List Loc) (ls : Array Slot), HS D A (w μ) s.heap H locs → lv_has ls 5 [(0, .ref (ad q)), (1, .int x1), (2, .int x2), (3, .int x3), (4, .int x4)] → f_X1_entryPlace_b9 q fu x1 x2 x3 x4 μ = some r → W p l e (headSpec wsX1_entryPlace (rmk 1 23)).room s m args below meth c H locs 0 0 (MQ below (PI D A (w μ) r) args s 0 0 A) (F0 m 9 ls []) := by
    intro fu
    induction fu with
    | zero =>
      intro x1 x2 x3 x4 H locs ls hS hl h
      rw [f_X1_entryPlace_b9] at h
      cases h
    | succ fuel9 ih9 =>
      intro x1 x2 x3 x4 H locs ls hS hl h
      rw [f_X1_entryPlace_b9] at h
      refine lv_iload hx hb dX1_entryPlace_9 (lv_at hl 4 rfl) ?_
      refine lv_iload_n hx hb dX1_entryPlace_11 rfl (lv_at hl 3 rfl) ?_
      refine lv_icmp_ge (tgt := 35) hx hb dX1_entryPlace_12 (by decide) (fun cc => ?_) (fun cc => ?_)
      · replace h := it h cc
        refine lv_sipush (v := (-1000)) hx hb dX1_entryPlace_35 (by decide) ?_
        cases h
        exact r_iret X hS hr hlk dX1_entryPlace_38
      · replace h := ie h cc
        refine lv_aload_n hx hb dX1_entryPlace_15 rfl (lv_at hl 0 rfl) ?_
        refine lv_iload_n hx hb dX1_entryPlace_16 rfl (lv_at hl 1 rfl) ?_
        refine lv_iload hx hb dX1_entryPlace_17 (lv_at hl 4 rfl) ?_
        obtain ⟨v2, ev2, h⟩ := ob h
        refine r_ci hS (r_runV (As := [.int x1, .int x4]) (rest := []) X hS (c_X1_keyAt l hE (w := w) (ad := ad) (μ := μ) (D := D) (cI := cI) (cG := cG) (cL := cL) hw ev2) (cwV 2 X.1.2.2.2.2 gX1_entryPlace_X1_keyAt rfl rfl rfl (by decide +kernel) ⟨Nat.le_of_ble_eq_true rfl, Nat.le_of_ble_eq_true rfl⟩) (q0 := q) (ci := 0) rfl (hw.1 μ).1 rfl hl.1 rfl (Nat.le_of_ble_eq_true rfl) dX1_entryPlace_19 ⟨Nat.zero_le _, Nat.zero_le _⟩) (fun H locs hS => ?_)
        refine lv_iload_n hx hb dX1_entryPlace_22 rfl (lv_at hl 2 rfl) ?_
        refine lv_icmp_ne (tgt := 29) hx hb dX1_entryPlace_23 (by decide) (fun cc => ?_) (fun cc => ?_)
        · replace h := ie h cc
          refine lv_iinc (v := x4 + 1) (lv' := [(4, .int (x4 + 1)), (0, .ref (ad q)), (1, .int x1), (2, .int x2), (3, .int x3)]) hx hb dX1_entryPlace_29 hl (k := 4) rfl rfl (by decide) rfl (fun ls hl => ?_)
          refine lv_goto (tgt := 9) hx hb dX1_entryPlace_32 (by decide) ?_
          exact ih9 x1 x2 x3 (x4 + 1) _ _ _ hS (lv_sub hl [1, 2, 3, 4, 0] rfl) h
        · replace h := it h cc
          refine lv_iload hx hb dX1_entryPlace_26 (lv_at hl 4 rfl) ?_
          cases h
          exact r_iret X hS hr hlk dX1_entryPlace_28
  unfold f_X1_entryPlace at h
  refine lv_aload_n hx hb dX1_entryPlace_0 rfl (lv_at hl 0 rfl) ?_
  refine lv_iload_n hx hb dX1_entryPlace_1 rfl (lv_at hl 1 rfl) ?_
  obtain ⟨v1, ev1, h⟩ := ob h
  refine r_ci hS (r_runV (As := [.int a1]) (rest := []) X hS (c_X1_sizeOf l hE (w := w) (ad := ad) (μ := μ) (D := D) (cI := cI) (cG := cG) (cL := cL) hw ev1) (cwV 1 X.1.2.2.2.2 gX1_entryPlace_X1_sizeOf rfl rfl rfl (by decide +kernel) ⟨Nat.le_of_ble_eq_true rfl, Nat.le_of_ble_eq_true rfl⟩) (q0 := q) (ci := 0) rfl (hw.1 μ).1 rfl hl.1 rfl (Nat.le_of_ble_eq_true rfl) dX1_entryPlace_2 ⟨Nat.zero_le _, Nat.zero_le _⟩) (fun H locs hS => ?_)
  refine lv_istore_n (lv' := [(3, .int v1), (0, .ref (ad q)), (1, .int a1), (2, .int a2)]) hx hb dX1_entryPlace_5 rfl hl (by decide) rfl (fun ls hl => ?_)
  refine lv_iconst (v := 0) hx hb dX1_entryPlace_6 (by decide) ?_
  refine lv_istore (lv' := [(4, .int 0), (3, .int v1), (0, .ref (ad q)), (1, .int a1), (2, .int a2)]) hx hb dX1_entryPlace_7 hl (by decide) rfl (fun ls hl => ?_)
  exact hb9 FU a1 a2 v1 0 _ _ _ hS (lv_sub hl [2, 3, 4, 1, 0] rfl) h
def f_X1_valueAt_b40 (q : Nat) (s0 : Int32) (μ : Mem) : Option Int32 := (some s0)
def f_X1_valueAt_b37 (q : Nat)  (μ : Mem) : Option Int32 := f_X1_valueAt_b40 q (-1000) μ
def f_X1_valueAt (q : Nat) (a1 : Int32) (a2 : Int32) (μ : Mem) : Option Int32 := (if a2 < 0 then f_X1_valueAt_b37 q μ else (if 5 ≤ a2 then f_X1_valueAt_b37 q μ else (if ((a1 * 5) + a2) < 0 then f_X1_valueAt_b37 q μ else (if 160 ≤ ((a1 * 5) + a2) then f_X1_valueAt_b37 q μ else (rd 160 (μ (q + 8)) ((a1 * 5) + a2)).bind (fun v1 => f_X1_valueAt_b40 q v1 μ)))))
set_option maxHeartbeats 4000000 in
set_option maxRecDepth 100000 in
theorem c_X1_valueAt (l : Launch) {D : va_G} {cI cG cL : ClassId} {A : Nat → Prop} {EN : State → Heap → Prop} (hE : EnOK EN A) {w : Mem → va_W} {ad : Nat → Nat} {q : Nat} {a1 : Int32} {a2 : Int32} {μ : Mem} {r : Int32} (hw : BedsAt cI w ad q) (h : f_X1_valueAt q a1 a2 μ = some r) : Met l yX1_valueAt wsX1_valueAt (rmk 0 0) (WPre D (tyl cI cG cL) A EN (w μ) [.ref (ad q), .int a1, .int a2]) (PI D A (w μ) r) 0 0 A := by
  have hiX1 : ∀ w ∈ u_ws RX1 TX1 9, w ∈ wsX1_valueAt := by decide +kernel
  have mf33 : Cond.fieldLink RX1 33 (TX1 7).1 (TX1 7).2.1 (TX1 7).2.2.1 ∈ wsX1_valueAt := by decide +kernel
  refine met_start (cc := cX1_valueAt) (nL := 4) (ret := (some .int)) (own := RX1) hE (by decide) rfl rfl (Nat.le_of_ble_eq_true rfl) (fun p e s m args below meth c ls X hS hl hr hlk => ?_)
  have hx := X.1.1
  have hb := X.1.2.1
  replace hl : lv_has ls 4 [(0, .ref (ad q)), (1, .int a1), (2, .int a2)] := hl
  have hb40 : ∀ (s0 : Int32) (H : Heap) (locs : List Loc) (ls : Array Slot), HS D A (w μ) s.heap H locs → lv_has ls 4 [] → f_X1_valueAt_b40 q s0 μ = some r → W p l e (headSpec wsX1_valueAt (rmk 0 0)).room s m args below meth c H locs 0 0 (MQ below (PI D A (w μ) r) args s 0 0 A) (F0 m 40 ls [.int s0]) := by
    intro s0 H locs ls hS hl h
    unfold f_X1_valueAt_b40 at h
    cases h
    exact r_iret X hS hr hlk dX1_valueAt_40
  have hb37 : ∀  (H : Heap) (locs : List Loc) (ls : Array Slot), HS D A (w μ) s.heap H locs → lv_has ls 4 [] → f_X1_valueAt_b37 q μ = some r → W p l e (headSpec wsX1_valueAt (rmk 0 0)).room s m args below meth c H locs 0 0 (MQ below (PI D A (w μ) r) args s 0 0 A) (F0 m 37 ls []) := by
    intro H locs ls hS hl h
    unfold f_X1_valueAt_b37 at h
    refine lv_sipush (v := (-1000)) hx hb dX1_valueAt_37 (by decide) ?_
    exact hb40 (-1000) _ _ _ hS (lv_sub hl [] rfl) h
  unfold f_X1_valueAt at h
  refine lv_iload_n hx hb dX1_valueAt_0 rfl (lv_at hl 1 rfl) ?_
  refine lv_iconst (v := 5) hx hb dX1_valueAt_1 (by decide) ?_
  refine lv_imul hx hb dX1_valueAt_2 ?_
  refine lv_iload_n hx hb dX1_valueAt_3 rfl (lv_at hl 2 rfl) ?_
  refine lv_iadd hx hb dX1_valueAt_4 ?_
  refine lv_istore_n (lv' := [(3, .int ((a1 * 5) + a2)), (0, .ref (ad q)), (1, .int a1), (2, .int a2)]) hx hb dX1_valueAt_5 rfl hl (by decide) rfl (fun ls hl => ?_)
  refine lv_iload_n hx hb dX1_valueAt_6 rfl (lv_at hl 3 rfl) ?_
  refine lv_if_lt (tgt := 37) hx hb dX1_valueAt_7 (by decide) (fun cc => ?_) (fun cc => ?_)
  · replace h := it h cc
    exact hb37  _ _ _ hS (lv_sub hl [] rfl) h
  · replace h := ie h cc
    refine lv_iload_n hx hb dX1_valueAt_10 rfl (lv_at hl 3 rfl) ?_
    refine lv_iconst (v := 5) hx hb dX1_valueAt_11 (by decide) ?_
    refine lv_icmp_ge (tgt := 37) hx hb dX1_valueAt_12 (by decide) (fun cc => ?_) (fun cc => ?_)
    · replace h := it h cc
      exact hb37  _ _ _ hS (lv_sub hl [] rfl) h
    · replace h := ie h cc
      refine lv_iload_n hx hb dX1_valueAt_15 rfl (lv_at hl 0 rfl) ?_
      refine lv_if_lt (tgt := 37) hx hb dX1_valueAt_16 (by decide) (fun cc => ?_) (fun cc => ?_)
      · replace h := it h cc
        exact hb37  _ _ _ hS (lv_sub hl [] rfl) h
      · replace h := ie h cc
        refine lv_iload_n hx hb dX1_valueAt_19 rfl (lv_at hl 0 rfl) ?_
        refine lv_aload_n hx hb dX1_valueAt_20 rfl (lv_at hl 1 rfl) ?_
        refine r_get X hS (T := TX1) (k := 7) (hw.1 μ).1 rfl hiX1 (by decide) mf33 rfl dX1_valueAt_21 ?_
        refine r_alen X hS (hw.2.2.2.2.2.2.2.2.1 μ).1 (v := 160) (by decide) dX1_valueAt_24 ?_
        refine lv_icmp_ge (tgt := 37) hx hb dX1_valueAt_25 (by decide) (fun cc => ?_) (fun cc => ?_)
        · replace h := it h cc
          exact hb37  _ _ _ hS (lv_sub hl [] rfl) h
        · replace h := ie h cc
          refine lv_aload_n hx hb dX1_valueAt_28 rfl (lv_at hl 1 rfl) ?_
          refine r_get X hS (T := TX1) (k := 7) (hw.1 μ).1 rfl hiX1 (by decide) mf33 rfl dX1_valueAt_29 ?_
          refine lv_iload_n hx hb dX1_valueAt_32 rfl (lv_at hl 0 rfl) ?_
          obtain ⟨v1, ev1, h⟩ := ob h
          refine r_iald X hS (hw.2.2.2.2.2.2.2.2.1 μ).1 ev1 dX1_valueAt_33 ?_
          refine lv_goto (tgt := 40) hx hb dX1_valueAt_34 (by decide) ?_
          exact hb40 v1 _ _ _ hS (lv_sub hl [] rfl) h
def f_X1_valueIn (q : Nat) (a1 : Int32) (a2 : Int32) (μ : Mem) : Option Int32 := (f_X1_leafPlace q a1 a2 μ).bind (fun v1 => (f_X1_leafAt q a1 v1 μ).bind (fun v2 => (f_X1_entryPlace q v2 a2 μ).bind (fun v3 => (f_X1_valueAt q v2 v3 μ).bind (fun v4 => (some v4)))))
set_option maxHeartbeats 4000000 in
set_option maxRecDepth 100000 in
theorem c_X1_valueIn (l : Launch) {D : va_G} {cI cG cL : ClassId} {A : Nat → Prop} {EN : State → Heap → Prop} (hE : EnOK EN A) {w : Mem → va_W} {ad : Nat → Nat} {q : Nat} {a1 : Int32} {a2 : Int32} {μ : Mem} {r : Int32} (hw : BedsAt cI w ad q) (h : f_X1_valueIn q a1 a2 μ = some r) : Met l yX1_valueIn wsX1_valueIn (rmk 2 48) (WPre D (tyl cI cG cL) A EN (w μ) [.ref (ad q), .int a1, .int a2]) (PI D A (w μ) r) 0 0 A := by
  refine met_start (cc := cX1_valueIn) (nL := 4) (ret := (some .int)) (own := RX1) hE (by decide) rfl rfl (Nat.le_of_ble_eq_true rfl) (fun p e s m args below meth c ls X hS hl hr hlk => ?_)
  have hx := X.1.1
  have hb := X.1.2.1
  replace hl : lv_has ls 4 [(0, .ref (ad q)), (1, .int a1), (2, .int a2)] := hl
  unfold f_X1_valueIn at h
  refine lv_aload_n hx hb dX1_valueIn_0 rfl (lv_at hl 0 rfl) ?_
  refine lv_iload_n hx hb dX1_valueIn_1 rfl (lv_at hl 1 rfl) ?_
  refine lv_aload_n hx hb dX1_valueIn_2 rfl (lv_at hl 0 rfl) ?_
  refine lv_iload_n hx hb dX1_valueIn_3 rfl (lv_at hl 1 rfl) ?_
  refine lv_iload_n hx hb dX1_valueIn_4 rfl (lv_at hl 2 rfl) ?_
  obtain ⟨v1, ev1, h⟩ := ob h
  refine r_ci hS (r_runV (As := [.int a1, .int a2]) (rest := [.int a1, .ref (ad q)]) X hS (c_X1_leafPlace l hE (w := w) (ad := ad) (μ := μ) (D := D) (cI := cI) (cG := cG) (cL := cL) hw ev1) (cwV 2 X.1.2.2.2.2 gX1_valueIn_X1_leafPlace rfl rfl rfl (by decide +kernel) ⟨Nat.le_of_ble_eq_true rfl, Nat.le_of_ble_eq_true rfl⟩) (q0 := q) (ci := 0) rfl (hw.1 μ).1 rfl hl.1 rfl (Nat.le_of_ble_eq_true rfl) dX1_valueIn_5 ⟨Nat.zero_le _, Nat.zero_le _⟩) (fun H locs hS => ?_)
  obtain ⟨v2, ev2, h⟩ := ob h
  refine r_ci hS (r_runV (As := [.int a1, .int v1]) (rest := []) X hS (c_X1_leafAt l hE (w := w) (ad := ad) (μ := μ) (D := D) (cI := cI) (cG := cG) (cL := cL) hw ev2) (cwV 2 X.1.2.2.2.2 gX1_valueIn_X1_leafAt rfl rfl rfl (by decide +kernel) ⟨Nat.le_of_ble_eq_true rfl, Nat.le_of_ble_eq_true rfl⟩) (q0 := q) (ci := 0) rfl (hw.1 μ).1 rfl hl.1 rfl (Nat.le_of_ble_eq_true rfl) dX1_valueIn_8 ⟨Nat.zero_le _, Nat.zero_le _⟩) (fun H locs hS => ?_)
  refine lv_istore_n (lv' := [(3, .int v2), (0, .ref (ad q)), (1, .int a1), (2, .int a2)]) hx hb dX1_valueIn_11 rfl hl (by decide) rfl (fun ls hl => ?_)
  refine lv_aload_n hx hb dX1_valueIn_12 rfl (lv_at hl 1 rfl) ?_
  refine lv_iload_n hx hb dX1_valueIn_13 rfl (lv_at hl 0 rfl) ?_
  refine lv_aload_n hx hb dX1_valueIn_14 rfl (lv_at hl 1 rfl) ?_
  refine lv_iload_n hx hb dX1_valueIn_15 rfl (lv_at hl 0 rfl) ?_
  refine lv_iload_n hx hb dX1_valueIn_16 rfl (lv_at hl 3 rfl) ?_
  obtain ⟨v3, ev3, h⟩ := ob h
  refine r_ci hS (r_runV (As := [.int v2, .int a2]) (rest := [.int v2, .ref (ad q)]) X hS (c_X1_entryPlace l hE (w := w) (ad := ad) (μ := μ) (D := D) (cI := cI) (cG := cG) (cL := cL) hw ev3) (cwV 2 X.1.2.2.2.2 gX1_valueIn_X1_entryPlace rfl rfl rfl (by decide +kernel) ⟨Nat.le_of_ble_eq_true rfl, Nat.le_of_ble_eq_true rfl⟩) (q0 := q) (ci := 0) rfl (hw.1 μ).1 rfl hl.1 rfl (Nat.le_of_ble_eq_true rfl) dX1_valueIn_17 ⟨Nat.zero_le _, Nat.zero_le _⟩) (fun H locs hS => ?_)
  obtain ⟨v4, ev4, h⟩ := ob h
  refine r_ci hS (r_runV (As := [.int v2, .int v3]) (rest := []) X hS (c_X1_valueAt l hE (w := w) (ad := ad) (μ := μ) (D := D) (cI := cI) (cG := cG) (cL := cL) hw ev4) (cwV 2 X.1.2.2.2.2 gX1_valueIn_X1_valueAt rfl rfl rfl (by decide +kernel) ⟨Nat.le_of_ble_eq_true rfl, Nat.le_of_ble_eq_true rfl⟩) (q0 := q) (ci := 0) rfl (hw.1 μ).1 rfl hl.1 rfl (Nat.le_of_ble_eq_true rfl) dX1_valueIn_20 ⟨Nat.zero_le _, Nat.zero_le _⟩) (fun H locs hS => ?_)
  cases h
  exact r_iret X hS hr hlk dX1_valueIn_23
def f_X1_entriesIn_b11 (q : Nat)  : Nat → Int32 → Int32 → Int32 → Int32 → Mem → Option Int32
  | 0, _, _, _, _, _ => none
  | fuel11 + 1, x1, x2, x3, x4, μ => (if x3 ≤ x4 then (some x2) else (f_X1_leafAt q x1 x4 μ).bind (fun v2 => (f_X1_sizeOf q v2 μ).bind (fun v3 => f_X1_entriesIn_b11 q fuel11 x1 (x2 + v3) x3 (x4 + 1) μ)))
def f_X1_entriesIn (q : Nat) (a1 : Int32) (μ : Mem) : Option Int32 := (f_X1_sizeOf q a1 μ).bind (fun v1 => f_X1_entriesIn_b11 q FU a1 0 v1 0 μ)
set_option maxHeartbeats 4000000 in
set_option maxRecDepth 100000 in
theorem c_X1_entriesIn (l : Launch) {D : va_G} {cI cG cL : ClassId} {A : Nat → Prop} {EN : State → Heap → Prop} (hE : EnOK EN A) {w : Mem → va_W} {ad : Nat → Nat} {q : Nat} {a1 : Int32} {μ : Mem} {r : Int32} (hw : BedsAt cI w ad q) (h : f_X1_entriesIn q a1 μ = some r) : Met l yX1_entriesIn wsX1_entriesIn (rmk 1 23) (WPre D (tyl cI cG cL) A EN (w μ) [.ref (ad q), .int a1]) (PI D A (w μ) r) 0 0 A := by
  refine met_start (cc := cX1_entriesIn) (nL := 5) (ret := (some .int)) (own := RX1) hE (by decide) rfl rfl (Nat.le_of_ble_eq_true rfl) (fun p e s m args below meth c ls X hS hl hr hlk => ?_)
  have hx := X.1.1
  have hb := X.1.2.1
  replace hl : lv_has ls 5 [(0, .ref (ad q)), (1, .int a1)] := hl
  have hb11 : ∀ (fu : Nat) (x1 : Int32) (x2 : Int32) (x3 : Int32) (x4 : Int32) (H : Heap) (locs : List Loc) (ls : Array Slot), HS D A (w μ) s.heap H locs → lv_has ls 5 [(0, .ref (ad q)), (1, .int x1), (2, .int x2), (3, .int x3), (4, .int x4)] → f_X1_entriesIn_b11 q fu x1 x2 x3 x4 μ = some r → W p l e (headSpec wsX1_entriesIn (rmk 1 23)).room s m args below meth c H locs 0 0 (MQ below (PI D A (w μ) r) args s 0 0 A) (F0 m 11 ls []) := by
    intro fu
    induction fu with
    | zero =>
      intro x1 x2 x3 x4 H locs ls hS hl h
      rw [f_X1_entriesIn_b11] at h
      cases h
    | succ fuel11 ih11 =>
      intro x1 x2 x3 x4 H locs ls hS hl h
      rw [f_X1_entriesIn_b11] at h
      refine lv_iload hx hb dX1_entriesIn_11 (lv_at hl 4 rfl) ?_
      refine lv_iload_n hx hb dX1_entriesIn_13 rfl (lv_at hl 3 rfl) ?_
      refine lv_icmp_ge (tgt := 37) hx hb dX1_entriesIn_14 (by decide) (fun cc => ?_) (fun cc => ?_)
      · replace h := it h cc
        refine lv_iload_n hx hb dX1_entriesIn_37 rfl (lv_at hl 2 rfl) ?_
        cases h
        exact r_iret X hS hr hlk dX1_entriesIn_38
      · replace h := ie h cc
        refine lv_iload_n hx hb dX1_entriesIn_17 rfl (lv_at hl 2 rfl) ?_
        refine lv_aload_n hx hb dX1_entriesIn_18 rfl (lv_at hl 0 rfl) ?_
        refine lv_aload_n hx hb dX1_entriesIn_19 rfl (lv_at hl 0 rfl) ?_
        refine lv_iload_n hx hb dX1_entriesIn_20 rfl (lv_at hl 1 rfl) ?_
        refine lv_iload hx hb dX1_entriesIn_21 (lv_at hl 4 rfl) ?_
        obtain ⟨v2, ev2, h⟩ := ob h
        refine r_ci hS (r_runV (As := [.int x1, .int x4]) (rest := [.ref (ad q), .int x2]) X hS (c_X1_leafAt l hE (w := w) (ad := ad) (μ := μ) (D := D) (cI := cI) (cG := cG) (cL := cL) hw ev2) (cwV 2 X.1.2.2.2.2 gX1_entriesIn_X1_leafAt rfl rfl rfl (by decide +kernel) ⟨Nat.le_of_ble_eq_true rfl, Nat.le_of_ble_eq_true rfl⟩) (q0 := q) (ci := 0) rfl (hw.1 μ).1 rfl hl.1 rfl (Nat.le_of_ble_eq_true rfl) dX1_entriesIn_23 ⟨Nat.zero_le _, Nat.zero_le _⟩) (fun H locs hS => ?_)
        obtain ⟨v3, ev3, h⟩ := ob h
        refine r_ci hS (r_runV (As := [.int v2]) (rest := [.int x2]) X hS (c_X1_sizeOf l hE (w := w) (ad := ad) (μ := μ) (D := D) (cI := cI) (cG := cG) (cL := cL) hw ev3) (cwV 1 X.1.2.2.2.2 gX1_entriesIn_X1_sizeOf rfl rfl rfl (by decide +kernel) ⟨Nat.le_of_ble_eq_true rfl, Nat.le_of_ble_eq_true rfl⟩) (q0 := q) (ci := 0) rfl (hw.1 μ).1 rfl hl.1 rfl (Nat.le_of_ble_eq_true rfl) dX1_entriesIn_26 ⟨Nat.zero_le _, Nat.zero_le _⟩) (fun H locs hS => ?_)
        refine lv_iadd hx hb dX1_entriesIn_29 ?_
        refine lv_istore_n (lv' := [(2, .int (x2 + v3)), (0, .ref (ad q)), (1, .int x1), (3, .int x3), (4, .int x4)]) hx hb dX1_entriesIn_30 rfl hl (by decide) rfl (fun ls hl => ?_)
        refine lv_iinc (v := x4 + 1) (lv' := [(4, .int (x4 + 1)), (2, .int (x2 + v3)), (0, .ref (ad q)), (1, .int x1), (3, .int x3)]) hx hb dX1_entriesIn_31 hl (k := 4) rfl rfl (by decide) rfl (fun ls hl => ?_)
        refine lv_goto (tgt := 11) hx hb dX1_entriesIn_34 (by decide) ?_
        exact ih11 x1 (x2 + v3) x3 (x4 + 1) _ _ _ hS (lv_sub hl [2, 3, 1, 4, 0] rfl) h
  unfold f_X1_entriesIn at h
  refine lv_iconst (v := 0) hx hb dX1_entriesIn_0 (by decide) ?_
  refine lv_istore_n (lv' := [(2, .int 0), (0, .ref (ad q)), (1, .int a1)]) hx hb dX1_entriesIn_1 rfl hl (by decide) rfl (fun ls hl => ?_)
  refine lv_aload_n hx hb dX1_entriesIn_2 rfl (lv_at hl 1 rfl) ?_
  refine lv_iload_n hx hb dX1_entriesIn_3 rfl (lv_at hl 2 rfl) ?_
  obtain ⟨v1, ev1, h⟩ := ob h
  refine r_ci hS (r_runV (As := [.int a1]) (rest := []) X hS (c_X1_sizeOf l hE (w := w) (ad := ad) (μ := μ) (D := D) (cI := cI) (cG := cG) (cL := cL) hw ev1) (cwV 1 X.1.2.2.2.2 gX1_entriesIn_X1_sizeOf rfl rfl rfl (by decide +kernel) ⟨Nat.le_of_ble_eq_true rfl, Nat.le_of_ble_eq_true rfl⟩) (q0 := q) (ci := 0) rfl (hw.1 μ).1 rfl hl.1 rfl (Nat.le_of_ble_eq_true rfl) dX1_entriesIn_4 ⟨Nat.zero_le _, Nat.zero_le _⟩) (fun H locs hS => ?_)
  refine lv_istore_n (lv' := [(3, .int v1), (2, .int 0), (0, .ref (ad q)), (1, .int a1)]) hx hb dX1_entriesIn_7 rfl hl (by decide) rfl (fun ls hl => ?_)
  refine lv_iconst (v := 0) hx hb dX1_entriesIn_8 (by decide) ?_
  refine lv_istore (lv' := [(4, .int 0), (3, .int v1), (2, .int 0), (0, .ref (ad q)), (1, .int a1)]) hx hb dX1_entriesIn_9 hl (by decide) rfl (fun ls hl => ?_)
  exact hb11 FU a1 0 v1 0 _ _ _ hS (lv_sub hl [3, 4, 2, 1, 0] rfl) h
def f_X1_sumOfLeaf_b11 (q : Nat)  : Nat → Int32 → Int32 → Int32 → Int32 → Mem → Option Int32
  | 0, _, _, _, _, _ => none
  | fuel11 + 1, x1, x2, x3, x4, μ => (if x3 ≤ x4 then (some x2) else (f_X1_valueAt q x1 x4 μ).bind (fun v2 => f_X1_sumOfLeaf_b11 q fuel11 x1 (x2 + v2) x3 (x4 + 1) μ))
def f_X1_sumOfLeaf (q : Nat) (a1 : Int32) (μ : Mem) : Option Int32 := (f_X1_sizeOf q a1 μ).bind (fun v1 => f_X1_sumOfLeaf_b11 q FU a1 0 v1 0 μ)
set_option maxHeartbeats 4000000 in
set_option maxRecDepth 100000 in
theorem c_X1_sumOfLeaf (l : Launch) {D : va_G} {cI cG cL : ClassId} {A : Nat → Prop} {EN : State → Heap → Prop} (hE : EnOK EN A) {w : Mem → va_W} {ad : Nat → Nat} {q : Nat} {a1 : Int32} {μ : Mem} {r : Int32} (hw : BedsAt cI w ad q) (h : f_X1_sumOfLeaf q a1 μ = some r) : Met l yX1_sumOfLeaf wsX1_sumOfLeaf (rmk 1 23) (WPre D (tyl cI cG cL) A EN (w μ) [.ref (ad q), .int a1]) (PI D A (w μ) r) 0 0 A := by
  refine met_start (cc := cX1_sumOfLeaf) (nL := 5) (ret := (some .int)) (own := RX1) hE (by decide) rfl rfl (Nat.le_of_ble_eq_true rfl) (fun p e s m args below meth c ls X hS hl hr hlk => ?_)
  have hx := X.1.1
  have hb := X.1.2.1
  replace hl : lv_has ls 5 [(0, .ref (ad q)), (1, .int a1)] := hl
  have hb11 : ∀ (fu : Nat) (x1 : Int32) (x2 : Int32) (x3 : Int32) (x4 : Int32) (H : Heap) (locs : List Loc) (ls : Array Slot), HS D A (w μ) s.heap H locs → lv_has ls 5 [(0, .ref (ad q)), (1, .int x1), (2, .int x2), (3, .int x3), (4, .int x4)] → f_X1_sumOfLeaf_b11 q fu x1 x2 x3 x4 μ = some r → W p l e (headSpec wsX1_sumOfLeaf (rmk 1 23)).room s m args below meth c H locs 0 0 (MQ below (PI D A (w μ) r) args s 0 0 A) (F0 m 11 ls []) := by
    intro fu
    induction fu with
    | zero =>
      intro x1 x2 x3 x4 H locs ls hS hl h
      rw [f_X1_sumOfLeaf_b11] at h
      cases h
    | succ fuel11 ih11 =>
      intro x1 x2 x3 x4 H locs ls hS hl h
      rw [f_X1_sumOfLeaf_b11] at h
      refine lv_iload hx hb dX1_sumOfLeaf_11 (lv_at hl 4 rfl) ?_
      refine lv_iload_n hx hb dX1_sumOfLeaf_13 rfl (lv_at hl 3 rfl) ?_
      refine lv_icmp_ge (tgt := 33) hx hb dX1_sumOfLeaf_14 (by decide) (fun cc => ?_) (fun cc => ?_)
      · replace h := it h cc
        refine lv_iload_n hx hb dX1_sumOfLeaf_33 rfl (lv_at hl 2 rfl) ?_
        cases h
        exact r_iret X hS hr hlk dX1_sumOfLeaf_34
      · replace h := ie h cc
        refine lv_iload_n hx hb dX1_sumOfLeaf_17 rfl (lv_at hl 2 rfl) ?_
        refine lv_aload_n hx hb dX1_sumOfLeaf_18 rfl (lv_at hl 0 rfl) ?_
        refine lv_iload_n hx hb dX1_sumOfLeaf_19 rfl (lv_at hl 1 rfl) ?_
        refine lv_iload hx hb dX1_sumOfLeaf_20 (lv_at hl 4 rfl) ?_
        obtain ⟨v2, ev2, h⟩ := ob h
        refine r_ci hS (r_runV (As := [.int x1, .int x4]) (rest := [.int x2]) X hS (c_X1_valueAt l hE (w := w) (ad := ad) (μ := μ) (D := D) (cI := cI) (cG := cG) (cL := cL) hw ev2) (cwV 2 X.1.2.2.2.2 gX1_sumOfLeaf_X1_valueAt rfl rfl rfl (by decide +kernel) ⟨Nat.le_of_ble_eq_true rfl, Nat.le_of_ble_eq_true rfl⟩) (q0 := q) (ci := 0) rfl (hw.1 μ).1 rfl hl.1 rfl (Nat.le_of_ble_eq_true rfl) dX1_sumOfLeaf_22 ⟨Nat.zero_le _, Nat.zero_le _⟩) (fun H locs hS => ?_)
        refine lv_iadd hx hb dX1_sumOfLeaf_25 ?_
        refine lv_istore_n (lv' := [(2, .int (x2 + v2)), (0, .ref (ad q)), (1, .int x1), (3, .int x3), (4, .int x4)]) hx hb dX1_sumOfLeaf_26 rfl hl (by decide) rfl (fun ls hl => ?_)
        refine lv_iinc (v := x4 + 1) (lv' := [(4, .int (x4 + 1)), (2, .int (x2 + v2)), (0, .ref (ad q)), (1, .int x1), (3, .int x3)]) hx hb dX1_sumOfLeaf_27 hl (k := 4) rfl rfl (by decide) rfl (fun ls hl => ?_)
        refine lv_goto (tgt := 11) hx hb dX1_sumOfLeaf_30 (by decide) ?_
        exact ih11 x1 (x2 + v2) x3 (x4 + 1) _ _ _ hS (lv_sub hl [2, 3, 1, 4, 0] rfl) h
  unfold f_X1_sumOfLeaf at h
  refine lv_iconst (v := 0) hx hb dX1_sumOfLeaf_0 (by decide) ?_
  refine lv_istore_n (lv' := [(2, .int 0), (0, .ref (ad q)), (1, .int a1)]) hx hb dX1_sumOfLeaf_1 rfl hl (by decide) rfl (fun ls hl => ?_)
  refine lv_aload_n hx hb dX1_sumOfLeaf_2 rfl (lv_at hl 1 rfl) ?_
  refine lv_iload_n hx hb dX1_sumOfLeaf_3 rfl (lv_at hl 2 rfl) ?_
  obtain ⟨v1, ev1, h⟩ := ob h
  refine r_ci hS (r_runV (As := [.int a1]) (rest := []) X hS (c_X1_sizeOf l hE (w := w) (ad := ad) (μ := μ) (D := D) (cI := cI) (cG := cG) (cL := cL) hw ev1) (cwV 1 X.1.2.2.2.2 gX1_sumOfLeaf_X1_sizeOf rfl rfl rfl (by decide +kernel) ⟨Nat.le_of_ble_eq_true rfl, Nat.le_of_ble_eq_true rfl⟩) (q0 := q) (ci := 0) rfl (hw.1 μ).1 rfl hl.1 rfl (Nat.le_of_ble_eq_true rfl) dX1_sumOfLeaf_4 ⟨Nat.zero_le _, Nat.zero_le _⟩) (fun H locs hS => ?_)
  refine lv_istore_n (lv' := [(3, .int v1), (2, .int 0), (0, .ref (ad q)), (1, .int a1)]) hx hb dX1_sumOfLeaf_7 rfl hl (by decide) rfl (fun ls hl => ?_)
  refine lv_iconst (v := 0) hx hb dX1_sumOfLeaf_8 (by decide) ?_
  refine lv_istore (lv' := [(4, .int 0), (3, .int v1), (2, .int 0), (0, .ref (ad q)), (1, .int a1)]) hx hb dX1_sumOfLeaf_9 hl (by decide) rfl (fun ls hl => ?_)
  exact hb11 FU a1 0 v1 0 _ _ _ hS (lv_sub hl [3, 4, 2, 1, 0] rfl) h
def f_X1_sumIn_b11 (q : Nat)  : Nat → Int32 → Int32 → Int32 → Int32 → Mem → Option Int32
  | 0, _, _, _, _, _ => none
  | fuel11 + 1, x1, x2, x3, x4, μ => (if x3 ≤ x4 then (some x2) else (f_X1_leafAt q x1 x4 μ).bind (fun v2 => (f_X1_sumOfLeaf q v2 μ).bind (fun v3 => f_X1_sumIn_b11 q fuel11 x1 (x2 + v3) x3 (x4 + 1) μ)))
def f_X1_sumIn (q : Nat) (a1 : Int32) (μ : Mem) : Option Int32 := (f_X1_sizeOf q a1 μ).bind (fun v1 => f_X1_sumIn_b11 q FU a1 0 v1 0 μ)
set_option maxHeartbeats 4000000 in
set_option maxRecDepth 100000 in
theorem c_X1_sumIn (l : Launch) {D : va_G} {cI cG cL : ClassId} {A : Nat → Prop} {EN : State → Heap → Prop} (hE : EnOK EN A) {w : Mem → va_W} {ad : Nat → Nat} {q : Nat} {a1 : Int32} {μ : Mem} {r : Int32} (hw : BedsAt cI w ad q) (h : f_X1_sumIn q a1 μ = some r) : Met l yX1_sumIn wsX1_sumIn (rmk 2 47) (WPre D (tyl cI cG cL) A EN (w μ) [.ref (ad q), .int a1]) (PI D A (w μ) r) 0 0 A := by
  refine met_start (cc := cX1_sumIn) (nL := 5) (ret := (some .int)) (own := RX1) hE (by decide) rfl rfl (Nat.le_of_ble_eq_true rfl) (fun p e s m args below meth c ls X hS hl hr hlk => ?_)
  have hx := X.1.1
  have hb := X.1.2.1
  replace hl : lv_has ls 5 [(0, .ref (ad q)), (1, .int a1)] := hl
  have hb11 : ∀ (fu : Nat) (x1 : Int32) (x2 : Int32) (x3 : Int32) (x4 : Int32) (H : Heap) (locs : List Loc) (ls : Array Slot), HS D A (w μ) s.heap H locs → lv_has ls 5 [(0, .ref (ad q)), (1, .int x1), (2, .int x2), (3, .int x3), (4, .int x4)] → f_X1_sumIn_b11 q fu x1 x2 x3 x4 μ = some r → W p l e (headSpec wsX1_sumIn (rmk 2 47)).room s m args below meth c H locs 0 0 (MQ below (PI D A (w μ) r) args s 0 0 A) (F0 m 11 ls []) := by
    intro fu
    induction fu with
    | zero =>
      intro x1 x2 x3 x4 H locs ls hS hl h
      rw [f_X1_sumIn_b11] at h
      cases h
    | succ fuel11 ih11 =>
      intro x1 x2 x3 x4 H locs ls hS hl h
      rw [f_X1_sumIn_b11] at h
      refine lv_iload hx hb dX1_sumIn_11 (lv_at hl 4 rfl) ?_
      refine lv_iload_n hx hb dX1_sumIn_13 rfl (lv_at hl 3 rfl) ?_
      refine lv_icmp_ge (tgt := 37) hx hb dX1_sumIn_14 (by decide) (fun cc => ?_) (fun cc => ?_)
      · replace h := it h cc
        refine lv_iload_n hx hb dX1_sumIn_37 rfl (lv_at hl 2 rfl) ?_
        cases h
        exact r_iret X hS hr hlk dX1_sumIn_38
      · replace h := ie h cc
        refine lv_iload_n hx hb dX1_sumIn_17 rfl (lv_at hl 2 rfl) ?_
        refine lv_aload_n hx hb dX1_sumIn_18 rfl (lv_at hl 0 rfl) ?_
        refine lv_aload_n hx hb dX1_sumIn_19 rfl (lv_at hl 0 rfl) ?_
        refine lv_iload_n hx hb dX1_sumIn_20 rfl (lv_at hl 1 rfl) ?_
        refine lv_iload hx hb dX1_sumIn_21 (lv_at hl 4 rfl) ?_
        obtain ⟨v2, ev2, h⟩ := ob h
        refine r_ci hS (r_runV (As := [.int x1, .int x4]) (rest := [.ref (ad q), .int x2]) X hS (c_X1_leafAt l hE (w := w) (ad := ad) (μ := μ) (D := D) (cI := cI) (cG := cG) (cL := cL) hw ev2) (cwV 2 X.1.2.2.2.2 gX1_sumIn_X1_leafAt rfl rfl rfl (by decide +kernel) ⟨Nat.le_of_ble_eq_true rfl, Nat.le_of_ble_eq_true rfl⟩) (q0 := q) (ci := 0) rfl (hw.1 μ).1 rfl hl.1 rfl (Nat.le_of_ble_eq_true rfl) dX1_sumIn_23 ⟨Nat.zero_le _, Nat.zero_le _⟩) (fun H locs hS => ?_)
        obtain ⟨v3, ev3, h⟩ := ob h
        refine r_ci hS (r_runV (As := [.int v2]) (rest := [.int x2]) X hS (c_X1_sumOfLeaf l hE (w := w) (ad := ad) (μ := μ) (D := D) (cI := cI) (cG := cG) (cL := cL) hw ev3) (cwV 1 X.1.2.2.2.2 gX1_sumIn_X1_sumOfLeaf rfl rfl rfl (by decide +kernel) ⟨Nat.le_of_ble_eq_true rfl, Nat.le_of_ble_eq_true rfl⟩) (q0 := q) (ci := 0) rfl (hw.1 μ).1 rfl hl.1 rfl (Nat.le_of_ble_eq_true rfl) dX1_sumIn_26 ⟨Nat.zero_le _, Nat.zero_le _⟩) (fun H locs hS => ?_)
        refine lv_iadd hx hb dX1_sumIn_29 ?_
        refine lv_istore_n (lv' := [(2, .int (x2 + v3)), (0, .ref (ad q)), (1, .int x1), (3, .int x3), (4, .int x4)]) hx hb dX1_sumIn_30 rfl hl (by decide) rfl (fun ls hl => ?_)
        refine lv_iinc (v := x4 + 1) (lv' := [(4, .int (x4 + 1)), (2, .int (x2 + v3)), (0, .ref (ad q)), (1, .int x1), (3, .int x3)]) hx hb dX1_sumIn_31 hl (k := 4) rfl rfl (by decide) rfl (fun ls hl => ?_)
        refine lv_goto (tgt := 11) hx hb dX1_sumIn_34 (by decide) ?_
        exact ih11 x1 (x2 + v3) x3 (x4 + 1) _ _ _ hS (lv_sub hl [2, 3, 1, 4, 0] rfl) h
  unfold f_X1_sumIn at h
  refine lv_iconst (v := 0) hx hb dX1_sumIn_0 (by decide) ?_
  refine lv_istore_n (lv' := [(2, .int 0), (0, .ref (ad q)), (1, .int a1)]) hx hb dX1_sumIn_1 rfl hl (by decide) rfl (fun ls hl => ?_)
  refine lv_aload_n hx hb dX1_sumIn_2 rfl (lv_at hl 1 rfl) ?_
  refine lv_iload_n hx hb dX1_sumIn_3 rfl (lv_at hl 2 rfl) ?_
  obtain ⟨v1, ev1, h⟩ := ob h
  refine r_ci hS (r_runV (As := [.int a1]) (rest := []) X hS (c_X1_sizeOf l hE (w := w) (ad := ad) (μ := μ) (D := D) (cI := cI) (cG := cG) (cL := cL) hw ev1) (cwV 1 X.1.2.2.2.2 gX1_sumIn_X1_sizeOf rfl rfl rfl (by decide +kernel) ⟨Nat.le_of_ble_eq_true rfl, Nat.le_of_ble_eq_true rfl⟩) (q0 := q) (ci := 0) rfl (hw.1 μ).1 rfl hl.1 rfl (Nat.le_of_ble_eq_true rfl) dX1_sumIn_4 ⟨Nat.zero_le _, Nat.zero_le _⟩) (fun H locs hS => ?_)
  refine lv_istore_n (lv' := [(3, .int v1), (2, .int 0), (0, .ref (ad q)), (1, .int a1)]) hx hb dX1_sumIn_7 rfl hl (by decide) rfl (fun ls hl => ?_)
  refine lv_iconst (v := 0) hx hb dX1_sumIn_8 (by decide) ?_
  refine lv_istore (lv' := [(4, .int 0), (3, .int v1), (2, .int 0), (0, .ref (ad q)), (1, .int a1)]) hx hb dX1_sumIn_9 hl (by decide) rfl (fun ls hl => ?_)
  exact hb11 FU a1 0 v1 0 _ _ _ hS (lv_sub hl [3, 4, 2, 1, 0] rfl) h
def f_X1_leafPart (q : Nat) (a1 : Int32) (a2 : Int32) (a3 : Int32) (μ : Mem) : Option Int32 := (if a3 = 0 then (f_X1_keyAt q a1 a2 μ).bind (fun v1 => (some v1)) else (if a3 = 1 then (f_X1_valueAt q a1 a2 μ).bind (fun v2 => (some v2)) else (if a3 = 2 then (some a1) else (if a3 = 3 then (some a2) else ((some (-1000)))))))
set_option maxHeartbeats 4000000 in
set_option maxRecDepth 100000 in
theorem c_X1_leafPart (l : Launch) {D : va_G} {cI cG cL : ClassId} {A : Nat → Prop} {EN : State → Heap → Prop} (hE : EnOK EN A) {w : Mem → va_W} {ad : Nat → Nat} {q : Nat} {a1 : Int32} {a2 : Int32} {a3 : Int32} {μ : Mem} {r : Int32} (hw : BedsAt cI w ad q) (h : f_X1_leafPart q a1 a2 a3 μ = some r) : Met l yX1_leafPart wsX1_leafPart (rmk 1 23) (WPre D (tyl cI cG cL) A EN (w μ) [.ref (ad q), .int a1, .int a2, .int a3]) (PI D A (w μ) r) 0 0 A := by
  refine met_start (cc := cX1_leafPart) (nL := 4) (ret := (some .int)) (own := RX1) hE (by decide) rfl rfl (Nat.le_of_ble_eq_true rfl) (fun p e s m args below meth c ls X hS hl hr hlk => ?_)
  have hx := X.1.1
  have hb := X.1.2.1
  replace hl : lv_has ls 4 [(0, .ref (ad q)), (1, .int a1), (2, .int a2), (3, .int a3)] := hl
  unfold f_X1_leafPart at h
  refine lv_iload_n hx hb dX1_leafPart_0 rfl (lv_at hl 3 rfl) ?_
  by_cases cc0 : a3 = 0
  · replace h := it h cc0
    rw [cc0]
    refine lv_tableIn (off := 31) (tgt := 32) hx hb dX1_leafPart_1 (by decide) (by decide) rfl (by decide) ?_
    refine lv_aload_n hx hb dX1_leafPart_32 rfl (lv_at hl 0 rfl) ?_
    refine lv_iload_n hx hb dX1_leafPart_33 rfl (lv_at hl 1 rfl) ?_
    refine lv_iload_n hx hb dX1_leafPart_34 rfl (lv_at hl 2 rfl) ?_
    obtain ⟨v1, ev1, h⟩ := ob h
    refine r_ci hS (r_runV (As := [.int a1, .int a2]) (rest := []) X hS (c_X1_keyAt l hE (w := w) (ad := ad) (μ := μ) (D := D) (cI := cI) (cG := cG) (cL := cL) hw ev1) (cwV 2 X.1.2.2.2.2 gX1_leafPart_X1_keyAt rfl rfl rfl (by decide +kernel) ⟨Nat.le_of_ble_eq_true rfl, Nat.le_of_ble_eq_true rfl⟩) (q0 := q) (ci := 0) rfl (hw.1 μ).1 rfl hl.1 rfl (Nat.le_of_ble_eq_true rfl) dX1_leafPart_35 ⟨Nat.zero_le _, Nat.zero_le _⟩) (fun H locs hS => ?_)
    cases h
    exact r_iret X hS hr hlk dX1_leafPart_38
  · replace h := ie h cc0
    by_cases cc1 : a3 = 1
    · replace h := it h cc1
      rw [cc1]
      refine lv_tableIn (off := 38) (tgt := 39) hx hb dX1_leafPart_1 (by decide) (by decide) rfl (by decide) ?_
      refine lv_aload_n hx hb dX1_leafPart_39 rfl (lv_at hl 0 rfl) ?_
      refine lv_iload_n hx hb dX1_leafPart_40 rfl (lv_at hl 1 rfl) ?_
      refine lv_iload_n hx hb dX1_leafPart_41 rfl (lv_at hl 2 rfl) ?_
      obtain ⟨v2, ev2, h⟩ := ob h
      refine r_ci hS (r_runV (As := [.int a1, .int a2]) (rest := []) X hS (c_X1_valueAt l hE (w := w) (ad := ad) (μ := μ) (D := D) (cI := cI) (cG := cG) (cL := cL) hw ev2) (cwV 2 X.1.2.2.2.2 gX1_leafPart_X1_valueAt rfl rfl rfl (by decide +kernel) ⟨Nat.le_of_ble_eq_true rfl, Nat.le_of_ble_eq_true rfl⟩) (q0 := q) (ci := 0) rfl (hw.1 μ).1 rfl hl.1 rfl (Nat.le_of_ble_eq_true rfl) dX1_leafPart_42 ⟨Nat.zero_le _, Nat.zero_le _⟩) (fun H locs hS => ?_)
      cases h
      exact r_iret X hS hr hlk dX1_leafPart_45
    · replace h := ie h cc1
      by_cases cc2 : a3 = 2
      · replace h := it h cc2
        rw [cc2]
        refine lv_tableIn (off := 45) (tgt := 46) hx hb dX1_leafPart_1 (by decide) (by decide) rfl (by decide) ?_
        refine lv_iload_n hx hb dX1_leafPart_46 rfl (lv_at hl 1 rfl) ?_
        cases h
        exact r_iret X hS hr hlk dX1_leafPart_47
      · replace h := ie h cc2
        by_cases cc3 : a3 = 3
        · replace h := it h cc3
          rw [cc3]
          refine lv_tableIn (off := 47) (tgt := 48) hx hb dX1_leafPart_1 (by decide) (by decide) rfl (by decide) ?_
          refine lv_iload_n hx hb dX1_leafPart_48 rfl (lv_at hl 2 rfl) ?_
          cases h
          exact r_iret X hS hr hlk dX1_leafPart_49
        · replace h := ie h cc3
          refine lv_tableOut (tgt := 50) hx hb dX1_leafPart_1 (sw_0_3 cc0 cc1 cc2 cc3) (by decide) ?_
          refine lv_sipush (v := (-1000)) hx hb dX1_leafPart_50 (by decide) ?_
          cases h
          exact r_iret X hS hr hlk dX1_leafPart_53
def f_X1_entryPartIn_b13 (q : Nat)  : Nat → Int32 → Int32 → Int32 → Int32 → Int32 → Mem → Option Int32
  | 0, _, _, _, _, _, _ => none
  | fuel13 + 1, x1, x3, x4, x5, x6, μ => (if x5 ≤ x6 then (some (-1000)) else (f_X1_leafAt q x1 x6 μ).bind (fun v2 => (f_X1_sizeOf q v2 μ).bind (fun v3 => (if v3 ≤ x4 then (f_X1_sizeOf q v2 μ).bind (fun v4 => f_X1_entryPartIn_b13 q fuel13 x1 x3 (x4 - v4) x5 (x6 + 1) μ) else (f_X1_leafPart q v2 x4 x3 μ).bind (fun v5 => (some v5))))))
def f_X1_entryPartIn (q : Nat) (a1 : Int32) (a2 : Int32) (a3 : Int32) (μ : Mem) : Option Int32 := (f_X1_sizeOf q a1 μ).bind (fun v1 => f_X1_entryPartIn_b13 q FU a1 a3 a2 v1 0 μ)
set_option maxHeartbeats 4000000 in
set_option maxRecDepth 100000 in
theorem c_X1_entryPartIn (l : Launch) {D : va_G} {cI cG cL : ClassId} {A : Nat → Prop} {EN : State → Heap → Prop} (hE : EnOK EN A) {w : Mem → va_W} {ad : Nat → Nat} {q : Nat} {a1 : Int32} {a2 : Int32} {a3 : Int32} {μ : Mem} {r : Int32} (hw : BedsAt cI w ad q) (h : f_X1_entryPartIn q a1 a2 a3 μ = some r) : Met l yX1_entryPartIn wsX1_entryPartIn (rmk 2 46) (WPre D (tyl cI cG cL) A EN (w μ) [.ref (ad q), .int a1, .int a2, .int a3]) (PI D A (w μ) r) 0 0 A := by
  refine met_start (cc := cX1_entryPartIn) (nL := 8) (ret := (some .int)) (own := RX1) hE (by decide) rfl rfl (Nat.le_of_ble_eq_true rfl) (fun p e s m args below meth c ls X hS hl hr hlk => ?_)
  have hx := X.1.1
  have hb := X.1.2.1
  replace hl : lv_has ls 8 [(0, .ref (ad q)), (1, .int a1), (2, .int a2), (3, .int a3)] := hl
  have hb13 : ∀ (fu : Nat) (x1 : Int32) (x3 : Int32) (x4 : Int32) (x5 : Int32) (x6 : Int32) (H : Heap) (locs : List Loc) (ls : Array Slot), HS D A (w μ) s.heap H locs → lv_has ls 8 [(0, .ref (ad q)), (1, .int x1), (3, .int x3), (4, .int x4), (5, .int x5), (6, .int x6)] → f_X1_entryPartIn_b13 q fu x1 x3 x4 x5 x6 μ = some r → W p l e (headSpec wsX1_entryPartIn (rmk 2 46)).room s m args below meth c H locs 0 0 (MQ below (PI D A (w μ) r) args s 0 0 A) (F0 m 13 ls []) := by
    intro fu
    induction fu with
    | zero =>
      intro x1 x3 x4 x5 x6 H locs ls hS hl h
      rw [f_X1_entryPartIn_b13] at h
      cases h
    | succ fuel13 ih13 =>
      intro x1 x3 x4 x5 x6 H locs ls hS hl h
      rw [f_X1_entryPartIn_b13] at h
      refine lv_iload hx hb dX1_entryPartIn_13 (lv_at hl 5 rfl) ?_
      refine lv_iload hx hb dX1_entryPartIn_15 (lv_at hl 4 rfl) ?_
      refine lv_icmp_ge (tgt := 67) hx hb dX1_entryPartIn_17 (by decide) (fun cc => ?_) (fun cc => ?_)
      · replace h := it h cc
        refine lv_sipush (v := (-1000)) hx hb dX1_entryPartIn_67 (by decide) ?_
        cases h
        exact r_iret X hS hr hlk dX1_entryPartIn_70
      · replace h := ie h cc
        refine lv_aload_n hx hb dX1_entryPartIn_20 rfl (lv_at hl 0 rfl) ?_
        refine lv_iload_n hx hb dX1_entryPartIn_21 rfl (lv_at hl 1 rfl) ?_
        refine lv_iload hx hb dX1_entryPartIn_22 (lv_at hl 5 rfl) ?_
        obtain ⟨v2, ev2, h⟩ := ob h
        refine r_ci hS (r_runV (As := [.int x1, .int x6]) (rest := []) X hS (c_X1_leafAt l hE (w := w) (ad := ad) (μ := μ) (D := D) (cI := cI) (cG := cG) (cL := cL) hw ev2) (cwV 2 X.1.2.2.2.2 gX1_entryPartIn_X1_leafAt rfl rfl rfl (by decide +kernel) ⟨Nat.le_of_ble_eq_true rfl, Nat.le_of_ble_eq_true rfl⟩) (q0 := q) (ci := 0) rfl (hw.1 μ).1 rfl hl.1 rfl (Nat.le_of_ble_eq_true rfl) dX1_entryPartIn_24 ⟨Nat.zero_le _, Nat.zero_le _⟩) (fun H locs hS => ?_)
        refine lv_istore (lv' := [(7, .int v2), (0, .ref (ad q)), (1, .int x1), (3, .int x3), (4, .int x4), (5, .int x5), (6, .int x6)]) hx hb dX1_entryPartIn_27 hl (by decide) rfl (fun ls hl => ?_)
        refine lv_iload hx hb dX1_entryPartIn_29 (lv_at hl 4 rfl) ?_
        refine lv_aload_n hx hb dX1_entryPartIn_31 rfl (lv_at hl 1 rfl) ?_
        refine lv_iload hx hb dX1_entryPartIn_32 (lv_at hl 0 rfl) ?_
        obtain ⟨v3, ev3, h⟩ := ob h
        refine r_ci hS (r_runV (As := [.int v2]) (rest := [.int x4]) X hS (c_X1_sizeOf l hE (w := w) (ad := ad) (μ := μ) (D := D) (cI := cI) (cG := cG) (cL := cL) hw ev3) (cwV 1 X.1.2.2.2.2 gX1_entryPartIn_X1_sizeOf rfl rfl rfl (by decide +kernel) ⟨Nat.le_of_ble_eq_true rfl, Nat.le_of_ble_eq_true rfl⟩) (q0 := q) (ci := 0) rfl (hw.1 μ).1 rfl hl.1 rfl (Nat.le_of_ble_eq_true rfl) dX1_entryPartIn_34 ⟨Nat.zero_le _, Nat.zero_le _⟩) (fun H locs hS => ?_)
        refine lv_icmp_ge (tgt := 50) hx hb dX1_entryPartIn_37 (by decide) (fun cc => ?_) (fun cc => ?_)
        · replace h := it h cc
          refine lv_iload hx hb dX1_entryPartIn_50 (lv_at hl 4 rfl) ?_
          refine lv_aload_n hx hb dX1_entryPartIn_52 rfl (lv_at hl 1 rfl) ?_
          refine lv_iload hx hb dX1_entryPartIn_53 (lv_at hl 0 rfl) ?_
          obtain ⟨v4, ev4, h⟩ := ob h
          refine r_ci hS (r_runV (As := [.int v2]) (rest := [.int x4]) X hS (c_X1_sizeOf l hE (w := w) (ad := ad) (μ := μ) (D := D) (cI := cI) (cG := cG) (cL := cL) hw ev4) (cwV 1 X.1.2.2.2.2 gX1_entryPartIn_X1_sizeOf rfl rfl rfl (by decide +kernel) ⟨Nat.le_of_ble_eq_true rfl, Nat.le_of_ble_eq_true rfl⟩) (q0 := q) (ci := 0) rfl (hw.1 μ).1 rfl hl.1 rfl (Nat.le_of_ble_eq_true rfl) dX1_entryPartIn_55 ⟨Nat.zero_le _, Nat.zero_le _⟩) (fun H locs hS => ?_)
          refine lv_isub hx hb dX1_entryPartIn_58 ?_
          refine lv_istore (lv' := [(4, .int (x4 - v4)), (7, .int v2), (0, .ref (ad q)), (1, .int x1), (3, .int x3), (5, .int x5), (6, .int x6)]) hx hb dX1_entryPartIn_59 hl (by decide) rfl (fun ls hl => ?_)
          refine lv_iinc (v := x6 + 1) (lv' := [(6, .int (x6 + 1)), (4, .int (x4 - v4)), (7, .int v2), (0, .ref (ad q)), (1, .int x1), (3, .int x3), (5, .int x5)]) hx hb dX1_entryPartIn_61 hl (k := 6) rfl rfl (by decide) rfl (fun ls hl => ?_)
          refine lv_goto (tgt := 13) hx hb dX1_entryPartIn_64 (by decide) ?_
          exact ih13 x1 x3 (x4 - v4) x5 (x6 + 1) _ _ _ hS (lv_sub hl [3, 4, 5, 1, 6, 0] rfl) h
        · replace h := ie h cc
          refine lv_aload_n hx hb dX1_entryPartIn_40 rfl (lv_at hl 1 rfl) ?_
          refine lv_iload hx hb dX1_entryPartIn_41 (lv_at hl 0 rfl) ?_
          refine lv_iload hx hb dX1_entryPartIn_43 (lv_at hl 4 rfl) ?_
          refine lv_iload_n hx hb dX1_entryPartIn_45 rfl (lv_at hl 3 rfl) ?_
          obtain ⟨v5, ev5, h⟩ := ob h
          refine r_ci hS (r_runV (As := [.int v2, .int x4, .int x3]) (rest := []) X hS (c_X1_leafPart l hE (w := w) (ad := ad) (μ := μ) (D := D) (cI := cI) (cG := cG) (cL := cL) hw ev5) (cwV 3 X.1.2.2.2.2 gX1_entryPartIn_X1_leafPart rfl rfl rfl (by decide +kernel) ⟨Nat.le_of_ble_eq_true rfl, Nat.le_of_ble_eq_true rfl⟩) (q0 := q) (ci := 0) rfl (hw.1 μ).1 rfl hl.1 rfl (Nat.le_of_ble_eq_true rfl) dX1_entryPartIn_46 ⟨Nat.zero_le _, Nat.zero_le _⟩) (fun H locs hS => ?_)
          cases h
          exact r_iret X hS hr hlk dX1_entryPartIn_49
  unfold f_X1_entryPartIn at h
  refine lv_iload_n hx hb dX1_entryPartIn_0 rfl (lv_at hl 2 rfl) ?_
  refine lv_istore (lv' := [(4, .int a2), (0, .ref (ad q)), (1, .int a1), (2, .int a2), (3, .int a3)]) hx hb dX1_entryPartIn_1 hl (by decide) rfl (fun ls hl => ?_)
  refine lv_aload_n hx hb dX1_entryPartIn_3 rfl (lv_at hl 1 rfl) ?_
  refine lv_iload_n hx hb dX1_entryPartIn_4 rfl (lv_at hl 2 rfl) ?_
  obtain ⟨v1, ev1, h⟩ := ob h
  refine r_ci hS (r_runV (As := [.int a1]) (rest := []) X hS (c_X1_sizeOf l hE (w := w) (ad := ad) (μ := μ) (D := D) (cI := cI) (cG := cG) (cL := cL) hw ev1) (cwV 1 X.1.2.2.2.2 gX1_entryPartIn_X1_sizeOf rfl rfl rfl (by decide +kernel) ⟨Nat.le_of_ble_eq_true rfl, Nat.le_of_ble_eq_true rfl⟩) (q0 := q) (ci := 0) rfl (hw.1 μ).1 rfl hl.1 rfl (Nat.le_of_ble_eq_true rfl) dX1_entryPartIn_5 ⟨Nat.zero_le _, Nat.zero_le _⟩) (fun H locs hS => ?_)
  refine lv_istore (lv' := [(5, .int v1), (4, .int a2), (0, .ref (ad q)), (1, .int a1), (2, .int a2), (3, .int a3)]) hx hb dX1_entryPartIn_8 hl (by decide) rfl (fun ls hl => ?_)
  refine lv_iconst (v := 0) hx hb dX1_entryPartIn_10 (by decide) ?_
  refine lv_istore (lv' := [(6, .int 0), (5, .int v1), (4, .int a2), (0, .ref (ad q)), (1, .int a1), (2, .int a2), (3, .int a3)]) hx hb dX1_entryPartIn_11 hl (by decide) rfl (fun ls hl => ?_)
  exact hb13 FU a1 a3 a2 v1 0 _ _ _ hS (lv_sub hl [3, 4, 6, 2, 1, 0] rfl) h
def f_X1_setEntry_b42 (q : Nat)  (μ : Mem) : Option Mem := (some μ)
def f_X1_setEntry (q : Nat) (a1 : Int32) (a2 : Int32) (a3 : Int32) (a4 : Int32) (μ : Mem) : Option Mem := (if a1 < 0 then f_X1_setEntry_b42 q μ else (if 32 ≤ a1 then f_X1_setEntry_b42 q μ else (if a2 < 0 then f_X1_setEntry_b42 q μ else (if 5 ≤ a2 then f_X1_setEntry_b42 q μ else (wr μ (q + 7) 160 ((a1 * 5) + a2) a3).bind (fun μ1 => (wr μ1 (q + 8) 160 ((a1 * 5) + a2) a4).bind (fun μ2 => f_X1_setEntry_b42 q μ2))))))
set_option maxHeartbeats 4000000 in
set_option maxRecDepth 100000 in
theorem c_X1_setEntry (l : Launch) {D : va_G} {cI cG cL : ClassId} {A : Nat → Prop} {EN : State → Heap → Prop} (hE : EnOK EN A) {w : Mem → va_W} {ad : Nat → Nat} {q : Nat} {a1 : Int32} {a2 : Int32} {a3 : Int32} {a4 : Int32} {μ : Mem}  {μ' : Mem} (hw : BedsAt cI w ad q) (h : f_X1_setEntry q a1 a2 a3 a4 μ = some μ') : Met l yX1_setEntry wsX1_setEntry (rmk 0 0) (WPre D (tyl cI cG cL) A EN (w μ) [.ref (ad q), .int a1, .int a2, .int a3, .int a4]) (PV D A (w μ')) 0 0 A := by
  have hiX1 : ∀ w ∈ u_ws RX1 TX1 9, w ∈ wsX1_setEntry := by decide +kernel
  have mf30 : Cond.fieldLink RX1 30 (TX1 6).1 (TX1 6).2.1 (TX1 6).2.2.1 ∈ wsX1_setEntry := by decide +kernel
  have mf33 : Cond.fieldLink RX1 33 (TX1 7).1 (TX1 7).2.1 (TX1 7).2.2.1 ∈ wsX1_setEntry := by decide +kernel
  refine met_start (cc := cX1_setEntry) (nL := 5) (ret := none) (own := RX1) hE (by decide) rfl rfl (Nat.le_of_ble_eq_true rfl) (fun p e s m args below meth c ls X hS hl hr hlk => ?_)
  have hx := X.1.1
  have hb := X.1.2.1
  replace hl : lv_has ls 5 [(0, .ref (ad q)), (1, .int a1), (2, .int a2), (3, .int a3), (4, .int a4)] := hl
  have hb42 : ∀  (μ : Mem) (H : Heap) (locs : List Loc) (ls : Array Slot), HS D A (w μ) s.heap H locs → lv_has ls 5 [] → f_X1_setEntry_b42 q μ = some μ' → W p l e (headSpec wsX1_setEntry (rmk 0 0)).room s m args below meth c H locs 0 0 (MQ below (PV D A (w μ')) args s 0 0 A) (F0 m 42 ls []) := by
    intro μ H locs ls hS hl h
    unfold f_X1_setEntry_b42 at h
    cases h
    exact r_vret X hS hr hlk dX1_setEntry_42
  unfold f_X1_setEntry at h
  refine lv_iload_n hx hb dX1_setEntry_0 rfl (lv_at hl 1 rfl) ?_
  refine lv_if_lt (tgt := 42) hx hb dX1_setEntry_1 (by decide) (fun cc => ?_) (fun cc => ?_)
  · replace h := it h cc
    exact hb42 μ _ _ _ hS (lv_sub hl [] rfl) h
  · replace h := ie h cc
    refine lv_iload_n hx hb dX1_setEntry_4 rfl (lv_at hl 1 rfl) ?_
    refine lv_bipush (v := 32) hx hb dX1_setEntry_5 (by decide) ?_
    refine lv_icmp_ge (tgt := 42) hx hb dX1_setEntry_7 (by decide) (fun cc => ?_) (fun cc => ?_)
    · replace h := it h cc
      exact hb42 μ _ _ _ hS (lv_sub hl [] rfl) h
    · replace h := ie h cc
      refine lv_iload_n hx hb dX1_setEntry_10 rfl (lv_at hl 2 rfl) ?_
      refine lv_if_lt (tgt := 42) hx hb dX1_setEntry_11 (by decide) (fun cc => ?_) (fun cc => ?_)
      · replace h := it h cc
        exact hb42 μ _ _ _ hS (lv_sub hl [] rfl) h
      · replace h := ie h cc
        refine lv_iload_n hx hb dX1_setEntry_14 rfl (lv_at hl 2 rfl) ?_
        refine lv_iconst (v := 5) hx hb dX1_setEntry_15 (by decide) ?_
        refine lv_icmp_ge (tgt := 42) hx hb dX1_setEntry_16 (by decide) (fun cc => ?_) (fun cc => ?_)
        · replace h := it h cc
          exact hb42 μ _ _ _ hS (lv_sub hl [] rfl) h
        · replace h := ie h cc
          refine lv_aload_n hx hb dX1_setEntry_19 rfl (lv_at hl 0 rfl) ?_
          refine r_get X hS (T := TX1) (k := 6) (hw.1 μ).1 rfl hiX1 (by decide) mf30 rfl dX1_setEntry_20 ?_
          refine lv_iload_n hx hb dX1_setEntry_23 rfl (lv_at hl 1 rfl) ?_
          refine lv_iconst (v := 5) hx hb dX1_setEntry_24 (by decide) ?_
          refine lv_imul hx hb dX1_setEntry_25 ?_
          refine lv_iload_n hx hb dX1_setEntry_26 rfl (lv_at hl 2 rfl) ?_
          refine lv_iadd hx hb dX1_setEntry_27 ?_
          refine lv_iload_n hx hb dX1_setEntry_28 rfl (lv_at hl 3 rfl) ?_
          obtain ⟨μ1, eμ1, h⟩ := ob h
          refine r_iast X hS hw.2.2.2.2.2.2.2.1 eμ1 dX1_setEntry_29 (fun H locs hS => ?_)
          refine lv_aload_n hx hb dX1_setEntry_30 rfl (lv_at hl 0 rfl) ?_
          refine r_get X hS (T := TX1) (k := 7) (hw.1 μ1).1 rfl hiX1 (by decide) mf33 rfl dX1_setEntry_31 ?_
          refine lv_iload_n hx hb dX1_setEntry_34 rfl (lv_at hl 1 rfl) ?_
          refine lv_iconst (v := 5) hx hb dX1_setEntry_35 (by decide) ?_
          refine lv_imul hx hb dX1_setEntry_36 ?_
          refine lv_iload_n hx hb dX1_setEntry_37 rfl (lv_at hl 2 rfl) ?_
          refine lv_iadd hx hb dX1_setEntry_38 ?_
          refine lv_iload hx hb dX1_setEntry_39 (lv_at hl 4 rfl) ?_
          obtain ⟨μ2, eμ2, h⟩ := ob h
          refine r_iast X hS hw.2.2.2.2.2.2.2.2.1 eμ2 dX1_setEntry_41 (fun H locs hS => ?_)
          exact hb42 μ2 _ _ _ hS (lv_sub hl [] rfl) h
def f_X1_moveEntry (q : Nat) (a1 : Int32) (a2 : Int32) (a3 : Int32) (a4 : Int32) (μ : Mem) : Option Mem := (f_X1_keyAt q a1 a2 μ).bind (fun v1 => (f_X1_valueAt q a1 a2 μ).bind (fun v2 => (f_X1_setEntry q a3 a4 v1 v2 μ).bind (fun μ3 => (some μ3))))
set_option maxHeartbeats 4000000 in
set_option maxRecDepth 100000 in
theorem c_X1_moveEntry (l : Launch) {D : va_G} {cI cG cL : ClassId} {A : Nat → Prop} {EN : State → Heap → Prop} (hE : EnOK EN A) {w : Mem → va_W} {ad : Nat → Nat} {q : Nat} {a1 : Int32} {a2 : Int32} {a3 : Int32} {a4 : Int32} {μ : Mem}  {μ' : Mem} (hw : BedsAt cI w ad q) (h : f_X1_moveEntry q a1 a2 a3 a4 μ = some μ') : Met l yX1_moveEntry wsX1_moveEntry (rmk 1 24) (WPre D (tyl cI cG cL) A EN (w μ) [.ref (ad q), .int a1, .int a2, .int a3, .int a4]) (PV D A (w μ')) 0 0 A := by
  refine met_start (cc := cX1_moveEntry) (nL := 5) (ret := none) (own := RX1) hE (by decide) rfl rfl (Nat.le_of_ble_eq_true rfl) (fun p e s m args below meth c ls X hS hl hr hlk => ?_)
  have hx := X.1.1
  have hb := X.1.2.1
  replace hl : lv_has ls 5 [(0, .ref (ad q)), (1, .int a1), (2, .int a2), (3, .int a3), (4, .int a4)] := hl
  unfold f_X1_moveEntry at h
  refine lv_aload_n hx hb dX1_moveEntry_0 rfl (lv_at hl 0 rfl) ?_
  refine lv_iload_n hx hb dX1_moveEntry_1 rfl (lv_at hl 3 rfl) ?_
  refine lv_iload hx hb dX1_moveEntry_2 (lv_at hl 4 rfl) ?_
  refine lv_aload_n hx hb dX1_moveEntry_4 rfl (lv_at hl 0 rfl) ?_
  refine lv_iload_n hx hb dX1_moveEntry_5 rfl (lv_at hl 1 rfl) ?_
  refine lv_iload_n hx hb dX1_moveEntry_6 rfl (lv_at hl 2 rfl) ?_
  obtain ⟨v1, ev1, h⟩ := ob h
  refine r_ci hS (r_runV (As := [.int a1, .int a2]) (rest := [.int a4, .int a3, .ref (ad q)]) X hS (c_X1_keyAt l hE (w := w) (ad := ad) (μ := μ) (D := D) (cI := cI) (cG := cG) (cL := cL) hw ev1) (cwV 2 X.1.2.2.2.2 gX1_moveEntry_X1_keyAt rfl rfl rfl (by decide +kernel) ⟨Nat.le_of_ble_eq_true rfl, Nat.le_of_ble_eq_true rfl⟩) (q0 := q) (ci := 0) rfl (hw.1 μ).1 rfl hl.1 rfl (Nat.le_of_ble_eq_true rfl) dX1_moveEntry_7 ⟨Nat.zero_le _, Nat.zero_le _⟩) (fun H locs hS => ?_)
  refine lv_aload_n hx hb dX1_moveEntry_10 rfl (lv_at hl 0 rfl) ?_
  refine lv_iload_n hx hb dX1_moveEntry_11 rfl (lv_at hl 1 rfl) ?_
  refine lv_iload_n hx hb dX1_moveEntry_12 rfl (lv_at hl 2 rfl) ?_
  obtain ⟨v2, ev2, h⟩ := ob h
  refine r_ci hS (r_runV (As := [.int a1, .int a2]) (rest := [.int v1, .int a4, .int a3, .ref (ad q)]) X hS (c_X1_valueAt l hE (w := w) (ad := ad) (μ := μ) (D := D) (cI := cI) (cG := cG) (cL := cL) hw ev2) (cwV 2 X.1.2.2.2.2 gX1_moveEntry_X1_valueAt rfl rfl rfl (by decide +kernel) ⟨Nat.le_of_ble_eq_true rfl, Nat.le_of_ble_eq_true rfl⟩) (q0 := q) (ci := 0) rfl (hw.1 μ).1 rfl hl.1 rfl (Nat.le_of_ble_eq_true rfl) dX1_moveEntry_13 ⟨Nat.zero_le _, Nat.zero_le _⟩) (fun H locs hS => ?_)
  obtain ⟨μ3, eμ3, h⟩ := ob h
  refine r_cv hS (r_runV (As := [.int a3, .int a4, .int v1, .int v2]) (rest := []) X hS (c_X1_setEntry l hE (w := w) (ad := ad) (μ := μ) (D := D) (cI := cI) (cG := cG) (cL := cL) hw eμ3) (cwV 4 X.1.2.2.2.2 gX1_moveEntry_X1_setEntry rfl rfl rfl (by decide +kernel) ⟨Nat.le_of_ble_eq_true rfl, Nat.le_of_ble_eq_true rfl⟩) (q0 := q) (ci := 0) rfl (hw.1 μ).1 rfl hl.1 rfl (Nat.le_of_ble_eq_true rfl) dX1_moveEntry_16 ⟨Nat.zero_le _, Nat.zero_le _⟩) (fun H locs hS => ?_)
  cases h
  exact r_vret X hS hr hlk dX1_moveEntry_19
def f_X1_insertEntry_b47 (q : Nat) (x1 : Int32) (x2 : Int32) (x3 : Int32) (x4 : Int32) (x5 : Int32) (μ : Mem) : Option Mem := (f_X1_setEntry q x1 x5 x2 x3 μ).bind (fun μ2 => (f_X6_setCell (q + 3) 32 x1 (x4 + 1) μ2).bind (fun μ3 => (some μ3)))
def f_X1_insertEntry_b11 (q : Nat)  : Nat → Int32 → Int32 → Int32 → Int32 → Int32 → Mem → Option Mem
  | 0, _, _, _, _, _, _ => none
  | fuel11 + 1, x1, x2, x3, x4, x5, μ => (if x5 ≤ 0 then f_X1_insertEntry_b47 q x1 x2 x3 x4 x5 μ else (f_X1_keyAt q x1 (x5 - 1) μ).bind (fun v4 => (if v4 ≤ x2 then f_X1_insertEntry_b47 q x1 x2 x3 x4 x5 μ else (f_X1_moveEntry q x1 (x5 - 1) x1 x5 μ).bind (fun μ5 => f_X1_insertEntry_b11 q fuel11 x1 x2 x3 x4 (x5 + (-1)) μ5))))
def f_X1_insertEntry (q : Nat) (a1 : Int32) (a2 : Int32) (a3 : Int32) (μ : Mem) : Option Mem := (f_X1_sizeOf q a1 μ).bind (fun v1 => f_X1_insertEntry_b11 q FU a1 a2 a3 v1 v1 μ)
set_option maxHeartbeats 4000000 in
set_option maxRecDepth 100000 in
theorem c_X1_insertEntry (l : Launch) {D : va_G} {cI cG cL : ClassId} {A : Nat → Prop} {EN : State → Heap → Prop} (hE : EnOK EN A) {w : Mem → va_W} {ad : Nat → Nat} {q : Nat} {a1 : Int32} {a2 : Int32} {a3 : Int32} {μ : Mem}  {μ' : Mem} (hw : BedsAt cI w ad q) (h : f_X1_insertEntry q a1 a2 a3 μ = some μ') : Met l yX1_insertEntry wsX1_insertEntry (rmk 2 48) (WPre D (tyl cI cG cL) A EN (w μ) [.ref (ad q), .int a1, .int a2, .int a3]) (PV D A (w μ')) 0 0 A := by
  have hiX1 : ∀ w ∈ u_ws RX1 TX1 9, w ∈ wsX1_insertEntry := by decide +kernel
  have mf18 : Cond.fieldLink RX1 18 (TX1 2).1 (TX1 2).2.1 (TX1 2).2.2.1 ∈ wsX1_insertEntry := by decide +kernel
  have miX6 : Cond.initialized RX6 ∈ wsX1_insertEntry := by decide +kernel
  have ms63 : Cond.static yX6_setCell ∈ wsX1_insertEntry := by decide +kernel
  refine met_start (cc := cX1_insertEntry) (nL := 6) (ret := none) (own := RX1) hE (by decide) rfl rfl (Nat.le_of_ble_eq_true rfl) (fun p e s m args below meth c ls X hS hl hr hlk => ?_)
  have hx := X.1.1
  have hb := X.1.2.1
  replace hl : lv_has ls 6 [(0, .ref (ad q)), (1, .int a1), (2, .int a2), (3, .int a3)] := hl
  have hb47 : ∀ (x1 : Int32) (x2 : Int32) (x3 : Int32) (x4 : Int32) (x5 : Int32) (μ : Mem) (H : Heap) (locs : List Loc) (ls : Array Slot), HS D A (w μ) s.heap H locs → lv_has ls 6 [(0, .ref (ad q)), (1, .int x1), (2, .int x2), (3, .int x3), (4, .int x4), (5, .int x5)] → f_X1_insertEntry_b47 q x1 x2 x3 x4 x5 μ = some μ' → W p l e (headSpec wsX1_insertEntry (rmk 2 48)).room s m args below meth c H locs 0 0 (MQ below (PV D A (w μ')) args s 0 0 A) (F0 m 47 ls []) := by
    intro x1 x2 x3 x4 x5 μ H locs ls hS hl h
    unfold f_X1_insertEntry_b47 at h
    refine lv_aload_n hx hb dX1_insertEntry_47 rfl (lv_at hl 0 rfl) ?_
    refine lv_iload_n hx hb dX1_insertEntry_48 rfl (lv_at hl 1 rfl) ?_
    refine lv_iload hx hb dX1_insertEntry_49 (lv_at hl 5 rfl) ?_
    refine lv_iload_n hx hb dX1_insertEntry_51 rfl (lv_at hl 2 rfl) ?_
    refine lv_iload_n hx hb dX1_insertEntry_52 rfl (lv_at hl 3 rfl) ?_
    obtain ⟨μ2, eμ2, h⟩ := ob h
    refine r_cv hS (r_runV (As := [.int x1, .int x5, .int x2, .int x3]) (rest := []) X hS (c_X1_setEntry l hE (w := w) (ad := ad) (μ := μ) (D := D) (cI := cI) (cG := cG) (cL := cL) hw eμ2) (cwV 4 X.1.2.2.2.2 gX1_insertEntry_X1_setEntry rfl rfl rfl (by decide +kernel) ⟨Nat.le_of_ble_eq_true rfl, Nat.le_of_ble_eq_true rfl⟩) (q0 := q) (ci := 0) rfl (hw.1 μ).1 rfl hl.1 rfl (Nat.le_of_ble_eq_true rfl) dX1_insertEntry_53 ⟨Nat.zero_le _, Nat.zero_le _⟩) (fun H locs hS => ?_)
    refine lv_aload_n hx hb dX1_insertEntry_56 rfl (lv_at hl 0 rfl) ?_
    refine r_get X hS (T := TX1) (k := 2) (hw.1 μ2).1 rfl hiX1 (by decide) mf18 rfl dX1_insertEntry_57 ?_
    refine lv_iload_n hx hb dX1_insertEntry_60 rfl (lv_at hl 1 rfl) ?_
    refine lv_iload hx hb dX1_insertEntry_61 (lv_at hl 4 rfl) ?_
    refine lv_iconst (v := 1) hx hb dX1_insertEntry_63 (by decide) ?_
    refine lv_iadd hx hb dX1_insertEntry_64 ?_
    obtain ⟨μ3, eμ3, h⟩ := ob h
    refine r_cv hS (r_runSN (As := [.ref (ad (q + 3)), .int x1, .int (x4 + 1)]) (rest := []) (host := RX6) X hS (c_X6_setCell l hE (w := w) (ad := ad) (μ := μ2) (D := D) (cI := cI) (cG := cG) (cL := cL) hw.2.2.2.1 eμ3) (va_cnB 3 X.1.2.2.2.2 gX1_insertEntry_X6_setCell_n63 rfl rfl rfl (X.nest 2 rfl) (X.1.2.2.2.2 _ miX6) (by decide +kernel) ⟨Nat.le_of_ble_eq_true rfl, Nat.le_of_ble_eq_true rfl⟩) (X.1.2.2.2.2 _ ms63) rfl hl.1 rfl (Nat.le_of_ble_eq_true rfl) dX1_insertEntry_65 ⟨Nat.zero_le _, Nat.zero_le _⟩) (fun H locs hS => ?_)
    cases h
    exact r_vret X hS hr hlk dX1_insertEntry_68
  have hb11 : ∀ (fu : Nat) (x1 : Int32) (x2 : Int32) (x3 : Int32) (x4 : Int32) (x5 : Int32) (μ : Mem) (H : Heap) (locs : List Loc) (ls : Array Slot), HS D A (w μ) s.heap H locs → lv_has ls 6 [(0, .ref (ad q)), (1, .int x1), (2, .int x2), (3, .int x3), (4, .int x4), (5, .int x5)] → f_X1_insertEntry_b11 q fu x1 x2 x3 x4 x5 μ = some μ' → W p l e (headSpec wsX1_insertEntry (rmk 2 48)).room s m args below meth c H locs 0 0 (MQ below (PV D A (w μ')) args s 0 0 A) (F0 m 11 ls []) := by
    intro fu
    induction fu with
    | zero =>
      intro x1 x2 x3 x4 x5 μ H locs ls hS hl h
      rw [f_X1_insertEntry_b11] at h
      cases h
    | succ fuel11 ih11 =>
      intro x1 x2 x3 x4 x5 μ H locs ls hS hl h
      rw [f_X1_insertEntry_b11] at h
      refine lv_iload hx hb dX1_insertEntry_11 (lv_at hl 5 rfl) ?_
      refine lv_if_le (tgt := 47) hx hb dX1_insertEntry_13 (by decide) (fun cc => ?_) (fun cc => ?_)
      · replace h := it h cc
        exact hb47 x1 x2 x3 x4 x5 μ _ _ _ hS (lv_sub hl [0, 1, 2, 3, 4, 5] rfl) h
      · replace h := ie h cc
        refine lv_aload_n hx hb dX1_insertEntry_16 rfl (lv_at hl 0 rfl) ?_
        refine lv_iload_n hx hb dX1_insertEntry_17 rfl (lv_at hl 1 rfl) ?_
        refine lv_iload hx hb dX1_insertEntry_18 (lv_at hl 5 rfl) ?_
        refine lv_iconst (v := 1) hx hb dX1_insertEntry_20 (by decide) ?_
        refine lv_isub hx hb dX1_insertEntry_21 ?_
        obtain ⟨v4, ev4, h⟩ := ob h
        refine r_ci hS (r_runV (As := [.int x1, .int (x5 - 1)]) (rest := []) X hS (c_X1_keyAt l hE (w := w) (ad := ad) (μ := μ) (D := D) (cI := cI) (cG := cG) (cL := cL) hw ev4) (cwV 2 X.1.2.2.2.2 gX1_insertEntry_X1_keyAt rfl rfl rfl (by decide +kernel) ⟨Nat.le_of_ble_eq_true rfl, Nat.le_of_ble_eq_true rfl⟩) (q0 := q) (ci := 0) rfl (hw.1 μ).1 rfl hl.1 rfl (Nat.le_of_ble_eq_true rfl) dX1_insertEntry_22 ⟨Nat.zero_le _, Nat.zero_le _⟩) (fun H locs hS => ?_)
        refine lv_iload_n hx hb dX1_insertEntry_25 rfl (lv_at hl 2 rfl) ?_
        refine lv_icmp_le (tgt := 47) hx hb dX1_insertEntry_26 (by decide) (fun cc => ?_) (fun cc => ?_)
        · replace h := it h cc
          exact hb47 x1 x2 x3 x4 x5 μ _ _ _ hS (lv_sub hl [0, 1, 2, 3, 4, 5] rfl) h
        · replace h := ie h cc
          refine lv_aload_n hx hb dX1_insertEntry_29 rfl (lv_at hl 0 rfl) ?_
          refine lv_iload_n hx hb dX1_insertEntry_30 rfl (lv_at hl 1 rfl) ?_
          refine lv_iload hx hb dX1_insertEntry_31 (lv_at hl 5 rfl) ?_
          refine lv_iconst (v := 1) hx hb dX1_insertEntry_33 (by decide) ?_
          refine lv_isub hx hb dX1_insertEntry_34 ?_
          refine lv_iload_n hx hb dX1_insertEntry_35 rfl (lv_at hl 1 rfl) ?_
          refine lv_iload hx hb dX1_insertEntry_36 (lv_at hl 5 rfl) ?_
          obtain ⟨μ5, eμ5, h⟩ := ob h
          refine r_cv hS (r_runV (As := [.int x1, .int (x5 - 1), .int x1, .int x5]) (rest := []) X hS (c_X1_moveEntry l hE (w := w) (ad := ad) (μ := μ) (D := D) (cI := cI) (cG := cG) (cL := cL) hw eμ5) (cwV 4 X.1.2.2.2.2 gX1_insertEntry_X1_moveEntry rfl rfl rfl (by decide +kernel) ⟨Nat.le_of_ble_eq_true rfl, Nat.le_of_ble_eq_true rfl⟩) (q0 := q) (ci := 0) rfl (hw.1 μ).1 rfl hl.1 rfl (Nat.le_of_ble_eq_true rfl) dX1_insertEntry_38 ⟨Nat.zero_le _, Nat.zero_le _⟩) (fun H locs hS => ?_)
          refine lv_iinc (v := x5 + (-1)) (lv' := [(5, .int (x5 + (-1))), (0, .ref (ad q)), (1, .int x1), (2, .int x2), (3, .int x3), (4, .int x4)]) hx hb dX1_insertEntry_41 hl (k := 5) rfl rfl (by decide) rfl (fun ls hl => ?_)
          refine lv_goto (tgt := 11) hx hb dX1_insertEntry_44 (by decide) ?_
          exact ih11 x1 x2 x3 x4 (x5 + (-1)) μ5 _ _ _ hS (lv_sub hl [1, 2, 3, 4, 5, 0] rfl) h
  unfold f_X1_insertEntry at h
  refine lv_aload_n hx hb dX1_insertEntry_0 rfl (lv_at hl 0 rfl) ?_
  refine lv_iload_n hx hb dX1_insertEntry_1 rfl (lv_at hl 1 rfl) ?_
  obtain ⟨v1, ev1, h⟩ := ob h
  refine r_ci hS (r_runV (As := [.int a1]) (rest := []) X hS (c_X1_sizeOf l hE (w := w) (ad := ad) (μ := μ) (D := D) (cI := cI) (cG := cG) (cL := cL) hw ev1) (cwV 1 X.1.2.2.2.2 gX1_insertEntry_X1_sizeOf rfl rfl rfl (by decide +kernel) ⟨Nat.le_of_ble_eq_true rfl, Nat.le_of_ble_eq_true rfl⟩) (q0 := q) (ci := 0) rfl (hw.1 μ).1 rfl hl.1 rfl (Nat.le_of_ble_eq_true rfl) dX1_insertEntry_2 ⟨Nat.zero_le _, Nat.zero_le _⟩) (fun H locs hS => ?_)
  refine lv_istore (lv' := [(4, .int v1), (0, .ref (ad q)), (1, .int a1), (2, .int a2), (3, .int a3)]) hx hb dX1_insertEntry_5 hl (by decide) rfl (fun ls hl => ?_)
  refine lv_iload hx hb dX1_insertEntry_7 (lv_at hl 0 rfl) ?_
  refine lv_istore (lv' := [(5, .int v1), (4, .int v1), (0, .ref (ad q)), (1, .int a1), (2, .int a2), (3, .int a3)]) hx hb dX1_insertEntry_9 hl (by decide) rfl (fun ls hl => ?_)
  exact hb11 FU a1 a2 a3 v1 v1 μ _ _ _ hS (lv_sub hl [2, 3, 4, 5, 1, 0] rfl) h
def f_X1_cutEntry_b9 (q : Nat)  : Nat → Int32 → Int32 → Int32 → Mem → Option Mem
  | 0, _, _, _, _ => none
  | fuel9 + 1, x1, x3, x4, μ => (if (x3 - 1) ≤ x4 then (f_X6_setCell (q + 3) 32 x1 (x3 - 1) μ).bind (fun μ2 => (some μ2)) else (f_X1_moveEntry q x1 (x4 + 1) x1 x4 μ).bind (fun μ3 => f_X1_cutEntry_b9 q fuel9 x1 x3 (x4 + 1) μ3))
def f_X1_cutEntry (q : Nat) (a1 : Int32) (a2 : Int32) (μ : Mem) : Option Mem := (f_X1_sizeOf q a1 μ).bind (fun v1 => f_X1_cutEntry_b9 q FU a1 v1 a2 μ)
set_option maxHeartbeats 4000000 in
set_option maxRecDepth 100000 in
theorem c_X1_cutEntry (l : Launch) {D : va_G} {cI cG cL : ClassId} {A : Nat → Prop} {EN : State → Heap → Prop} (hE : EnOK EN A) {w : Mem → va_W} {ad : Nat → Nat} {q : Nat} {a1 : Int32} {a2 : Int32} {μ : Mem}  {μ' : Mem} (hw : BedsAt cI w ad q) (h : f_X1_cutEntry q a1 a2 μ = some μ') : Met l yX1_cutEntry wsX1_cutEntry (rmk 2 48) (WPre D (tyl cI cG cL) A EN (w μ) [.ref (ad q), .int a1, .int a2]) (PV D A (w μ')) 0 0 A := by
  have hiX1 : ∀ w ∈ u_ws RX1 TX1 9, w ∈ wsX1_cutEntry := by decide +kernel
  have mf18 : Cond.fieldLink RX1 18 (TX1 2).1 (TX1 2).2.1 (TX1 2).2.2.1 ∈ wsX1_cutEntry := by decide +kernel
  have miX6 : Cond.initialized RX6 ∈ wsX1_cutEntry := by decide +kernel
  have ms63 : Cond.static yX6_setCell ∈ wsX1_cutEntry := by decide +kernel
  refine met_start (cc := cX1_cutEntry) (nL := 5) (ret := none) (own := RX1) hE (by decide) rfl rfl (Nat.le_of_ble_eq_true rfl) (fun p e s m args below meth c ls X hS hl hr hlk => ?_)
  have hx := X.1.1
  have hb := X.1.2.1
  replace hl : lv_has ls 5 [(0, .ref (ad q)), (1, .int a1), (2, .int a2)] := hl
  have hb9 : ∀ (fu : Nat) (x1 : Int32) (x3 : Int32) (x4 : Int32) (μ : Mem) (H : Heap) (locs : List Loc) (ls : Array Slot), HS D A (w μ) s.heap H locs → lv_has ls 5 [(0, .ref (ad q)), (1, .int x1), (3, .int x3), (4, .int x4)] → f_X1_cutEntry_b9 q fu x1 x3 x4 μ = some μ' → W p l e (headSpec wsX1_cutEntry (rmk 2 48)).room s m args below meth c H locs 0 0 (MQ below (PV D A (w μ')) args s 0 0 A) (F0 m 9 ls []) := by
    intro fu
    induction fu with
    | zero =>
      intro x1 x3 x4 μ H locs ls hS hl h
      rw [f_X1_cutEntry_b9] at h
      cases h
    | succ fuel9 ih9 =>
      intro x1 x3 x4 μ H locs ls hS hl h
      rw [f_X1_cutEntry_b9] at h
      refine lv_iload hx hb dX1_cutEntry_9 (lv_at hl 3 rfl) ?_
      refine lv_iload_n hx hb dX1_cutEntry_11 rfl (lv_at hl 2 rfl) ?_
      refine lv_iconst (v := 1) hx hb dX1_cutEntry_12 (by decide) ?_
      refine lv_isub hx hb dX1_cutEntry_13 ?_
      refine lv_icmp_ge (tgt := 35) hx hb dX1_cutEntry_14 (by decide) (fun cc => ?_) (fun cc => ?_)
      · replace h := it h cc
        refine lv_aload_n hx hb dX1_cutEntry_35 rfl (lv_at hl 0 rfl) ?_
        refine r_get X hS (T := TX1) (k := 2) (hw.1 μ).1 rfl hiX1 (by decide) mf18 rfl dX1_cutEntry_36 ?_
        refine lv_iload_n hx hb dX1_cutEntry_39 rfl (lv_at hl 1 rfl) ?_
        refine lv_iload_n hx hb dX1_cutEntry_40 rfl (lv_at hl 2 rfl) ?_
        refine lv_iconst (v := 1) hx hb dX1_cutEntry_41 (by decide) ?_
        refine lv_isub hx hb dX1_cutEntry_42 ?_
        obtain ⟨μ2, eμ2, h⟩ := ob h
        refine r_cv hS (r_runSN (As := [.ref (ad (q + 3)), .int x1, .int (x3 - 1)]) (rest := []) (host := RX6) X hS (c_X6_setCell l hE (w := w) (ad := ad) (μ := μ) (D := D) (cI := cI) (cG := cG) (cL := cL) hw.2.2.2.1 eμ2) (va_cnB 3 X.1.2.2.2.2 gX1_cutEntry_X6_setCell_n63 rfl rfl rfl (X.nest 2 rfl) (X.1.2.2.2.2 _ miX6) (by decide +kernel) ⟨Nat.le_of_ble_eq_true rfl, Nat.le_of_ble_eq_true rfl⟩) (X.1.2.2.2.2 _ ms63) rfl hl.1 rfl (Nat.le_of_ble_eq_true rfl) dX1_cutEntry_43 ⟨Nat.zero_le _, Nat.zero_le _⟩) (fun H locs hS => ?_)
        cases h
        exact r_vret X hS hr hlk dX1_cutEntry_46
      · replace h := ie h cc
        refine lv_aload_n hx hb dX1_cutEntry_17 rfl (lv_at hl 0 rfl) ?_
        refine lv_iload_n hx hb dX1_cutEntry_18 rfl (lv_at hl 1 rfl) ?_
        refine lv_iload hx hb dX1_cutEntry_19 (lv_at hl 3 rfl) ?_
        refine lv_iconst (v := 1) hx hb dX1_cutEntry_21 (by decide) ?_
        refine lv_iadd hx hb dX1_cutEntry_22 ?_
        refine lv_iload_n hx hb dX1_cutEntry_23 rfl (lv_at hl 1 rfl) ?_
        refine lv_iload hx hb dX1_cutEntry_24 (lv_at hl 3 rfl) ?_
        obtain ⟨μ3, eμ3, h⟩ := ob h
        refine r_cv hS (r_runV (As := [.int x1, .int (x4 + 1), .int x1, .int x4]) (rest := []) X hS (c_X1_moveEntry l hE (w := w) (ad := ad) (μ := μ) (D := D) (cI := cI) (cG := cG) (cL := cL) hw eμ3) (cwV 4 X.1.2.2.2.2 gX1_cutEntry_X1_moveEntry rfl rfl rfl (by decide +kernel) ⟨Nat.le_of_ble_eq_true rfl, Nat.le_of_ble_eq_true rfl⟩) (q0 := q) (ci := 0) rfl (hw.1 μ).1 rfl hl.1 rfl (Nat.le_of_ble_eq_true rfl) dX1_cutEntry_26 ⟨Nat.zero_le _, Nat.zero_le _⟩) (fun H locs hS => ?_)
        refine lv_iinc (v := x4 + 1) (lv' := [(4, .int (x4 + 1)), (0, .ref (ad q)), (1, .int x1), (3, .int x3)]) hx hb dX1_cutEntry_29 hl (k := 3) rfl rfl (by decide) rfl (fun ls hl => ?_)
        refine lv_goto (tgt := 9) hx hb dX1_cutEntry_32 (by decide) ?_
        exact ih9 x1 x3 (x4 + 1) μ3 _ _ _ hS (lv_sub hl [1, 2, 3, 0] rfl) h
  unfold f_X1_cutEntry at h
  refine lv_aload_n hx hb dX1_cutEntry_0 rfl (lv_at hl 0 rfl) ?_
  refine lv_iload_n hx hb dX1_cutEntry_1 rfl (lv_at hl 1 rfl) ?_
  obtain ⟨v1, ev1, h⟩ := ob h
  refine r_ci hS (r_runV (As := [.int a1]) (rest := []) X hS (c_X1_sizeOf l hE (w := w) (ad := ad) (μ := μ) (D := D) (cI := cI) (cG := cG) (cL := cL) hw ev1) (cwV 1 X.1.2.2.2.2 gX1_cutEntry_X1_sizeOf rfl rfl rfl (by decide +kernel) ⟨Nat.le_of_ble_eq_true rfl, Nat.le_of_ble_eq_true rfl⟩) (q0 := q) (ci := 0) rfl (hw.1 μ).1 rfl hl.1 rfl (Nat.le_of_ble_eq_true rfl) dX1_cutEntry_2 ⟨Nat.zero_le _, Nat.zero_le _⟩) (fun H locs hS => ?_)
  refine lv_istore_n (lv' := [(3, .int v1), (0, .ref (ad q)), (1, .int a1), (2, .int a2)]) hx hb dX1_cutEntry_5 rfl hl (by decide) rfl (fun ls hl => ?_)
  refine lv_iload_n hx hb dX1_cutEntry_6 rfl (lv_at hl 3 rfl) ?_
  refine lv_istore (lv' := [(4, .int a2), (3, .int v1), (0, .ref (ad q)), (1, .int a1), (2, .int a2)]) hx hb dX1_cutEntry_7 hl (by decide) rfl (fun ls hl => ?_)
  exact hb9 FU a1 v1 a2 μ _ _ _ hS (lv_sub hl [2, 3, 1, 0] rfl) h
def f_X1_copyLeaf_b9 (q : Nat)  : Nat → Int32 → Int32 → Int32 → Int32 → Mem → Option Mem
  | 0, _, _, _, _, _ => none
  | fuel9 + 1, x1, x2, x3, x4, μ => (if x3 ≤ x4 then (f_X6_setCell (q + 3) 32 x2 x3 μ).bind (fun μ2 => (some μ2)) else (f_X1_moveEntry q x1 x4 x2 x4 μ).bind (fun μ3 => f_X1_copyLeaf_b9 q fuel9 x1 x2 x3 (x4 + 1) μ3))
def f_X1_copyLeaf (q : Nat) (a1 : Int32) (a2 : Int32) (μ : Mem) : Option Mem := (f_X1_sizeOf q a1 μ).bind (fun v1 => f_X1_copyLeaf_b9 q FU a1 a2 v1 0 μ)
set_option maxHeartbeats 4000000 in
set_option maxRecDepth 100000 in
theorem c_X1_copyLeaf (l : Launch) {D : va_G} {cI cG cL : ClassId} {A : Nat → Prop} {EN : State → Heap → Prop} (hE : EnOK EN A) {w : Mem → va_W} {ad : Nat → Nat} {q : Nat} {a1 : Int32} {a2 : Int32} {μ : Mem}  {μ' : Mem} (hw : BedsAt cI w ad q) (h : f_X1_copyLeaf q a1 a2 μ = some μ') : Met l yX1_copyLeaf wsX1_copyLeaf (rmk 2 48) (WPre D (tyl cI cG cL) A EN (w μ) [.ref (ad q), .int a1, .int a2]) (PV D A (w μ')) 0 0 A := by
  have hiX1 : ∀ w ∈ u_ws RX1 TX1 9, w ∈ wsX1_copyLeaf := by decide +kernel
  have mf18 : Cond.fieldLink RX1 18 (TX1 2).1 (TX1 2).2.1 (TX1 2).2.2.1 ∈ wsX1_copyLeaf := by decide +kernel
  have miX6 : Cond.initialized RX6 ∈ wsX1_copyLeaf := by decide +kernel
  have ms63 : Cond.static yX6_setCell ∈ wsX1_copyLeaf := by decide +kernel
  refine met_start (cc := cX1_copyLeaf) (nL := 5) (ret := none) (own := RX1) hE (by decide) rfl rfl (Nat.le_of_ble_eq_true rfl) (fun p e s m args below meth c ls X hS hl hr hlk => ?_)
  have hx := X.1.1
  have hb := X.1.2.1
  replace hl : lv_has ls 5 [(0, .ref (ad q)), (1, .int a1), (2, .int a2)] := hl
  have hb9 : ∀ (fu : Nat) (x1 : Int32) (x2 : Int32) (x3 : Int32) (x4 : Int32) (μ : Mem) (H : Heap) (locs : List Loc) (ls : Array Slot), HS D A (w μ) s.heap H locs → lv_has ls 5 [(0, .ref (ad q)), (1, .int x1), (2, .int x2), (3, .int x3), (4, .int x4)] → f_X1_copyLeaf_b9 q fu x1 x2 x3 x4 μ = some μ' → W p l e (headSpec wsX1_copyLeaf (rmk 2 48)).room s m args below meth c H locs 0 0 (MQ below (PV D A (w μ')) args s 0 0 A) (F0 m 9 ls []) := by
    intro fu
    induction fu with
    | zero =>
      intro x1 x2 x3 x4 μ H locs ls hS hl h
      rw [f_X1_copyLeaf_b9] at h
      cases h
    | succ fuel9 ih9 =>
      intro x1 x2 x3 x4 μ H locs ls hS hl h
      rw [f_X1_copyLeaf_b9] at h
      refine lv_iload hx hb dX1_copyLeaf_9 (lv_at hl 4 rfl) ?_
      refine lv_iload_n hx hb dX1_copyLeaf_11 rfl (lv_at hl 3 rfl) ?_
      refine lv_icmp_ge (tgt := 31) hx hb dX1_copyLeaf_12 (by decide) (fun cc => ?_) (fun cc => ?_)
      · replace h := it h cc
        refine lv_aload_n hx hb dX1_copyLeaf_31 rfl (lv_at hl 0 rfl) ?_
        refine r_get X hS (T := TX1) (k := 2) (hw.1 μ).1 rfl hiX1 (by decide) mf18 rfl dX1_copyLeaf_32 ?_
        refine lv_iload_n hx hb dX1_copyLeaf_35 rfl (lv_at hl 2 rfl) ?_
        refine lv_iload_n hx hb dX1_copyLeaf_36 rfl (lv_at hl 3 rfl) ?_
        obtain ⟨μ2, eμ2, h⟩ := ob h
        refine r_cv hS (r_runSN (As := [.ref (ad (q + 3)), .int x2, .int x3]) (rest := []) (host := RX6) X hS (c_X6_setCell l hE (w := w) (ad := ad) (μ := μ) (D := D) (cI := cI) (cG := cG) (cL := cL) hw.2.2.2.1 eμ2) (va_cnB 3 X.1.2.2.2.2 gX1_copyLeaf_X6_setCell_n63 rfl rfl rfl (X.nest 2 rfl) (X.1.2.2.2.2 _ miX6) (by decide +kernel) ⟨Nat.le_of_ble_eq_true rfl, Nat.le_of_ble_eq_true rfl⟩) (X.1.2.2.2.2 _ ms63) rfl hl.1 rfl (Nat.le_of_ble_eq_true rfl) dX1_copyLeaf_37 ⟨Nat.zero_le _, Nat.zero_le _⟩) (fun H locs hS => ?_)
        cases h
        exact r_vret X hS hr hlk dX1_copyLeaf_40
      · replace h := ie h cc
        refine lv_aload_n hx hb dX1_copyLeaf_15 rfl (lv_at hl 0 rfl) ?_
        refine lv_iload_n hx hb dX1_copyLeaf_16 rfl (lv_at hl 1 rfl) ?_
        refine lv_iload hx hb dX1_copyLeaf_17 (lv_at hl 4 rfl) ?_
        refine lv_iload_n hx hb dX1_copyLeaf_19 rfl (lv_at hl 2 rfl) ?_
        refine lv_iload hx hb dX1_copyLeaf_20 (lv_at hl 4 rfl) ?_
        obtain ⟨μ3, eμ3, h⟩ := ob h
        refine r_cv hS (r_runV (As := [.int x1, .int x4, .int x2, .int x4]) (rest := []) X hS (c_X1_moveEntry l hE (w := w) (ad := ad) (μ := μ) (D := D) (cI := cI) (cG := cG) (cL := cL) hw eμ3) (cwV 4 X.1.2.2.2.2 gX1_copyLeaf_X1_moveEntry rfl rfl rfl (by decide +kernel) ⟨Nat.le_of_ble_eq_true rfl, Nat.le_of_ble_eq_true rfl⟩) (q0 := q) (ci := 0) rfl (hw.1 μ).1 rfl hl.1 rfl (Nat.le_of_ble_eq_true rfl) dX1_copyLeaf_22 ⟨Nat.zero_le _, Nat.zero_le _⟩) (fun H locs hS => ?_)
        refine lv_iinc (v := x4 + 1) (lv' := [(4, .int (x4 + 1)), (0, .ref (ad q)), (1, .int x1), (2, .int x2), (3, .int x3)]) hx hb dX1_copyLeaf_25 hl (k := 4) rfl rfl (by decide) rfl (fun ls hl => ?_)
        refine lv_goto (tgt := 9) hx hb dX1_copyLeaf_28 (by decide) ?_
        exact ih9 x1 x2 x3 (x4 + 1) μ3 _ _ _ hS (lv_sub hl [1, 2, 3, 4, 0] rfl) h
  unfold f_X1_copyLeaf at h
  refine lv_aload_n hx hb dX1_copyLeaf_0 rfl (lv_at hl 0 rfl) ?_
  refine lv_iload_n hx hb dX1_copyLeaf_1 rfl (lv_at hl 1 rfl) ?_
  obtain ⟨v1, ev1, h⟩ := ob h
  refine r_ci hS (r_runV (As := [.int a1]) (rest := []) X hS (c_X1_sizeOf l hE (w := w) (ad := ad) (μ := μ) (D := D) (cI := cI) (cG := cG) (cL := cL) hw ev1) (cwV 1 X.1.2.2.2.2 gX1_copyLeaf_X1_sizeOf rfl rfl rfl (by decide +kernel) ⟨Nat.le_of_ble_eq_true rfl, Nat.le_of_ble_eq_true rfl⟩) (q0 := q) (ci := 0) rfl (hw.1 μ).1 rfl hl.1 rfl (Nat.le_of_ble_eq_true rfl) dX1_copyLeaf_2 ⟨Nat.zero_le _, Nat.zero_le _⟩) (fun H locs hS => ?_)
  refine lv_istore_n (lv' := [(3, .int v1), (0, .ref (ad q)), (1, .int a1), (2, .int a2)]) hx hb dX1_copyLeaf_5 rfl hl (by decide) rfl (fun ls hl => ?_)
  refine lv_iconst (v := 0) hx hb dX1_copyLeaf_6 (by decide) ?_
  refine lv_istore (lv' := [(4, .int 0), (3, .int v1), (0, .ref (ad q)), (1, .int a1), (2, .int a2)]) hx hb dX1_copyLeaf_7 hl (by decide) rfl (fun ls hl => ?_)
  exact hb9 FU a1 a2 v1 0 μ _ _ _ hS (lv_sub hl [2, 3, 4, 1, 0] rfl) h
def f_X1_splitLeaf_b11 (q : Nat)  : Nat → Int32 → Int32 → Int32 → Int32 → Mem → Option Mem
  | 0, _, _, _, _, _ => none
  | fuel11 + 1, x1, x2, x3, x4, μ => (if 2 ≤ x4 then (f_X6_setCell (q + 3) 32 x1 x3 μ).bind (fun μ2 => (f_X6_setCell (q + 3) 32 x2 2 μ2).bind (fun μ3 => (some μ3))) else (f_X1_moveEntry q x1 (x3 + x4) x2 x4 μ).bind (fun μ4 => f_X1_splitLeaf_b11 q fuel11 x1 x2 x3 (x4 + 1) μ4))
def f_X1_splitLeaf (q : Nat) (a1 : Int32) (a2 : Int32) (μ : Mem) : Option Mem := (f_X1_sizeOf q a1 μ).bind (fun v1 => f_X1_splitLeaf_b11 q FU a1 a2 (v1 - 2) 0 μ)
set_option maxHeartbeats 4000000 in
set_option maxRecDepth 100000 in
theorem c_X1_splitLeaf (l : Launch) {D : va_G} {cI cG cL : ClassId} {A : Nat → Prop} {EN : State → Heap → Prop} (hE : EnOK EN A) {w : Mem → va_W} {ad : Nat → Nat} {q : Nat} {a1 : Int32} {a2 : Int32} {μ : Mem}  {μ' : Mem} (hw : BedsAt cI w ad q) (h : f_X1_splitLeaf q a1 a2 μ = some μ') : Met l yX1_splitLeaf wsX1_splitLeaf (rmk 2 48) (WPre D (tyl cI cG cL) A EN (w μ) [.ref (ad q), .int a1, .int a2]) (PV D A (w μ')) 0 0 A := by
  have hiX1 : ∀ w ∈ u_ws RX1 TX1 9, w ∈ wsX1_splitLeaf := by decide +kernel
  have mf18 : Cond.fieldLink RX1 18 (TX1 2).1 (TX1 2).2.1 (TX1 2).2.2.1 ∈ wsX1_splitLeaf := by decide +kernel
  have miX6 : Cond.initialized RX6 ∈ wsX1_splitLeaf := by decide +kernel
  have ms63 : Cond.static yX6_setCell ∈ wsX1_splitLeaf := by decide +kernel
  refine met_start (cc := cX1_splitLeaf) (nL := 5) (ret := none) (own := RX1) hE (by decide) rfl rfl (Nat.le_of_ble_eq_true rfl) (fun p e s m args below meth c ls X hS hl hr hlk => ?_)
  have hx := X.1.1
  have hb := X.1.2.1
  replace hl : lv_has ls 5 [(0, .ref (ad q)), (1, .int a1), (2, .int a2)] := hl
  have hb11 : ∀ (fu : Nat) (x1 : Int32) (x2 : Int32) (x3 : Int32) (x4 : Int32) (μ : Mem) (H : Heap) (locs : List Loc) (ls : Array Slot), HS D A (w μ) s.heap H locs → lv_has ls 5 [(0, .ref (ad q)), (1, .int x1), (2, .int x2), (3, .int x3), (4, .int x4)] → f_X1_splitLeaf_b11 q fu x1 x2 x3 x4 μ = some μ' → W p l e (headSpec wsX1_splitLeaf (rmk 2 48)).room s m args below meth c H locs 0 0 (MQ below (PV D A (w μ')) args s 0 0 A) (F0 m 11 ls []) := by
    intro fu
    induction fu with
    | zero =>
      intro x1 x2 x3 x4 μ H locs ls hS hl h
      rw [f_X1_splitLeaf_b11] at h
      cases h
    | succ fuel11 ih11 =>
      intro x1 x2 x3 x4 μ H locs ls hS hl h
      rw [f_X1_splitLeaf_b11] at h
      refine lv_iload hx hb dX1_splitLeaf_11 (lv_at hl 4 rfl) ?_
      refine lv_iconst (v := 2) hx hb dX1_splitLeaf_13 (by decide) ?_
      refine lv_icmp_ge (tgt := 35) hx hb dX1_splitLeaf_14 (by decide) (fun cc => ?_) (fun cc => ?_)
      · replace h := it h cc
        refine lv_aload_n hx hb dX1_splitLeaf_35 rfl (lv_at hl 0 rfl) ?_
        refine r_get X hS (T := TX1) (k := 2) (hw.1 μ).1 rfl hiX1 (by decide) mf18 rfl dX1_splitLeaf_36 ?_
        refine lv_iload_n hx hb dX1_splitLeaf_39 rfl (lv_at hl 1 rfl) ?_
        refine lv_iload_n hx hb dX1_splitLeaf_40 rfl (lv_at hl 3 rfl) ?_
        obtain ⟨μ2, eμ2, h⟩ := ob h
        refine r_cv hS (r_runSN (As := [.ref (ad (q + 3)), .int x1, .int x3]) (rest := []) (host := RX6) X hS (c_X6_setCell l hE (w := w) (ad := ad) (μ := μ) (D := D) (cI := cI) (cG := cG) (cL := cL) hw.2.2.2.1 eμ2) (va_cnB 3 X.1.2.2.2.2 gX1_splitLeaf_X6_setCell_n63 rfl rfl rfl (X.nest 2 rfl) (X.1.2.2.2.2 _ miX6) (by decide +kernel) ⟨Nat.le_of_ble_eq_true rfl, Nat.le_of_ble_eq_true rfl⟩) (X.1.2.2.2.2 _ ms63) rfl hl.1 rfl (Nat.le_of_ble_eq_true rfl) dX1_splitLeaf_41 ⟨Nat.zero_le _, Nat.zero_le _⟩) (fun H locs hS => ?_)
        refine lv_aload_n hx hb dX1_splitLeaf_44 rfl (lv_at hl 0 rfl) ?_
        refine r_get X hS (T := TX1) (k := 2) (hw.1 μ2).1 rfl hiX1 (by decide) mf18 rfl dX1_splitLeaf_45 ?_
        refine lv_iload_n hx hb dX1_splitLeaf_48 rfl (lv_at hl 2 rfl) ?_
        refine lv_iconst (v := 2) hx hb dX1_splitLeaf_49 (by decide) ?_
        obtain ⟨μ3, eμ3, h⟩ := ob h
        refine r_cv hS (r_runSN (As := [.ref (ad (q + 3)), .int x2, .int 2]) (rest := []) (host := RX6) X hS (c_X6_setCell l hE (w := w) (ad := ad) (μ := μ2) (D := D) (cI := cI) (cG := cG) (cL := cL) hw.2.2.2.1 eμ3) (va_cnB 3 X.1.2.2.2.2 gX1_splitLeaf_X6_setCell_n63 rfl rfl rfl (X.nest 2 rfl) (X.1.2.2.2.2 _ miX6) (by decide +kernel) ⟨Nat.le_of_ble_eq_true rfl, Nat.le_of_ble_eq_true rfl⟩) (X.1.2.2.2.2 _ ms63) rfl hl.1 rfl (Nat.le_of_ble_eq_true rfl) dX1_splitLeaf_50 ⟨Nat.zero_le _, Nat.zero_le _⟩) (fun H locs hS => ?_)
        cases h
        exact r_vret X hS hr hlk dX1_splitLeaf_53
      · replace h := ie h cc
        refine lv_aload_n hx hb dX1_splitLeaf_17 rfl (lv_at hl 0 rfl) ?_
        refine lv_iload_n hx hb dX1_splitLeaf_18 rfl (lv_at hl 1 rfl) ?_
        refine lv_iload_n hx hb dX1_splitLeaf_19 rfl (lv_at hl 3 rfl) ?_
        refine lv_iload hx hb dX1_splitLeaf_20 (lv_at hl 4 rfl) ?_
        refine lv_iadd hx hb dX1_splitLeaf_22 ?_
        refine lv_iload_n hx hb dX1_splitLeaf_23 rfl (lv_at hl 2 rfl) ?_
        refine lv_iload hx hb dX1_splitLeaf_24 (lv_at hl 4 rfl) ?_
        obtain ⟨μ4, eμ4, h⟩ := ob h
        refine r_cv hS (r_runV (As := [.int x1, .int (x3 + x4), .int x2, .int x4]) (rest := []) X hS (c_X1_moveEntry l hE (w := w) (ad := ad) (μ := μ) (D := D) (cI := cI) (cG := cG) (cL := cL) hw eμ4) (cwV 4 X.1.2.2.2.2 gX1_splitLeaf_X1_moveEntry rfl rfl rfl (by decide +kernel) ⟨Nat.le_of_ble_eq_true rfl, Nat.le_of_ble_eq_true rfl⟩) (q0 := q) (ci := 0) rfl (hw.1 μ).1 rfl hl.1 rfl (Nat.le_of_ble_eq_true rfl) dX1_splitLeaf_26 ⟨Nat.zero_le _, Nat.zero_le _⟩) (fun H locs hS => ?_)
        refine lv_iinc (v := x4 + 1) (lv' := [(4, .int (x4 + 1)), (0, .ref (ad q)), (1, .int x1), (2, .int x2), (3, .int x3)]) hx hb dX1_splitLeaf_29 hl (k := 4) rfl rfl (by decide) rfl (fun ls hl => ?_)
        refine lv_goto (tgt := 11) hx hb dX1_splitLeaf_32 (by decide) ?_
        exact ih11 x1 x2 x3 (x4 + 1) μ4 _ _ _ hS (lv_sub hl [1, 2, 3, 4, 0] rfl) h
  unfold f_X1_splitLeaf at h
  refine lv_aload_n hx hb dX1_splitLeaf_0 rfl (lv_at hl 0 rfl) ?_
  refine lv_iload_n hx hb dX1_splitLeaf_1 rfl (lv_at hl 1 rfl) ?_
  obtain ⟨v1, ev1, h⟩ := ob h
  refine r_ci hS (r_runV (As := [.int a1]) (rest := []) X hS (c_X1_sizeOf l hE (w := w) (ad := ad) (μ := μ) (D := D) (cI := cI) (cG := cG) (cL := cL) hw ev1) (cwV 1 X.1.2.2.2.2 gX1_splitLeaf_X1_sizeOf rfl rfl rfl (by decide +kernel) ⟨Nat.le_of_ble_eq_true rfl, Nat.le_of_ble_eq_true rfl⟩) (q0 := q) (ci := 0) rfl (hw.1 μ).1 rfl hl.1 rfl (Nat.le_of_ble_eq_true rfl) dX1_splitLeaf_2 ⟨Nat.zero_le _, Nat.zero_le _⟩) (fun H locs hS => ?_)
  refine lv_iconst (v := 2) hx hb dX1_splitLeaf_5 (by decide) ?_
  refine lv_isub hx hb dX1_splitLeaf_6 ?_
  refine lv_istore_n (lv' := [(3, .int (v1 - 2)), (0, .ref (ad q)), (1, .int a1), (2, .int a2)]) hx hb dX1_splitLeaf_7 rfl hl (by decide) rfl (fun ls hl => ?_)
  refine lv_iconst (v := 0) hx hb dX1_splitLeaf_8 (by decide) ?_
  refine lv_istore (lv' := [(4, .int 0), (3, .int (v1 - 2)), (0, .ref (ad q)), (1, .int a1), (2, .int a2)]) hx hb dX1_splitLeaf_9 hl (by decide) rfl (fun ls hl => ?_)
  exact hb11 FU a1 a2 (v1 - 2) 0 μ _ _ _ hS (lv_sub hl [2, 3, 4, 1, 0] rfl) h
