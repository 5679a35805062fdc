def f_X6_begin (q : Nat) (μ : Mem) : Option (Int32 × Mem) := (f_X4_beginFault (q + 1) μ).bind (fun v1 => (f_X6_refuse v1).bind (fun _ => (f_X5_save (q + 17) (q + 1) μ).bind (fun μ3 => bn2 (f_X4_beginDraft (q + 1) μ3) (fun v4 μ5 => (some (v4, μ5))))))
set_option maxHeartbeats 4000000 in
set_option maxRecDepth 100000 in
theorem c_X6_begin (l : Launch) {D : va_G} {cI cG cL : ClassId} {A : Nat → Prop} {EN : State → Heap → Prop} (hE : EnOK EN A) {w : Mem → va_W} {adE ad : Nat → Nat} {q : Nat} {μ : Mem} {r : Int32} {μ' : Mem} (hw : PGAt cI cG adE w ad q) (h : f_X6_begin q μ = some (r, μ')) : Met l yX6_begin wsX6_begin (rmk 4 86) (WPre D (tyl cI cG cL) A EN (w μ) [.ref (ad q)]) (PI D A (w μ') r) 0 0 A := by
  have hiX6 : ∀ w ∈ u_ws RX6 TX6 3, w ∈ wsX6_begin := by decide +kernel
  have mf12 : Cond.fieldLink RX6 12 (TX6 0).1 (TX6 0).2.1 (TX6 0).2.2.1 ∈ wsX6_begin := by decide +kernel
  have mf19 : Cond.fieldLink RX6 19 (TX6 1).1 (TX6 1).2.1 (TX6 1).2.2.1 ∈ wsX6_begin := by decide +kernel
  refine met_start (cc := cX6_begin) (nL := 1) (ret := (some .int)) (own := RX6) hE (by decide) rfl rfl (Nat.le_of_ble_eq_true rfl) (fun p e s m args below meth c ls X hS hl hr hlk => ?_)
  have hx := X.1.1
  have hb := X.1.2.1
  replace hl : lv_has ls 1 [(0, .ref (ad q))] := hl
  unfold f_X6_begin at h
  refine lv_aload_n hx hb dX6_begin_0 rfl (lv_at hl 0 rfl) ?_
  refine r_get X hS (T := TX6) (k := 0) (hw.1 μ).1 rfl hiX6 (by decide) mf12 rfl dX6_begin_1 ?_
  obtain ⟨v1, ev1, h⟩ := ob h
  refine r_ci hS (r_runV (As := []) (rest := []) X hS (c_X4_beginFault l hE (w := w) (ad := ad) (μ := μ) (D := D) (cI := cI) (cG := cG) (cL := cL) hw.2.1 ev1) (cwV 0 X.1.2.2.2.2 gX6_begin_X4_beginFault rfl rfl rfl (by decide +kernel) ⟨Nat.le_of_ble_eq_true rfl, Nat.le_of_ble_eq_true rfl⟩) (q0 := (q + 1)) (ci := 2) rfl (hw.2.1.1 μ).1 rfl hl.1 rfl (Nat.le_of_ble_eq_true rfl) dX6_begin_4 ⟨Nat.zero_le _, Nat.zero_le _⟩) (fun H locs hS => ?_)
  obtain ⟨_, eu2, h⟩ := ob h
  refine r_cv hS (r_runS (As := [.int v1]) (rest := []) X hS (c_X6_refuse l hE (w := w) (ad := ad) (μ := μ) (D := D) (cI := cI) (cG := cG) (cL := cL) eu2) (va_cwS 1 X.1.2.2.2.2 gX6_begin_X6_refuse rfl rfl rfl (by decide +kernel) ⟨Nat.le_of_ble_eq_true rfl, Nat.le_of_ble_eq_true rfl⟩) rfl hl.1 rfl (Nat.le_of_ble_eq_true rfl) dX6_begin_7 ⟨Nat.zero_le _, Nat.zero_le _⟩) (fun H locs hS => ?_)
  refine lv_aload_n hx hb dX6_begin_10 rfl (lv_at hl 0 rfl) ?_
  refine r_get X hS (T := TX6) (k := 1) (hw.1 μ).1 rfl hiX6 (by decide) mf19 rfl dX6_begin_11 ?_
  refine lv_aload_n hx hb dX6_begin_14 rfl (lv_at hl 0 rfl) ?_
  refine r_get X hS (T := TX6) (k := 0) (hw.1 μ).1 rfl hiX6 (by decide) mf12 rfl dX6_begin_15 ?_
  obtain ⟨μ3, eμ3, h⟩ := ob h
  refine r_cv hS (r_runV (As := [.ref (ad (q + 1))]) (rest := []) X hS (c_X5_save l hE (w := w) (ad := ad) (μ := μ) (D := D) (cI := cI) (cG := cG) (cL := cL) hw.2.2.1 hw.2.1 eμ3) (cwV 1 X.1.2.2.2.2 gX6_begin_X5_save rfl rfl rfl (by decide +kernel) ⟨Nat.le_of_ble_eq_true rfl, Nat.le_of_ble_eq_true rfl⟩) (q0 := (q + 17)) (ci := 3) rfl (hw.2.2.1.1 μ).1 rfl hl.1 rfl (Nat.le_of_ble_eq_true rfl) dX6_begin_18 ⟨Nat.zero_le _, Nat.zero_le _⟩) (fun H locs hS => ?_)
  refine lv_aload_n hx hb dX6_begin_21 rfl (lv_at hl 0 rfl) ?_
  refine r_get X hS (T := TX6) (k := 0) (hw.1 μ3).1 rfl hiX6 (by decide) mf12 rfl dX6_begin_22 ?_
  obtain ⟨v4, μ5, ev4, h⟩ := ob2 h
  refine r_ci hS (r_runV (As := []) (rest := []) X hS (c_X4_beginDraft l hE (w := w) (ad := ad) (μ := μ3) (D := D) (cI := cI) (cG := cG) (cL := cL) hw.2.1 ev4) (cwV 0 X.1.2.2.2.2 gX6_begin_X4_beginDraft rfl rfl rfl (by decide +kernel) ⟨Nat.le_of_ble_eq_true rfl, Nat.le_of_ble_eq_true rfl⟩) (q0 := (q + 1)) (ci := 2) rfl (hw.2.1.1 μ3).1 rfl hl.1 rfl (Nat.le_of_ble_eq_true rfl) dX6_begin_25 ⟨Nat.zero_le _, Nat.zero_le _⟩) (fun H locs hS => ?_)
  obtain ⟨rfl, rfl⟩ := pr2 h
  exact r_iret X hS hr hlk dX6_begin_28
def f_X6_put (q : Nat) (a1 : Int32) (a2 : Int32) (μ : Mem) : Option (Int32 × Mem) := (f_X4_putFault (q + 1) a1 a2 μ).bind (fun v1 => (f_X6_refuse v1).bind (fun _ => (f_X5_save (q + 17) (q + 1) μ).bind (fun μ3 => bn2 (f_X4_putEntry (q + 1) a1 a2 μ3) (fun v4 μ5 => (some (v4, μ5))))))
set_option maxHeartbeats 4000000 in
set_option maxRecDepth 100000 in
theorem c_X6_put (l : Launch) {D : va_G} {cI cG cL : ClassId} {A : Nat → Prop} {EN : State → Heap → Prop} (hE : EnOK EN A) {w : Mem → va_W} {adE ad : Nat → Nat} {q : Nat} {a1 : Int32} {a2 : Int32} {μ : Mem} {r : Int32} {μ' : Mem} (hw : PGAt cI cG adE w ad q) (h : f_X6_put q a1 a2 μ = some (r, μ')) : Met l yX6_put wsX6_put (rmk 6 128) (WPre D (tyl cI cG cL) A EN (w μ) [.ref (ad q), .int a1, .int a2]) (PI D A (w μ') r) 0 0 A := by
  have hiX6 : ∀ w ∈ u_ws RX6 TX6 3, w ∈ wsX6_put := by decide +kernel
  have mf12 : Cond.fieldLink RX6 12 (TX6 0).1 (TX6 0).2.1 (TX6 0).2.2.1 ∈ wsX6_put := by decide +kernel
  have mf19 : Cond.fieldLink RX6 19 (TX6 1).1 (TX6 1).2.1 (TX6 1).2.2.1 ∈ wsX6_put := by decide +kernel
  refine met_start (cc := cX6_put) (nL := 3) (ret := (some .int)) (own := RX6) hE (by decide) rfl rfl (Nat.le_of_ble_eq_true rfl) (fun p e s m args below meth c ls X hS hl hr hlk => ?_)
  have hx := X.1.1
  have hb := X.1.2.1
  replace hl : lv_has ls 3 [(0, .ref (ad q)), (1, .int a1), (2, .int a2)] := hl
  unfold f_X6_put at h
  refine lv_aload_n hx hb dX6_put_0 rfl (lv_at hl 0 rfl) ?_
  refine r_get X hS (T := TX6) (k := 0) (hw.1 μ).1 rfl hiX6 (by decide) mf12 rfl dX6_put_1 ?_
  refine lv_iload_n hx hb dX6_put_4 rfl (lv_at hl 1 rfl) ?_
  refine lv_iload_n hx hb dX6_put_5 rfl (lv_at hl 2 rfl) ?_
  obtain ⟨v1, ev1, h⟩ := ob h
  refine r_ci hS (r_runV (As := [.int a1, .int a2]) (rest := []) X hS (c_X4_putFault l hE (w := w) (ad := ad) (μ := μ) (D := D) (cI := cI) (cG := cG) (cL := cL) hw.2.1 ev1) (cwV 2 X.1.2.2.2.2 gX6_put_X4_putFault rfl rfl rfl (by decide +kernel) ⟨Nat.le_of_ble_eq_true rfl, Nat.le_of_ble_eq_true rfl⟩) (q0 := (q + 1)) (ci := 2) rfl (hw.2.1.1 μ).1 rfl hl.1 rfl (Nat.le_of_ble_eq_true rfl) dX6_put_6 ⟨Nat.zero_le _, Nat.zero_le _⟩) (fun H locs hS => ?_)
  obtain ⟨_, eu2, h⟩ := ob h
  refine r_cv hS (r_runS (As := [.int v1]) (rest := []) X hS (c_X6_refuse l hE (w := w) (ad := ad) (μ := μ) (D := D) (cI := cI) (cG := cG) (cL := cL) eu2) (va_cwS 1 X.1.2.2.2.2 gX6_put_X6_refuse rfl rfl rfl (by decide +kernel) ⟨Nat.le_of_ble_eq_true rfl, Nat.le_of_ble_eq_true rfl⟩) rfl hl.1 rfl (Nat.le_of_ble_eq_true rfl) dX6_put_9 ⟨Nat.zero_le _, Nat.zero_le _⟩) (fun H locs hS => ?_)
  refine lv_aload_n hx hb dX6_put_12 rfl (lv_at hl 0 rfl) ?_
  refine r_get X hS (T := TX6) (k := 1) (hw.1 μ).1 rfl hiX6 (by decide) mf19 rfl dX6_put_13 ?_
  refine lv_aload_n hx hb dX6_put_16 rfl (lv_at hl 0 rfl) ?_
  refine r_get X hS (T := TX6) (k := 0) (hw.1 μ).1 rfl hiX6 (by decide) mf12 rfl dX6_put_17 ?_
  obtain ⟨μ3, eμ3, h⟩ := ob h
  refine r_cv hS (r_runV (As := [.ref (ad (q + 1))]) (rest := []) X hS (c_X5_save l hE (w := w) (ad := ad) (μ := μ) (D := D) (cI := cI) (cG := cG) (cL := cL) hw.2.2.1 hw.2.1 eμ3) (cwV 1 X.1.2.2.2.2 gX6_put_X5_save rfl rfl rfl (by decide +kernel) ⟨Nat.le_of_ble_eq_true rfl, Nat.le_of_ble_eq_true rfl⟩) (q0 := (q + 17)) (ci := 3) rfl (hw.2.2.1.1 μ).1 rfl hl.1 rfl (Nat.le_of_ble_eq_true rfl) dX6_put_20 ⟨Nat.zero_le _, Nat.zero_le _⟩) (fun H locs hS => ?_)
  refine lv_aload_n hx hb dX6_put_23 rfl (lv_at hl 0 rfl) ?_
  refine r_get X hS (T := TX6) (k := 0) (hw.1 μ3).1 rfl hiX6 (by decide) mf12 rfl dX6_put_24 ?_
  refine lv_iload_n hx hb dX6_put_27 rfl (lv_at hl 1 rfl) ?_
  refine lv_iload_n hx hb dX6_put_28 rfl (lv_at hl 2 rfl) ?_
  obtain ⟨v4, μ5, ev4, h⟩ := ob2 h
  refine r_ci hS (r_runV (As := [.int a1, .int a2]) (rest := []) X hS (c_X4_putEntry l hE (w := w) (ad := ad) (μ := μ3) (D := D) (cI := cI) (cG := cG) (cL := cL) hw.2.1 ev4) (cwV 2 X.1.2.2.2.2 gX6_put_X4_putEntry rfl rfl rfl (by decide +kernel) ⟨Nat.le_of_ble_eq_true rfl, Nat.le_of_ble_eq_true rfl⟩) (q0 := (q + 1)) (ci := 2) rfl (hw.2.1.1 μ3).1 rfl hl.1 rfl (Nat.le_of_ble_eq_true rfl) dX6_put_29 ⟨Nat.zero_le _, Nat.zero_le _⟩) (fun H locs hS => ?_)
  obtain ⟨rfl, rfl⟩ := pr2 h
  exact r_iret X hS hr hlk dX6_put_32
def f_X6_remove (q : Nat) (a1 : Int32) (μ : Mem) : Option (Int32 × Mem) := (f_X4_removeFault (q + 1) a1 μ).bind (fun v1 => (f_X6_refuse v1).bind (fun _ => (f_X5_save (q + 17) (q + 1) μ).bind (fun μ3 => bn2 (f_X4_removeEntry (q + 1) a1 μ3) (fun v4 μ5 => (some (v4, μ5))))))
set_option maxHeartbeats 4000000 in
set_option maxRecDepth 100000 in
theorem c_X6_remove (l : Launch) {D : va_G} {cI cG cL : ClassId} {A : Nat → Prop} {EN : State → Heap → Prop} (hE : EnOK EN A) {w : Mem → va_W} {adE ad : Nat → Nat} {q : Nat} {a1 : Int32} {μ : Mem} {r : Int32} {μ' : Mem} (hw : PGAt cI cG adE w ad q) (h : f_X6_remove q a1 μ = some (r, μ')) : Met l yX6_remove wsX6_remove (rmk 5 120) (WPre D (tyl cI cG cL) A EN (w μ) [.ref (ad q), .int a1]) (PI D A (w μ') r) 0 0 A := by
  have hiX6 : ∀ w ∈ u_ws RX6 TX6 3, w ∈ wsX6_remove := by decide +kernel
  have mf12 : Cond.fieldLink RX6 12 (TX6 0).1 (TX6 0).2.1 (TX6 0).2.2.1 ∈ wsX6_remove := by decide +kernel
  have mf19 : Cond.fieldLink RX6 19 (TX6 1).1 (TX6 1).2.1 (TX6 1).2.2.1 ∈ wsX6_remove := by decide +kernel
  refine met_start (cc := cX6_remove) (nL := 2) (ret := (some .int)) (own := RX6) hE (by decide) rfl rfl (Nat.le_of_ble_eq_true rfl) (fun p e s m args below meth c ls X hS hl hr hlk => ?_)
  have hx := X.1.1
  have hb := X.1.2.1
  replace hl : lv_has ls 2 [(0, .ref (ad q)), (1, .int a1)] := hl
  unfold f_X6_remove at h
  refine lv_aload_n hx hb dX6_remove_0 rfl (lv_at hl 0 rfl) ?_
  refine r_get X hS (T := TX6) (k := 0) (hw.1 μ).1 rfl hiX6 (by decide) mf12 rfl dX6_remove_1 ?_
  refine lv_iload_n hx hb dX6_remove_4 rfl (lv_at hl 1 rfl) ?_
  obtain ⟨v1, ev1, h⟩ := ob h
  refine r_ci hS (r_runV (As := [.int a1]) (rest := []) X hS (c_X4_removeFault l hE (w := w) (ad := ad) (μ := μ) (D := D) (cI := cI) (cG := cG) (cL := cL) hw.2.1 ev1) (cwV 1 X.1.2.2.2.2 gX6_remove_X4_removeFault rfl rfl rfl (by decide +kernel) ⟨Nat.le_of_ble_eq_true rfl, Nat.le_of_ble_eq_true rfl⟩) (q0 := (q + 1)) (ci := 2) rfl (hw.2.1.1 μ).1 rfl hl.1 rfl (Nat.le_of_ble_eq_true rfl) dX6_remove_5 ⟨Nat.zero_le _, Nat.zero_le _⟩) (fun H locs hS => ?_)
  obtain ⟨_, eu2, h⟩ := ob h
  refine r_cv hS (r_runS (As := [.int v1]) (rest := []) X hS (c_X6_refuse l hE (w := w) (ad := ad) (μ := μ) (D := D) (cI := cI) (cG := cG) (cL := cL) eu2) (va_cwS 1 X.1.2.2.2.2 gX6_remove_X6_refuse rfl rfl rfl (by decide +kernel) ⟨Nat.le_of_ble_eq_true rfl, Nat.le_of_ble_eq_true rfl⟩) rfl hl.1 rfl (Nat.le_of_ble_eq_true rfl) dX6_remove_8 ⟨Nat.zero_le _, Nat.zero_le _⟩) (fun H locs hS => ?_)
  refine lv_aload_n hx hb dX6_remove_11 rfl (lv_at hl 0 rfl) ?_
  refine r_get X hS (T := TX6) (k := 1) (hw.1 μ).1 rfl hiX6 (by decide) mf19 rfl dX6_remove_12 ?_
  refine lv_aload_n hx hb dX6_remove_15 rfl (lv_at hl 0 rfl) ?_
  refine r_get X hS (T := TX6) (k := 0) (hw.1 μ).1 rfl hiX6 (by decide) mf12 rfl dX6_remove_16 ?_
  obtain ⟨μ3, eμ3, h⟩ := ob h
  refine r_cv hS (r_runV (As := [.ref (ad (q + 1))]) (rest := []) X hS (c_X5_save l hE (w := w) (ad := ad) (μ := μ) (D := D) (cI := cI) (cG := cG) (cL := cL) hw.2.2.1 hw.2.1 eμ3) (cwV 1 X.1.2.2.2.2 gX6_remove_X5_save rfl rfl rfl (by decide +kernel) ⟨Nat.le_of_ble_eq_true rfl, Nat.le_of_ble_eq_true rfl⟩) (q0 := (q + 17)) (ci := 3) rfl (hw.2.2.1.1 μ).1 rfl hl.1 rfl (Nat.le_of_ble_eq_true rfl) dX6_remove_19 ⟨Nat.zero_le _, Nat.zero_le _⟩) (fun H locs hS => ?_)
  refine lv_aload_n hx hb dX6_remove_22 rfl (lv_at hl 0 rfl) ?_
  refine r_get X hS (T := TX6) (k := 0) (hw.1 μ3).1 rfl hiX6 (by decide) mf12 rfl dX6_remove_23 ?_
  refine lv_iload_n hx hb dX6_remove_26 rfl (lv_at hl 1 rfl) ?_
  obtain ⟨v4, μ5, ev4, h⟩ := ob2 h
  refine r_ci hS (r_runV (As := [.int a1]) (rest := []) X hS (c_X4_removeEntry l hE (w := w) (ad := ad) (μ := μ3) (D := D) (cI := cI) (cG := cG) (cL := cL) hw.2.1 ev4) (cwV 1 X.1.2.2.2.2 gX6_remove_X4_removeEntry rfl rfl rfl (by decide +kernel) ⟨Nat.le_of_ble_eq_true rfl, Nat.le_of_ble_eq_true rfl⟩) (q0 := (q + 1)) (ci := 2) rfl (hw.2.1.1 μ3).1 rfl hl.1 rfl (Nat.le_of_ble_eq_true rfl) dX6_remove_27 ⟨Nat.zero_le _, Nat.zero_le _⟩) (fun H locs hS => ?_)
  obtain ⟨rfl, rfl⟩ := pr2 h
  exact r_iret X hS hr hlk dX6_remove_30
def f_X6_commit (q : Nat) (a1 : Int32) (μ : Mem) : Option (Int32 × Mem) := (f_X4_commitFault (q + 1) a1 μ).bind (fun v1 => (f_X6_refuse v1).bind (fun _ => (f_X5_save (q + 17) (q + 1) μ).bind (fun μ3 => bn2 (f_X4_commitDraft (q + 1) a1 μ3) (fun v4 μ5 => (some (v4, μ5))))))
set_option maxHeartbeats 4000000 in
set_option maxRecDepth 100000 in
theorem c_X6_commit (l : Launch) {D : va_G} {cI cG cL : ClassId} {A : Nat → Prop} {EN : State → Heap → Prop} (hE : EnOK EN A) {w : Mem → va_W} {adE ad : Nat → Nat} {q : Nat} {a1 : Int32} {μ : Mem} {r : Int32} {μ' : Mem} (hw : PGAt cI cG adE w ad q) (h : f_X6_commit q a1 μ = some (r, μ')) : Met l yX6_commit wsX6_commit (rmk 5 106) (WPre D (tyl cI cG cL) A EN (w μ) [.ref (ad q), .int a1]) (PI D A (w μ') r) 0 0 A := by
  have hiX6 : ∀ w ∈ u_ws RX6 TX6 3, w ∈ wsX6_commit := by decide +kernel
  have mf12 : Cond.fieldLink RX6 12 (TX6 0).1 (TX6 0).2.1 (TX6 0).2.2.1 ∈ wsX6_commit := by decide +kernel
  have mf19 : Cond.fieldLink RX6 19 (TX6 1).1 (TX6 1).2.1 (TX6 1).2.2.1 ∈ wsX6_commit := by decide +kernel
  refine met_start (cc := cX6_commit) (nL := 2) (ret := (some .int)) (own := RX6) hE (by decide) rfl rfl (Nat.le_of_ble_eq_true rfl) (fun p e s m args below meth c ls X hS hl hr hlk => ?_)
  have hx := X.1.1
  have hb := X.1.2.1
  replace hl : lv_has ls 2 [(0, .ref (ad q)), (1, .int a1)] := hl
  unfold f_X6_commit at h
  refine lv_aload_n hx hb dX6_commit_0 rfl (lv_at hl 0 rfl) ?_
  refine r_get X hS (T := TX6) (k := 0) (hw.1 μ).1 rfl hiX6 (by decide) mf12 rfl dX6_commit_1 ?_
  refine lv_iload_n hx hb dX6_commit_4 rfl (lv_at hl 1 rfl) ?_
  obtain ⟨v1, ev1, h⟩ := ob h
  refine r_ci hS (r_runV (As := [.int a1]) (rest := []) X hS (c_X4_commitFault l hE (w := w) (ad := ad) (μ := μ) (D := D) (cI := cI) (cG := cG) (cL := cL) hw.2.1 ev1) (cwV 1 X.1.2.2.2.2 gX6_commit_X4_commitFault rfl rfl rfl (by decide +kernel) ⟨Nat.le_of_ble_eq_true rfl, Nat.le_of_ble_eq_true rfl⟩) (q0 := (q + 1)) (ci := 2) rfl (hw.2.1.1 μ).1 rfl hl.1 rfl (Nat.le_of_ble_eq_true rfl) dX6_commit_5 ⟨Nat.zero_le _, Nat.zero_le _⟩) (fun H locs hS => ?_)
  obtain ⟨_, eu2, h⟩ := ob h
  refine r_cv hS (r_runS (As := [.int v1]) (rest := []) X hS (c_X6_refuse l hE (w := w) (ad := ad) (μ := μ) (D := D) (cI := cI) (cG := cG) (cL := cL) eu2) (va_cwS 1 X.1.2.2.2.2 gX6_commit_X6_refuse rfl rfl rfl (by decide +kernel) ⟨Nat.le_of_ble_eq_true rfl, Nat.le_of_ble_eq_true rfl⟩) rfl hl.1 rfl (Nat.le_of_ble_eq_true rfl) dX6_commit_8 ⟨Nat.zero_le _, Nat.zero_le _⟩) (fun H locs hS => ?_)
  refine lv_aload_n hx hb dX6_commit_11 rfl (lv_at hl 0 rfl) ?_
  refine r_get X hS (T := TX6) (k := 1) (hw.1 μ).1 rfl hiX6 (by decide) mf19 rfl dX6_commit_12 ?_
  refine lv_aload_n hx hb dX6_commit_15 rfl (lv_at hl 0 rfl) ?_
  refine r_get X hS (T := TX6) (k := 0) (hw.1 μ).1 rfl hiX6 (by decide) mf12 rfl dX6_commit_16 ?_
  obtain ⟨μ3, eμ3, h⟩ := ob h
  refine r_cv hS (r_runV (As := [.ref (ad (q + 1))]) (rest := []) X hS (c_X5_save l hE (w := w) (ad := ad) (μ := μ) (D := D) (cI := cI) (cG := cG) (cL := cL) hw.2.2.1 hw.2.1 eμ3) (cwV 1 X.1.2.2.2.2 gX6_commit_X5_save rfl rfl rfl (by decide +kernel) ⟨Nat.le_of_ble_eq_true rfl, Nat.le_of_ble_eq_true rfl⟩) (q0 := (q + 17)) (ci := 3) rfl (hw.2.2.1.1 μ).1 rfl hl.1 rfl (Nat.le_of_ble_eq_true rfl) dX6_commit_19 ⟨Nat.zero_le _, Nat.zero_le _⟩) (fun H locs hS => ?_)
  refine lv_aload_n hx hb dX6_commit_22 rfl (lv_at hl 0 rfl) ?_
  refine r_get X hS (T := TX6) (k := 0) (hw.1 μ3).1 rfl hiX6 (by decide) mf12 rfl dX6_commit_23 ?_
  refine lv_iload_n hx hb dX6_commit_26 rfl (lv_at hl 1 rfl) ?_
  obtain ⟨v4, μ5, ev4, h⟩ := ob2 h
  refine r_ci hS (r_runV (As := [.int a1]) (rest := []) X hS (c_X4_commitDraft l hE (w := w) (ad := ad) (μ := μ3) (D := D) (cI := cI) (cG := cG) (cL := cL) hw.2.1 ev4) (cwV 1 X.1.2.2.2.2 gX6_commit_X4_commitDraft rfl rfl rfl (by decide +kernel) ⟨Nat.le_of_ble_eq_true rfl, Nat.le_of_ble_eq_true rfl⟩) (q0 := (q + 1)) (ci := 2) rfl (hw.2.1.1 μ3).1 rfl hl.1 rfl (Nat.le_of_ble_eq_true rfl) dX6_commit_27 ⟨Nat.zero_le _, Nat.zero_le _⟩) (fun H locs hS => ?_)
  obtain ⟨rfl, rfl⟩ := pr2 h
  exact r_iret X hS hr hlk dX6_commit_30
def f_X6_abort (q : Nat) (μ : Mem) : Option (Int32 × Mem) := (f_X4_abortFault (q + 1) μ).bind (fun v1 => (f_X6_refuse v1).bind (fun _ => (f_X5_save (q + 17) (q + 1) μ).bind (fun μ3 => bn2 (f_X4_dropDraft (q + 1) μ3) (fun v4 μ5 => (some (v4, μ5))))))
set_option maxHeartbeats 4000000 in
set_option maxRecDepth 100000 in
theorem c_X6_abort (l : Launch) {D : va_G} {cI cG cL : ClassId} {A : Nat → Prop} {EN : State → Heap → Prop} (hE : EnOK EN A) {w : Mem → va_W} {adE ad : Nat → Nat} {q : Nat} {μ : Mem} {r : Int32} {μ' : Mem} (hw : PGAt cI cG adE w ad q) (h : f_X6_abort q μ = some (r, μ')) : Met l yX6_abort wsX6_abort (rmk 4 86) (WPre D (tyl cI cG cL) A EN (w μ) [.ref (ad q)]) (PI D A (w μ') r) 0 0 A := by
  have hiX6 : ∀ w ∈ u_ws RX6 TX6 3, w ∈ wsX6_abort := by decide +kernel
  have mf12 : Cond.fieldLink RX6 12 (TX6 0).1 (TX6 0).2.1 (TX6 0).2.2.1 ∈ wsX6_abort := by decide +kernel
  have mf19 : Cond.fieldLink RX6 19 (TX6 1).1 (TX6 1).2.1 (TX6 1).2.2.1 ∈ wsX6_abort := by decide +kernel
  refine met_start (cc := cX6_abort) (nL := 1) (ret := (some .int)) (own := RX6) hE (by decide) rfl rfl (Nat.le_of_ble_eq_true rfl) (fun p e s m args below meth c ls X hS hl hr hlk => ?_)
  have hx := X.1.1
  have hb := X.1.2.1
  replace hl : lv_has ls 1 [(0, .ref (ad q))] := hl
  unfold f_X6_abort at h
  refine lv_aload_n hx hb dX6_abort_0 rfl (lv_at hl 0 rfl) ?_
  refine r_get X hS (T := TX6) (k := 0) (hw.1 μ).1 rfl hiX6 (by decide) mf12 rfl dX6_abort_1 ?_
  obtain ⟨v1, ev1, h⟩ := ob h
  refine r_ci hS (r_runV (As := []) (rest := []) X hS (c_X4_abortFault l hE (w := w) (ad := ad) (μ := μ) (D := D) (cI := cI) (cG := cG) (cL := cL) hw.2.1 ev1) (cwV 0 X.1.2.2.2.2 gX6_abort_X4_abortFault rfl rfl rfl (by decide +kernel) ⟨Nat.le_of_ble_eq_true rfl, Nat.le_of_ble_eq_true rfl⟩) (q0 := (q + 1)) (ci := 2) rfl (hw.2.1.1 μ).1 rfl hl.1 rfl (Nat.le_of_ble_eq_true rfl) dX6_abort_4 ⟨Nat.zero_le _, Nat.zero_le _⟩) (fun H locs hS => ?_)
  obtain ⟨_, eu2, h⟩ := ob h
  refine r_cv hS (r_runS (As := [.int v1]) (rest := []) X hS (c_X6_refuse l hE (w := w) (ad := ad) (μ := μ) (D := D) (cI := cI) (cG := cG) (cL := cL) eu2) (va_cwS 1 X.1.2.2.2.2 gX6_abort_X6_refuse rfl rfl rfl (by decide +kernel) ⟨Nat.le_of_ble_eq_true rfl, Nat.le_of_ble_eq_true rfl⟩) rfl hl.1 rfl (Nat.le_of_ble_eq_true rfl) dX6_abort_7 ⟨Nat.zero_le _, Nat.zero_le _⟩) (fun H locs hS => ?_)
  refine lv_aload_n hx hb dX6_abort_10 rfl (lv_at hl 0 rfl) ?_
  refine r_get X hS (T := TX6) (k := 1) (hw.1 μ).1 rfl hiX6 (by decide) mf19 rfl dX6_abort_11 ?_
  refine lv_aload_n hx hb dX6_abort_14 rfl (lv_at hl 0 rfl) ?_
  refine r_get X hS (T := TX6) (k := 0) (hw.1 μ).1 rfl hiX6 (by decide) mf12 rfl dX6_abort_15 ?_
  obtain ⟨μ3, eμ3, h⟩ := ob h
  refine r_cv hS (r_runV (As := [.ref (ad (q + 1))]) (rest := []) X hS (c_X5_save l hE (w := w) (ad := ad) (μ := μ) (D := D) (cI := cI) (cG := cG) (cL := cL) hw.2.2.1 hw.2.1 eμ3) (cwV 1 X.1.2.2.2.2 gX6_abort_X5_save rfl rfl rfl (by decide +kernel) ⟨Nat.le_of_ble_eq_true rfl, Nat.le_of_ble_eq_true rfl⟩) (q0 := (q + 17)) (ci := 3) rfl (hw.2.2.1.1 μ).1 rfl hl.1 rfl (Nat.le_of_ble_eq_true rfl) dX6_abort_18 ⟨Nat.zero_le _, Nat.zero_le _⟩) (fun H locs hS => ?_)
  refine lv_aload_n hx hb dX6_abort_21 rfl (lv_at hl 0 rfl) ?_
  refine r_get X hS (T := TX6) (k := 0) (hw.1 μ3).1 rfl hiX6 (by decide) mf12 rfl dX6_abort_22 ?_
  obtain ⟨v4, μ5, ev4, h⟩ := ob2 h
  refine r_ci hS (r_runV (As := []) (rest := []) X hS (c_X4_dropDraft l hE (w := w) (ad := ad) (μ := μ3) (D := D) (cI := cI) (cG := cG) (cL := cL) hw.2.1 ev4) (cwV 0 X.1.2.2.2.2 gX6_abort_X4_dropDraft rfl rfl rfl (by decide +kernel) ⟨Nat.le_of_ble_eq_true rfl, Nat.le_of_ble_eq_true rfl⟩) (q0 := (q + 1)) (ci := 2) rfl (hw.2.1.1 μ3).1 rfl hl.1 rfl (Nat.le_of_ble_eq_true rfl) dX6_abort_25 ⟨Nat.zero_le _, Nat.zero_le _⟩) (fun H locs hS => ?_)
  obtain ⟨rfl, rfl⟩ := pr2 h
  exact r_iret X hS hr hlk dX6_abort_28
def f_X6_open (q : Nat) (μ : Mem) : Option (Int32 × Mem) := (f_X4_openFault (q + 1) μ).bind (fun v1 => (f_X6_refuse v1).bind (fun _ => (f_X5_save (q + 17) (q + 1) μ).bind (fun μ3 => bn2 (f_X4_openReader (q + 1) μ3) (fun v4 μ5 => (some (v4, μ5))))))
set_option maxHeartbeats 4000000 in
set_option maxRecDepth 100000 in
theorem c_X6_open (l : Launch) {D : va_G} {cI cG cL : ClassId} {A : Nat → Prop} {EN : State → Heap → Prop} (hE : EnOK EN A) {w : Mem → va_W} {adE ad : Nat → Nat} {q : Nat} {μ : Mem} {r : Int32} {μ' : Mem} (hw : PGAt cI cG adE w ad q) (h : f_X6_open q μ = some (r, μ')) : Met l yX6_open wsX6_open (rmk 4 86) (WPre D (tyl cI cG cL) A EN (w μ) [.ref (ad q)]) (PI D A (w μ') r) 0 0 A := by
  have hiX6 : ∀ w ∈ u_ws RX6 TX6 3, w ∈ wsX6_open := by decide +kernel
  have mf12 : Cond.fieldLink RX6 12 (TX6 0).1 (TX6 0).2.1 (TX6 0).2.2.1 ∈ wsX6_open := by decide +kernel
  have mf19 : Cond.fieldLink RX6 19 (TX6 1).1 (TX6 1).2.1 (TX6 1).2.2.1 ∈ wsX6_open := by decide +kernel
  refine met_start (cc := cX6_open) (nL := 1) (ret := (some .int)) (own := RX6) hE (by decide) rfl rfl (Nat.le_of_ble_eq_true rfl) (fun p e s m args below meth c ls X hS hl hr hlk => ?_)
  have hx := X.1.1
  have hb := X.1.2.1
  replace hl : lv_has ls 1 [(0, .ref (ad q))] := hl
  unfold f_X6_open at h
  refine lv_aload_n hx hb dX6_open_0 rfl (lv_at hl 0 rfl) ?_
  refine r_get X hS (T := TX6) (k := 0) (hw.1 μ).1 rfl hiX6 (by decide) mf12 rfl dX6_open_1 ?_
  obtain ⟨v1, ev1, h⟩ := ob h
  refine r_ci hS (r_runV (As := []) (rest := []) X hS (c_X4_openFault l hE (w := w) (ad := ad) (μ := μ) (D := D) (cI := cI) (cG := cG) (cL := cL) hw.2.1 ev1) (cwV 0 X.1.2.2.2.2 gX6_open_X4_openFault rfl rfl rfl (by decide +kernel) ⟨Nat.le_of_ble_eq_true rfl, Nat.le_of_ble_eq_true rfl⟩) (q0 := (q + 1)) (ci := 2) rfl (hw.2.1.1 μ).1 rfl hl.1 rfl (Nat.le_of_ble_eq_true rfl) dX6_open_4 ⟨Nat.zero_le _, Nat.zero_le _⟩) (fun H locs hS => ?_)
  obtain ⟨_, eu2, h⟩ := ob h
  refine r_cv hS (r_runS (As := [.int v1]) (rest := []) X hS (c_X6_refuse l hE (w := w) (ad := ad) (μ := μ) (D := D) (cI := cI) (cG := cG) (cL := cL) eu2) (va_cwS 1 X.1.2.2.2.2 gX6_open_X6_refuse rfl rfl rfl (by decide +kernel) ⟨Nat.le_of_ble_eq_true rfl, Nat.le_of_ble_eq_true rfl⟩) rfl hl.1 rfl (Nat.le_of_ble_eq_true rfl) dX6_open_7 ⟨Nat.zero_le _, Nat.zero_le _⟩) (fun H locs hS => ?_)
  refine lv_aload_n hx hb dX6_open_10 rfl (lv_at hl 0 rfl) ?_
  refine r_get X hS (T := TX6) (k := 1) (hw.1 μ).1 rfl hiX6 (by decide) mf19 rfl dX6_open_11 ?_
  refine lv_aload_n hx hb dX6_open_14 rfl (lv_at hl 0 rfl) ?_
  refine r_get X hS (T := TX6) (k := 0) (hw.1 μ).1 rfl hiX6 (by decide) mf12 rfl dX6_open_15 ?_
  obtain ⟨μ3, eμ3, h⟩ := ob h
  refine r_cv hS (r_runV (As := [.ref (ad (q + 1))]) (rest := []) X hS (c_X5_save l hE (w := w) (ad := ad) (μ := μ) (D := D) (cI := cI) (cG := cG) (cL := cL) hw.2.2.1 hw.2.1 eμ3) (cwV 1 X.1.2.2.2.2 gX6_open_X5_save rfl rfl rfl (by decide +kernel) ⟨Nat.le_of_ble_eq_true rfl, Nat.le_of_ble_eq_true rfl⟩) (q0 := (q + 17)) (ci := 3) rfl (hw.2.2.1.1 μ).1 rfl hl.1 rfl (Nat.le_of_ble_eq_true rfl) dX6_open_18 ⟨Nat.zero_le _, Nat.zero_le _⟩) (fun H locs hS => ?_)
  refine lv_aload_n hx hb dX6_open_21 rfl (lv_at hl 0 rfl) ?_
  refine r_get X hS (T := TX6) (k := 0) (hw.1 μ3).1 rfl hiX6 (by decide) mf12 rfl dX6_open_22 ?_
  obtain ⟨v4, μ5, ev4, h⟩ := ob2 h
  refine r_ci hS (r_runV (As := []) (rest := []) X hS (c_X4_openReader l hE (w := w) (ad := ad) (μ := μ3) (D := D) (cI := cI) (cG := cG) (cL := cL) hw.2.1 ev4) (cwV 0 X.1.2.2.2.2 gX6_open_X4_openReader rfl rfl rfl (by decide +kernel) ⟨Nat.le_of_ble_eq_true rfl, Nat.le_of_ble_eq_true rfl⟩) (q0 := (q + 1)) (ci := 2) rfl (hw.2.1.1 μ3).1 rfl hl.1 rfl (Nat.le_of_ble_eq_true rfl) dX6_open_25 ⟨Nat.zero_le _, Nat.zero_le _⟩) (fun H locs hS => ?_)
  obtain ⟨rfl, rfl⟩ := pr2 h
  exact r_iret X hS hr hlk dX6_open_28
def f_X6_close (q : Nat) (a1 : Int32) (μ : Mem) : Option (Int32 × Mem) := (f_X4_openReaderFault (q + 1) a1 μ).bind (fun v1 => (f_X6_refuse v1).bind (fun _ => (f_X5_save (q + 17) (q + 1) μ).bind (fun μ3 => bn2 (f_X4_closeReader (q + 1) a1 μ3) (fun v4 μ5 => (some (v4, μ5))))))
set_option maxHeartbeats 4000000 in
set_option maxRecDepth 100000 in
theorem c_X6_close (l : Launch) {D : va_G} {cI cG cL : ClassId} {A : Nat → Prop} {EN : State → Heap → Prop} (hE : EnOK EN A) {w : Mem → va_W} {adE ad : Nat → Nat} {q : Nat} {a1 : Int32} {μ : Mem} {r : Int32} {μ' : Mem} (hw : PGAt cI cG adE w ad q) (h : f_X6_close q a1 μ = some (r, μ')) : Met l yX6_close wsX6_close (rmk 4 86) (WPre D (tyl cI cG cL) A EN (w μ) [.ref (ad q), .int a1]) (PI D A (w μ') r) 0 0 A := by
  have hiX6 : ∀ w ∈ u_ws RX6 TX6 3, w ∈ wsX6_close := by decide +kernel
  have mf12 : Cond.fieldLink RX6 12 (TX6 0).1 (TX6 0).2.1 (TX6 0).2.2.1 ∈ wsX6_close := by decide +kernel
  have mf19 : Cond.fieldLink RX6 19 (TX6 1).1 (TX6 1).2.1 (TX6 1).2.2.1 ∈ wsX6_close := by decide +kernel
  refine met_start (cc := cX6_close) (nL := 2) (ret := (some .int)) (own := RX6) hE (by decide) rfl rfl (Nat.le_of_ble_eq_true rfl) (fun p e s m args below meth c ls X hS hl hr hlk => ?_)
  have hx := X.1.1
  have hb := X.1.2.1
  replace hl : lv_has ls 2 [(0, .ref (ad q)), (1, .int a1)] := hl
  unfold f_X6_close at h
  refine lv_aload_n hx hb dX6_close_0 rfl (lv_at hl 0 rfl) ?_
  refine r_get X hS (T := TX6) (k := 0) (hw.1 μ).1 rfl hiX6 (by decide) mf12 rfl dX6_close_1 ?_
  refine lv_iload_n hx hb dX6_close_4 rfl (lv_at hl 1 rfl) ?_
  obtain ⟨v1, ev1, h⟩ := ob h
  refine r_ci hS (r_runV (As := [.int a1]) (rest := []) X hS (c_X4_openReaderFault l hE (w := w) (ad := ad) (μ := μ) (D := D) (cI := cI) (cG := cG) (cL := cL) hw.2.1 ev1) (cwV 1 X.1.2.2.2.2 gX6_close_X4_openReaderFault rfl rfl rfl (by decide +kernel) ⟨Nat.le_of_ble_eq_true rfl, Nat.le_of_ble_eq_true rfl⟩) (q0 := (q + 1)) (ci := 2) rfl (hw.2.1.1 μ).1 rfl hl.1 rfl (Nat.le_of_ble_eq_true rfl) dX6_close_5 ⟨Nat.zero_le _, Nat.zero_le _⟩) (fun H locs hS => ?_)
  obtain ⟨_, eu2, h⟩ := ob h
  refine r_cv hS (r_runS (As := [.int v1]) (rest := []) X hS (c_X6_refuse l hE (w := w) (ad := ad) (μ := μ) (D := D) (cI := cI) (cG := cG) (cL := cL) eu2) (va_cwS 1 X.1.2.2.2.2 gX6_close_X6_refuse rfl rfl rfl (by decide +kernel) ⟨Nat.le_of_ble_eq_true rfl, Nat.le_of_ble_eq_true rfl⟩) rfl hl.1 rfl (Nat.le_of_ble_eq_true rfl) dX6_close_8 ⟨Nat.zero_le _, Nat.zero_le _⟩) (fun H locs hS => ?_)
  refine lv_aload_n hx hb dX6_close_11 rfl (lv_at hl 0 rfl) ?_
  refine r_get X hS (T := TX6) (k := 1) (hw.1 μ).1 rfl hiX6 (by decide) mf19 rfl dX6_close_12 ?_
  refine lv_aload_n hx hb dX6_close_15 rfl (lv_at hl 0 rfl) ?_
  refine r_get X hS (T := TX6) (k := 0) (hw.1 μ).1 rfl hiX6 (by decide) mf12 rfl dX6_close_16 ?_
  obtain ⟨μ3, eμ3, h⟩ := ob h
  refine r_cv hS (r_runV (As := [.ref (ad (q + 1))]) (rest := []) X hS (c_X5_save l hE (w := w) (ad := ad) (μ := μ) (D := D) (cI := cI) (cG := cG) (cL := cL) hw.2.2.1 hw.2.1 eμ3) (cwV 1 X.1.2.2.2.2 gX6_close_X5_save rfl rfl rfl (by decide +kernel) ⟨Nat.le_of_ble_eq_true rfl, Nat.le_of_ble_eq_true rfl⟩) (q0 := (q + 17)) (ci := 3) rfl (hw.2.2.1.1 μ).1 rfl hl.1 rfl (Nat.le_of_ble_eq_true rfl) dX6_close_19 ⟨Nat.zero_le _, Nat.zero_le _⟩) (fun H locs hS => ?_)
  refine lv_aload_n hx hb dX6_close_22 rfl (lv_at hl 0 rfl) ?_
  refine r_get X hS (T := TX6) (k := 0) (hw.1 μ3).1 rfl hiX6 (by decide) mf12 rfl dX6_close_23 ?_
  refine lv_iload_n hx hb dX6_close_26 rfl (lv_at hl 1 rfl) ?_
  obtain ⟨v4, μ5, ev4, h⟩ := ob2 h
  refine r_ci hS (r_runV (As := [.int a1]) (rest := []) X hS (c_X4_closeReader l hE (w := w) (ad := ad) (μ := μ3) (D := D) (cI := cI) (cG := cG) (cL := cL) hw.2.1 ev4) (cwV 1 X.1.2.2.2.2 gX6_close_X4_closeReader rfl rfl rfl (by decide +kernel) ⟨Nat.le_of_ble_eq_true rfl, Nat.le_of_ble_eq_true rfl⟩) (q0 := (q + 1)) (ci := 2) rfl (hw.2.1.1 μ3).1 rfl hl.1 rfl (Nat.le_of_ble_eq_true rfl) dX6_close_27 ⟨Nat.zero_le _, Nat.zero_le _⟩) (fun H locs hS => ?_)
  obtain ⟨rfl, rfl⟩ := pr2 h
  exact r_iret X hS hr hlk dX6_close_30
def f_X6_get (q : Nat) (a1 : Int32) (μ : Mem) : Option Int32 := (f_X6_keyFault a1).bind (fun v1 => (f_X6_refuse v1).bind (fun _ => (f_X4_currentValue (q + 1) a1 μ).bind (fun v3 => (some v3))))
set_option maxHeartbeats 4000000 in
set_option maxRecDepth 100000 in
theorem c_X6_get (l : Launch) {D : va_G} {cI cG cL : ClassId} {A : Nat → Prop} {EN : State → Heap → Prop} (hE : EnOK EN A) {w : Mem → va_W} {adE ad : Nat → Nat} {q : Nat} {a1 : Int32} {μ : Mem} {r : Int32} (hw : PGAt cI cG adE w ad q) (h : f_X6_get q a1 μ = some r) : Met l yX6_get wsX6_get (rmk 4 92) (WPre D (tyl cI cG cL) A EN (w μ) [.ref (ad q), .int a1]) (PI D A (w μ) r) 0 0 A := by
  have hiX6 : ∀ w ∈ u_ws RX6 TX6 3, w ∈ wsX6_get := by decide +kernel
  have mf12 : Cond.fieldLink RX6 12 (TX6 0).1 (TX6 0).2.1 (TX6 0).2.2.1 ∈ wsX6_get := by decide +kernel
  refine met_start (cc := cX6_get) (nL := 2) (ret := (some .int)) (own := RX6) hE (by decide) rfl rfl (Nat.le_of_ble_eq_true rfl) (fun p e s m args below meth c ls X hS hl hr hlk => ?_)
  have hx := X.1.1
  have hb := X.1.2.1
  replace hl : lv_has ls 2 [(0, .ref (ad q)), (1, .int a1)] := hl
  unfold f_X6_get at h
  refine lv_iload_n hx hb dX6_get_0 rfl (lv_at hl 1 rfl) ?_
  obtain ⟨v1, ev1, h⟩ := ob h
  refine r_ci hS (r_runS (As := [.int a1]) (rest := []) X hS (c_X6_keyFault l hE (w := w) (ad := ad) (μ := μ) (D := D) (cI := cI) (cG := cG) (cL := cL) ev1) (va_cwS 1 X.1.2.2.2.2 gX6_get_X6_keyFault rfl rfl rfl (by decide +kernel) ⟨Nat.le_of_ble_eq_true rfl, Nat.le_of_ble_eq_true rfl⟩) rfl hl.1 rfl (Nat.le_of_ble_eq_true rfl) dX6_get_1 ⟨Nat.zero_le _, Nat.zero_le _⟩) (fun H locs hS => ?_)
  obtain ⟨_, eu2, h⟩ := ob h
  refine r_cv hS (r_runS (As := [.int v1]) (rest := []) X hS (c_X6_refuse l hE (w := w) (ad := ad) (μ := μ) (D := D) (cI := cI) (cG := cG) (cL := cL) eu2) (va_cwS 1 X.1.2.2.2.2 gX6_get_X6_refuse rfl rfl rfl (by decide +kernel) ⟨Nat.le_of_ble_eq_true rfl, Nat.le_of_ble_eq_true rfl⟩) rfl hl.1 rfl (Nat.le_of_ble_eq_true rfl) dX6_get_4 ⟨Nat.zero_le _, Nat.zero_le _⟩) (fun H locs hS => ?_)
  refine lv_aload_n hx hb dX6_get_7 rfl (lv_at hl 0 rfl) ?_
  refine r_get X hS (T := TX6) (k := 0) (hw.1 μ).1 rfl hiX6 (by decide) mf12 rfl dX6_get_8 ?_
  refine lv_iload_n hx hb dX6_get_11 rfl (lv_at hl 1 rfl) ?_
  obtain ⟨v3, ev3, h⟩ := ob h
  refine r_ci hS (r_runV (As := [.int a1]) (rest := []) X hS (c_X4_currentValue l hE (w := w) (ad := ad) (μ := μ) (D := D) (cI := cI) (cG := cG) (cL := cL) hw.2.1 ev3) (cwV 1 X.1.2.2.2.2 gX6_get_X4_currentValue rfl rfl rfl (by decide +kernel) ⟨Nat.le_of_ble_eq_true rfl, Nat.le_of_ble_eq_true rfl⟩) (q0 := (q + 1)) (ci := 2) rfl (hw.2.1.1 μ).1 rfl hl.1 rfl (Nat.le_of_ble_eq_true rfl) dX6_get_12 ⟨Nat.zero_le _, Nat.zero_le _⟩) (fun H locs hS => ?_)
  cases h
  exact r_iret X hS hr hlk dX6_get_15
def f_X6_drafted (q : Nat) (a1 : Int32) (μ : Mem) : Option Int32 := (f_X4_draftedFault (q + 1) a1 μ).bind (fun v1 => (f_X6_refuse v1).bind (fun _ => (f_X4_draftedValue (q + 1) a1 μ).bind (fun v3 => (some v3))))
set_option maxHeartbeats 4000000 in
set_option maxRecDepth 100000 in
theorem c_X6_drafted (l : Launch) {D : va_G} {cI cG cL : ClassId} {A : Nat → Prop} {EN : State → Heap → Prop} (hE : EnOK EN A) {w : Mem → va_W} {adE ad : Nat → Nat} {q : Nat} {a1 : Int32} {μ : Mem} {r : Int32} (hw : PGAt cI cG adE w ad q) (h : f_X6_drafted q a1 μ = some r) : Met l yX6_drafted wsX6_drafted (rmk 4 92) (WPre D (tyl cI cG cL) A EN (w μ) [.ref (ad q), .int a1]) (PI D A (w μ) r) 0 0 A := by
  have hiX6 : ∀ w ∈ u_ws RX6 TX6 3, w ∈ wsX6_drafted := by decide +kernel
  have mf12 : Cond.fieldLink RX6 12 (TX6 0).1 (TX6 0).2.1 (TX6 0).2.2.1 ∈ wsX6_drafted := by decide +kernel
  refine met_start (cc := cX6_drafted) (nL := 2) (ret := (some .int)) (own := RX6) hE (by decide) rfl rfl (Nat.le_of_ble_eq_true rfl) (fun p e s m args below meth c ls X hS hl hr hlk => ?_)
  have hx := X.1.1
  have hb := X.1.2.1
  replace hl : lv_has ls 2 [(0, .ref (ad q)), (1, .int a1)] := hl
  unfold f_X6_drafted at h
  refine lv_aload_n hx hb dX6_drafted_0 rfl (lv_at hl 0 rfl) ?_
  refine r_get X hS (T := TX6) (k := 0) (hw.1 μ).1 rfl hiX6 (by decide) mf12 rfl dX6_drafted_1 ?_
  refine lv_iload_n hx hb dX6_drafted_4 rfl (lv_at hl 1 rfl) ?_
  obtain ⟨v1, ev1, h⟩ := ob h
  refine r_ci hS (r_runV (As := [.int a1]) (rest := []) X hS (c_X4_draftedFault l hE (w := w) (ad := ad) (μ := μ) (D := D) (cI := cI) (cG := cG) (cL := cL) hw.2.1 ev1) (cwV 1 X.1.2.2.2.2 gX6_drafted_X4_draftedFault rfl rfl rfl (by decide +kernel) ⟨Nat.le_of_ble_eq_true rfl, Nat.le_of_ble_eq_true rfl⟩) (q0 := (q + 1)) (ci := 2) rfl (hw.2.1.1 μ).1 rfl hl.1 rfl (Nat.le_of_ble_eq_true rfl) dX6_drafted_5 ⟨Nat.zero_le _, Nat.zero_le _⟩) (fun H locs hS => ?_)
  obtain ⟨_, eu2, h⟩ := ob h
  refine r_cv hS (r_runS (As := [.int v1]) (rest := []) X hS (c_X6_refuse l hE (w := w) (ad := ad) (μ := μ) (D := D) (cI := cI) (cG := cG) (cL := cL) eu2) (va_cwS 1 X.1.2.2.2.2 gX6_drafted_X6_refuse rfl rfl rfl (by decide +kernel) ⟨Nat.le_of_ble_eq_true rfl, Nat.le_of_ble_eq_true rfl⟩) rfl hl.1 rfl (Nat.le_of_ble_eq_true rfl) dX6_drafted_8 ⟨Nat.zero_le _, Nat.zero_le _⟩) (fun H locs hS => ?_)
  refine lv_aload_n hx hb dX6_drafted_11 rfl (lv_at hl 0 rfl) ?_
  refine r_get X hS (T := TX6) (k := 0) (hw.1 μ).1 rfl hiX6 (by decide) mf12 rfl dX6_drafted_12 ?_
  refine lv_iload_n hx hb dX6_drafted_15 rfl (lv_at hl 1 rfl) ?_
  obtain ⟨v3, ev3, h⟩ := ob h
  refine r_ci hS (r_runV (As := [.int a1]) (rest := []) X hS (c_X4_draftedValue l hE (w := w) (ad := ad) (μ := μ) (D := D) (cI := cI) (cG := cG) (cL := cL) hw.2.1 ev3) (cwV 1 X.1.2.2.2.2 gX6_drafted_X4_draftedValue rfl rfl rfl (by decide +kernel) ⟨Nat.le_of_ble_eq_true rfl, Nat.le_of_ble_eq_true rfl⟩) (q0 := (q + 1)) (ci := 2) rfl (hw.2.1.1 μ).1 rfl hl.1 rfl (Nat.le_of_ble_eq_true rfl) dX6_drafted_16 ⟨Nat.zero_le _, Nat.zero_le _⟩) (fun H locs hS => ?_)
  cases h
  exact r_iret X hS hr hlk dX6_drafted_19
def f_X6_read (q : Nat) (a1 : Int32) (a2 : Int32) (μ : Mem) : Option Int32 := (f_X4_readFault (q + 1) a1 a2 μ).bind (fun v1 => (f_X6_refuse v1).bind (fun _ => (f_X4_readerValue (q + 1) a1 a2 μ).bind (fun v3 => (some v3))))
set_option maxHeartbeats 4000000 in
set_option maxRecDepth 100000 in
theorem c_X6_read (l : Launch) {D : va_G} {cI cG cL : ClassId} {A : Nat → Prop} {EN : State → Heap → Prop} (hE : EnOK EN A) {w : Mem → va_W} {adE ad : Nat → Nat} {q : Nat} {a1 : Int32} {a2 : Int32} {μ : Mem} {r : Int32} (hw : PGAt cI cG adE w ad q) (h : f_X6_read q a1 a2 μ = some r) : Met l yX6_read wsX6_read (rmk 4 93) (WPre D (tyl cI cG cL) A EN (w μ) [.ref (ad q), .int a1, .int a2]) (PI D A (w μ) r) 0 0 A := by
  have hiX6 : ∀ w ∈ u_ws RX6 TX6 3, w ∈ wsX6_read := by decide +kernel
  have mf12 : Cond.fieldLink RX6 12 (TX6 0).1 (TX6 0).2.1 (TX6 0).2.2.1 ∈ wsX6_read := by decide +kernel
  refine met_start (cc := cX6_read) (nL := 3) (ret := (some .int)) (own := RX6) hE (by decide) rfl rfl (Nat.le_of_ble_eq_true rfl) (fun p e s m args below meth c ls X hS hl hr hlk => ?_)
  have hx := X.1.1
  have hb := X.1.2.1
  replace hl : lv_has ls 3 [(0, .ref (ad q)), (1, .int a1), (2, .int a2)] := hl
  unfold f_X6_read at h
  refine lv_aload_n hx hb dX6_read_0 rfl (lv_at hl 0 rfl) ?_
  refine r_get X hS (T := TX6) (k := 0) (hw.1 μ).1 rfl hiX6 (by decide) mf12 rfl dX6_read_1 ?_
  refine lv_iload_n hx hb dX6_read_4 rfl (lv_at hl 1 rfl) ?_
  refine lv_iload_n hx hb dX6_read_5 rfl (lv_at hl 2 rfl) ?_
  obtain ⟨v1, ev1, h⟩ := ob h
  refine r_ci hS (r_runV (As := [.int a1, .int a2]) (rest := []) X hS (c_X4_readFault l hE (w := w) (ad := ad) (μ := μ) (D := D) (cI := cI) (cG := cG) (cL := cL) hw.2.1 ev1) (cwV 2 X.1.2.2.2.2 gX6_read_X4_readFault rfl rfl rfl (by decide +kernel) ⟨Nat.le_of_ble_eq_true rfl, Nat.le_of_ble_eq_true rfl⟩) (q0 := (q + 1)) (ci := 2) rfl (hw.2.1.1 μ).1 rfl hl.1 rfl (Nat.le_of_ble_eq_true rfl) dX6_read_6 ⟨Nat.zero_le _, Nat.zero_le _⟩) (fun H locs hS => ?_)
  obtain ⟨_, eu2, h⟩ := ob h
  refine r_cv hS (r_runS (As := [.int v1]) (rest := []) X hS (c_X6_refuse l hE (w := w) (ad := ad) (μ := μ) (D := D) (cI := cI) (cG := cG) (cL := cL) eu2) (va_cwS 1 X.1.2.2.2.2 gX6_read_X6_refuse rfl rfl rfl (by decide +kernel) ⟨Nat.le_of_ble_eq_true rfl, Nat.le_of_ble_eq_true rfl⟩) rfl hl.1 rfl (Nat.le_of_ble_eq_true rfl) dX6_read_9 ⟨Nat.zero_le _, Nat.zero_le _⟩) (fun H locs hS => ?_)
  refine lv_aload_n hx hb dX6_read_12 rfl (lv_at hl 0 rfl) ?_
  refine r_get X hS (T := TX6) (k := 0) (hw.1 μ).1 rfl hiX6 (by decide) mf12 rfl dX6_read_13 ?_
  refine lv_iload_n hx hb dX6_read_16 rfl (lv_at hl 1 rfl) ?_
  refine lv_iload_n hx hb dX6_read_17 rfl (lv_at hl 2 rfl) ?_
  obtain ⟨v3, ev3, h⟩ := ob h
  refine r_ci hS (r_runV (As := [.int a1, .int a2]) (rest := []) X hS (c_X4_readerValue l hE (w := w) (ad := ad) (μ := μ) (D := D) (cI := cI) (cG := cG) (cL := cL) hw.2.1 ev3) (cwV 2 X.1.2.2.2.2 gX6_read_X4_readerValue rfl rfl rfl (by decide +kernel) ⟨Nat.le_of_ble_eq_true rfl, Nat.le_of_ble_eq_true rfl⟩) (q0 := (q + 1)) (ci := 2) rfl (hw.2.1.1 μ).1 rfl hl.1 rfl (Nat.le_of_ble_eq_true rfl) dX6_read_18 ⟨Nat.zero_le _, Nat.zero_le _⟩) (fun H locs hS => ?_)
  cases h
  exact r_iret X hS hr hlk dX6_read_21
def f_X6_entry (q : Nat) (a1 : Int32) (a2 : Int32) (μ : Mem) : Option Int32 := (f_X4_currentEntries (q + 1) μ).bind (fun v1 => (f_X6_partFault a1 v1 a2 4).bind (fun v2 => (f_X6_refuse v2).bind (fun _ => (f_X4_entryPart (q + 1) a1 a2 μ).bind (fun v4 => (some v4)))))
set_option maxHeartbeats 4000000 in
set_option maxRecDepth 100000 in
theorem c_X6_entry (l : Launch) {D : va_G} {cI cG cL : ClassId} {A : Nat → Prop} {EN : State → Heap → Prop} (hE : EnOK EN A) {w : Mem → va_W} {adE ad : Nat → Nat} {q : Nat} {a1 : Int32} {a2 : Int32} {μ : Mem} {r : Int32} (hw : PGAt cI cG adE w ad q) (h : f_X6_entry q a1 a2 μ = some r) : Met l yX6_entry wsX6_entry (rmk 4 95) (WPre D (tyl cI cG cL) A EN (w μ) [.ref (ad q), .int a1, .int a2]) (PI D A (w μ) r) 0 0 A := by
  have hiX6 : ∀ w ∈ u_ws RX6 TX6 3, w ∈ wsX6_entry := by decide +kernel
  have mf12 : Cond.fieldLink RX6 12 (TX6 0).1 (TX6 0).2.1 (TX6 0).2.2.1 ∈ wsX6_entry := by decide +kernel
  refine met_start (cc := cX6_entry) (nL := 3) (ret := (some .int)) (own := RX6) hE (by decide) rfl rfl (Nat.le_of_ble_eq_true rfl) (fun p e s m args below meth c ls X hS hl hr hlk => ?_)
  have hx := X.1.1
  have hb := X.1.2.1
  replace hl : lv_has ls 3 [(0, .ref (ad q)), (1, .int a1), (2, .int a2)] := hl
  unfold f_X6_entry at h
  refine lv_iload_n hx hb dX6_entry_0 rfl (lv_at hl 1 rfl) ?_
  refine lv_aload_n hx hb dX6_entry_1 rfl (lv_at hl 0 rfl) ?_
  refine r_get X hS (T := TX6) (k := 0) (hw.1 μ).1 rfl hiX6 (by decide) mf12 rfl dX6_entry_2 ?_
  obtain ⟨v1, ev1, h⟩ := ob h
  refine r_ci hS (r_runV (As := []) (rest := [.int a1]) X hS (c_X4_currentEntries l hE (w := w) (ad := ad) (μ := μ) (D := D) (cI := cI) (cG := cG) (cL := cL) hw.2.1 ev1) (cwV 0 X.1.2.2.2.2 gX6_entry_X4_currentEntries rfl rfl rfl (by decide +kernel) ⟨Nat.le_of_ble_eq_true rfl, Nat.le_of_ble_eq_true rfl⟩) (q0 := (q + 1)) (ci := 2) rfl (hw.2.1.1 μ).1 rfl hl.1 rfl (Nat.le_of_ble_eq_true rfl) dX6_entry_5 ⟨Nat.zero_le _, Nat.zero_le _⟩) (fun H locs hS => ?_)
  refine lv_iload_n hx hb dX6_entry_8 rfl (lv_at hl 2 rfl) ?_
  refine lv_iconst (v := 4) hx hb dX6_entry_9 (by decide) ?_
  obtain ⟨v2, ev2, h⟩ := ob h
  refine r_ci hS (r_runS (As := [.int a1, .int v1, .int a2, .int 4]) (rest := []) X hS (c_X6_partFault l hE (w := w) (ad := ad) (μ := μ) (D := D) (cI := cI) (cG := cG) (cL := cL) ev2) (va_cwS 4 X.1.2.2.2.2 gX6_entry_X6_partFault rfl rfl rfl (by decide +kernel) ⟨Nat.le_of_ble_eq_true rfl, Nat.le_of_ble_eq_true rfl⟩) rfl hl.1 rfl (Nat.le_of_ble_eq_true rfl) dX6_entry_10 ⟨Nat.zero_le _, Nat.zero_le _⟩) (fun H locs hS => ?_)
  obtain ⟨_, eu3, h⟩ := ob h
  refine r_cv hS (r_runS (As := [.int v2]) (rest := []) X hS (c_X6_refuse l hE (w := w) (ad := ad) (μ := μ) (D := D) (cI := cI) (cG := cG) (cL := cL) eu3) (va_cwS 1 X.1.2.2.2.2 gX6_entry_X6_refuse rfl rfl rfl (by decide +kernel) ⟨Nat.le_of_ble_eq_true rfl, Nat.le_of_ble_eq_true rfl⟩) rfl hl.1 rfl (Nat.le_of_ble_eq_true rfl) dX6_entry_13 ⟨Nat.zero_le _, Nat.zero_le _⟩) (fun H locs hS => ?_)
  refine lv_aload_n hx hb dX6_entry_16 rfl (lv_at hl 0 rfl) ?_
  refine r_get X hS (T := TX6) (k := 0) (hw.1 μ).1 rfl hiX6 (by decide) mf12 rfl dX6_entry_17 ?_
  refine lv_iload_n hx hb dX6_entry_20 rfl (lv_at hl 1 rfl) ?_
  refine lv_iload_n hx hb dX6_entry_21 rfl (lv_at hl 2 rfl) ?_
  obtain ⟨v4, ev4, h⟩ := ob h
  refine r_ci hS (r_runV (As := [.int a1, .int a2]) (rest := []) X hS (c_X4_entryPart l hE (w := w) (ad := ad) (μ := μ) (D := D) (cI := cI) (cG := cG) (cL := cL) hw.2.1 ev4) (cwV 2 X.1.2.2.2.2 gX6_entry_X4_entryPart rfl rfl rfl (by decide +kernel) ⟨Nat.le_of_ble_eq_true rfl, Nat.le_of_ble_eq_true rfl⟩) (q0 := (q + 1)) (ci := 2) rfl (hw.2.1.1 μ).1 rfl hl.1 rfl (Nat.le_of_ble_eq_true rfl) dX6_entry_22 ⟨Nat.zero_le _, Nat.zero_le _⟩) (fun H locs hS => ?_)
  cases h
  exact r_iret X hS hr hlk dX6_entry_25
def f_X6_root (q : Nat) (a1 : Int32) (a2 : Int32) (μ : Mem) : Option Int32 := (f_X6_partFault a1 2 a2 4).bind (fun v1 => (f_X6_refuse v1).bind (fun _ => (f_X4_rootPart (q + 1) a1 a2 μ).bind (fun v3 => (some v3))))
set_option maxHeartbeats 4000000 in
set_option maxRecDepth 100000 in
theorem c_X6_root (l : Launch) {D : va_G} {cI cG cL : ClassId} {A : Nat → Prop} {EN : State → Heap → Prop} (hE : EnOK EN A) {w : Mem → va_W} {adE ad : Nat → Nat} {q : Nat} {a1 : Int32} {a2 : Int32} {μ : Mem} {r : Int32} (hw : PGAt cI cG adE w ad q) (h : f_X6_root q a1 a2 μ = some r) : Met l yX6_root wsX6_root (rmk 2 45) (WPre D (tyl cI cG cL) A EN (w μ) [.ref (ad q), .int a1, .int a2]) (PI D A (w μ) r) 0 0 A := by
  have hiX6 : ∀ w ∈ u_ws RX6 TX6 3, w ∈ wsX6_root := by decide +kernel
  have mf12 : Cond.fieldLink RX6 12 (TX6 0).1 (TX6 0).2.1 (TX6 0).2.2.1 ∈ wsX6_root := by decide +kernel
  refine met_start (cc := cX6_root) (nL := 3) (ret := (some .int)) (own := RX6) hE (by decide) rfl rfl (Nat.le_of_ble_eq_true rfl) (fun p e s m args below meth c ls X hS hl hr hlk => ?_)
  have hx := X.1.1
  have hb := X.1.2.1
  replace hl : lv_has ls 3 [(0, .ref (ad q)), (1, .int a1), (2, .int a2)] := hl
  unfold f_X6_root at h
  refine lv_iload_n hx hb dX6_root_0 rfl (lv_at hl 1 rfl) ?_
  refine lv_iconst (v := 2) hx hb dX6_root_1 (by decide) ?_
  refine lv_iload_n hx hb dX6_root_2 rfl (lv_at hl 2 rfl) ?_
  refine lv_iconst (v := 4) hx hb dX6_root_3 (by decide) ?_
  obtain ⟨v1, ev1, h⟩ := ob h
  refine r_ci hS (r_runS (As := [.int a1, .int 2, .int a2, .int 4]) (rest := []) X hS (c_X6_partFault l hE (w := w) (ad := ad) (μ := μ) (D := D) (cI := cI) (cG := cG) (cL := cL) ev1) (va_cwS 4 X.1.2.2.2.2 gX6_root_X6_partFault rfl rfl rfl (by decide +kernel) ⟨Nat.le_of_ble_eq_true rfl, Nat.le_of_ble_eq_true rfl⟩) rfl hl.1 rfl (Nat.le_of_ble_eq_true rfl) dX6_root_4 ⟨Nat.zero_le _, Nat.zero_le _⟩) (fun H locs hS => ?_)
  obtain ⟨_, eu2, h⟩ := ob h
  refine r_cv hS (r_runS (As := [.int v1]) (rest := []) X hS (c_X6_refuse l hE (w := w) (ad := ad) (μ := μ) (D := D) (cI := cI) (cG := cG) (cL := cL) eu2) (va_cwS 1 X.1.2.2.2.2 gX6_root_X6_refuse rfl rfl rfl (by decide +kernel) ⟨Nat.le_of_ble_eq_true rfl, Nat.le_of_ble_eq_true rfl⟩) rfl hl.1 rfl (Nat.le_of_ble_eq_true rfl) dX6_root_7 ⟨Nat.zero_le _, Nat.zero_le _⟩) (fun H locs hS => ?_)
  refine lv_aload_n hx hb dX6_root_10 rfl (lv_at hl 0 rfl) ?_
  refine r_get X hS (T := TX6) (k := 0) (hw.1 μ).1 rfl hiX6 (by decide) mf12 rfl dX6_root_11 ?_
  refine lv_iload_n hx hb dX6_root_14 rfl (lv_at hl 1 rfl) ?_
  refine lv_iload_n hx hb dX6_root_15 rfl (lv_at hl 2 rfl) ?_
  obtain ⟨v3, ev3, h⟩ := ob h
  refine r_ci hS (r_runV (As := [.int a1, .int a2]) (rest := []) X hS (c_X4_rootPart l hE (w := w) (ad := ad) (μ := μ) (D := D) (cI := cI) (cG := cG) (cL := cL) hw.2.1 ev3) (cwV 2 X.1.2.2.2.2 gX6_root_X4_rootPart rfl rfl rfl (by decide +kernel) ⟨Nat.le_of_ble_eq_true rfl, Nat.le_of_ble_eq_true rfl⟩) (q0 := (q + 1)) (ci := 2) rfl (hw.2.1.1 μ).1 rfl hl.1 rfl (Nat.le_of_ble_eq_true rfl) dX6_root_16 ⟨Nat.zero_le _, Nat.zero_le _⟩) (fun H locs hS => ?_)
  cases h
  exact r_iret X hS hr hlk dX6_root_19
def f_X6_reader (q : Nat) (a1 : Int32) (a2 : Int32) (μ : Mem) : Option Int32 := (f_X6_partFault a1 4 a2 3).bind (fun v1 => (f_X6_refuse v1).bind (fun _ => (f_X4_readerPart (q + 1) a1 a2 μ).bind (fun v3 => (some v3))))
set_option maxHeartbeats 4000000 in
set_option maxRecDepth 100000 in
theorem c_X6_reader (l : Launch) {D : va_G} {cI cG cL : ClassId} {A : Nat → Prop} {EN : State → Heap → Prop} (hE : EnOK EN A) {w : Mem → va_W} {adE ad : Nat → Nat} {q : Nat} {a1 : Int32} {a2 : Int32} {μ : Mem} {r : Int32} (hw : PGAt cI cG adE w ad q) (h : f_X6_reader q a1 a2 μ = some r) : Met l yX6_reader wsX6_reader (rmk 3 69) (WPre D (tyl cI cG cL) A EN (w μ) [.ref (ad q), .int a1, .int a2]) (PI D A (w μ) r) 0 0 A := by
  have hiX6 : ∀ w ∈ u_ws RX6 TX6 3, w ∈ wsX6_reader := by decide +kernel
  have mf12 : Cond.fieldLink RX6 12 (TX6 0).1 (TX6 0).2.1 (TX6 0).2.2.1 ∈ wsX6_reader := by decide +kernel
  refine met_start (cc := cX6_reader) (nL := 3) (ret := (some .int)) (own := RX6) hE (by decide) rfl rfl (Nat.le_of_ble_eq_true rfl) (fun p e s m args below meth c ls X hS hl hr hlk => ?_)
  have hx := X.1.1
  have hb := X.1.2.1
  replace hl : lv_has ls 3 [(0, .ref (ad q)), (1, .int a1), (2, .int a2)] := hl
  unfold f_X6_reader at h
  refine lv_iload_n hx hb dX6_reader_0 rfl (lv_at hl 1 rfl) ?_
  refine lv_iconst (v := 4) hx hb dX6_reader_1 (by decide) ?_
  refine lv_iload_n hx hb dX6_reader_2 rfl (lv_at hl 2 rfl) ?_
  refine lv_iconst (v := 3) hx hb dX6_reader_3 (by decide) ?_
  obtain ⟨v1, ev1, h⟩ := ob h
  refine r_ci hS (r_runS (As := [.int a1, .int 4, .int a2, .int 3]) (rest := []) X hS (c_X6_partFault l hE (w := w) (ad := ad) (μ := μ) (D := D) (cI := cI) (cG := cG) (cL := cL) ev1) (va_cwS 4 X.1.2.2.2.2 gX6_reader_X6_partFault rfl rfl rfl (by decide +kernel) ⟨Nat.le_of_ble_eq_true rfl, Nat.le_of_ble_eq_true rfl⟩) rfl hl.1 rfl (Nat.le_of_ble_eq_true rfl) dX6_reader_4 ⟨Nat.zero_le _, Nat.zero_le _⟩) (fun H locs hS => ?_)
  obtain ⟨_, eu2, h⟩ := ob h
  refine r_cv hS (r_runS (As := [.int v1]) (rest := []) X hS (c_X6_refuse l hE (w := w) (ad := ad) (μ := μ) (D := D) (cI := cI) (cG := cG) (cL := cL) eu2) (va_cwS 1 X.1.2.2.2.2 gX6_reader_X6_refuse rfl rfl rfl (by decide +kernel) ⟨Nat.le_of_ble_eq_true rfl, Nat.le_of_ble_eq_true rfl⟩) rfl hl.1 rfl (Nat.le_of_ble_eq_true rfl) dX6_reader_7 ⟨Nat.zero_le _, Nat.zero_le _⟩) (fun H locs hS => ?_)
  refine lv_aload_n hx hb dX6_reader_10 rfl (lv_at hl 0 rfl) ?_
  refine r_get X hS (T := TX6) (k := 0) (hw.1 μ).1 rfl hiX6 (by decide) mf12 rfl dX6_reader_11 ?_
  refine lv_iload_n hx hb dX6_reader_14 rfl (lv_at hl 1 rfl) ?_
  refine lv_iload_n hx hb dX6_reader_15 rfl (lv_at hl 2 rfl) ?_
  obtain ⟨v3, ev3, h⟩ := ob h
  refine r_ci hS (r_runV (As := [.int a1, .int a2]) (rest := []) X hS (c_X4_readerPart l hE (w := w) (ad := ad) (μ := μ) (D := D) (cI := cI) (cG := cG) (cL := cL) hw.2.1 ev3) (cwV 2 X.1.2.2.2.2 gX6_reader_X4_readerPart rfl rfl rfl (by decide +kernel) ⟨Nat.le_of_ble_eq_true rfl, Nat.le_of_ble_eq_true rfl⟩) (q0 := (q + 1)) (ci := 2) rfl (hw.2.1.1 μ).1 rfl hl.1 rfl (Nat.le_of_ble_eq_true rfl) dX6_reader_16 ⟨Nat.zero_le _, Nat.zero_le _⟩) (fun H locs hS => ?_)
  cases h
  exact r_iret X hS hr hlk dX6_reader_19
def f_X6_bed (q : Nat) (a1 : Int32) (a2 : Int32) (μ : Mem) : Option Int32 := (f_X6_partFault a1 32 a2 6).bind (fun v1 => (f_X6_refuse v1).bind (fun _ => (f_X4_bedPart (q + 1) a1 a2 μ).bind (fun v3 => (some v3))))
set_option maxHeartbeats 4000000 in
set_option maxRecDepth 100000 in
theorem c_X6_bed (l : Launch) {D : va_G} {cI cG cL : ClassId} {A : Nat → Prop} {EN : State → Heap → Prop} (hE : EnOK EN A) {w : Mem → va_W} {adE ad : Nat → Nat} {q : Nat} {a1 : Int32} {a2 : Int32} {μ : Mem} {r : Int32} (hw : PGAt cI cG adE w ad q) (h : f_X6_bed q a1 a2 μ = some r) : Met l yX6_bed wsX6_bed (rmk 4 86) (WPre D (tyl cI cG cL) A EN (w μ) [.ref (ad q), .int a1, .int a2]) (PI D A (w μ) r) 0 0 A := by
  have hiX6 : ∀ w ∈ u_ws RX6 TX6 3, w ∈ wsX6_bed := by decide +kernel
  have mf12 : Cond.fieldLink RX6 12 (TX6 0).1 (TX6 0).2.1 (TX6 0).2.2.1 ∈ wsX6_bed := by decide +kernel
  refine met_start (cc := cX6_bed) (nL := 3) (ret := (some .int)) (own := RX6) hE (by decide) rfl rfl (Nat.le_of_ble_eq_true rfl) (fun p e s m args below meth c ls X hS hl hr hlk => ?_)
  have hx := X.1.1
  have hb := X.1.2.1
  replace hl : lv_has ls 3 [(0, .ref (ad q)), (1, .int a1), (2, .int a2)] := hl
  unfold f_X6_bed at h
  refine lv_iload_n hx hb dX6_bed_0 rfl (lv_at hl 1 rfl) ?_
  refine lv_bipush (v := 32) hx hb dX6_bed_1 (by decide) ?_
  refine lv_iload_n hx hb dX6_bed_3 rfl (lv_at hl 2 rfl) ?_
  refine lv_bipush (v := 6) hx hb dX6_bed_4 (by decide) ?_
  obtain ⟨v1, ev1, h⟩ := ob h
  refine r_ci hS (r_runS (As := [.int a1, .int 32, .int a2, .int 6]) (rest := []) X hS (c_X6_partFault l hE (w := w) (ad := ad) (μ := μ) (D := D) (cI := cI) (cG := cG) (cL := cL) ev1) (va_cwS 4 X.1.2.2.2.2 gX6_bed_X6_partFault rfl rfl rfl (by decide +kernel) ⟨Nat.le_of_ble_eq_true rfl, Nat.le_of_ble_eq_true rfl⟩) rfl hl.1 rfl (Nat.le_of_ble_eq_true rfl) dX6_bed_6 ⟨Nat.zero_le _, Nat.zero_le _⟩) (fun H locs hS => ?_)
  obtain ⟨_, eu2, h⟩ := ob h
  refine r_cv hS (r_runS (As := [.int v1]) (rest := []) X hS (c_X6_refuse l hE (w := w) (ad := ad) (μ := μ) (D := D) (cI := cI) (cG := cG) (cL := cL) eu2) (va_cwS 1 X.1.2.2.2.2 gX6_bed_X6_refuse rfl rfl rfl (by decide +kernel) ⟨Nat.le_of_ble_eq_true rfl, Nat.le_of_ble_eq_true rfl⟩) rfl hl.1 rfl (Nat.le_of_ble_eq_true rfl) dX6_bed_9 ⟨Nat.zero_le _, Nat.zero_le _⟩) (fun H locs hS => ?_)
  refine lv_aload_n hx hb dX6_bed_12 rfl (lv_at hl 0 rfl) ?_
  refine r_get X hS (T := TX6) (k := 0) (hw.1 μ).1 rfl hiX6 (by decide) mf12 rfl dX6_bed_13 ?_
  refine lv_iload_n hx hb dX6_bed_16 rfl (lv_at hl 1 rfl) ?_
  refine lv_iload_n hx hb dX6_bed_17 rfl (lv_at hl 2 rfl) ?_
  obtain ⟨v3, ev3, h⟩ := ob h
  refine r_ci hS (r_runV (As := [.int a1, .int a2]) (rest := []) X hS (c_X4_bedPart l hE (w := w) (ad := ad) (μ := μ) (D := D) (cI := cI) (cG := cG) (cL := cL) hw.2.1 ev3) (cwV 2 X.1.2.2.2.2 gX6_bed_X4_bedPart rfl rfl rfl (by decide +kernel) ⟨Nat.le_of_ble_eq_true rfl, Nat.le_of_ble_eq_true rfl⟩) (q0 := (q + 1)) (ci := 2) rfl (hw.2.1.1 μ).1 rfl hl.1 rfl (Nat.le_of_ble_eq_true rfl) dX6_bed_18 ⟨Nat.zero_le _, Nat.zero_le _⟩) (fun H locs hS => ?_)
  cases h
  exact r_iret X hS hr hlk dX6_bed_21
def f_X6_whole_b41 (q : Nat) (s0 : Int32) (μ : Mem) : Option Int32 := (some s0)
def f_X6_whole_b14 (q : Nat) (x1 : Int32) (s0 : Int32) (μ : Mem) : Option Int32 := (f_X6_refuse s0).bind (fun _ => (if x1 = 14 then f_X6_whole_b41 q (μ (q + 83) 1) μ else (f_X4_wholePart (q + 1) x1 μ).bind (fun v3 => f_X6_whole_b41 q v3 μ)))
def f_X6_whole (q : Nat) (a1 : Int32) (μ : Mem) : Option Int32 := (f_X6_isBelow a1 15).bind (fun v1 => (if v1 = 0 then f_X6_whole_b14 q a1 2 μ else f_X6_whole_b14 q a1 0 μ))
set_option maxHeartbeats 4000000 in
set_option maxRecDepth 100000 in
theorem c_X6_whole (l : Launch) {D : va_G} {cI cG cL : ClassId} {A : Nat → Prop} {EN : State → Heap → Prop} (hE : EnOK EN A) {w : Mem → va_W} {adE ad : Nat → Nat} {q : Nat} {a1 : Int32} {μ : Mem} {r : Int32} (hw : PGAt cI cG adE w ad q) (h : f_X6_whole q a1 μ = some r) : Met l yX6_whole wsX6_whole (rmk 4 92) (WPre D (tyl cI cG cL) A EN (w μ) [.ref (ad q), .int a1]) (PI D A (w μ) r) 0 0 A := by
  have hiX3 : ∀ w ∈ u_ws RX3 TX3 7, w ∈ wsX6_whole := by decide +kernel
  have hiX6 : ∀ w ∈ u_ws RX6 TX6 3, w ∈ wsX6_whole := by decide +kernel
  have mf12 : Cond.fieldLink RX6 12 (TX6 0).1 (TX6 0).2.1 (TX6 0).2.2.1 ∈ wsX6_whole := by decide +kernel
  have mf26 : Cond.fieldLink RX6 26 (TX6 2).1 (TX6 2).2.1 (TX6 2).2.2.1 ∈ wsX6_whole := by decide +kernel
  refine met_start (cc := cX6_whole) (nL := 2) (ret := (some .int)) (own := RX6) hE (by decide) rfl rfl (Nat.le_of_ble_eq_true rfl) (fun p e s m args below meth c ls X hS hl hr hlk => ?_)
  have hx := X.1.1
  have hb := X.1.2.1
  replace hl : lv_has ls 2 [(0, .ref (ad q)), (1, .int a1)] := hl
  have hb41 : ∀ (s0 : Int32) (H : Heap) (locs : List Loc) (ls : Array Slot), HS D A (w μ) s.heap H locs → lv_has ls 2 [] → f_X6_whole_b41 q s0 μ = some r → W p l e (headSpec wsX6_whole (rmk 4 92)).room s m args below meth c H locs 0 0 (MQ below (PI D A (w μ) r) args s 0 0 A) (F0 m 41 ls [.int s0]) := by
    intro s0 H locs ls hS hl h
    unfold f_X6_whole_b41 at h
    cases h
    exact r_iret X hS hr hlk dX6_whole_41
  have hb14 : ∀ (x1 : Int32) (s0 : Int32) (H : Heap) (locs : List Loc) (ls : Array Slot), HS D A (w μ) s.heap H locs → lv_has ls 2 [(0, .ref (ad q)), (1, .int x1)] → f_X6_whole_b14 q x1 s0 μ = some r → W p l e (headSpec wsX6_whole (rmk 4 92)).room s m args below meth c H locs 0 0 (MQ below (PI D A (w μ) r) args s 0 0 A) (F0 m 14 ls [.int s0]) := by
    intro x1 s0 H locs ls hS hl h
    unfold f_X6_whole_b14 at h
    obtain ⟨_, eu2, h⟩ := ob h
    refine r_cv hS (r_runS (As := [.int s0]) (rest := []) X hS (c_X6_refuse l hE (w := w) (ad := ad) (μ := μ) (D := D) (cI := cI) (cG := cG) (cL := cL) eu2) (va_cwS 1 X.1.2.2.2.2 gX6_whole_X6_refuse rfl rfl rfl (by decide +kernel) ⟨Nat.le_of_ble_eq_true rfl, Nat.le_of_ble_eq_true rfl⟩) rfl hl.1 rfl (Nat.le_of_ble_eq_true rfl) dX6_whole_14 ⟨Nat.zero_le _, Nat.zero_le _⟩) (fun H locs hS => ?_)
    refine lv_iload_n hx hb dX6_whole_17 rfl (lv_at hl 1 rfl) ?_
    refine lv_bipush (v := 14) hx hb dX6_whole_18 (by decide) ?_
    refine lv_icmp_ne (tgt := 33) hx hb dX6_whole_20 (by decide) (fun cc => ?_) (fun cc => ?_)
    · replace h := ie h cc
      refine lv_aload_n hx hb dX6_whole_33 rfl (lv_at hl 0 rfl) ?_
      refine r_get X hS (T := TX6) (k := 0) (hw.1 μ).1 rfl hiX6 (by decide) mf12 rfl dX6_whole_34 ?_
      refine lv_iload_n hx hb dX6_whole_37 rfl (lv_at hl 1 rfl) ?_
      obtain ⟨v3, ev3, h⟩ := ob h
      refine r_ci hS (r_runV (As := [.int x1]) (rest := []) X hS (c_X4_wholePart l hE (w := w) (ad := ad) (μ := μ) (D := D) (cI := cI) (cG := cG) (cL := cL) hw.2.1 ev3) (cwV 1 X.1.2.2.2.2 gX6_whole_X4_wholePart rfl rfl rfl (by decide +kernel) ⟨Nat.le_of_ble_eq_true rfl, Nat.le_of_ble_eq_true rfl⟩) (q0 := (q + 1)) (ci := 2) rfl (hw.2.1.1 μ).1 rfl hl.1 rfl (Nat.le_of_ble_eq_true rfl) dX6_whole_38 ⟨Nat.zero_le _, Nat.zero_le _⟩) (fun H locs hS => ?_)
      exact hb41 v3 _ _ _ hS (lv_sub hl [] rfl) h
    · replace h := it h cc
      refine lv_aload_n hx hb dX6_whole_23 rfl (lv_at hl 0 rfl) ?_
      refine r_get X hS (T := TX6) (k := 2) (hw.1 μ).1 rfl hiX6 (by decide) mf26 rfl dX6_whole_24 ?_
      refine r_getN X hS (T := TX3) (k := 1) (host := RX6) (hw.2.2.2.1 μ).1 rfl hiX3 (by decide) (X.nest 13 rfl) rfl dX6_whole_27 ?_
      refine lv_goto (tgt := 41) hx hb dX6_whole_30 (by decide) ?_
      exact hb41 (μ (q + 83) 1) _ _ _ hS (lv_sub hl [] rfl) h
  unfold f_X6_whole at h
  refine lv_iload_n hx hb dX6_whole_0 rfl (lv_at hl 1 rfl) ?_
  refine lv_bipush (v := 15) hx hb dX6_whole_1 (by decide) ?_
  obtain ⟨v1, ev1, h⟩ := ob h
  refine r_ci hS (r_runS (As := [.int a1, .int 15]) (rest := []) X hS (c_X6_isBelow l hE (w := w) (ad := ad) (μ := μ) (D := D) (cI := cI) (cG := cG) (cL := cL) ev1) (va_cwS 2 X.1.2.2.2.2 gX6_whole_X6_isBelow rfl rfl rfl (by decide +kernel) ⟨Nat.le_of_ble_eq_true rfl, Nat.le_of_ble_eq_true rfl⟩) rfl hl.1 rfl (Nat.le_of_ble_eq_true rfl) dX6_whole_3 ⟨Nat.zero_le _, Nat.zero_le _⟩) (fun H locs hS => ?_)
  refine lv_if_eq (tgt := 13) hx hb dX6_whole_6 (by decide) (fun cc => ?_) (fun cc => ?_)
  · replace h := it h cc
    refine lv_iconst (v := 2) hx hb dX6_whole_13 (by decide) ?_
    exact hb14 a1 2 _ _ _ hS (lv_sub hl [0, 1] rfl) h
  · replace h := ie h cc
    refine lv_iconst (v := 0) hx hb dX6_whole_9 (by decide) ?_
    refine lv_goto (tgt := 14) hx hb dX6_whole_10 (by decide) ?_
    exact hb14 a1 0 _ _ _ hS (lv_sub hl [0, 1] rfl) h
def f_X6_bedsFor (q : Nat) (a1 : Int32) (μ : Mem) : Option Int32 := (f_X4_draftedFault (q + 1) a1 μ).bind (fun v1 => (f_X6_refuse v1).bind (fun _ => (f_X4_digsToPut (q + 1) a1 μ).bind (fun v3 => (some v3))))
set_option maxHeartbeats 4000000 in
set_option maxRecDepth 100000 in
theorem c_X6_bedsFor (l : Launch) {D : va_G} {cI cG cL : ClassId} {A : Nat → Prop} {EN : State → Heap → Prop} (hE : EnOK EN A) {w : Mem → va_W} {adE ad : Nat → Nat} {q : Nat} {a1 : Int32} {μ : Mem} {r : Int32} (hw : PGAt cI cG adE w ad q) (h : f_X6_bedsFor q a1 μ = some r) : Met l yX6_bedsFor wsX6_bedsFor (rmk 3 72) (WPre D (tyl cI cG cL) A EN (w μ) [.ref (ad q), .int a1]) (PI D A (w μ) r) 0 0 A := by
  have hiX6 : ∀ w ∈ u_ws RX6 TX6 3, w ∈ wsX6_bedsFor := by decide +kernel
  have mf12 : Cond.fieldLink RX6 12 (TX6 0).1 (TX6 0).2.1 (TX6 0).2.2.1 ∈ wsX6_bedsFor := by decide +kernel
  refine met_start (cc := cX6_bedsFor) (nL := 2) (ret := (some .int)) (own := RX6) hE (by decide) rfl rfl (Nat.le_of_ble_eq_true rfl) (fun p e s m args below meth c ls X hS hl hr hlk => ?_)
  have hx := X.1.1
  have hb := X.1.2.1
  replace hl : lv_has ls 2 [(0, .ref (ad q)), (1, .int a1)] := hl
  unfold f_X6_bedsFor at h
  refine lv_aload_n hx hb dX6_bedsFor_0 rfl (lv_at hl 0 rfl) ?_
  refine r_get X hS (T := TX6) (k := 0) (hw.1 μ).1 rfl hiX6 (by decide) mf12 rfl dX6_bedsFor_1 ?_
  refine lv_iload_n hx hb dX6_bedsFor_4 rfl (lv_at hl 1 rfl) ?_
  obtain ⟨v1, ev1, h⟩ := ob h
  refine r_ci hS (r_runV (As := [.int a1]) (rest := []) X hS (c_X4_draftedFault l hE (w := w) (ad := ad) (μ := μ) (D := D) (cI := cI) (cG := cG) (cL := cL) hw.2.1 ev1) (cwV 1 X.1.2.2.2.2 gX6_bedsFor_X4_draftedFault rfl rfl rfl (by decide +kernel) ⟨Nat.le_of_ble_eq_true rfl, Nat.le_of_ble_eq_true rfl⟩) (q0 := (q + 1)) (ci := 2) rfl (hw.2.1.1 μ).1 rfl hl.1 rfl (Nat.le_of_ble_eq_true rfl) dX6_bedsFor_5 ⟨Nat.zero_le _, Nat.zero_le _⟩) (fun H locs hS => ?_)
  obtain ⟨_, eu2, h⟩ := ob h
  refine r_cv hS (r_runS (As := [.int v1]) (rest := []) X hS (c_X6_refuse l hE (w := w) (ad := ad) (μ := μ) (D := D) (cI := cI) (cG := cG) (cL := cL) eu2) (va_cwS 1 X.1.2.2.2.2 gX6_bedsFor_X6_refuse rfl rfl rfl (by decide +kernel) ⟨Nat.le_of_ble_eq_true rfl, Nat.le_of_ble_eq_true rfl⟩) rfl hl.1 rfl (Nat.le_of_ble_eq_true rfl) dX6_bedsFor_8 ⟨Nat.zero_le _, Nat.zero_le _⟩) (fun H locs hS => ?_)
  refine lv_aload_n hx hb dX6_bedsFor_11 rfl (lv_at hl 0 rfl) ?_
  refine r_get X hS (T := TX6) (k := 0) (hw.1 μ).1 rfl hiX6 (by decide) mf12 rfl dX6_bedsFor_12 ?_
  refine lv_iload_n hx hb dX6_bedsFor_15 rfl (lv_at hl 1 rfl) ?_
  obtain ⟨v3, ev3, h⟩ := ob h
  refine r_ci hS (r_runV (As := [.int a1]) (rest := []) X hS (c_X4_digsToPut l hE (w := w) (ad := ad) (μ := μ) (D := D) (cI := cI) (cG := cG) (cL := cL) hw.2.1 ev3) (cwV 1 X.1.2.2.2.2 gX6_bedsFor_X4_digsToPut rfl rfl rfl (by decide +kernel) ⟨Nat.le_of_ble_eq_true rfl, Nat.le_of_ble_eq_true rfl⟩) (q0 := (q + 1)) (ci := 2) rfl (hw.2.1.1 μ).1 rfl hl.1 rfl (Nat.le_of_ble_eq_true rfl) dX6_bedsFor_16 ⟨Nat.zero_le _, Nat.zero_le _⟩) (fun H locs hS => ?_)
  cases h
  exact r_iret X hS hr hlk dX6_bedsFor_19
def f_X6_reason (q : Nat) (a1 : Int32) (μ : Mem) : Option Int32 := (f_X4_draftedFault (q + 1) a1 μ).bind (fun v1 => (f_X6_refuse v1).bind (fun _ => (f_X4_hindranceToPut (q + 1) a1 μ).bind (fun v3 => (some v3))))
set_option maxHeartbeats 4000000 in
set_option maxRecDepth 100000 in
theorem c_X6_reason (l : Launch) {D : va_G} {cI cG cL : ClassId} {A : Nat → Prop} {EN : State → Heap → Prop} (hE : EnOK EN A) {w : Mem → va_W} {adE ad : Nat → Nat} {q : Nat} {a1 : Int32} {μ : Mem} {r : Int32} (hw : PGAt cI cG adE w ad q) (h : f_X6_reason q a1 μ = some r) : Met l yX6_reason wsX6_reason (rmk 5 106) (WPre D (tyl cI cG cL) A EN (w μ) [.ref (ad q), .int a1]) (PI D A (w μ) r) 0 0 A := by
  have hiX6 : ∀ w ∈ u_ws RX6 TX6 3, w ∈ wsX6_reason := by decide +kernel
  have mf12 : Cond.fieldLink RX6 12 (TX6 0).1 (TX6 0).2.1 (TX6 0).2.2.1 ∈ wsX6_reason := by decide +kernel
  refine met_start (cc := cX6_reason) (nL := 2) (ret := (some .int)) (own := RX6) hE (by decide) rfl rfl (Nat.le_of_ble_eq_true rfl) (fun p e s m args below meth c ls X hS hl hr hlk => ?_)
  have hx := X.1.1
  have hb := X.1.2.1
  replace hl : lv_has ls 2 [(0, .ref (ad q)), (1, .int a1)] := hl
  unfold f_X6_reason at h
  refine lv_aload_n hx hb dX6_reason_0 rfl (lv_at hl 0 rfl) ?_
  refine r_get X hS (T := TX6) (k := 0) (hw.1 μ).1 rfl hiX6 (by decide) mf12 rfl dX6_reason_1 ?_
  refine lv_iload_n hx hb dX6_reason_4 rfl (lv_at hl 1 rfl) ?_
  obtain ⟨v1, ev1, h⟩ := ob h
  refine r_ci hS (r_runV (As := [.int a1]) (rest := []) X hS (c_X4_draftedFault l hE (w := w) (ad := ad) (μ := μ) (D := D) (cI := cI) (cG := cG) (cL := cL) hw.2.1 ev1) (cwV 1 X.1.2.2.2.2 gX6_reason_X4_draftedFault rfl rfl rfl (by decide +kernel) ⟨Nat.le_of_ble_eq_true rfl, Nat.le_of_ble_eq_true rfl⟩) (q0 := (q + 1)) (ci := 2) rfl (hw.2.1.1 μ).1 rfl hl.1 rfl (Nat.le_of_ble_eq_true rfl) dX6_reason_5 ⟨Nat.zero_le _, Nat.zero_le _⟩) (fun H locs hS => ?_)
  obtain ⟨_, eu2, h⟩ := ob h
  refine r_cv hS (r_runS (As := [.int v1]) (rest := []) X hS (c_X6_refuse l hE (w := w) (ad := ad) (μ := μ) (D := D) (cI := cI) (cG := cG) (cL := cL) eu2) (va_cwS 1 X.1.2.2.2.2 gX6_reason_X6_refuse rfl rfl rfl (by decide +kernel) ⟨Nat.le_of_ble_eq_true rfl, Nat.le_of_ble_eq_true rfl⟩) rfl hl.1 rfl (Nat.le_of_ble_eq_true rfl) dX6_reason_8 ⟨Nat.zero_le _, Nat.zero_le _⟩) (fun H locs hS => ?_)
  refine lv_aload_n hx hb dX6_reason_11 rfl (lv_at hl 0 rfl) ?_
  refine r_get X hS (T := TX6) (k := 0) (hw.1 μ).1 rfl hiX6 (by decide) mf12 rfl dX6_reason_12 ?_
  refine lv_iload_n hx hb dX6_reason_15 rfl (lv_at hl 1 rfl) ?_
  obtain ⟨v3, ev3, h⟩ := ob h
  refine r_ci hS (r_runV (As := [.int a1]) (rest := []) X hS (c_X4_hindranceToPut l hE (w := w) (ad := ad) (μ := μ) (D := D) (cI := cI) (cG := cG) (cL := cL) hw.2.1 ev3) (cwV 1 X.1.2.2.2.2 gX6_reason_X4_hindranceToPut rfl rfl rfl (by decide +kernel) ⟨Nat.le_of_ble_eq_true rfl, Nat.le_of_ble_eq_true rfl⟩) (q0 := (q + 1)) (ci := 2) rfl (hw.2.1.1 μ).1 rfl hl.1 rfl (Nat.le_of_ble_eq_true rfl) dX6_reason_16 ⟨Nat.zero_le _, Nat.zero_le _⟩) (fun H locs hS => ?_)
  cases h
  exact r_iret X hS hr hlk dX6_reason_19
def f_X6_neededWithout (q : Nat) (a1 : Int32) (μ : Mem) : Option Int32 := (f_X4_openReaderFault (q + 1) a1 μ).bind (fun v1 => (f_X6_refuse v1).bind (fun _ => (f_X4_neededCountBut (q + 1) a1 μ).bind (fun v3 => (some v3))))
set_option maxHeartbeats 4000000 in
set_option maxRecDepth 100000 in
theorem c_X6_neededWithout (l : Launch) {D : va_G} {cI cG cL : ClassId} {A : Nat → Prop} {EN : State → Heap → Prop} (hE : EnOK EN A) {w : Mem → va_W} {adE ad : Nat → Nat} {q : Nat} {a1 : Int32} {μ : Mem} {r : Int32} (hw : PGAt cI cG adE w ad q) (h : f_X6_neededWithout q a1 μ = some r) : Met l yX6_neededWithout wsX6_neededWithout (rmk 3 63) (WPre D (tyl cI cG cL) A EN (w μ) [.ref (ad q), .int a1]) (PI D A (w μ) r) 0 0 A := by
  have hiX6 : ∀ w ∈ u_ws RX6 TX6 3, w ∈ wsX6_neededWithout := by decide +kernel
  have mf12 : Cond.fieldLink RX6 12 (TX6 0).1 (TX6 0).2.1 (TX6 0).2.2.1 ∈ wsX6_neededWithout := by decide +kernel
  refine met_start (cc := cX6_neededWithout) (nL := 2) (ret := (some .int)) (own := RX6) hE (by decide) rfl rfl (Nat.le_of_ble_eq_true rfl) (fun p e s m args below meth c ls X hS hl hr hlk => ?_)
  have hx := X.1.1
  have hb := X.1.2.1
  replace hl : lv_has ls 2 [(0, .ref (ad q)), (1, .int a1)] := hl
  unfold f_X6_neededWithout at h
  refine lv_aload_n hx hb dX6_neededWithout_0 rfl (lv_at hl 0 rfl) ?_
  refine r_get X hS (T := TX6) (k := 0) (hw.1 μ).1 rfl hiX6 (by decide) mf12 rfl dX6_neededWithout_1 ?_
  refine lv_iload_n hx hb dX6_neededWithout_4 rfl (lv_at hl 1 rfl) ?_
  obtain ⟨v1, ev1, h⟩ := ob h
  refine r_ci hS (r_runV (As := [.int a1]) (rest := []) X hS (c_X4_openReaderFault l hE (w := w) (ad := ad) (μ := μ) (D := D) (cI := cI) (cG := cG) (cL := cL) hw.2.1 ev1) (cwV 1 X.1.2.2.2.2 gX6_neededWithout_X4_openReaderFault rfl rfl rfl (by decide +kernel) ⟨Nat.le_of_ble_eq_true rfl, Nat.le_of_ble_eq_true rfl⟩) (q0 := (q + 1)) (ci := 2) rfl (hw.2.1.1 μ).1 rfl hl.1 rfl (Nat.le_of_ble_eq_true rfl) dX6_neededWithout_5 ⟨Nat.zero_le _, Nat.zero_le _⟩) (fun H locs hS => ?_)
  obtain ⟨_, eu2, h⟩ := ob h
  refine r_cv hS (r_runS (As := [.int v1]) (rest := []) X hS (c_X6_refuse l hE (w := w) (ad := ad) (μ := μ) (D := D) (cI := cI) (cG := cG) (cL := cL) eu2) (va_cwS 1 X.1.2.2.2.2 gX6_neededWithout_X6_refuse rfl rfl rfl (by decide +kernel) ⟨Nat.le_of_ble_eq_true rfl, Nat.le_of_ble_eq_true rfl⟩) rfl hl.1 rfl (Nat.le_of_ble_eq_true rfl) dX6_neededWithout_8 ⟨Nat.zero_le _, Nat.zero_le _⟩) (fun H locs hS => ?_)
  refine lv_aload_n hx hb dX6_neededWithout_11 rfl (lv_at hl 0 rfl) ?_
  refine r_get X hS (T := TX6) (k := 0) (hw.1 μ).1 rfl hiX6 (by decide) mf12 rfl dX6_neededWithout_12 ?_
  refine lv_iload_n hx hb dX6_neededWithout_15 rfl (lv_at hl 1 rfl) ?_
  obtain ⟨v3, ev3, h⟩ := ob h
  refine r_ci hS (r_runV (As := [.int a1]) (rest := []) X hS (c_X4_neededCountBut l hE (w := w) (ad := ad) (μ := μ) (D := D) (cI := cI) (cG := cG) (cL := cL) hw.2.1 ev3) (cwV 1 X.1.2.2.2.2 gX6_neededWithout_X4_neededCountBut rfl rfl rfl (by decide +kernel) ⟨Nat.le_of_ble_eq_true rfl, Nat.le_of_ble_eq_true rfl⟩) (q0 := (q + 1)) (ci := 2) rfl (hw.2.1.1 μ).1 rfl hl.1 rfl (Nat.le_of_ble_eq_true rfl) dX6_neededWithout_16 ⟨Nat.zero_le _, Nat.zero_le _⟩) (fun H locs hS => ?_)
  cases h
  exact r_iret X hS hr hlk dX6_neededWithout_19
def f_X6_changedSince (q : Nat) (a1 : Int32) (μ : Mem) : Option Int32 := (f_X4_openReaderFault (q + 1) a1 μ).bind (fun v1 => (f_X6_refuse v1).bind (fun _ => (f_X4_differencesTo (q + 1) a1 μ).bind (fun v3 => (some v3))))
set_option maxHeartbeats 4000000 in
set_option maxRecDepth 100000 in
theorem c_X6_changedSince (l : Launch) {D : va_G} {cI cG cL : ClassId} {A : Nat → Prop} {EN : State → Heap → Prop} (hE : EnOK EN A) {w : Mem → va_W} {adE ad : Nat → Nat} {q : Nat} {a1 : Int32} {μ : Mem} {r : Int32} (hw : PGAt cI cG adE w ad q) (h : f_X6_changedSince q a1 μ = some r) : Met l yX6_changedSince wsX6_changedSince (rmk 5 116) (WPre D (tyl cI cG cL) A EN (w μ) [.ref (ad q), .int a1]) (PI D A (w μ) r) 0 0 A := by
  have hiX6 : ∀ w ∈ u_ws RX6 TX6 3, w ∈ wsX6_changedSince := by decide +kernel
  have mf12 : Cond.fieldLink RX6 12 (TX6 0).1 (TX6 0).2.1 (TX6 0).2.2.1 ∈ wsX6_changedSince := by decide +kernel
  refine met_start (cc := cX6_changedSince) (nL := 2) (ret := (some .int)) (own := RX6) hE (by decide) rfl rfl (Nat.le_of_ble_eq_true rfl) (fun p e s m args below meth c ls X hS hl hr hlk => ?_)
  have hx := X.1.1
  have hb := X.1.2.1
  replace hl : lv_has ls 2 [(0, .ref (ad q)), (1, .int a1)] := hl
  unfold f_X6_changedSince at h
  refine lv_aload_n hx hb dX6_changedSince_0 rfl (lv_at hl 0 rfl) ?_
  refine r_get X hS (T := TX6) (k := 0) (hw.1 μ).1 rfl hiX6 (by decide) mf12 rfl dX6_changedSince_1 ?_
  refine lv_iload_n hx hb dX6_changedSince_4 rfl (lv_at hl 1 rfl) ?_
  obtain ⟨v1, ev1, h⟩ := ob h
  refine r_ci hS (r_runV (As := [.int a1]) (rest := []) X hS (c_X4_openReaderFault l hE (w := w) (ad := ad) (μ := μ) (D := D) (cI := cI) (cG := cG) (cL := cL) hw.2.1 ev1) (cwV 1 X.1.2.2.2.2 gX6_changedSince_X4_openReaderFault rfl rfl rfl (by decide +kernel) ⟨Nat.le_of_ble_eq_true rfl, Nat.le_of_ble_eq_true rfl⟩) (q0 := (q + 1)) (ci := 2) rfl (hw.2.1.1 μ).1 rfl hl.1 rfl (Nat.le_of_ble_eq_true rfl) dX6_changedSince_5 ⟨Nat.zero_le _, Nat.zero_le _⟩) (fun H locs hS => ?_)
  obtain ⟨_, eu2, h⟩ := ob h
  refine r_cv hS (r_runS (As := [.int v1]) (rest := []) X hS (c_X6_refuse l hE (w := w) (ad := ad) (μ := μ) (D := D) (cI := cI) (cG := cG) (cL := cL) eu2) (va_cwS 1 X.1.2.2.2.2 gX6_changedSince_X6_refuse rfl rfl rfl (by decide +kernel) ⟨Nat.le_of_ble_eq_true rfl, Nat.le_of_ble_eq_true rfl⟩) rfl hl.1 rfl (Nat.le_of_ble_eq_true rfl) dX6_changedSince_8 ⟨Nat.zero_le _, Nat.zero_le _⟩) (fun H locs hS => ?_)
  refine lv_aload_n hx hb dX6_changedSince_11 rfl (lv_at hl 0 rfl) ?_
  refine r_get X hS (T := TX6) (k := 0) (hw.1 μ).1 rfl hiX6 (by decide) mf12 rfl dX6_changedSince_12 ?_
  refine lv_iload_n hx hb dX6_changedSince_15 rfl (lv_at hl 1 rfl) ?_
  obtain ⟨v3, ev3, h⟩ := ob h
  refine r_ci hS (r_runV (As := [.int a1]) (rest := []) X hS (c_X4_differencesTo l hE (w := w) (ad := ad) (μ := μ) (D := D) (cI := cI) (cG := cG) (cL := cL) hw.2.1 ev3) (cwV 1 X.1.2.2.2.2 gX6_changedSince_X4_differencesTo rfl rfl rfl (by decide +kernel) ⟨Nat.le_of_ble_eq_true rfl, Nat.le_of_ble_eq_true rfl⟩) (q0 := (q + 1)) (ci := 2) rfl (hw.2.1.1 μ).1 rfl hl.1 rfl (Nat.le_of_ble_eq_true rfl) dX6_changedSince_16 ⟨Nat.zero_le _, Nat.zero_le _⟩) (fun H locs hS => ?_)
  cases h
  exact r_iret X hS hr hlk dX6_changedSince_19
def f_X6_undo_b15 (q : Nat) (s0 : Int32) (μ : Mem) : Option (Int32 × Mem) := (f_X6_refuse s0).bind (fun _ => bn2 (f_X5_restore (q + 17) (q + 1) μ) (fun v2 μ3 => (some (v2, μ3))))
def f_X6_undo (q : Nat) (μ : Mem) : Option (Int32 × Mem) := (if (μ (q + 17) 1) ≤ 0 then f_X6_undo_b15 q 3 μ else f_X6_undo_b15 q 0 μ)
set_option maxHeartbeats 4000000 in
set_option maxRecDepth 100000 in
theorem c_X6_undo (l : Launch) {D : va_G} {cI cG cL : ClassId} {A : Nat → Prop} {EN : State → Heap → Prop} (hE : EnOK EN A) {w : Mem → va_W} {adE ad : Nat → Nat} {q : Nat} {μ : Mem} {r : Int32} {μ' : Mem} (hw : PGAt cI cG adE w ad q) (h : f_X6_undo q μ = some (r, μ')) : Met l yX6_undo wsX6_undo (rmk 4 87) (WPre D (tyl cI cG cL) A EN (w μ) [.ref (ad q)]) (PI D A (w μ') r) 0 0 A := by
  have hiX5 : ∀ w ∈ u_ws RX5 TX5 3, w ∈ wsX6_undo := by decide +kernel
  have hiX6 : ∀ w ∈ u_ws RX6 TX6 3, w ∈ wsX6_undo := by decide +kernel
  have mf19 : Cond.fieldLink RX6 19 (TX6 1).1 (TX6 1).2.1 (TX6 1).2.2.1 ∈ wsX6_undo := by decide +kernel
  have mf12 : Cond.fieldLink RX6 12 (TX6 0).1 (TX6 0).2.1 (TX6 0).2.2.1 ∈ wsX6_undo := by decide +kernel
  refine met_start (cc := cX6_undo) (nL := 1) (ret := (some .int)) (own := RX6) hE (by decide) rfl rfl (Nat.le_of_ble_eq_true rfl) (fun p e s m args below meth c ls X hS hl hr hlk => ?_)
  have hx := X.1.1
  have hb := X.1.2.1
  replace hl : lv_has ls 1 [(0, .ref (ad q))] := hl
  have hb15 : ∀ (s0 : Int32) (μ : Mem) (H : Heap) (locs : List Loc) (ls : Array Slot), HS D A (w μ) s.heap H locs → lv_has ls 1 [(0, .ref (ad q))] → f_X6_undo_b15 q s0 μ = some (r, μ') → W p l e (headSpec wsX6_undo (rmk 4 87)).room s m args below meth c H locs 0 0 (MQ below (PI D A (w μ') r) args s 0 0 A) (F0 m 15 ls [.int s0]) := by
    intro s0 μ H locs ls hS hl h
    unfold f_X6_undo_b15 at h
    obtain ⟨_, eu1, h⟩ := ob h
    refine r_cv hS (r_runS (As := [.int s0]) (rest := []) X hS (c_X6_refuse l hE (w := w) (ad := ad) (μ := μ) (D := D) (cI := cI) (cG := cG) (cL := cL) eu1) (va_cwS 1 X.1.2.2.2.2 gX6_undo_X6_refuse rfl rfl rfl (by decide +kernel) ⟨Nat.le_of_ble_eq_true rfl, Nat.le_of_ble_eq_true rfl⟩) rfl hl.1 rfl (Nat.le_of_ble_eq_true rfl) dX6_undo_15 ⟨Nat.zero_le _, Nat.zero_le _⟩) (fun H locs hS => ?_)
    refine lv_aload_n hx hb dX6_undo_18 rfl (lv_at hl 0 rfl) ?_
    refine r_get X hS (T := TX6) (k := 1) (hw.1 μ).1 rfl hiX6 (by decide) mf19 rfl dX6_undo_19 ?_
    refine lv_aload_n hx hb dX6_undo_22 rfl (lv_at hl 0 rfl) ?_
    refine r_get X hS (T := TX6) (k := 0) (hw.1 μ).1 rfl hiX6 (by decide) mf12 rfl dX6_undo_23 ?_
    obtain ⟨v2, μ3, ev2, h⟩ := ob2 h
    refine r_ci hS (r_runV (As := [.ref (ad (q + 1))]) (rest := []) X hS (c_X5_restore l hE (w := w) (ad := ad) (μ := μ) (D := D) (cI := cI) (cG := cG) (cL := cL) hw.2.2.1 hw.2.1 ev2) (cwV 1 X.1.2.2.2.2 gX6_undo_X5_restore rfl rfl rfl (by decide +kernel) ⟨Nat.le_of_ble_eq_true rfl, Nat.le_of_ble_eq_true rfl⟩) (q0 := (q + 17)) (ci := 3) rfl (hw.2.2.1.1 μ).1 rfl hl.1 rfl (Nat.le_of_ble_eq_true rfl) dX6_undo_26 ⟨Nat.zero_le _, Nat.zero_le _⟩) (fun H locs hS => ?_)
    obtain ⟨rfl, rfl⟩ := pr2 h
    exact r_iret X hS hr hlk dX6_undo_29
  unfold f_X6_undo at h
  refine lv_aload_n hx hb dX6_undo_0 rfl (lv_at hl 0 rfl) ?_
  refine r_get X hS (T := TX6) (k := 1) (hw.1 μ).1 rfl hiX6 (by decide) mf19 rfl dX6_undo_1 ?_
  refine r_getN X hS (T := TX5) (k := 1) (host := RX6) (hw.2.2.1.1 μ).1 rfl hiX5 (by decide) (X.nest 12 rfl) rfl dX6_undo_4 ?_
  refine lv_if_le (tgt := 14) hx hb dX6_undo_7 (by decide) (fun cc => ?_) (fun cc => ?_)
  · replace h := it h cc
    refine lv_iconst (v := 3) hx hb dX6_undo_14 (by decide) ?_
    exact hb15 3 μ _ _ _ hS (lv_sub hl [0] rfl) h
  · replace h := ie h cc
    refine lv_iconst (v := 0) hx hb dX6_undo_10 (by decide) ?_
    refine lv_goto (tgt := 15) hx hb dX6_undo_11 (by decide) ?_
    exact hb15 0 μ _ _ _ hS (lv_sub hl [0] rfl) h
