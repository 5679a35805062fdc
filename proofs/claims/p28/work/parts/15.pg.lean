def f_X6_nextBed (q : Nat) (μ : Mem) : Option Int32 := (f_X4_bedToDig (q + 1) μ).bind (fun v1 => (some v1))
set_option maxHeartbeats 4000000 in
set_option maxRecDepth 100000 in
theorem c_X6_nextBed (l : Launch) {D : va_G} {cI cG cL : ClassId} {A : Nat → Prop} {EN : State → Heap → Prop} (hE : EnOK EN A) {w : Mem → va_W} {adE ad : Nat → Nat} {q : Nat} {μ : Mem} {r : Int32} (hw : PGAt cI cG adE w ad q) (h : f_X6_nextBed q μ = some r) : Met l yX6_nextBed wsX6_nextBed (rmk 4 84) (WPre D (tyl cI cG cL) A EN (w μ) [.ref (ad q)]) (PI D A (w μ) r) 0 0 A := by
  have hiX6 : ∀ w ∈ u_ws RX6 TX6 3, w ∈ wsX6_nextBed := by decide +kernel
  have mf12 : Cond.fieldLink RX6 12 (TX6 0).1 (TX6 0).2.1 (TX6 0).2.2.1 ∈ wsX6_nextBed := by decide +kernel
  refine met_start (cc := cX6_nextBed) (nL := 1) (ret := (some .int)) (own := RX6) hE (by decide) rfl rfl (Nat.le_of_ble_eq_true rfl) (fun p e s m args below meth c ls X hS hl hr hlk => ?_)
  have hx := X.1.1
  have hb := X.1.2.1
  replace hl : lv_has ls 1 [(0, .ref (ad q))] := hl
  unfold f_X6_nextBed at h
  refine lv_aload_n hx hb dX6_nextBed_0 rfl (lv_at hl 0 rfl) ?_
  refine r_get X hS (T := TX6) (k := 0) (hw.1 μ).1 rfl hiX6 (by decide) mf12 rfl dX6_nextBed_1 ?_
  obtain ⟨v1, ev1, h⟩ := ob h
  refine r_ci hS (r_runV (As := []) (rest := []) X hS (c_X4_bedToDig l hE (w := w) (ad := ad) (μ := μ) (D := D) (cI := cI) (cG := cG) (cL := cL) hw.2.1 ev1) (cwV 0 X.1.2.2.2.2 gX6_nextBed_X4_bedToDig rfl rfl rfl (by decide +kernel) ⟨Nat.le_of_ble_eq_true rfl, Nat.le_of_ble_eq_true rfl⟩) (q0 := (q + 1)) (ci := 2) rfl (hw.2.1.1 μ).1 rfl hl.1 rfl (Nat.le_of_ble_eq_true rfl) dX6_nextBed_4 ⟨Nat.zero_le _, Nat.zero_le _⟩) (fun H locs hS => ?_)
  cases h
  exact r_iret X hS hr hlk dX6_nextBed_7
