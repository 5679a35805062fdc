def f_X6_begin_t (q : Nat) (μ : Mem) : Option Int32 := (f_X4_beginFault (q + 1) μ).bind (fun v1 => (rfx v1))
set_option maxHeartbeats 4000000 in
set_option maxRecDepth 100000 in
theorem t_X6_begin (l : Launch) {D : va_G} {cI cG cL : ClassId} {A : Nat → Prop} {tC tS : Nat} {adE adK adV : Nat → Nat} (hE : EnOK (ENV tC tS adE adK adV A) A) {w : Mem → va_W} {ad : Nat → Nat} {q : Nat} {μ : Mem} {r : Int32} (hw : PGAt cI cG adE w ad q) (hst : l.stackTraces = false) (h : f_X6_begin_t q μ = some r) : vx_Met l yX6_begin wsX6_begin (rmx 7 102) (WPre D (tyl cI cG cL) A (ENV tC tS adE adK adV A) (w μ) [.ref (ad q)]) PNo (XX D A (w μ) r) 1 6 A := by
  have hiX6 : ∀ w ∈ u_ws RX6 TX6 3, w ∈ wsX6_begin := by decide +kernel
  have mf12 : Cond.fieldLink RX6 12 (TX6 0).1 (TX6 0).2.1 (TX6 0).2.2.1 ∈ wsX6_begin := by decide +kernel
  refine met_startX (cc := cX6_begin) (nL := 1) (ret := (some .int)) (own := RX6) hE (by decide) rfl rfl (Nat.le_of_ble_eq_true rfl) (fun p e s m args below meth c ls X hout hS hl hr hlk => ?_)
  have hx := X.1.1
  have hb := X.1.2.1
  replace hl : lv_has ls 1 [(0, .ref (ad q))] := hl
  unfold f_X6_begin_t at h
  refine lv_aload_n hx hb dX6_begin_0 rfl (lv_at hl 0 rfl) ?_
  refine r_get X hS (T := TX6) (k := 0) (hw.1 μ).1 rfl hiX6 (by decide) mf12 rfl dX6_begin_1 ?_
  obtain ⟨v1, ev1, h⟩ := ob h
  refine r_ci hS (r_runV (As := []) (rest := []) X hS (c_X4_beginFault l hE (w := w) (ad := ad) (μ := μ) (D := D) (cI := cI) (cG := cG) (cL := cL) hw.2.1 ev1) (cwV 0 X.1.2.2.2.2 gX6_begin_X4_beginFault rfl rfl rfl (by decide +kernel) ⟨Nat.le_of_ble_eq_true rfl, Nat.le_of_ble_eq_true rfl⟩) (q0 := (q + 1)) (ci := 2) rfl (hw.2.1.1 μ).1 rfl hl.1 rfl (Nat.le_of_ble_eq_true rfl) dX6_begin_4 ⟨Nat.zero_le _, Nat.zero_le _⟩) (fun H locs hS => ?_)
  exact r_refX X hS hout (t_X6_refuse l hE hst (w := w) (ad := ad) (μ := μ) (D := D) (cI := cI) (cG := cG) (cL := cL) h) (va_cwS 1 X.1.2.2.2.2 gX6_begin_X6_refuse rfl rfl rfl (by decide +kernel) ⟨Nat.le_of_ble_eq_true rfl, Nat.le_of_ble_eq_true rfl⟩) hl.1 rfl (Nat.le_of_ble_eq_true rfl) dX6_begin_7 ⟨Nat.le_of_ble_eq_true rfl, Nat.le_of_ble_eq_true rfl⟩ hlk
def f_X6_put_t (q : Nat) (a1 : Int32) (a2 : Int32) (μ : Mem) : Option Int32 := (f_X4_putFault (q + 1) a1 a2 μ).bind (fun v1 => (rfx v1))
set_option maxHeartbeats 4000000 in
set_option maxRecDepth 100000 in
theorem t_X6_put (l : Launch) {D : va_G} {cI cG cL : ClassId} {A : Nat → Prop} {tC tS : Nat} {adE adK adV : Nat → Nat} (hE : EnOK (ENV tC tS adE adK adV A) A) {w : Mem → va_W} {ad : Nat → Nat} {q : Nat} {a1 : Int32} {a2 : Int32} {μ : Mem} {r : Int32} (hw : PGAt cI cG adE w ad q) (hst : l.stackTraces = false) (h : f_X6_put_t q a1 a2 μ = some r) : vx_Met l yX6_put wsX6_put (rmx 7 128) (WPre D (tyl cI cG cL) A (ENV tC tS adE adK adV A) (w μ) [.ref (ad q), .int a1, .int a2]) PNo (XX D A (w μ) r) 1 6 A := by
  have hiX6 : ∀ w ∈ u_ws RX6 TX6 3, w ∈ wsX6_put := by decide +kernel
  have mf12 : Cond.fieldLink RX6 12 (TX6 0).1 (TX6 0).2.1 (TX6 0).2.2.1 ∈ wsX6_put := by decide +kernel
  refine met_startX (cc := cX6_put) (nL := 3) (ret := (some .int)) (own := RX6) hE (by decide) rfl rfl (Nat.le_of_ble_eq_true rfl) (fun p e s m args below meth c ls X hout hS hl hr hlk => ?_)
  have hx := X.1.1
  have hb := X.1.2.1
  replace hl : lv_has ls 3 [(0, .ref (ad q)), (1, .int a1), (2, .int a2)] := hl
  unfold f_X6_put_t at h
  refine lv_aload_n hx hb dX6_put_0 rfl (lv_at hl 0 rfl) ?_
  refine r_get X hS (T := TX6) (k := 0) (hw.1 μ).1 rfl hiX6 (by decide) mf12 rfl dX6_put_1 ?_
  refine lv_iload_n hx hb dX6_put_4 rfl (lv_at hl 1 rfl) ?_
  refine lv_iload_n hx hb dX6_put_5 rfl (lv_at hl 2 rfl) ?_
  obtain ⟨v1, ev1, h⟩ := ob h
  refine r_ci hS (r_runV (As := [.int a1, .int a2]) (rest := []) X hS (c_X4_putFault l hE (w := w) (ad := ad) (μ := μ) (D := D) (cI := cI) (cG := cG) (cL := cL) hw.2.1 ev1) (cwV 2 X.1.2.2.2.2 gX6_put_X4_putFault rfl rfl rfl (by decide +kernel) ⟨Nat.le_of_ble_eq_true rfl, Nat.le_of_ble_eq_true rfl⟩) (q0 := (q + 1)) (ci := 2) rfl (hw.2.1.1 μ).1 rfl hl.1 rfl (Nat.le_of_ble_eq_true rfl) dX6_put_6 ⟨Nat.zero_le _, Nat.zero_le _⟩) (fun H locs hS => ?_)
  exact r_refX X hS hout (t_X6_refuse l hE hst (w := w) (ad := ad) (μ := μ) (D := D) (cI := cI) (cG := cG) (cL := cL) h) (va_cwS 1 X.1.2.2.2.2 gX6_put_X6_refuse rfl rfl rfl (by decide +kernel) ⟨Nat.le_of_ble_eq_true rfl, Nat.le_of_ble_eq_true rfl⟩) hl.1 rfl (Nat.le_of_ble_eq_true rfl) dX6_put_9 ⟨Nat.le_of_ble_eq_true rfl, Nat.le_of_ble_eq_true rfl⟩ hlk
def f_X6_remove_t (q : Nat) (a1 : Int32) (μ : Mem) : Option Int32 := (f_X4_removeFault (q + 1) a1 μ).bind (fun v1 => (rfx v1))
set_option maxHeartbeats 4000000 in
set_option maxRecDepth 100000 in
theorem t_X6_remove (l : Launch) {D : va_G} {cI cG cL : ClassId} {A : Nat → Prop} {tC tS : Nat} {adE adK adV : Nat → Nat} (hE : EnOK (ENV tC tS adE adK adV A) A) {w : Mem → va_W} {ad : Nat → Nat} {q : Nat} {a1 : Int32} {μ : Mem} {r : Int32} (hw : PGAt cI cG adE w ad q) (hst : l.stackTraces = false) (h : f_X6_remove_t q a1 μ = some r) : vx_Met l yX6_remove wsX6_remove (rmx 7 120) (WPre D (tyl cI cG cL) A (ENV tC tS adE adK adV A) (w μ) [.ref (ad q), .int a1]) PNo (XX D A (w μ) r) 1 6 A := by
  have hiX6 : ∀ w ∈ u_ws RX6 TX6 3, w ∈ wsX6_remove := by decide +kernel
  have mf12 : Cond.fieldLink RX6 12 (TX6 0).1 (TX6 0).2.1 (TX6 0).2.2.1 ∈ wsX6_remove := by decide +kernel
  refine met_startX (cc := cX6_remove) (nL := 2) (ret := (some .int)) (own := RX6) hE (by decide) rfl rfl (Nat.le_of_ble_eq_true rfl) (fun p e s m args below meth c ls X hout hS hl hr hlk => ?_)
  have hx := X.1.1
  have hb := X.1.2.1
  replace hl : lv_has ls 2 [(0, .ref (ad q)), (1, .int a1)] := hl
  unfold f_X6_remove_t at h
  refine lv_aload_n hx hb dX6_remove_0 rfl (lv_at hl 0 rfl) ?_
  refine r_get X hS (T := TX6) (k := 0) (hw.1 μ).1 rfl hiX6 (by decide) mf12 rfl dX6_remove_1 ?_
  refine lv_iload_n hx hb dX6_remove_4 rfl (lv_at hl 1 rfl) ?_
  obtain ⟨v1, ev1, h⟩ := ob h
  refine r_ci hS (r_runV (As := [.int a1]) (rest := []) X hS (c_X4_removeFault l hE (w := w) (ad := ad) (μ := μ) (D := D) (cI := cI) (cG := cG) (cL := cL) hw.2.1 ev1) (cwV 1 X.1.2.2.2.2 gX6_remove_X4_removeFault rfl rfl rfl (by decide +kernel) ⟨Nat.le_of_ble_eq_true rfl, Nat.le_of_ble_eq_true rfl⟩) (q0 := (q + 1)) (ci := 2) rfl (hw.2.1.1 μ).1 rfl hl.1 rfl (Nat.le_of_ble_eq_true rfl) dX6_remove_5 ⟨Nat.zero_le _, Nat.zero_le _⟩) (fun H locs hS => ?_)
  exact r_refX X hS hout (t_X6_refuse l hE hst (w := w) (ad := ad) (μ := μ) (D := D) (cI := cI) (cG := cG) (cL := cL) h) (va_cwS 1 X.1.2.2.2.2 gX6_remove_X6_refuse rfl rfl rfl (by decide +kernel) ⟨Nat.le_of_ble_eq_true rfl, Nat.le_of_ble_eq_true rfl⟩) hl.1 rfl (Nat.le_of_ble_eq_true rfl) dX6_remove_8 ⟨Nat.le_of_ble_eq_true rfl, Nat.le_of_ble_eq_true rfl⟩ hlk
def f_X6_commit_t (q : Nat) (a1 : Int32) (μ : Mem) : Option Int32 := (f_X4_commitFault (q + 1) a1 μ).bind (fun v1 => (rfx v1))
set_option maxHeartbeats 4000000 in
set_option maxRecDepth 100000 in
theorem t_X6_commit (l : Launch) {D : va_G} {cI cG cL : ClassId} {A : Nat → Prop} {tC tS : Nat} {adE adK adV : Nat → Nat} (hE : EnOK (ENV tC tS adE adK adV A) A) {w : Mem → va_W} {ad : Nat → Nat} {q : Nat} {a1 : Int32} {μ : Mem} {r : Int32} (hw : PGAt cI cG adE w ad q) (hst : l.stackTraces = false) (h : f_X6_commit_t q a1 μ = some r) : vx_Met l yX6_commit wsX6_commit (rmx 7 106) (WPre D (tyl cI cG cL) A (ENV tC tS adE adK adV A) (w μ) [.ref (ad q), .int a1]) PNo (XX D A (w μ) r) 1 6 A := by
  have hiX6 : ∀ w ∈ u_ws RX6 TX6 3, w ∈ wsX6_commit := by decide +kernel
  have mf12 : Cond.fieldLink RX6 12 (TX6 0).1 (TX6 0).2.1 (TX6 0).2.2.1 ∈ wsX6_commit := by decide +kernel
  refine met_startX (cc := cX6_commit) (nL := 2) (ret := (some .int)) (own := RX6) hE (by decide) rfl rfl (Nat.le_of_ble_eq_true rfl) (fun p e s m args below meth c ls X hout hS hl hr hlk => ?_)
  have hx := X.1.1
  have hb := X.1.2.1
  replace hl : lv_has ls 2 [(0, .ref (ad q)), (1, .int a1)] := hl
  unfold f_X6_commit_t at h
  refine lv_aload_n hx hb dX6_commit_0 rfl (lv_at hl 0 rfl) ?_
  refine r_get X hS (T := TX6) (k := 0) (hw.1 μ).1 rfl hiX6 (by decide) mf12 rfl dX6_commit_1 ?_
  refine lv_iload_n hx hb dX6_commit_4 rfl (lv_at hl 1 rfl) ?_
  obtain ⟨v1, ev1, h⟩ := ob h
  refine r_ci hS (r_runV (As := [.int a1]) (rest := []) X hS (c_X4_commitFault l hE (w := w) (ad := ad) (μ := μ) (D := D) (cI := cI) (cG := cG) (cL := cL) hw.2.1 ev1) (cwV 1 X.1.2.2.2.2 gX6_commit_X4_commitFault rfl rfl rfl (by decide +kernel) ⟨Nat.le_of_ble_eq_true rfl, Nat.le_of_ble_eq_true rfl⟩) (q0 := (q + 1)) (ci := 2) rfl (hw.2.1.1 μ).1 rfl hl.1 rfl (Nat.le_of_ble_eq_true rfl) dX6_commit_5 ⟨Nat.zero_le _, Nat.zero_le _⟩) (fun H locs hS => ?_)
  exact r_refX X hS hout (t_X6_refuse l hE hst (w := w) (ad := ad) (μ := μ) (D := D) (cI := cI) (cG := cG) (cL := cL) h) (va_cwS 1 X.1.2.2.2.2 gX6_commit_X6_refuse rfl rfl rfl (by decide +kernel) ⟨Nat.le_of_ble_eq_true rfl, Nat.le_of_ble_eq_true rfl⟩) hl.1 rfl (Nat.le_of_ble_eq_true rfl) dX6_commit_8 ⟨Nat.le_of_ble_eq_true rfl, Nat.le_of_ble_eq_true rfl⟩ hlk
def f_X6_abort_t (q : Nat) (μ : Mem) : Option Int32 := (f_X4_abortFault (q + 1) μ).bind (fun v1 => (rfx v1))
set_option maxHeartbeats 4000000 in
set_option maxRecDepth 100000 in
theorem t_X6_abort (l : Launch) {D : va_G} {cI cG cL : ClassId} {A : Nat → Prop} {tC tS : Nat} {adE adK adV : Nat → Nat} (hE : EnOK (ENV tC tS adE adK adV A) A) {w : Mem → va_W} {ad : Nat → Nat} {q : Nat} {μ : Mem} {r : Int32} (hw : PGAt cI cG adE w ad q) (hst : l.stackTraces = false) (h : f_X6_abort_t q μ = some r) : vx_Met l yX6_abort wsX6_abort (rmx 7 102) (WPre D (tyl cI cG cL) A (ENV tC tS adE adK adV A) (w μ) [.ref (ad q)]) PNo (XX D A (w μ) r) 1 6 A := by
  have hiX6 : ∀ w ∈ u_ws RX6 TX6 3, w ∈ wsX6_abort := by decide +kernel
  have mf12 : Cond.fieldLink RX6 12 (TX6 0).1 (TX6 0).2.1 (TX6 0).2.2.1 ∈ wsX6_abort := by decide +kernel
  refine met_startX (cc := cX6_abort) (nL := 1) (ret := (some .int)) (own := RX6) hE (by decide) rfl rfl (Nat.le_of_ble_eq_true rfl) (fun p e s m args below meth c ls X hout hS hl hr hlk => ?_)
  have hx := X.1.1
  have hb := X.1.2.1
  replace hl : lv_has ls 1 [(0, .ref (ad q))] := hl
  unfold f_X6_abort_t at h
  refine lv_aload_n hx hb dX6_abort_0 rfl (lv_at hl 0 rfl) ?_
  refine r_get X hS (T := TX6) (k := 0) (hw.1 μ).1 rfl hiX6 (by decide) mf12 rfl dX6_abort_1 ?_
  obtain ⟨v1, ev1, h⟩ := ob h
  refine r_ci hS (r_runV (As := []) (rest := []) X hS (c_X4_abortFault l hE (w := w) (ad := ad) (μ := μ) (D := D) (cI := cI) (cG := cG) (cL := cL) hw.2.1 ev1) (cwV 0 X.1.2.2.2.2 gX6_abort_X4_abortFault rfl rfl rfl (by decide +kernel) ⟨Nat.le_of_ble_eq_true rfl, Nat.le_of_ble_eq_true rfl⟩) (q0 := (q + 1)) (ci := 2) rfl (hw.2.1.1 μ).1 rfl hl.1 rfl (Nat.le_of_ble_eq_true rfl) dX6_abort_4 ⟨Nat.zero_le _, Nat.zero_le _⟩) (fun H locs hS => ?_)
  exact r_refX X hS hout (t_X6_refuse l hE hst (w := w) (ad := ad) (μ := μ) (D := D) (cI := cI) (cG := cG) (cL := cL) h) (va_cwS 1 X.1.2.2.2.2 gX6_abort_X6_refuse rfl rfl rfl (by decide +kernel) ⟨Nat.le_of_ble_eq_true rfl, Nat.le_of_ble_eq_true rfl⟩) hl.1 rfl (Nat.le_of_ble_eq_true rfl) dX6_abort_7 ⟨Nat.le_of_ble_eq_true rfl, Nat.le_of_ble_eq_true rfl⟩ hlk
def f_X6_open_t (q : Nat) (μ : Mem) : Option Int32 := (f_X4_openFault (q + 1) μ).bind (fun v1 => (rfx v1))
set_option maxHeartbeats 4000000 in
set_option maxRecDepth 100000 in
theorem t_X6_open (l : Launch) {D : va_G} {cI cG cL : ClassId} {A : Nat → Prop} {tC tS : Nat} {adE adK adV : Nat → Nat} (hE : EnOK (ENV tC tS adE adK adV A) A) {w : Mem → va_W} {ad : Nat → Nat} {q : Nat} {μ : Mem} {r : Int32} (hw : PGAt cI cG adE w ad q) (hst : l.stackTraces = false) (h : f_X6_open_t q μ = some r) : vx_Met l yX6_open wsX6_open (rmx 7 102) (WPre D (tyl cI cG cL) A (ENV tC tS adE adK adV A) (w μ) [.ref (ad q)]) PNo (XX D A (w μ) r) 1 6 A := by
  have hiX6 : ∀ w ∈ u_ws RX6 TX6 3, w ∈ wsX6_open := by decide +kernel
  have mf12 : Cond.fieldLink RX6 12 (TX6 0).1 (TX6 0).2.1 (TX6 0).2.2.1 ∈ wsX6_open := by decide +kernel
  refine met_startX (cc := cX6_open) (nL := 1) (ret := (some .int)) (own := RX6) hE (by decide) rfl rfl (Nat.le_of_ble_eq_true rfl) (fun p e s m args below meth c ls X hout hS hl hr hlk => ?_)
  have hx := X.1.1
  have hb := X.1.2.1
  replace hl : lv_has ls 1 [(0, .ref (ad q))] := hl
  unfold f_X6_open_t at h
  refine lv_aload_n hx hb dX6_open_0 rfl (lv_at hl 0 rfl) ?_
  refine r_get X hS (T := TX6) (k := 0) (hw.1 μ).1 rfl hiX6 (by decide) mf12 rfl dX6_open_1 ?_
  obtain ⟨v1, ev1, h⟩ := ob h
  refine r_ci hS (r_runV (As := []) (rest := []) X hS (c_X4_openFault l hE (w := w) (ad := ad) (μ := μ) (D := D) (cI := cI) (cG := cG) (cL := cL) hw.2.1 ev1) (cwV 0 X.1.2.2.2.2 gX6_open_X4_openFault rfl rfl rfl (by decide +kernel) ⟨Nat.le_of_ble_eq_true rfl, Nat.le_of_ble_eq_true rfl⟩) (q0 := (q + 1)) (ci := 2) rfl (hw.2.1.1 μ).1 rfl hl.1 rfl (Nat.le_of_ble_eq_true rfl) dX6_open_4 ⟨Nat.zero_le _, Nat.zero_le _⟩) (fun H locs hS => ?_)
  exact r_refX X hS hout (t_X6_refuse l hE hst (w := w) (ad := ad) (μ := μ) (D := D) (cI := cI) (cG := cG) (cL := cL) h) (va_cwS 1 X.1.2.2.2.2 gX6_open_X6_refuse rfl rfl rfl (by decide +kernel) ⟨Nat.le_of_ble_eq_true rfl, Nat.le_of_ble_eq_true rfl⟩) hl.1 rfl (Nat.le_of_ble_eq_true rfl) dX6_open_7 ⟨Nat.le_of_ble_eq_true rfl, Nat.le_of_ble_eq_true rfl⟩ hlk
def f_X6_close_t (q : Nat) (a1 : Int32) (μ : Mem) : Option Int32 := (f_X4_openReaderFault (q + 1) a1 μ).bind (fun v1 => (rfx v1))
set_option maxHeartbeats 4000000 in
set_option maxRecDepth 100000 in
theorem t_X6_close (l : Launch) {D : va_G} {cI cG cL : ClassId} {A : Nat → Prop} {tC tS : Nat} {adE adK adV : Nat → Nat} (hE : EnOK (ENV tC tS adE adK adV A) A) {w : Mem → va_W} {ad : Nat → Nat} {q : Nat} {a1 : Int32} {μ : Mem} {r : Int32} (hw : PGAt cI cG adE w ad q) (hst : l.stackTraces = false) (h : f_X6_close_t q a1 μ = some r) : vx_Met l yX6_close wsX6_close (rmx 7 102) (WPre D (tyl cI cG cL) A (ENV tC tS adE adK adV A) (w μ) [.ref (ad q), .int a1]) PNo (XX D A (w μ) r) 1 6 A := by
  have hiX6 : ∀ w ∈ u_ws RX6 TX6 3, w ∈ wsX6_close := by decide +kernel
  have mf12 : Cond.fieldLink RX6 12 (TX6 0).1 (TX6 0).2.1 (TX6 0).2.2.1 ∈ wsX6_close := by decide +kernel
  refine met_startX (cc := cX6_close) (nL := 2) (ret := (some .int)) (own := RX6) hE (by decide) rfl rfl (Nat.le_of_ble_eq_true rfl) (fun p e s m args below meth c ls X hout hS hl hr hlk => ?_)
  have hx := X.1.1
  have hb := X.1.2.1
  replace hl : lv_has ls 2 [(0, .ref (ad q)), (1, .int a1)] := hl
  unfold f_X6_close_t at h
  refine lv_aload_n hx hb dX6_close_0 rfl (lv_at hl 0 rfl) ?_
  refine r_get X hS (T := TX6) (k := 0) (hw.1 μ).1 rfl hiX6 (by decide) mf12 rfl dX6_close_1 ?_
  refine lv_iload_n hx hb dX6_close_4 rfl (lv_at hl 1 rfl) ?_
  obtain ⟨v1, ev1, h⟩ := ob h
  refine r_ci hS (r_runV (As := [.int a1]) (rest := []) X hS (c_X4_openReaderFault l hE (w := w) (ad := ad) (μ := μ) (D := D) (cI := cI) (cG := cG) (cL := cL) hw.2.1 ev1) (cwV 1 X.1.2.2.2.2 gX6_close_X4_openReaderFault rfl rfl rfl (by decide +kernel) ⟨Nat.le_of_ble_eq_true rfl, Nat.le_of_ble_eq_true rfl⟩) (q0 := (q + 1)) (ci := 2) rfl (hw.2.1.1 μ).1 rfl hl.1 rfl (Nat.le_of_ble_eq_true rfl) dX6_close_5 ⟨Nat.zero_le _, Nat.zero_le _⟩) (fun H locs hS => ?_)
  exact r_refX X hS hout (t_X6_refuse l hE hst (w := w) (ad := ad) (μ := μ) (D := D) (cI := cI) (cG := cG) (cL := cL) h) (va_cwS 1 X.1.2.2.2.2 gX6_close_X6_refuse rfl rfl rfl (by decide +kernel) ⟨Nat.le_of_ble_eq_true rfl, Nat.le_of_ble_eq_true rfl⟩) hl.1 rfl (Nat.le_of_ble_eq_true rfl) dX6_close_8 ⟨Nat.le_of_ble_eq_true rfl, Nat.le_of_ble_eq_true rfl⟩ hlk
def f_X6_get_t (q : Nat) (a1 : Int32) (μ : Mem) : Option Int32 := (f_X6_keyFault a1).bind (fun v1 => (rfx v1))
set_option maxHeartbeats 4000000 in
set_option maxRecDepth 100000 in
theorem t_X6_get (l : Launch) {D : va_G} {cI cG cL : ClassId} {A : Nat → Prop} {tC tS : Nat} {adE adK adV : Nat → Nat} (hE : EnOK (ENV tC tS adE adK adV A) A) {w : Mem → va_W} {ad : Nat → Nat} {q : Nat} {a1 : Int32} {μ : Mem} {r : Int32} (hw : PGAt cI cG adE w ad q) (hst : l.stackTraces = false) (h : f_X6_get_t q a1 μ = some r) : vx_Met l yX6_get wsX6_get (rmx 7 102) (WPre D (tyl cI cG cL) A (ENV tC tS adE adK adV A) (w μ) [.ref (ad q), .int a1]) PNo (XX D A (w μ) r) 1 6 A := by
  refine met_startX (cc := cX6_get) (nL := 2) (ret := (some .int)) (own := RX6) hE (by decide) rfl rfl (Nat.le_of_ble_eq_true rfl) (fun p e s m args below meth c ls X hout hS hl hr hlk => ?_)
  have hx := X.1.1
  have hb := X.1.2.1
  replace hl : lv_has ls 2 [(0, .ref (ad q)), (1, .int a1)] := hl
  unfold f_X6_get_t at h
  refine lv_iload_n hx hb dX6_get_0 rfl (lv_at hl 1 rfl) ?_
  obtain ⟨v1, ev1, h⟩ := ob h
  refine r_ci hS (r_runS (As := [.int a1]) (rest := []) X hS (c_X6_keyFault l hE (w := w) (ad := ad) (μ := μ) (D := D) (cI := cI) (cG := cG) (cL := cL) ev1) (va_cwS 1 X.1.2.2.2.2 gX6_get_X6_keyFault rfl rfl rfl (by decide +kernel) ⟨Nat.le_of_ble_eq_true rfl, Nat.le_of_ble_eq_true rfl⟩) rfl hl.1 rfl (Nat.le_of_ble_eq_true rfl) dX6_get_1 ⟨Nat.zero_le _, Nat.zero_le _⟩) (fun H locs hS => ?_)
  exact r_refX X hS hout (t_X6_refuse l hE hst (w := w) (ad := ad) (μ := μ) (D := D) (cI := cI) (cG := cG) (cL := cL) h) (va_cwS 1 X.1.2.2.2.2 gX6_get_X6_refuse rfl rfl rfl (by decide +kernel) ⟨Nat.le_of_ble_eq_true rfl, Nat.le_of_ble_eq_true rfl⟩) hl.1 rfl (Nat.le_of_ble_eq_true rfl) dX6_get_4 ⟨Nat.le_of_ble_eq_true rfl, Nat.le_of_ble_eq_true rfl⟩ hlk
def f_X6_drafted_t (q : Nat) (a1 : Int32) (μ : Mem) : Option Int32 := (f_X4_draftedFault (q + 1) a1 μ).bind (fun v1 => (rfx v1))
set_option maxHeartbeats 4000000 in
set_option maxRecDepth 100000 in
theorem t_X6_drafted (l : Launch) {D : va_G} {cI cG cL : ClassId} {A : Nat → Prop} {tC tS : Nat} {adE adK adV : Nat → Nat} (hE : EnOK (ENV tC tS adE adK adV A) A) {w : Mem → va_W} {ad : Nat → Nat} {q : Nat} {a1 : Int32} {μ : Mem} {r : Int32} (hw : PGAt cI cG adE w ad q) (hst : l.stackTraces = false) (h : f_X6_drafted_t q a1 μ = some r) : vx_Met l yX6_drafted wsX6_drafted (rmx 7 102) (WPre D (tyl cI cG cL) A (ENV tC tS adE adK adV A) (w μ) [.ref (ad q), .int a1]) PNo (XX D A (w μ) r) 1 6 A := by
  have hiX6 : ∀ w ∈ u_ws RX6 TX6 3, w ∈ wsX6_drafted := by decide +kernel
  have mf12 : Cond.fieldLink RX6 12 (TX6 0).1 (TX6 0).2.1 (TX6 0).2.2.1 ∈ wsX6_drafted := by decide +kernel
  refine met_startX (cc := cX6_drafted) (nL := 2) (ret := (some .int)) (own := RX6) hE (by decide) rfl rfl (Nat.le_of_ble_eq_true rfl) (fun p e s m args below meth c ls X hout hS hl hr hlk => ?_)
  have hx := X.1.1
  have hb := X.1.2.1
  replace hl : lv_has ls 2 [(0, .ref (ad q)), (1, .int a1)] := hl
  unfold f_X6_drafted_t at h
  refine lv_aload_n hx hb dX6_drafted_0 rfl (lv_at hl 0 rfl) ?_
  refine r_get X hS (T := TX6) (k := 0) (hw.1 μ).1 rfl hiX6 (by decide) mf12 rfl dX6_drafted_1 ?_
  refine lv_iload_n hx hb dX6_drafted_4 rfl (lv_at hl 1 rfl) ?_
  obtain ⟨v1, ev1, h⟩ := ob h
  refine r_ci hS (r_runV (As := [.int a1]) (rest := []) X hS (c_X4_draftedFault l hE (w := w) (ad := ad) (μ := μ) (D := D) (cI := cI) (cG := cG) (cL := cL) hw.2.1 ev1) (cwV 1 X.1.2.2.2.2 gX6_drafted_X4_draftedFault rfl rfl rfl (by decide +kernel) ⟨Nat.le_of_ble_eq_true rfl, Nat.le_of_ble_eq_true rfl⟩) (q0 := (q + 1)) (ci := 2) rfl (hw.2.1.1 μ).1 rfl hl.1 rfl (Nat.le_of_ble_eq_true rfl) dX6_drafted_5 ⟨Nat.zero_le _, Nat.zero_le _⟩) (fun H locs hS => ?_)
  exact r_refX X hS hout (t_X6_refuse l hE hst (w := w) (ad := ad) (μ := μ) (D := D) (cI := cI) (cG := cG) (cL := cL) h) (va_cwS 1 X.1.2.2.2.2 gX6_drafted_X6_refuse rfl rfl rfl (by decide +kernel) ⟨Nat.le_of_ble_eq_true rfl, Nat.le_of_ble_eq_true rfl⟩) hl.1 rfl (Nat.le_of_ble_eq_true rfl) dX6_drafted_8 ⟨Nat.le_of_ble_eq_true rfl, Nat.le_of_ble_eq_true rfl⟩ hlk
def f_X6_read_t (q : Nat) (a1 : Int32) (a2 : Int32) (μ : Mem) : Option Int32 := (f_X4_readFault (q + 1) a1 a2 μ).bind (fun v1 => (rfx v1))
set_option maxHeartbeats 4000000 in
set_option maxRecDepth 100000 in
theorem t_X6_read (l : Launch) {D : va_G} {cI cG cL : ClassId} {A : Nat → Prop} {tC tS : Nat} {adE adK adV : Nat → Nat} (hE : EnOK (ENV tC tS adE adK adV A) A) {w : Mem → va_W} {ad : Nat → Nat} {q : Nat} {a1 : Int32} {a2 : Int32} {μ : Mem} {r : Int32} (hw : PGAt cI cG adE w ad q) (hst : l.stackTraces = false) (h : f_X6_read_t q a1 a2 μ = some r) : vx_Met l yX6_read wsX6_read (rmx 7 102) (WPre D (tyl cI cG cL) A (ENV tC tS adE adK adV A) (w μ) [.ref (ad q), .int a1, .int a2]) PNo (XX D A (w μ) r) 1 6 A := by
  have hiX6 : ∀ w ∈ u_ws RX6 TX6 3, w ∈ wsX6_read := by decide +kernel
  have mf12 : Cond.fieldLink RX6 12 (TX6 0).1 (TX6 0).2.1 (TX6 0).2.2.1 ∈ wsX6_read := by decide +kernel
  refine met_startX (cc := cX6_read) (nL := 3) (ret := (some .int)) (own := RX6) hE (by decide) rfl rfl (Nat.le_of_ble_eq_true rfl) (fun p e s m args below meth c ls X hout hS hl hr hlk => ?_)
  have hx := X.1.1
  have hb := X.1.2.1
  replace hl : lv_has ls 3 [(0, .ref (ad q)), (1, .int a1), (2, .int a2)] := hl
  unfold f_X6_read_t at h
  refine lv_aload_n hx hb dX6_read_0 rfl (lv_at hl 0 rfl) ?_
  refine r_get X hS (T := TX6) (k := 0) (hw.1 μ).1 rfl hiX6 (by decide) mf12 rfl dX6_read_1 ?_
  refine lv_iload_n hx hb dX6_read_4 rfl (lv_at hl 1 rfl) ?_
  refine lv_iload_n hx hb dX6_read_5 rfl (lv_at hl 2 rfl) ?_
  obtain ⟨v1, ev1, h⟩ := ob h
  refine r_ci hS (r_runV (As := [.int a1, .int a2]) (rest := []) X hS (c_X4_readFault l hE (w := w) (ad := ad) (μ := μ) (D := D) (cI := cI) (cG := cG) (cL := cL) hw.2.1 ev1) (cwV 2 X.1.2.2.2.2 gX6_read_X4_readFault rfl rfl rfl (by decide +kernel) ⟨Nat.le_of_ble_eq_true rfl, Nat.le_of_ble_eq_true rfl⟩) (q0 := (q + 1)) (ci := 2) rfl (hw.2.1.1 μ).1 rfl hl.1 rfl (Nat.le_of_ble_eq_true rfl) dX6_read_6 ⟨Nat.zero_le _, Nat.zero_le _⟩) (fun H locs hS => ?_)
  exact r_refX X hS hout (t_X6_refuse l hE hst (w := w) (ad := ad) (μ := μ) (D := D) (cI := cI) (cG := cG) (cL := cL) h) (va_cwS 1 X.1.2.2.2.2 gX6_read_X6_refuse rfl rfl rfl (by decide +kernel) ⟨Nat.le_of_ble_eq_true rfl, Nat.le_of_ble_eq_true rfl⟩) hl.1 rfl (Nat.le_of_ble_eq_true rfl) dX6_read_9 ⟨Nat.le_of_ble_eq_true rfl, Nat.le_of_ble_eq_true rfl⟩ hlk
def f_X6_entry_t (q : Nat) (a1 : Int32) (a2 : Int32) (μ : Mem) : Option Int32 := (f_X4_currentEntries (q + 1) μ).bind (fun v1 => (f_X6_partFault a1 v1 a2 4).bind (fun v2 => (rfx v2)))
set_option maxHeartbeats 4000000 in
set_option maxRecDepth 100000 in
theorem t_X6_entry (l : Launch) {D : va_G} {cI cG cL : ClassId} {A : Nat → Prop} {tC tS : Nat} {adE adK adV : Nat → Nat} (hE : EnOK (ENV tC tS adE adK adV A) A) {w : Mem → va_W} {ad : Nat → Nat} {q : Nat} {a1 : Int32} {a2 : Int32} {μ : Mem} {r : Int32} (hw : PGAt cI cG adE w ad q) (hst : l.stackTraces = false) (h : f_X6_entry_t q a1 a2 μ = some r) : vx_Met l yX6_entry wsX6_entry (rmx 7 102) (WPre D (tyl cI cG cL) A (ENV tC tS adE adK adV A) (w μ) [.ref (ad q), .int a1, .int a2]) PNo (XX D A (w μ) r) 1 6 A := by
  have hiX6 : ∀ w ∈ u_ws RX6 TX6 3, w ∈ wsX6_entry := by decide +kernel
  have mf12 : Cond.fieldLink RX6 12 (TX6 0).1 (TX6 0).2.1 (TX6 0).2.2.1 ∈ wsX6_entry := by decide +kernel
  refine met_startX (cc := cX6_entry) (nL := 3) (ret := (some .int)) (own := RX6) hE (by decide) rfl rfl (Nat.le_of_ble_eq_true rfl) (fun p e s m args below meth c ls X hout hS hl hr hlk => ?_)
  have hx := X.1.1
  have hb := X.1.2.1
  replace hl : lv_has ls 3 [(0, .ref (ad q)), (1, .int a1), (2, .int a2)] := hl
  unfold f_X6_entry_t at h
  refine lv_iload_n hx hb dX6_entry_0 rfl (lv_at hl 1 rfl) ?_
  refine lv_aload_n hx hb dX6_entry_1 rfl (lv_at hl 0 rfl) ?_
  refine r_get X hS (T := TX6) (k := 0) (hw.1 μ).1 rfl hiX6 (by decide) mf12 rfl dX6_entry_2 ?_
  obtain ⟨v1, ev1, h⟩ := ob h
  refine r_ci hS (r_runV (As := []) (rest := [.int a1]) X hS (c_X4_currentEntries l hE (w := w) (ad := ad) (μ := μ) (D := D) (cI := cI) (cG := cG) (cL := cL) hw.2.1 ev1) (cwV 0 X.1.2.2.2.2 gX6_entry_X4_currentEntries rfl rfl rfl (by decide +kernel) ⟨Nat.le_of_ble_eq_true rfl, Nat.le_of_ble_eq_true rfl⟩) (q0 := (q + 1)) (ci := 2) rfl (hw.2.1.1 μ).1 rfl hl.1 rfl (Nat.le_of_ble_eq_true rfl) dX6_entry_5 ⟨Nat.zero_le _, Nat.zero_le _⟩) (fun H locs hS => ?_)
  refine lv_iload_n hx hb dX6_entry_8 rfl (lv_at hl 2 rfl) ?_
  refine lv_iconst (v := 4) hx hb dX6_entry_9 (by decide) ?_
  obtain ⟨v2, ev2, h⟩ := ob h
  refine r_ci hS (r_runS (As := [.int a1, .int v1, .int a2, .int 4]) (rest := []) X hS (c_X6_partFault l hE (w := w) (ad := ad) (μ := μ) (D := D) (cI := cI) (cG := cG) (cL := cL) ev2) (va_cwS 4 X.1.2.2.2.2 gX6_entry_X6_partFault rfl rfl rfl (by decide +kernel) ⟨Nat.le_of_ble_eq_true rfl, Nat.le_of_ble_eq_true rfl⟩) rfl hl.1 rfl (Nat.le_of_ble_eq_true rfl) dX6_entry_10 ⟨Nat.zero_le _, Nat.zero_le _⟩) (fun H locs hS => ?_)
  exact r_refX X hS hout (t_X6_refuse l hE hst (w := w) (ad := ad) (μ := μ) (D := D) (cI := cI) (cG := cG) (cL := cL) h) (va_cwS 1 X.1.2.2.2.2 gX6_entry_X6_refuse rfl rfl rfl (by decide +kernel) ⟨Nat.le_of_ble_eq_true rfl, Nat.le_of_ble_eq_true rfl⟩) hl.1 rfl (Nat.le_of_ble_eq_true rfl) dX6_entry_13 ⟨Nat.le_of_ble_eq_true rfl, Nat.le_of_ble_eq_true rfl⟩ hlk
def f_X6_root_t (q : Nat) (a1 : Int32) (a2 : Int32) (μ : Mem) : Option Int32 := (f_X6_partFault a1 2 a2 4).bind (fun v1 => (rfx v1))
set_option maxHeartbeats 4000000 in
set_option maxRecDepth 100000 in
theorem t_X6_root (l : Launch) {D : va_G} {cI cG cL : ClassId} {A : Nat → Prop} {tC tS : Nat} {adE adK adV : Nat → Nat} (hE : EnOK (ENV tC tS adE adK adV A) A) {w : Mem → va_W} {ad : Nat → Nat} {q : Nat} {a1 : Int32} {a2 : Int32} {μ : Mem} {r : Int32} (hw : PGAt cI cG adE w ad q) (hst : l.stackTraces = false) (h : f_X6_root_t q a1 a2 μ = some r) : vx_Met l yX6_root wsX6_root (rmx 7 102) (WPre D (tyl cI cG cL) A (ENV tC tS adE adK adV A) (w μ) [.ref (ad q), .int a1, .int a2]) PNo (XX D A (w μ) r) 1 6 A := by
  refine met_startX (cc := cX6_root) (nL := 3) (ret := (some .int)) (own := RX6) hE (by decide) rfl rfl (Nat.le_of_ble_eq_true rfl) (fun p e s m args below meth c ls X hout hS hl hr hlk => ?_)
  have hx := X.1.1
  have hb := X.1.2.1
  replace hl : lv_has ls 3 [(0, .ref (ad q)), (1, .int a1), (2, .int a2)] := hl
  unfold f_X6_root_t at h
  refine lv_iload_n hx hb dX6_root_0 rfl (lv_at hl 1 rfl) ?_
  refine lv_iconst (v := 2) hx hb dX6_root_1 (by decide) ?_
  refine lv_iload_n hx hb dX6_root_2 rfl (lv_at hl 2 rfl) ?_
  refine lv_iconst (v := 4) hx hb dX6_root_3 (by decide) ?_
  obtain ⟨v1, ev1, h⟩ := ob h
  refine r_ci hS (r_runS (As := [.int a1, .int 2, .int a2, .int 4]) (rest := []) X hS (c_X6_partFault l hE (w := w) (ad := ad) (μ := μ) (D := D) (cI := cI) (cG := cG) (cL := cL) ev1) (va_cwS 4 X.1.2.2.2.2 gX6_root_X6_partFault rfl rfl rfl (by decide +kernel) ⟨Nat.le_of_ble_eq_true rfl, Nat.le_of_ble_eq_true rfl⟩) rfl hl.1 rfl (Nat.le_of_ble_eq_true rfl) dX6_root_4 ⟨Nat.zero_le _, Nat.zero_le _⟩) (fun H locs hS => ?_)
  exact r_refX X hS hout (t_X6_refuse l hE hst (w := w) (ad := ad) (μ := μ) (D := D) (cI := cI) (cG := cG) (cL := cL) h) (va_cwS 1 X.1.2.2.2.2 gX6_root_X6_refuse rfl rfl rfl (by decide +kernel) ⟨Nat.le_of_ble_eq_true rfl, Nat.le_of_ble_eq_true rfl⟩) hl.1 rfl (Nat.le_of_ble_eq_true rfl) dX6_root_7 ⟨Nat.le_of_ble_eq_true rfl, Nat.le_of_ble_eq_true rfl⟩ hlk
def f_X6_reader_t (q : Nat) (a1 : Int32) (a2 : Int32) (μ : Mem) : Option Int32 := (f_X6_partFault a1 4 a2 3).bind (fun v1 => (rfx v1))
set_option maxHeartbeats 4000000 in
set_option maxRecDepth 100000 in
theorem t_X6_reader (l : Launch) {D : va_G} {cI cG cL : ClassId} {A : Nat → Prop} {tC tS : Nat} {adE adK adV : Nat → Nat} (hE : EnOK (ENV tC tS adE adK adV A) A) {w : Mem → va_W} {ad : Nat → Nat} {q : Nat} {a1 : Int32} {a2 : Int32} {μ : Mem} {r : Int32} (hw : PGAt cI cG adE w ad q) (hst : l.stackTraces = false) (h : f_X6_reader_t q a1 a2 μ = some r) : vx_Met l yX6_reader wsX6_reader (rmx 7 102) (WPre D (tyl cI cG cL) A (ENV tC tS adE adK adV A) (w μ) [.ref (ad q), .int a1, .int a2]) PNo (XX D A (w μ) r) 1 6 A := by
  refine met_startX (cc := cX6_reader) (nL := 3) (ret := (some .int)) (own := RX6) hE (by decide) rfl rfl (Nat.le_of_ble_eq_true rfl) (fun p e s m args below meth c ls X hout hS hl hr hlk => ?_)
  have hx := X.1.1
  have hb := X.1.2.1
  replace hl : lv_has ls 3 [(0, .ref (ad q)), (1, .int a1), (2, .int a2)] := hl
  unfold f_X6_reader_t at h
  refine lv_iload_n hx hb dX6_reader_0 rfl (lv_at hl 1 rfl) ?_
  refine lv_iconst (v := 4) hx hb dX6_reader_1 (by decide) ?_
  refine lv_iload_n hx hb dX6_reader_2 rfl (lv_at hl 2 rfl) ?_
  refine lv_iconst (v := 3) hx hb dX6_reader_3 (by decide) ?_
  obtain ⟨v1, ev1, h⟩ := ob h
  refine r_ci hS (r_runS (As := [.int a1, .int 4, .int a2, .int 3]) (rest := []) X hS (c_X6_partFault l hE (w := w) (ad := ad) (μ := μ) (D := D) (cI := cI) (cG := cG) (cL := cL) ev1) (va_cwS 4 X.1.2.2.2.2 gX6_reader_X6_partFault rfl rfl rfl (by decide +kernel) ⟨Nat.le_of_ble_eq_true rfl, Nat.le_of_ble_eq_true rfl⟩) rfl hl.1 rfl (Nat.le_of_ble_eq_true rfl) dX6_reader_4 ⟨Nat.zero_le _, Nat.zero_le _⟩) (fun H locs hS => ?_)
  exact r_refX X hS hout (t_X6_refuse l hE hst (w := w) (ad := ad) (μ := μ) (D := D) (cI := cI) (cG := cG) (cL := cL) h) (va_cwS 1 X.1.2.2.2.2 gX6_reader_X6_refuse rfl rfl rfl (by decide +kernel) ⟨Nat.le_of_ble_eq_true rfl, Nat.le_of_ble_eq_true rfl⟩) hl.1 rfl (Nat.le_of_ble_eq_true rfl) dX6_reader_7 ⟨Nat.le_of_ble_eq_true rfl, Nat.le_of_ble_eq_true rfl⟩ hlk
def f_X6_bed_t (q : Nat) (a1 : Int32) (a2 : Int32) (μ : Mem) : Option Int32 := (f_X6_partFault a1 32 a2 6).bind (fun v1 => (rfx v1))
set_option maxHeartbeats 4000000 in
set_option maxRecDepth 100000 in
theorem t_X6_bed (l : Launch) {D : va_G} {cI cG cL : ClassId} {A : Nat → Prop} {tC tS : Nat} {adE adK adV : Nat → Nat} (hE : EnOK (ENV tC tS adE adK adV A) A) {w : Mem → va_W} {ad : Nat → Nat} {q : Nat} {a1 : Int32} {a2 : Int32} {μ : Mem} {r : Int32} (hw : PGAt cI cG adE w ad q) (hst : l.stackTraces = false) (h : f_X6_bed_t q a1 a2 μ = some r) : vx_Met l yX6_bed wsX6_bed (rmx 7 102) (WPre D (tyl cI cG cL) A (ENV tC tS adE adK adV A) (w μ) [.ref (ad q), .int a1, .int a2]) PNo (XX D A (w μ) r) 1 6 A := by
  refine met_startX (cc := cX6_bed) (nL := 3) (ret := (some .int)) (own := RX6) hE (by decide) rfl rfl (Nat.le_of_ble_eq_true rfl) (fun p e s m args below meth c ls X hout hS hl hr hlk => ?_)
  have hx := X.1.1
  have hb := X.1.2.1
  replace hl : lv_has ls 3 [(0, .ref (ad q)), (1, .int a1), (2, .int a2)] := hl
  unfold f_X6_bed_t at h
  refine lv_iload_n hx hb dX6_bed_0 rfl (lv_at hl 1 rfl) ?_
  refine lv_bipush (v := 32) hx hb dX6_bed_1 (by decide) ?_
  refine lv_iload_n hx hb dX6_bed_3 rfl (lv_at hl 2 rfl) ?_
  refine lv_bipush (v := 6) hx hb dX6_bed_4 (by decide) ?_
  obtain ⟨v1, ev1, h⟩ := ob h
  refine r_ci hS (r_runS (As := [.int a1, .int 32, .int a2, .int 6]) (rest := []) X hS (c_X6_partFault l hE (w := w) (ad := ad) (μ := μ) (D := D) (cI := cI) (cG := cG) (cL := cL) ev1) (va_cwS 4 X.1.2.2.2.2 gX6_bed_X6_partFault rfl rfl rfl (by decide +kernel) ⟨Nat.le_of_ble_eq_true rfl, Nat.le_of_ble_eq_true rfl⟩) rfl hl.1 rfl (Nat.le_of_ble_eq_true rfl) dX6_bed_6 ⟨Nat.zero_le _, Nat.zero_le _⟩) (fun H locs hS => ?_)
  exact r_refX X hS hout (t_X6_refuse l hE hst (w := w) (ad := ad) (μ := μ) (D := D) (cI := cI) (cG := cG) (cL := cL) h) (va_cwS 1 X.1.2.2.2.2 gX6_bed_X6_refuse rfl rfl rfl (by decide +kernel) ⟨Nat.le_of_ble_eq_true rfl, Nat.le_of_ble_eq_true rfl⟩) hl.1 rfl (Nat.le_of_ble_eq_true rfl) dX6_bed_9 ⟨Nat.le_of_ble_eq_true rfl, Nat.le_of_ble_eq_true rfl⟩ hlk
def f_X6_whole_t_b14 (q : Nat) (x1 : Int32) (s0 : Int32) (μ : Mem) : Option Int32 := (rfx s0)
def f_X6_whole_t (q : Nat) (a1 : Int32) (μ : Mem) : Option Int32 := (f_X6_isBelow a1 15).bind (fun v1 => (if v1 = 0 then f_X6_whole_t_b14 q a1 2 μ else f_X6_whole_t_b14 q a1 0 μ))
set_option maxHeartbeats 4000000 in
set_option maxRecDepth 100000 in
theorem t_X6_whole (l : Launch) {D : va_G} {cI cG cL : ClassId} {A : Nat → Prop} {tC tS : Nat} {adE adK adV : Nat → Nat} (hE : EnOK (ENV tC tS adE adK adV A) A) {w : Mem → va_W} {ad : Nat → Nat} {q : Nat} {a1 : Int32} {μ : Mem} {r : Int32} (hw : PGAt cI cG adE w ad q) (hst : l.stackTraces = false) (h : f_X6_whole_t q a1 μ = some r) : vx_Met l yX6_whole wsX6_whole (rmx 7 102) (WPre D (tyl cI cG cL) A (ENV tC tS adE adK adV A) (w μ) [.ref (ad q), .int a1]) PNo (XX D A (w μ) r) 1 6 A := by
  refine met_startX (cc := cX6_whole) (nL := 2) (ret := (some .int)) (own := RX6) hE (by decide) rfl rfl (Nat.le_of_ble_eq_true rfl) (fun p e s m args below meth c ls X hout hS hl hr hlk => ?_)
  have hx := X.1.1
  have hb := X.1.2.1
  replace hl : lv_has ls 2 [(0, .ref (ad q)), (1, .int a1)] := hl
  have hb14 : ∀ (x1 : Int32) (s0 : Int32) (H : Heap) (locs : List Loc) (ls : Array Slot), HS D A (w μ) s.heap H locs → lv_has ls 2 [(0, .ref (ad q)), (1, .int x1)] → f_X6_whole_t_b14 q x1 s0 μ = some r → W p l e (headSpec wsX6_whole (rmx 7 102)).room s m args below meth c H locs 0 0 (vx_MQ below PNo (XX D A (w μ) r) args s 1 6 A) (F0 m 14 ls [.int s0]) := by
    intro x1 s0 H locs ls hS hl h
    unfold f_X6_whole_t_b14 at h
    exact r_refX X hS hout (t_X6_refuse l hE hst (w := w) (ad := ad) (μ := μ) (D := D) (cI := cI) (cG := cG) (cL := cL) h) (va_cwS 1 X.1.2.2.2.2 gX6_whole_X6_refuse rfl rfl rfl (by decide +kernel) ⟨Nat.le_of_ble_eq_true rfl, Nat.le_of_ble_eq_true rfl⟩) hl.1 rfl (Nat.le_of_ble_eq_true rfl) dX6_whole_14 ⟨Nat.le_of_ble_eq_true rfl, Nat.le_of_ble_eq_true rfl⟩ hlk
  unfold f_X6_whole_t at h
  refine lv_iload_n hx hb dX6_whole_0 rfl (lv_at hl 1 rfl) ?_
  refine lv_bipush (v := 15) hx hb dX6_whole_1 (by decide) ?_
  obtain ⟨v1, ev1, h⟩ := ob h
  refine r_ci hS (r_runS (As := [.int a1, .int 15]) (rest := []) X hS (c_X6_isBelow l hE (w := w) (ad := ad) (μ := μ) (D := D) (cI := cI) (cG := cG) (cL := cL) ev1) (va_cwS 2 X.1.2.2.2.2 gX6_whole_X6_isBelow rfl rfl rfl (by decide +kernel) ⟨Nat.le_of_ble_eq_true rfl, Nat.le_of_ble_eq_true rfl⟩) rfl hl.1 rfl (Nat.le_of_ble_eq_true rfl) dX6_whole_3 ⟨Nat.zero_le _, Nat.zero_le _⟩) (fun H locs hS => ?_)
  refine lv_if_eq (tgt := 13) hx hb dX6_whole_6 (by decide) (fun cc => ?_) (fun cc => ?_)
  · replace h := it h cc
    refine lv_iconst (v := 2) hx hb dX6_whole_13 (by decide) ?_
    exact hb14 a1 2 _ _ _ hS (lv_sub hl [0, 1] rfl) h
  · replace h := ie h cc
    refine lv_iconst (v := 0) hx hb dX6_whole_9 (by decide) ?_
    refine lv_goto (tgt := 14) hx hb dX6_whole_10 (by decide) ?_
    exact hb14 a1 0 _ _ _ hS (lv_sub hl [0, 1] rfl) h
def f_X6_bedsFor_t (q : Nat) (a1 : Int32) (μ : Mem) : Option Int32 := (f_X4_draftedFault (q + 1) a1 μ).bind (fun v1 => (rfx v1))
set_option maxHeartbeats 4000000 in
set_option maxRecDepth 100000 in
theorem t_X6_bedsFor (l : Launch) {D : va_G} {cI cG cL : ClassId} {A : Nat → Prop} {tC tS : Nat} {adE adK adV : Nat → Nat} (hE : EnOK (ENV tC tS adE adK adV A) A) {w : Mem → va_W} {ad : Nat → Nat} {q : Nat} {a1 : Int32} {μ : Mem} {r : Int32} (hw : PGAt cI cG adE w ad q) (hst : l.stackTraces = false) (h : f_X6_bedsFor_t q a1 μ = some r) : vx_Met l yX6_bedsFor wsX6_bedsFor (rmx 7 102) (WPre D (tyl cI cG cL) A (ENV tC tS adE adK adV A) (w μ) [.ref (ad q), .int a1]) PNo (XX D A (w μ) r) 1 6 A := by
  have hiX6 : ∀ w ∈ u_ws RX6 TX6 3, w ∈ wsX6_bedsFor := by decide +kernel
  have mf12 : Cond.fieldLink RX6 12 (TX6 0).1 (TX6 0).2.1 (TX6 0).2.2.1 ∈ wsX6_bedsFor := by decide +kernel
  refine met_startX (cc := cX6_bedsFor) (nL := 2) (ret := (some .int)) (own := RX6) hE (by decide) rfl rfl (Nat.le_of_ble_eq_true rfl) (fun p e s m args below meth c ls X hout hS hl hr hlk => ?_)
  have hx := X.1.1
  have hb := X.1.2.1
  replace hl : lv_has ls 2 [(0, .ref (ad q)), (1, .int a1)] := hl
  unfold f_X6_bedsFor_t at h
  refine lv_aload_n hx hb dX6_bedsFor_0 rfl (lv_at hl 0 rfl) ?_
  refine r_get X hS (T := TX6) (k := 0) (hw.1 μ).1 rfl hiX6 (by decide) mf12 rfl dX6_bedsFor_1 ?_
  refine lv_iload_n hx hb dX6_bedsFor_4 rfl (lv_at hl 1 rfl) ?_
  obtain ⟨v1, ev1, h⟩ := ob h
  refine r_ci hS (r_runV (As := [.int a1]) (rest := []) X hS (c_X4_draftedFault l hE (w := w) (ad := ad) (μ := μ) (D := D) (cI := cI) (cG := cG) (cL := cL) hw.2.1 ev1) (cwV 1 X.1.2.2.2.2 gX6_bedsFor_X4_draftedFault rfl rfl rfl (by decide +kernel) ⟨Nat.le_of_ble_eq_true rfl, Nat.le_of_ble_eq_true rfl⟩) (q0 := (q + 1)) (ci := 2) rfl (hw.2.1.1 μ).1 rfl hl.1 rfl (Nat.le_of_ble_eq_true rfl) dX6_bedsFor_5 ⟨Nat.zero_le _, Nat.zero_le _⟩) (fun H locs hS => ?_)
  exact r_refX X hS hout (t_X6_refuse l hE hst (w := w) (ad := ad) (μ := μ) (D := D) (cI := cI) (cG := cG) (cL := cL) h) (va_cwS 1 X.1.2.2.2.2 gX6_bedsFor_X6_refuse rfl rfl rfl (by decide +kernel) ⟨Nat.le_of_ble_eq_true rfl, Nat.le_of_ble_eq_true rfl⟩) hl.1 rfl (Nat.le_of_ble_eq_true rfl) dX6_bedsFor_8 ⟨Nat.le_of_ble_eq_true rfl, Nat.le_of_ble_eq_true rfl⟩ hlk
def f_X6_reason_t (q : Nat) (a1 : Int32) (μ : Mem) : Option Int32 := (f_X4_draftedFault (q + 1) a1 μ).bind (fun v1 => (rfx v1))
set_option maxHeartbeats 4000000 in
set_option maxRecDepth 100000 in
theorem t_X6_reason (l : Launch) {D : va_G} {cI cG cL : ClassId} {A : Nat → Prop} {tC tS : Nat} {adE adK adV : Nat → Nat} (hE : EnOK (ENV tC tS adE adK adV A) A) {w : Mem → va_W} {ad : Nat → Nat} {q : Nat} {a1 : Int32} {μ : Mem} {r : Int32} (hw : PGAt cI cG adE w ad q) (hst : l.stackTraces = false) (h : f_X6_reason_t q a1 μ = some r) : vx_Met l yX6_reason wsX6_reason (rmx 7 106) (WPre D (tyl cI cG cL) A (ENV tC tS adE adK adV A) (w μ) [.ref (ad q), .int a1]) PNo (XX D A (w μ) r) 1 6 A := by
  have hiX6 : ∀ w ∈ u_ws RX6 TX6 3, w ∈ wsX6_reason := by decide +kernel
  have mf12 : Cond.fieldLink RX6 12 (TX6 0).1 (TX6 0).2.1 (TX6 0).2.2.1 ∈ wsX6_reason := by decide +kernel
  refine met_startX (cc := cX6_reason) (nL := 2) (ret := (some .int)) (own := RX6) hE (by decide) rfl rfl (Nat.le_of_ble_eq_true rfl) (fun p e s m args below meth c ls X hout hS hl hr hlk => ?_)
  have hx := X.1.1
  have hb := X.1.2.1
  replace hl : lv_has ls 2 [(0, .ref (ad q)), (1, .int a1)] := hl
  unfold f_X6_reason_t at h
  refine lv_aload_n hx hb dX6_reason_0 rfl (lv_at hl 0 rfl) ?_
  refine r_get X hS (T := TX6) (k := 0) (hw.1 μ).1 rfl hiX6 (by decide) mf12 rfl dX6_reason_1 ?_
  refine lv_iload_n hx hb dX6_reason_4 rfl (lv_at hl 1 rfl) ?_
  obtain ⟨v1, ev1, h⟩ := ob h
  refine r_ci hS (r_runV (As := [.int a1]) (rest := []) X hS (c_X4_draftedFault l hE (w := w) (ad := ad) (μ := μ) (D := D) (cI := cI) (cG := cG) (cL := cL) hw.2.1 ev1) (cwV 1 X.1.2.2.2.2 gX6_reason_X4_draftedFault rfl rfl rfl (by decide +kernel) ⟨Nat.le_of_ble_eq_true rfl, Nat.le_of_ble_eq_true rfl⟩) (q0 := (q + 1)) (ci := 2) rfl (hw.2.1.1 μ).1 rfl hl.1 rfl (Nat.le_of_ble_eq_true rfl) dX6_reason_5 ⟨Nat.zero_le _, Nat.zero_le _⟩) (fun H locs hS => ?_)
  exact r_refX X hS hout (t_X6_refuse l hE hst (w := w) (ad := ad) (μ := μ) (D := D) (cI := cI) (cG := cG) (cL := cL) h) (va_cwS 1 X.1.2.2.2.2 gX6_reason_X6_refuse rfl rfl rfl (by decide +kernel) ⟨Nat.le_of_ble_eq_true rfl, Nat.le_of_ble_eq_true rfl⟩) hl.1 rfl (Nat.le_of_ble_eq_true rfl) dX6_reason_8 ⟨Nat.le_of_ble_eq_true rfl, Nat.le_of_ble_eq_true rfl⟩ hlk
def f_X6_neededWithout_t (q : Nat) (a1 : Int32) (μ : Mem) : Option Int32 := (f_X4_openReaderFault (q + 1) a1 μ).bind (fun v1 => (rfx v1))
set_option maxHeartbeats 4000000 in
set_option maxRecDepth 100000 in
theorem t_X6_neededWithout (l : Launch) {D : va_G} {cI cG cL : ClassId} {A : Nat → Prop} {tC tS : Nat} {adE adK adV : Nat → Nat} (hE : EnOK (ENV tC tS adE adK adV A) A) {w : Mem → va_W} {ad : Nat → Nat} {q : Nat} {a1 : Int32} {μ : Mem} {r : Int32} (hw : PGAt cI cG adE w ad q) (hst : l.stackTraces = false) (h : f_X6_neededWithout_t q a1 μ = some r) : vx_Met l yX6_neededWithout wsX6_neededWithout (rmx 7 102) (WPre D (tyl cI cG cL) A (ENV tC tS adE adK adV A) (w μ) [.ref (ad q), .int a1]) PNo (XX D A (w μ) r) 1 6 A := by
  have hiX6 : ∀ w ∈ u_ws RX6 TX6 3, w ∈ wsX6_neededWithout := by decide +kernel
  have mf12 : Cond.fieldLink RX6 12 (TX6 0).1 (TX6 0).2.1 (TX6 0).2.2.1 ∈ wsX6_neededWithout := by decide +kernel
  refine met_startX (cc := cX6_neededWithout) (nL := 2) (ret := (some .int)) (own := RX6) hE (by decide) rfl rfl (Nat.le_of_ble_eq_true rfl) (fun p e s m args below meth c ls X hout hS hl hr hlk => ?_)
  have hx := X.1.1
  have hb := X.1.2.1
  replace hl : lv_has ls 2 [(0, .ref (ad q)), (1, .int a1)] := hl
  unfold f_X6_neededWithout_t at h
  refine lv_aload_n hx hb dX6_neededWithout_0 rfl (lv_at hl 0 rfl) ?_
  refine r_get X hS (T := TX6) (k := 0) (hw.1 μ).1 rfl hiX6 (by decide) mf12 rfl dX6_neededWithout_1 ?_
  refine lv_iload_n hx hb dX6_neededWithout_4 rfl (lv_at hl 1 rfl) ?_
  obtain ⟨v1, ev1, h⟩ := ob h
  refine r_ci hS (r_runV (As := [.int a1]) (rest := []) X hS (c_X4_openReaderFault l hE (w := w) (ad := ad) (μ := μ) (D := D) (cI := cI) (cG := cG) (cL := cL) hw.2.1 ev1) (cwV 1 X.1.2.2.2.2 gX6_neededWithout_X4_openReaderFault rfl rfl rfl (by decide +kernel) ⟨Nat.le_of_ble_eq_true rfl, Nat.le_of_ble_eq_true rfl⟩) (q0 := (q + 1)) (ci := 2) rfl (hw.2.1.1 μ).1 rfl hl.1 rfl (Nat.le_of_ble_eq_true rfl) dX6_neededWithout_5 ⟨Nat.zero_le _, Nat.zero_le _⟩) (fun H locs hS => ?_)
  exact r_refX X hS hout (t_X6_refuse l hE hst (w := w) (ad := ad) (μ := μ) (D := D) (cI := cI) (cG := cG) (cL := cL) h) (va_cwS 1 X.1.2.2.2.2 gX6_neededWithout_X6_refuse rfl rfl rfl (by decide +kernel) ⟨Nat.le_of_ble_eq_true rfl, Nat.le_of_ble_eq_true rfl⟩) hl.1 rfl (Nat.le_of_ble_eq_true rfl) dX6_neededWithout_8 ⟨Nat.le_of_ble_eq_true rfl, Nat.le_of_ble_eq_true rfl⟩ hlk
def f_X6_changedSince_t (q : Nat) (a1 : Int32) (μ : Mem) : Option Int32 := (f_X4_openReaderFault (q + 1) a1 μ).bind (fun v1 => (rfx v1))
set_option maxHeartbeats 4000000 in
set_option maxRecDepth 100000 in
theorem t_X6_changedSince (l : Launch) {D : va_G} {cI cG cL : ClassId} {A : Nat → Prop} {tC tS : Nat} {adE adK adV : Nat → Nat} (hE : EnOK (ENV tC tS adE adK adV A) A) {w : Mem → va_W} {ad : Nat → Nat} {q : Nat} {a1 : Int32} {μ : Mem} {r : Int32} (hw : PGAt cI cG adE w ad q) (hst : l.stackTraces = false) (h : f_X6_changedSince_t q a1 μ = some r) : vx_Met l yX6_changedSince wsX6_changedSince (rmx 7 116) (WPre D (tyl cI cG cL) A (ENV tC tS adE adK adV A) (w μ) [.ref (ad q), .int a1]) PNo (XX D A (w μ) r) 1 6 A := by
  have hiX6 : ∀ w ∈ u_ws RX6 TX6 3, w ∈ wsX6_changedSince := by decide +kernel
  have mf12 : Cond.fieldLink RX6 12 (TX6 0).1 (TX6 0).2.1 (TX6 0).2.2.1 ∈ wsX6_changedSince := by decide +kernel
  refine met_startX (cc := cX6_changedSince) (nL := 2) (ret := (some .int)) (own := RX6) hE (by decide) rfl rfl (Nat.le_of_ble_eq_true rfl) (fun p e s m args below meth c ls X hout hS hl hr hlk => ?_)
  have hx := X.1.1
  have hb := X.1.2.1
  replace hl : lv_has ls 2 [(0, .ref (ad q)), (1, .int a1)] := hl
  unfold f_X6_changedSince_t at h
  refine lv_aload_n hx hb dX6_changedSince_0 rfl (lv_at hl 0 rfl) ?_
  refine r_get X hS (T := TX6) (k := 0) (hw.1 μ).1 rfl hiX6 (by decide) mf12 rfl dX6_changedSince_1 ?_
  refine lv_iload_n hx hb dX6_changedSince_4 rfl (lv_at hl 1 rfl) ?_
  obtain ⟨v1, ev1, h⟩ := ob h
  refine r_ci hS (r_runV (As := [.int a1]) (rest := []) X hS (c_X4_openReaderFault l hE (w := w) (ad := ad) (μ := μ) (D := D) (cI := cI) (cG := cG) (cL := cL) hw.2.1 ev1) (cwV 1 X.1.2.2.2.2 gX6_changedSince_X4_openReaderFault rfl rfl rfl (by decide +kernel) ⟨Nat.le_of_ble_eq_true rfl, Nat.le_of_ble_eq_true rfl⟩) (q0 := (q + 1)) (ci := 2) rfl (hw.2.1.1 μ).1 rfl hl.1 rfl (Nat.le_of_ble_eq_true rfl) dX6_changedSince_5 ⟨Nat.zero_le _, Nat.zero_le _⟩) (fun H locs hS => ?_)
  exact r_refX X hS hout (t_X6_refuse l hE hst (w := w) (ad := ad) (μ := μ) (D := D) (cI := cI) (cG := cG) (cL := cL) h) (va_cwS 1 X.1.2.2.2.2 gX6_changedSince_X6_refuse rfl rfl rfl (by decide +kernel) ⟨Nat.le_of_ble_eq_true rfl, Nat.le_of_ble_eq_true rfl⟩) hl.1 rfl (Nat.le_of_ble_eq_true rfl) dX6_changedSince_8 ⟨Nat.le_of_ble_eq_true rfl, Nat.le_of_ble_eq_true rfl⟩ hlk
def f_X6_undo_t_b15 (q : Nat) (s0 : Int32) (μ : Mem) : Option Int32 := (rfx s0)
def f_X6_undo_t (q : Nat) (μ : Mem) : Option Int32 := (if (μ (q + 17) 1) ≤ 0 then f_X6_undo_t_b15 q 3 μ else f_X6_undo_t_b15 q 0 μ)
set_option maxHeartbeats 4000000 in
set_option maxRecDepth 100000 in
theorem t_X6_undo (l : Launch) {D : va_G} {cI cG cL : ClassId} {A : Nat → Prop} {tC tS : Nat} {adE adK adV : Nat → Nat} (hE : EnOK (ENV tC tS adE adK adV A) A) {w : Mem → va_W} {ad : Nat → Nat} {q : Nat} {μ : Mem} {r : Int32} (hw : PGAt cI cG adE w ad q) (hst : l.stackTraces = false) (h : f_X6_undo_t q μ = some r) : vx_Met l yX6_undo wsX6_undo (rmx 7 102) (WPre D (tyl cI cG cL) A (ENV tC tS adE adK adV A) (w μ) [.ref (ad q)]) PNo (XX D A (w μ) r) 1 6 A := by
  have hiX5 : ∀ w ∈ u_ws RX5 TX5 3, w ∈ wsX6_undo := by decide +kernel
  have hiX6 : ∀ w ∈ u_ws RX6 TX6 3, w ∈ wsX6_undo := by decide +kernel
  have mf19 : Cond.fieldLink RX6 19 (TX6 1).1 (TX6 1).2.1 (TX6 1).2.2.1 ∈ wsX6_undo := by decide +kernel
  refine met_startX (cc := cX6_undo) (nL := 1) (ret := (some .int)) (own := RX6) hE (by decide) rfl rfl (Nat.le_of_ble_eq_true rfl) (fun p e s m args below meth c ls X hout hS hl hr hlk => ?_)
  have hx := X.1.1
  have hb := X.1.2.1
  replace hl : lv_has ls 1 [(0, .ref (ad q))] := hl
  have hb15 : ∀ (s0 : Int32) (H : Heap) (locs : List Loc) (ls : Array Slot), HS D A (w μ) s.heap H locs → lv_has ls 1 [(0, .ref (ad q))] → f_X6_undo_t_b15 q s0 μ = some r → W p l e (headSpec wsX6_undo (rmx 7 102)).room s m args below meth c H locs 0 0 (vx_MQ below PNo (XX D A (w μ) r) args s 1 6 A) (F0 m 15 ls [.int s0]) := by
    intro s0 H locs ls hS hl h
    unfold f_X6_undo_t_b15 at h
    exact r_refX X hS hout (t_X6_refuse l hE hst (w := w) (ad := ad) (μ := μ) (D := D) (cI := cI) (cG := cG) (cL := cL) h) (va_cwS 1 X.1.2.2.2.2 gX6_undo_X6_refuse rfl rfl rfl (by decide +kernel) ⟨Nat.le_of_ble_eq_true rfl, Nat.le_of_ble_eq_true rfl⟩) hl.1 rfl (Nat.le_of_ble_eq_true rfl) dX6_undo_15 ⟨Nat.le_of_ble_eq_true rfl, Nat.le_of_ble_eq_true rfl⟩ hlk
  unfold f_X6_undo_t at h
  refine lv_aload_n hx hb dX6_undo_0 rfl (lv_at hl 0 rfl) ?_
  refine r_get X hS (T := TX6) (k := 1) (hw.1 μ).1 rfl hiX6 (by decide) mf19 rfl dX6_undo_1 ?_
  refine r_getN X hS (T := TX5) (k := 1) (host := RX6) (hw.2.2.1.1 μ).1 rfl hiX5 (by decide) (X.nest 12 rfl) rfl dX6_undo_4 ?_
  refine lv_if_le (tgt := 14) hx hb dX6_undo_7 (by decide) (fun cc => ?_) (fun cc => ?_)
  · replace h := it h cc
    refine lv_iconst (v := 3) hx hb dX6_undo_14 (by decide) ?_
    exact hb15 3 _ _ _ hS (lv_sub hl [0] rfl) h
  · replace h := ie h cc
    refine lv_iconst (v := 0) hx hb dX6_undo_10 (by decide) ?_
    refine lv_goto (tgt := 15) hx hb dX6_undo_11 (by decide) ?_
    exact hb15 0 _ _ _ hS (lv_sub hl [0] rfl) h
