def f_X7_commit (q : Nat) (a1 : Int32) (μ : Mem) : Option (Int32 × Mem) := (f_X7_hold q μ).bind (fun μ1 => bn2 (f_X7_doCommit q a1 μ1) (fun v2 μ3 => bn2 (f_X7_ends q v2 μ3) (fun v4 μ5 => (some (v4, μ5)))))
set_option maxHeartbeats 4000000 in
set_option maxRecDepth 100000 in
theorem c_X7_commit (l : Launch) {D : va_G} {cI cG cL : ClassId} {A : Nat → Prop} {EN : State → Heap → Prop} (hE : EnOK EN A) {w : Mem → va_W} {ad : Nat → Nat} {hh : Int64} {q : Nat} {a1 : Int32} {μ : Mem} {r : Int32} {μ' : Mem} (hw : ModelAt cI w ad hh q) (h : f_X7_commit q a1 μ = some (r, μ')) : Met l yX7_commit wsX7_commit (rmk 4 91) (WPre D (tyl cI cG cL) A EN (w μ) [.ref (ad q), .int a1]) (PI D A (w μ') r) 0 0 A := by
  refine met_start (cc := cX7_commit) (nL := 2) (ret := (some .int)) (own := RX7) hE (by decide) rfl rfl (Nat.le_of_ble_eq_true rfl) (fun p e s m args below meth c ls X hS hl hr hlk => ?_)
  have hx := X.1.1
  have hb := X.1.2.1
  replace hl : lv_has ls 2 [(0, .ref (ad q)), (1, .int a1)] := hl
  unfold f_X7_commit at h
  refine lv_aload_n hx hb dX7_commit_0 rfl (lv_at hl 0 rfl) ?_
  obtain ⟨μ1, eμ1, h⟩ := ob h
  refine r_cv hS (r_runV (As := []) (rest := []) X hS (c_X7_hold l hE (w := w) (ad := ad) (μ := μ) (D := D) (cI := cI) (cG := cG) (cL := cL) hw eμ1) (cwV 0 X.1.2.2.2.2 gX7_commit_X7_hold rfl rfl rfl (by decide +kernel) ⟨Nat.le_of_ble_eq_true rfl, Nat.le_of_ble_eq_true rfl⟩) (q0 := q) (ci := 5) rfl (hw.1 μ).1 rfl hl.1 rfl (Nat.le_of_ble_eq_true rfl) dX7_commit_1 ⟨Nat.zero_le _, Nat.zero_le _⟩) (fun H locs hS => ?_)
  refine lv_aload_n hx hb dX7_commit_4 rfl (lv_at hl 0 rfl) ?_
  refine lv_aload_n hx hb dX7_commit_5 rfl (lv_at hl 0 rfl) ?_
  refine lv_iload_n hx hb dX7_commit_6 rfl (lv_at hl 1 rfl) ?_
  obtain ⟨v2, μ3, ev2, h⟩ := ob2 h
  refine r_ci hS (r_runV (As := [.int a1]) (rest := [.ref (ad q)]) X hS (c_X7_doCommit l hE (w := w) (ad := ad) (μ := μ1) (D := D) (cI := cI) (cG := cG) (cL := cL) hw ev2) (cwV 1 X.1.2.2.2.2 gX7_commit_X7_doCommit rfl rfl rfl (by decide +kernel) ⟨Nat.le_of_ble_eq_true rfl, Nat.le_of_ble_eq_true rfl⟩) (q0 := q) (ci := 5) rfl (hw.1 μ1).1 rfl hl.1 rfl (Nat.le_of_ble_eq_true rfl) dX7_commit_7 ⟨Nat.zero_le _, Nat.zero_le _⟩) (fun H locs hS => ?_)
  obtain ⟨v4, μ5, ev4, h⟩ := ob2 h
  refine r_ci hS (r_runV (As := [.int v2]) (rest := []) X hS (c_X7_ends l hE (w := w) (ad := ad) (μ := μ3) (D := D) (cI := cI) (cG := cG) (cL := cL) hw ev4) (cwV 1 X.1.2.2.2.2 gX7_commit_X7_ends rfl rfl rfl (by decide +kernel) ⟨Nat.le_of_ble_eq_true rfl, Nat.le_of_ble_eq_true rfl⟩) (q0 := q) (ci := 5) rfl (hw.1 μ3).1 rfl hl.1 rfl (Nat.le_of_ble_eq_true rfl) dX7_commit_10 ⟨Nat.zero_le _, Nat.zero_le _⟩) (fun H locs hS => ?_)
  obtain ⟨rfl, rfl⟩ := pr2 h
  exact r_iret X hS hr hlk dX7_commit_13
def f_X7_doAbort_b23 (q : Nat) (s0 : Int32) (μ : Mem) : Option (Int32 × Mem) := (some (s0, μ))
def f_X7_doAbort (q : Nat) (μ : Mem) : Option (Int32 × Mem) := (rd 470 (μ (q + 1)) 466).bind (fun v1 => (if v1 = 0 then bn2 (f_X7_refuse q 1 μ) (fun v4 μ5 => f_X7_doAbort_b23 q v4 μ5) else bn2 (f_X7_drops q μ) (fun v2 μ3 => f_X7_doAbort_b23 q v2 μ3)))
set_option maxHeartbeats 4000000 in
set_option maxRecDepth 100000 in
theorem c_X7_doAbort (l : Launch) {D : va_G} {cI cG cL : ClassId} {A : Nat → Prop} {EN : State → Heap → Prop} (hE : EnOK EN A) {w : Mem → va_W} {ad : Nat → Nat} {hh : Int64} {q : Nat} {μ : Mem} {r : Int32} {μ' : Mem} (hw : ModelAt cI w ad hh q) (h : f_X7_doAbort q μ = some (r, μ')) : Met l yX7_doAbort wsX7_doAbort (rmk 3 67) (WPre D (tyl cI cG cL) A EN (w μ) [.ref (ad q)]) (PI D A (w μ') r) 0 0 A := by
  have hiX7 : ∀ w ∈ u_ws RX7 TX7 13, w ∈ wsX7_doAbort := by decide +kernel
  have mf7 : Cond.fieldLink RX7 7 (TX7 0).1 (TX7 0).2.1 (TX7 0).2.2.1 ∈ wsX7_doAbort := by decide +kernel
  refine met_start (cc := cX7_doAbort) (nL := 1) (ret := (some .int)) (own := RX7) hE (by decide) rfl rfl (Nat.le_of_ble_eq_true rfl) (fun p e s m args below meth c ls X hS hl hr hlk => ?_)
  have hx := X.1.1
  have hb := X.1.2.1
  replace hl : lv_has ls 1 [(0, .ref (ad q))] := hl
  have hb23 : ∀ (s0 : Int32) (μ : Mem) (H : Heap) (locs : List Loc) (ls : Array Slot), HS D A (w μ) s.heap H locs → lv_has ls 1 [] → f_X7_doAbort_b23 q s0 μ = some (r, μ') → W p l e (headSpec wsX7_doAbort (rmk 3 67)).room s m args below meth c H locs 0 0 (MQ below (PI D A (w μ') r) args s 0 0 A) (F0 m 23 ls [.int s0]) := by
    intro s0 μ H locs ls hS hl h
    unfold f_X7_doAbort_b23 at h
    obtain ⟨rfl, rfl⟩ := pr2 h
    exact r_iret X hS hr hlk dX7_doAbort_23
  unfold f_X7_doAbort at h
  refine lv_aload_n hx hb dX7_doAbort_0 rfl (lv_at hl 0 rfl) ?_
  refine r_get X hS (T := TX7) (k := 0) (hw.1 μ).1 rfl hiX7 (by decide) mf7 rfl dX7_doAbort_1 ?_
  refine lv_sipush (v := 466) hx hb dX7_doAbort_4 (by decide) ?_
  obtain ⟨v1, ev1, h⟩ := ob h
  refine r_iald X hS (hw.2.1 μ).1 ev1 dX7_doAbort_7 ?_
  refine lv_if_ne (tgt := 19) hx hb dX7_doAbort_8 (by decide) (fun cc => ?_) (fun cc => ?_)
  · replace h := ie h cc
    refine lv_aload_n hx hb dX7_doAbort_19 rfl (lv_at hl 0 rfl) ?_
    obtain ⟨v2, μ3, ev2, h⟩ := ob2 h
    refine r_ci hS (r_runV (As := []) (rest := []) X hS (c_X7_drops l hE (w := w) (ad := ad) (μ := μ) (D := D) (cI := cI) (cG := cG) (cL := cL) hw ev2) (cwV 0 X.1.2.2.2.2 gX7_doAbort_X7_drops rfl rfl rfl (by decide +kernel) ⟨Nat.le_of_ble_eq_true rfl, Nat.le_of_ble_eq_true rfl⟩) (q0 := q) (ci := 5) rfl (hw.1 μ).1 rfl hl.1 rfl (Nat.le_of_ble_eq_true rfl) dX7_doAbort_20 ⟨Nat.zero_le _, Nat.zero_le _⟩) (fun H locs hS => ?_)
    exact hb23 v2 μ3 _ _ _ hS (lv_sub hl [] rfl) h
  · replace h := it h cc
    refine lv_aload_n hx hb dX7_doAbort_11 rfl (lv_at hl 0 rfl) ?_
    refine lv_iconst (v := 1) hx hb dX7_doAbort_12 (by decide) ?_
    obtain ⟨v4, μ5, ev4, h⟩ := ob2 h
    refine r_ci hS (r_runV (As := [.int 1]) (rest := []) X hS (c_X7_refuse l hE (w := w) (ad := ad) (μ := μ) (D := D) (cI := cI) (cG := cG) (cL := cL) hw ev4) (cwV 1 X.1.2.2.2.2 gX7_doAbort_X7_refuse rfl rfl rfl (by decide +kernel) ⟨Nat.le_of_ble_eq_true rfl, Nat.le_of_ble_eq_true rfl⟩) (q0 := q) (ci := 5) rfl (hw.1 μ).1 rfl hl.1 rfl (Nat.le_of_ble_eq_true rfl) dX7_doAbort_13 ⟨Nat.zero_le _, Nat.zero_le _⟩) (fun H locs hS => ?_)
    refine lv_goto (tgt := 23) hx hb dX7_doAbort_16 (by decide) ?_
    exact hb23 v4 μ5 _ _ _ hS (lv_sub hl [] rfl) h
def f_X7_abort (q : Nat) (μ : Mem) : Option (Int32 × Mem) := (f_X7_hold q μ).bind (fun μ1 => bn2 (f_X7_doAbort q μ1) (fun v2 μ3 => bn2 (f_X7_ends q v2 μ3) (fun v4 μ5 => (some (v4, μ5)))))
set_option maxHeartbeats 4000000 in
set_option maxRecDepth 100000 in
theorem c_X7_abort (l : Launch) {D : va_G} {cI cG cL : ClassId} {A : Nat → Prop} {EN : State → Heap → Prop} (hE : EnOK EN A) {w : Mem → va_W} {ad : Nat → Nat} {hh : Int64} {q : Nat} {μ : Mem} {r : Int32} {μ' : Mem} (hw : ModelAt cI w ad hh q) (h : f_X7_abort q μ = some (r, μ')) : Met l yX7_abort wsX7_abort (rmk 4 87) (WPre D (tyl cI cG cL) A EN (w μ) [.ref (ad q)]) (PI D A (w μ') r) 0 0 A := by
  refine met_start (cc := cX7_abort) (nL := 1) (ret := (some .int)) (own := RX7) hE (by decide) rfl rfl (Nat.le_of_ble_eq_true rfl) (fun p e s m args below meth c ls X hS hl hr hlk => ?_)
  have hx := X.1.1
  have hb := X.1.2.1
  replace hl : lv_has ls 1 [(0, .ref (ad q))] := hl
  unfold f_X7_abort at h
  refine lv_aload_n hx hb dX7_abort_0 rfl (lv_at hl 0 rfl) ?_
  obtain ⟨μ1, eμ1, h⟩ := ob h
  refine r_cv hS (r_runV (As := []) (rest := []) X hS (c_X7_hold l hE (w := w) (ad := ad) (μ := μ) (D := D) (cI := cI) (cG := cG) (cL := cL) hw eμ1) (cwV 0 X.1.2.2.2.2 gX7_abort_X7_hold rfl rfl rfl (by decide +kernel) ⟨Nat.le_of_ble_eq_true rfl, Nat.le_of_ble_eq_true rfl⟩) (q0 := q) (ci := 5) rfl (hw.1 μ).1 rfl hl.1 rfl (Nat.le_of_ble_eq_true rfl) dX7_abort_1 ⟨Nat.zero_le _, Nat.zero_le _⟩) (fun H locs hS => ?_)
  refine lv_aload_n hx hb dX7_abort_4 rfl (lv_at hl 0 rfl) ?_
  refine lv_aload_n hx hb dX7_abort_5 rfl (lv_at hl 0 rfl) ?_
  obtain ⟨v2, μ3, ev2, h⟩ := ob2 h
  refine r_ci hS (r_runV (As := []) (rest := [.ref (ad q)]) X hS (c_X7_doAbort l hE (w := w) (ad := ad) (μ := μ1) (D := D) (cI := cI) (cG := cG) (cL := cL) hw ev2) (cwV 0 X.1.2.2.2.2 gX7_abort_X7_doAbort rfl rfl rfl (by decide +kernel) ⟨Nat.le_of_ble_eq_true rfl, Nat.le_of_ble_eq_true rfl⟩) (q0 := q) (ci := 5) rfl (hw.1 μ1).1 rfl hl.1 rfl (Nat.le_of_ble_eq_true rfl) dX7_abort_6 ⟨Nat.zero_le _, Nat.zero_le _⟩) (fun H locs hS => ?_)
  obtain ⟨v4, μ5, ev4, h⟩ := ob2 h
  refine r_ci hS (r_runV (As := [.int v2]) (rest := []) X hS (c_X7_ends l hE (w := w) (ad := ad) (μ := μ3) (D := D) (cI := cI) (cG := cG) (cL := cL) hw ev4) (cwV 1 X.1.2.2.2.2 gX7_abort_X7_ends rfl rfl rfl (by decide +kernel) ⟨Nat.le_of_ble_eq_true rfl, Nat.le_of_ble_eq_true rfl⟩) (q0 := q) (ci := 5) rfl (hw.1 μ3).1 rfl hl.1 rfl (Nat.le_of_ble_eq_true rfl) dX7_abort_9 ⟨Nat.zero_le _, Nat.zero_le _⟩) (fun H locs hS => ?_)
  obtain ⟨rfl, rfl⟩ := pr2 h
  exact r_iret X hS hr hlk dX7_abort_12
def f_X7_doOpen_b23 (q : Nat) (x1 : Int32) (μ : Mem) : Option (Int32 × Mem) := (if x1 = 4 then bn2 (f_X7_refuse q 1 μ) (fun v7 μ8 => (some (v7, μ8))) else (wr μ (q + 1) 470 ((454 + (3 * x1)) + 0) 1).bind (fun μ1 => (f_X7_current q μ1).bind (fun v2 => (f_X7_ofRoot q v2 0 μ1).bind (fun v3 => (wr μ1 (q + 1) 470 ((454 + (3 * x1)) + 1) v3).bind (fun μ4 => (f_X7_now q μ4).bind (fun v5 => (wr μ4 (q + 1) 470 ((454 + (3 * x1)) + 2) v5).bind (fun μ6 => (some (x1, μ6)))))))))
def f_X7_doOpen_b2 (q : Nat)  : Nat → Int32 → Mem → Option (Int32 × Mem)
  | 0, _, _ => none
  | fuel2 + 1, x1, μ => (if 4 ≤ x1 then f_X7_doOpen_b23 q x1 μ else (f_X7_ofReader q x1 0 μ).bind (fun v9 => (if v9 = 1 then f_X7_doOpen_b2 q fuel2 (x1 + 1) μ else f_X7_doOpen_b23 q x1 μ)))
def f_X7_doOpen (q : Nat) (μ : Mem) : Option (Int32 × Mem) := f_X7_doOpen_b2 q FU 0 μ
set_option maxHeartbeats 4000000 in
set_option maxRecDepth 100000 in
theorem c_X7_doOpen (l : Launch) {D : va_G} {cI cG cL : ClassId} {A : Nat → Prop} {EN : State → Heap → Prop} (hE : EnOK EN A) {w : Mem → va_W} {ad : Nat → Nat} {hh : Int64} {q : Nat} {μ : Mem} {r : Int32} {μ' : Mem} (hw : ModelAt cI w ad hh q) (h : f_X7_doOpen q μ = some (r, μ')) : Met l yX7_doOpen wsX7_doOpen (rmk 2 42) (WPre D (tyl cI cG cL) A EN (w μ) [.ref (ad q)]) (PI D A (w μ') r) 0 0 A := by
  have hiX7 : ∀ w ∈ u_ws RX7 TX7 13, w ∈ wsX7_doOpen := by decide +kernel
  have mf7 : Cond.fieldLink RX7 7 (TX7 0).1 (TX7 0).2.1 (TX7 0).2.2.1 ∈ wsX7_doOpen := by decide +kernel
  refine met_start (cc := cX7_doOpen) (nL := 2) (ret := (some .int)) (own := RX7) hE (by decide) rfl rfl (Nat.le_of_ble_eq_true rfl) (fun p e s m args below meth c ls X hS hl hr hlk => ?_)
  have hx := X.1.1
  have hb := X.1.2.1
  replace hl : lv_has ls 2 [(0, .ref (ad q))] := hl
  have hb23 : ∀ (x1 : Int32) (μ : Mem) (H : Heap) (locs : List Loc) (ls : Array Slot), HS D A (w μ) s.heap H locs → lv_has ls 2 [(0, .ref (ad q)), (1, .int x1)] → f_X7_doOpen_b23 q x1 μ = some (r, μ') → W p l e (headSpec wsX7_doOpen (rmk 2 42)).room s m args below meth c H locs 0 0 (MQ below (PI D A (w μ') r) args s 0 0 A) (F0 m 23 ls []) := by
    intro x1 μ H locs ls hS hl h
    unfold f_X7_doOpen_b23 at h
    refine lv_iload_n hx hb dX7_doOpen_23 rfl (lv_at hl 1 rfl) ?_
    refine lv_iconst (v := 4) hx hb dX7_doOpen_24 (by decide) ?_
    refine lv_icmp_ne (tgt := 34) hx hb dX7_doOpen_25 (by decide) (fun cc => ?_) (fun cc => ?_)
    · replace h := ie h cc
      refine lv_aload_n hx hb dX7_doOpen_34 rfl (lv_at hl 0 rfl) ?_
      refine r_get X hS (T := TX7) (k := 0) (hw.1 μ).1 rfl hiX7 (by decide) mf7 rfl dX7_doOpen_35 ?_
      refine lv_sipush (v := 454) hx hb dX7_doOpen_38 (by decide) ?_
      refine lv_iconst (v := 3) hx hb dX7_doOpen_41 (by decide) ?_
      refine lv_iload_n hx hb dX7_doOpen_42 rfl (lv_at hl 1 rfl) ?_
      refine lv_imul hx hb dX7_doOpen_43 ?_
      refine lv_iadd hx hb dX7_doOpen_44 ?_
      refine lv_iconst (v := 0) hx hb dX7_doOpen_45 (by decide) ?_
      refine lv_iadd hx hb dX7_doOpen_46 ?_
      refine lv_iconst (v := 1) hx hb dX7_doOpen_47 (by decide) ?_
      obtain ⟨μ1, eμ1, h⟩ := ob h
      refine r_iast X hS hw.2.1 eμ1 dX7_doOpen_48 (fun H locs hS => ?_)
      refine lv_aload_n hx hb dX7_doOpen_49 rfl (lv_at hl 0 rfl) ?_
      refine r_get X hS (T := TX7) (k := 0) (hw.1 μ1).1 rfl hiX7 (by decide) mf7 rfl dX7_doOpen_50 ?_
      refine lv_sipush (v := 454) hx hb dX7_doOpen_53 (by decide) ?_
      refine lv_iconst (v := 3) hx hb dX7_doOpen_56 (by decide) ?_
      refine lv_iload_n hx hb dX7_doOpen_57 rfl (lv_at hl 1 rfl) ?_
      refine lv_imul hx hb dX7_doOpen_58 ?_
      refine lv_iadd hx hb dX7_doOpen_59 ?_
      refine lv_iconst (v := 1) hx hb dX7_doOpen_60 (by decide) ?_
      refine lv_iadd hx hb dX7_doOpen_61 ?_
      refine lv_aload_n hx hb dX7_doOpen_62 rfl (lv_at hl 0 rfl) ?_
      refine lv_aload_n hx hb dX7_doOpen_63 rfl (lv_at hl 0 rfl) ?_
      obtain ⟨v2, ev2, h⟩ := ob h
      refine r_ci hS (r_runV (As := []) (rest := [.ref (ad q), .int ((454 + (3 * x1)) + 1), .ref (ad (q + 1))]) X hS (c_X7_current l hE (w := w) (ad := ad) (μ := μ1) (D := D) (cI := cI) (cG := cG) (cL := cL) hw ev2) (cwV 0 X.1.2.2.2.2 gX7_doOpen_X7_current rfl rfl rfl (by decide +kernel) ⟨Nat.le_of_ble_eq_true rfl, Nat.le_of_ble_eq_true rfl⟩) (q0 := q) (ci := 5) rfl (hw.1 μ1).1 rfl hl.1 rfl (Nat.le_of_ble_eq_true rfl) dX7_doOpen_64 ⟨Nat.zero_le _, Nat.zero_le _⟩) (fun H locs hS => ?_)
      refine lv_iconst (v := 0) hx hb dX7_doOpen_67 (by decide) ?_
      obtain ⟨v3, ev3, h⟩ := ob h
      refine r_ci hS (r_runV (As := [.int v2, .int 0]) (rest := [.int ((454 + (3 * x1)) + 1), .ref (ad (q + 1))]) X hS (c_X7_ofRoot l hE (w := w) (ad := ad) (μ := μ1) (D := D) (cI := cI) (cG := cG) (cL := cL) hw ev3) (cwV 2 X.1.2.2.2.2 gX7_doOpen_X7_ofRoot rfl rfl rfl (by decide +kernel) ⟨Nat.le_of_ble_eq_true rfl, Nat.le_of_ble_eq_true rfl⟩) (q0 := q) (ci := 5) rfl (hw.1 μ1).1 rfl hl.1 rfl (Nat.le_of_ble_eq_true rfl) dX7_doOpen_68 ⟨Nat.zero_le _, Nat.zero_le _⟩) (fun H locs hS => ?_)
      obtain ⟨μ4, eμ4, h⟩ := ob h
      refine r_iast X hS hw.2.1 eμ4 dX7_doOpen_71 (fun H locs hS => ?_)
      refine lv_aload_n hx hb dX7_doOpen_72 rfl (lv_at hl 0 rfl) ?_
      refine r_get X hS (T := TX7) (k := 0) (hw.1 μ4).1 rfl hiX7 (by decide) mf7 rfl dX7_doOpen_73 ?_
      refine lv_sipush (v := 454) hx hb dX7_doOpen_76 (by decide) ?_
      refine lv_iconst (v := 3) hx hb dX7_doOpen_79 (by decide) ?_
      refine lv_iload_n hx hb dX7_doOpen_80 rfl (lv_at hl 1 rfl) ?_
      refine lv_imul hx hb dX7_doOpen_81 ?_
      refine lv_iadd hx hb dX7_doOpen_82 ?_
      refine lv_iconst (v := 2) hx hb dX7_doOpen_83 (by decide) ?_
      refine lv_iadd hx hb dX7_doOpen_84 ?_
      refine lv_aload_n hx hb dX7_doOpen_85 rfl (lv_at hl 0 rfl) ?_
      obtain ⟨v5, ev5, h⟩ := ob h
      refine r_ci hS (r_runV (As := []) (rest := [.int ((454 + (3 * x1)) + 2), .ref (ad (q + 1))]) X hS (c_X7_now l hE (w := w) (ad := ad) (μ := μ4) (D := D) (cI := cI) (cG := cG) (cL := cL) hw ev5) (cwV 0 X.1.2.2.2.2 gX7_doOpen_X7_now rfl rfl rfl (by decide +kernel) ⟨Nat.le_of_ble_eq_true rfl, Nat.le_of_ble_eq_true rfl⟩) (q0 := q) (ci := 5) rfl (hw.1 μ4).1 rfl hl.1 rfl (Nat.le_of_ble_eq_true rfl) dX7_doOpen_86 ⟨Nat.zero_le _, Nat.zero_le _⟩) (fun H locs hS => ?_)
      obtain ⟨μ6, eμ6, h⟩ := ob h
      refine r_iast X hS hw.2.1 eμ6 dX7_doOpen_89 (fun H locs hS => ?_)
      refine lv_iload_n hx hb dX7_doOpen_90 rfl (lv_at hl 1 rfl) ?_
      obtain ⟨rfl, rfl⟩ := pr2 h
      exact r_iret X hS hr hlk dX7_doOpen_91
    · replace h := it h cc
      refine lv_aload_n hx hb dX7_doOpen_28 rfl (lv_at hl 0 rfl) ?_
      refine lv_iconst (v := 1) hx hb dX7_doOpen_29 (by decide) ?_
      obtain ⟨v7, μ8, ev7, h⟩ := ob2 h
      refine r_ci hS (r_runV (As := [.int 1]) (rest := []) X hS (c_X7_refuse l hE (w := w) (ad := ad) (μ := μ) (D := D) (cI := cI) (cG := cG) (cL := cL) hw ev7) (cwV 1 X.1.2.2.2.2 gX7_doOpen_X7_refuse rfl rfl rfl (by decide +kernel) ⟨Nat.le_of_ble_eq_true rfl, Nat.le_of_ble_eq_true rfl⟩) (q0 := q) (ci := 5) rfl (hw.1 μ).1 rfl hl.1 rfl (Nat.le_of_ble_eq_true rfl) dX7_doOpen_30 ⟨Nat.zero_le _, Nat.zero_le _⟩) (fun H locs hS => ?_)
      obtain ⟨rfl, rfl⟩ := pr2 h
      exact r_iret X hS hr hlk dX7_doOpen_33
  have hb2 : ∀ (fu : Nat) (x1 : Int32) (μ : Mem) (H : Heap) (locs : List Loc) (ls : Array Slot), HS D A (w μ) s.heap H locs → lv_has ls 2 [(0, .ref (ad q)), (1, .int x1)] → f_X7_doOpen_b2 q fu x1 μ = some (r, μ') → W p l e (headSpec wsX7_doOpen (rmk 2 42)).room s m args below meth c H locs 0 0 (MQ below (PI D A (w μ') r) args s 0 0 A) (F0 m 2 ls []) := by
    intro fu
    induction fu with
    | zero =>
      intro x1 μ H locs ls hS hl h
      rw [f_X7_doOpen_b2] at h
      cases h
    | succ fuel2 ih2 =>
      intro x1 μ H locs ls hS hl h
      rw [f_X7_doOpen_b2] at h
      refine lv_iload_n hx hb dX7_doOpen_2 rfl (lv_at hl 1 rfl) ?_
      refine lv_iconst (v := 4) hx hb dX7_doOpen_3 (by decide) ?_
      refine lv_icmp_ge (tgt := 23) hx hb dX7_doOpen_4 (by decide) (fun cc => ?_) (fun cc => ?_)
      · replace h := it h cc
        exact hb23 x1 μ _ _ _ hS (lv_sub hl [0, 1] rfl) h
      · replace h := ie h cc
        refine lv_aload_n hx hb dX7_doOpen_7 rfl (lv_at hl 0 rfl) ?_
        refine lv_iload_n hx hb dX7_doOpen_8 rfl (lv_at hl 1 rfl) ?_
        refine lv_iconst (v := 0) hx hb dX7_doOpen_9 (by decide) ?_
        obtain ⟨v9, ev9, h⟩ := ob h
        refine r_ci hS (r_runV (As := [.int x1, .int 0]) (rest := []) X hS (c_X7_ofReader l hE (w := w) (ad := ad) (μ := μ) (D := D) (cI := cI) (cG := cG) (cL := cL) hw ev9) (cwV 2 X.1.2.2.2.2 gX7_doOpen_X7_ofReader rfl rfl rfl (by decide +kernel) ⟨Nat.le_of_ble_eq_true rfl, Nat.le_of_ble_eq_true rfl⟩) (q0 := q) (ci := 5) rfl (hw.1 μ).1 rfl hl.1 rfl (Nat.le_of_ble_eq_true rfl) dX7_doOpen_10 ⟨Nat.zero_le _, Nat.zero_le _⟩) (fun H locs hS => ?_)
        refine lv_iconst (v := 1) hx hb dX7_doOpen_13 (by decide) ?_
        refine lv_icmp_ne (tgt := 23) hx hb dX7_doOpen_14 (by decide) (fun cc => ?_) (fun cc => ?_)
        · replace h := ie h cc
          exact hb23 x1 μ _ _ _ hS (lv_sub hl [0, 1] rfl) h
        · replace h := it h cc
          refine lv_iinc (v := x1 + 1) (lv' := [(1, .int (x1 + 1)), (0, .ref (ad q))]) hx hb dX7_doOpen_17 hl (k := 1) rfl rfl (by decide) rfl (fun ls hl => ?_)
          refine lv_goto (tgt := 2) hx hb dX7_doOpen_20 (by decide) ?_
          exact ih2 (x1 + 1) μ _ _ _ hS (lv_sub hl [1, 0] rfl) h
  unfold f_X7_doOpen at h
  refine lv_iconst (v := 0) hx hb dX7_doOpen_0 (by decide) ?_
  refine lv_istore_n (lv' := [(1, .int 0), (0, .ref (ad q))]) hx hb dX7_doOpen_1 rfl hl (by decide) rfl (fun ls hl => ?_)
  exact hb2 FU 0 μ _ _ _ hS (lv_sub hl [1, 0] rfl) h
def f_X7_open (q : Nat) (μ : Mem) : Option (Int32 × Mem) := (f_X7_hold q μ).bind (fun μ1 => bn2 (f_X7_doOpen q μ1) (fun v2 μ3 => bn2 (f_X7_ends q v2 μ3) (fun v4 μ5 => (some (v4, μ5)))))
set_option maxHeartbeats 4000000 in
set_option maxRecDepth 100000 in
theorem c_X7_open (l : Launch) {D : va_G} {cI cG cL : ClassId} {A : Nat → Prop} {EN : State → Heap → Prop} (hE : EnOK EN A) {w : Mem → va_W} {ad : Nat → Nat} {hh : Int64} {q : Nat} {μ : Mem} {r : Int32} {μ' : Mem} (hw : ModelAt cI w ad hh q) (h : f_X7_open q μ = some (r, μ')) : Met l yX7_open wsX7_open (rmk 3 63) (WPre D (tyl cI cG cL) A EN (w μ) [.ref (ad q)]) (PI D A (w μ') r) 0 0 A := by
  refine met_start (cc := cX7_open) (nL := 1) (ret := (some .int)) (own := RX7) hE (by decide) rfl rfl (Nat.le_of_ble_eq_true rfl) (fun p e s m args below meth c ls X hS hl hr hlk => ?_)
  have hx := X.1.1
  have hb := X.1.2.1
  replace hl : lv_has ls 1 [(0, .ref (ad q))] := hl
  unfold f_X7_open at h
  refine lv_aload_n hx hb dX7_open_0 rfl (lv_at hl 0 rfl) ?_
  obtain ⟨μ1, eμ1, h⟩ := ob h
  refine r_cv hS (r_runV (As := []) (rest := []) X hS (c_X7_hold l hE (w := w) (ad := ad) (μ := μ) (D := D) (cI := cI) (cG := cG) (cL := cL) hw eμ1) (cwV 0 X.1.2.2.2.2 gX7_open_X7_hold rfl rfl rfl (by decide +kernel) ⟨Nat.le_of_ble_eq_true rfl, Nat.le_of_ble_eq_true rfl⟩) (q0 := q) (ci := 5) rfl (hw.1 μ).1 rfl hl.1 rfl (Nat.le_of_ble_eq_true rfl) dX7_open_1 ⟨Nat.zero_le _, Nat.zero_le _⟩) (fun H locs hS => ?_)
  refine lv_aload_n hx hb dX7_open_4 rfl (lv_at hl 0 rfl) ?_
  refine lv_aload_n hx hb dX7_open_5 rfl (lv_at hl 0 rfl) ?_
  obtain ⟨v2, μ3, ev2, h⟩ := ob2 h
  refine r_ci hS (r_runV (As := []) (rest := [.ref (ad q)]) X hS (c_X7_doOpen l hE (w := w) (ad := ad) (μ := μ1) (D := D) (cI := cI) (cG := cG) (cL := cL) hw ev2) (cwV 0 X.1.2.2.2.2 gX7_open_X7_doOpen rfl rfl rfl (by decide +kernel) ⟨Nat.le_of_ble_eq_true rfl, Nat.le_of_ble_eq_true rfl⟩) (q0 := q) (ci := 5) rfl (hw.1 μ1).1 rfl hl.1 rfl (Nat.le_of_ble_eq_true rfl) dX7_open_6 ⟨Nat.zero_le _, Nat.zero_le _⟩) (fun H locs hS => ?_)
  obtain ⟨v4, μ5, ev4, h⟩ := ob2 h
  refine r_ci hS (r_runV (As := [.int v2]) (rest := []) X hS (c_X7_ends l hE (w := w) (ad := ad) (μ := μ3) (D := D) (cI := cI) (cG := cG) (cL := cL) hw ev4) (cwV 1 X.1.2.2.2.2 gX7_open_X7_ends rfl rfl rfl (by decide +kernel) ⟨Nat.le_of_ble_eq_true rfl, Nat.le_of_ble_eq_true rfl⟩) (q0 := q) (ci := 5) rfl (hw.1 μ3).1 rfl hl.1 rfl (Nat.le_of_ble_eq_true rfl) dX7_open_9 ⟨Nat.zero_le _, Nat.zero_le _⟩) (fun H locs hS => ?_)
  obtain ⟨rfl, rfl⟩ := pr2 h
  exact r_iret X hS hr hlk dX7_open_12
def f_X7_freedToDig_b24 (q : Nat) (k4 : Int32 → Int32 → Mem → Option Int32) (x2 : Int32) (s0 : Int32) (s1 : Int32) (μ : Mem) : Option Int32 := k4 (s1 + s0) (x2 + 1) μ
def f_X7_freedToDig_b4 (q : Nat)  : Nat → Int32 → Int32 → Mem → Option Int32
  | 0, _, _, _ => none
  | fuel4 + 1, x1, x2, μ => (if 32 ≤ x2 then (some x1) else (f_X7_canBeDug q x2 μ).bind (fun v1 => (if v1 = 0 then f_X7_freedToDig_b24 q (f_X7_freedToDig_b4 q fuel4) x2 0 x1 μ else f_X7_freedToDig_b24 q (f_X7_freedToDig_b4 q fuel4) x2 1 x1 μ)))
def f_X7_freedToDig (q : Nat) (μ : Mem) : Option Int32 := f_X7_freedToDig_b4 q FU 0 0 μ
set_option maxHeartbeats 4000000 in
set_option maxRecDepth 100000 in
theorem c_X7_freedToDig (l : Launch) {D : va_G} {cI cG cL : ClassId} {A : Nat → Prop} {EN : State → Heap → Prop} (hE : EnOK EN A) {w : Mem → va_W} {ad : Nat → Nat} {hh : Int64} {q : Nat} {μ : Mem} {r : Int32} (hw : ModelAt cI w ad hh q) (h : f_X7_freedToDig q μ = some r) : Met l yX7_freedToDig wsX7_freedToDig (rmk 3 67) (WPre D (tyl cI cG cL) A EN (w μ) [.ref (ad q)]) (PI D A (w μ) r) 0 0 A := by
  refine met_start (cc := cX7_freedToDig) (nL := 3) (ret := (some .int)) (own := RX7) hE (by decide) rfl rfl (Nat.le_of_ble_eq_true rfl) (fun p e s m args below meth c ls X hS hl hr hlk => ?_)
  have hx := X.1.1
  have hb := X.1.2.1
  replace hl : lv_has ls 3 [(0, .ref (ad q))] := hl
  have hb24 : ∀ (k4 : Int32 → Int32 → Mem → Option Int32), (∀ (x1 : Int32) (x2 : Int32) (H : Heap) (locs : List Loc) (ls : Array Slot), HS D A (w μ) s.heap H locs → lv_has ls 3 [(0, .ref (ad q)), (1, .int x1), (2, .int x2)] → k4 x1 x2 μ = some r → W p l e (headSpec wsX7_freedToDig (rmk 3 67)).room s m args below meth c H locs 0 0 (MQ below (PI D A (w μ) r) args s 0 0 A) (F0 m 4 ls [])) → ∀ (x2 : Int32) (s0 : Int32) (s1 : Int32) (H : Heap) (locs : List Loc) (ls : Array Slot), HS D A (w μ) s.heap H locs → lv_has ls 3 [(0, .ref (ad q)), (2, .int x2)] → f_X7_freedToDig_b24 q k4 x2 s0 s1 μ = some r → W p l e (headSpec wsX7_freedToDig (rmk 3 67)).room s m args below meth c H locs 0 0 (MQ below (PI D A (w μ) r) args s 0 0 A) (F0 m 24 ls [.int s0, .int s1]) := by
    intro k4 hk4 x2 s0 s1 H locs ls hS hl h
    unfold f_X7_freedToDig_b24 at h
    refine lv_iadd hx hb dX7_freedToDig_24 ?_
    refine lv_istore_n (lv' := [(1, .int (s1 + s0)), (0, .ref (ad q)), (2, .int x2)]) hx hb dX7_freedToDig_25 rfl hl (by decide) rfl (fun ls hl => ?_)
    refine lv_iinc (v := x2 + 1) (lv' := [(2, .int (x2 + 1)), (1, .int (s1 + s0)), (0, .ref (ad q))]) hx hb dX7_freedToDig_26 hl (k := 2) rfl rfl (by decide) rfl (fun ls hl => ?_)
    refine lv_goto (tgt := 4) hx hb dX7_freedToDig_29 (by decide) ?_
    exact hk4 (s1 + s0) (x2 + 1) _ _ _ hS (lv_sub hl [2, 1, 0] rfl) h
  have hb4 : ∀ (fu : Nat) (x1 : Int32) (x2 : Int32) (H : Heap) (locs : List Loc) (ls : Array Slot), HS D A (w μ) s.heap H locs → lv_has ls 3 [(0, .ref (ad q)), (1, .int x1), (2, .int x2)] → f_X7_freedToDig_b4 q fu x1 x2 μ = some r → W p l e (headSpec wsX7_freedToDig (rmk 3 67)).room s m args below meth c H locs 0 0 (MQ below (PI D A (w μ) r) args s 0 0 A) (F0 m 4 ls []) := by
    intro fu
    induction fu with
    | zero =>
      intro x1 x2 H locs ls hS hl h
      rw [f_X7_freedToDig_b4] at h
      cases h
    | succ fuel4 ih4 =>
      intro x1 x2 H locs ls hS hl h
      rw [f_X7_freedToDig_b4] at h
      refine lv_iload_n hx hb dX7_freedToDig_4 rfl (lv_at hl 2 rfl) ?_
      refine lv_bipush (v := 32) hx hb dX7_freedToDig_5 (by decide) ?_
      refine lv_icmp_ge (tgt := 32) hx hb dX7_freedToDig_7 (by decide) (fun cc => ?_) (fun cc => ?_)
      · replace h := it h cc
        refine lv_iload_n hx hb dX7_freedToDig_32 rfl (lv_at hl 1 rfl) ?_
        cases h
        exact r_iret X hS hr hlk dX7_freedToDig_33
      · replace h := ie h cc
        refine lv_iload_n hx hb dX7_freedToDig_10 rfl (lv_at hl 1 rfl) ?_
        refine lv_aload_n hx hb dX7_freedToDig_11 rfl (lv_at hl 0 rfl) ?_
        refine lv_iload_n hx hb dX7_freedToDig_12 rfl (lv_at hl 2 rfl) ?_
        obtain ⟨v1, ev1, h⟩ := ob h
        refine r_ci hS (r_runV (As := [.int x2]) (rest := [.int x1]) X hS (c_X7_canBeDug l hE (w := w) (ad := ad) (μ := μ) (D := D) (cI := cI) (cG := cG) (cL := cL) hw ev1) (cwV 1 X.1.2.2.2.2 gX7_freedToDig_X7_canBeDug rfl rfl rfl (by decide +kernel) ⟨Nat.le_of_ble_eq_true rfl, Nat.le_of_ble_eq_true rfl⟩) (q0 := q) (ci := 5) rfl (hw.1 μ).1 rfl hl.1 rfl (Nat.le_of_ble_eq_true rfl) dX7_freedToDig_13 ⟨Nat.zero_le _, Nat.zero_le _⟩) (fun H locs hS => ?_)
        refine lv_if_eq (tgt := 23) hx hb dX7_freedToDig_16 (by decide) (fun cc => ?_) (fun cc => ?_)
        · replace h := it h cc
          refine lv_iconst (v := 0) hx hb dX7_freedToDig_23 (by decide) ?_
          exact hb24 (f_X7_freedToDig_b4 q fuel4) ih4 x2 0 x1 _ _ _ hS (lv_sub hl [0, 2] rfl) h
        · replace h := ie h cc
          refine lv_iconst (v := 1) hx hb dX7_freedToDig_19 (by decide) ?_
          refine lv_goto (tgt := 24) hx hb dX7_freedToDig_20 (by decide) ?_
          exact hb24 (f_X7_freedToDig_b4 q fuel4) ih4 x2 1 x1 _ _ _ hS (lv_sub hl [0, 2] rfl) h
  unfold f_X7_freedToDig at h
  refine lv_iconst (v := 0) hx hb dX7_freedToDig_0 (by decide) ?_
  refine lv_istore_n (lv' := [(1, .int 0), (0, .ref (ad q))]) hx hb dX7_freedToDig_1 rfl hl (by decide) rfl (fun ls hl => ?_)
  refine lv_iconst (v := 0) hx hb dX7_freedToDig_2 (by decide) ?_
  refine lv_istore_n (lv' := [(2, .int 0), (1, .int 0), (0, .ref (ad q))]) hx hb dX7_freedToDig_3 rfl hl (by decide) rfl (fun ls hl => ?_)
  exact hb4 FU 0 0 _ _ _ hS (lv_sub hl [2, 1, 0] rfl) h
def f_X7_doClose_b37 (q : Nat)  : Nat → Int32 → Int32 → Int32 → Mem → Option (Int32 × Mem)
  | 0, _, _, _, _ => none
  | fuel37 + 1, x1, x2, x3, μ => (if 3 ≤ x3 then (f_X7_freedToDig q μ).bind (fun v4 => (some (v4 - x2, μ))) else (wr μ (q + 1) 470 ((454 + (3 * x1)) + x3) 0).bind (fun μ5 => f_X7_doClose_b37 q fuel37 x1 x2 (x3 + 1) μ5))
def f_X7_doClose (q : Nat) (a1 : Int32) (μ : Mem) : Option (Int32 × Mem) := (f_X7_in a1 0 3).bind (fun v1 => (if v1 = 0 then bn2 (f_X7_refuse q 1 μ) (fun v8 μ9 => (some (v8, μ9))) else (f_X7_ofReader q a1 0 μ).bind (fun v2 => (if v2 = 0 then bn2 (f_X7_refuse q 2 μ) (fun v6 μ7 => (some (v6, μ7))) else (f_X7_freedToDig q μ).bind (fun v3 => f_X7_doClose_b37 q FU a1 v3 0 μ)))))
set_option maxHeartbeats 4000000 in
set_option maxRecDepth 100000 in
theorem c_X7_doClose (l : Launch) {D : va_G} {cI cG cL : ClassId} {A : Nat → Prop} {EN : State → Heap → Prop} (hE : EnOK EN A) {w : Mem → va_W} {ad : Nat → Nat} {hh : Int64} {q : Nat} {a1 : Int32} {μ : Mem} {r : Int32} {μ' : Mem} (hw : ModelAt cI w ad hh q) (h : f_X7_doClose q a1 μ = some (r, μ')) : Met l yX7_doClose wsX7_doClose (rmk 4 89) (WPre D (tyl cI cG cL) A EN (w μ) [.ref (ad q), .int a1]) (PI D A (w μ') r) 0 0 A := by
  have hiX7 : ∀ w ∈ u_ws RX7 TX7 13, w ∈ wsX7_doClose := by decide +kernel
  have mf7 : Cond.fieldLink RX7 7 (TX7 0).1 (TX7 0).2.1 (TX7 0).2.2.1 ∈ wsX7_doClose := by decide +kernel
  refine met_start (cc := cX7_doClose) (nL := 4) (ret := (some .int)) (own := RX7) hE (by decide) rfl rfl (Nat.le_of_ble_eq_true rfl) (fun p e s m args below meth c ls X hS hl hr hlk => ?_)
  have hx := X.1.1
  have hb := X.1.2.1
  replace hl : lv_has ls 4 [(0, .ref (ad q)), (1, .int a1)] := hl
  have hb37 : ∀ (fu : Nat) (x1 : Int32) (x2 : Int32) (x3 : Int32) (μ : Mem) (H : Heap) (locs : List Loc) (ls : Array Slot), HS D A (w μ) s.heap H locs → lv_has ls 4 [(0, .ref (ad q)), (1, .int x1), (2, .int x2), (3, .int x3)] → f_X7_doClose_b37 q fu x1 x2 x3 μ = some (r, μ') → W p l e (headSpec wsX7_doClose (rmk 4 89)).room s m args below meth c H locs 0 0 (MQ below (PI D A (w μ') r) args s 0 0 A) (F0 m 37 ls []) := by
    intro fu
    induction fu with
    | zero =>
      intro x1 x2 x3 μ H locs ls hS hl h
      rw [f_X7_doClose_b37] at h
      cases h
    | succ fuel37 ih37 =>
      intro x1 x2 x3 μ H locs ls hS hl h
      rw [f_X7_doClose_b37] at h
      refine lv_iload_n hx hb dX7_doClose_37 rfl (lv_at hl 3 rfl) ?_
      refine lv_iconst (v := 3) hx hb dX7_doClose_38 (by decide) ?_
      refine lv_icmp_ge (tgt := 63) hx hb dX7_doClose_39 (by decide) (fun cc => ?_) (fun cc => ?_)
      · replace h := it h cc
        refine lv_aload_n hx hb dX7_doClose_63 rfl (lv_at hl 0 rfl) ?_
        obtain ⟨v4, ev4, h⟩ := ob h
        refine r_ci hS (r_runV (As := []) (rest := []) X hS (c_X7_freedToDig l hE (w := w) (ad := ad) (μ := μ) (D := D) (cI := cI) (cG := cG) (cL := cL) hw ev4) (cwV 0 X.1.2.2.2.2 gX7_doClose_X7_freedToDig rfl rfl rfl (by decide +kernel) ⟨Nat.le_of_ble_eq_true rfl, Nat.le_of_ble_eq_true rfl⟩) (q0 := q) (ci := 5) rfl (hw.1 μ).1 rfl hl.1 rfl (Nat.le_of_ble_eq_true rfl) dX7_doClose_64 ⟨Nat.zero_le _, Nat.zero_le _⟩) (fun H locs hS => ?_)
        refine lv_iload_n hx hb dX7_doClose_67 rfl (lv_at hl 2 rfl) ?_
        refine lv_isub hx hb dX7_doClose_68 ?_
        obtain ⟨rfl, rfl⟩ := pr2 h
        exact r_iret X hS hr hlk dX7_doClose_69
      · replace h := ie h cc
        refine lv_aload_n hx hb dX7_doClose_42 rfl (lv_at hl 0 rfl) ?_
        refine r_get X hS (T := TX7) (k := 0) (hw.1 μ).1 rfl hiX7 (by decide) mf7 rfl dX7_doClose_43 ?_
        refine lv_sipush (v := 454) hx hb dX7_doClose_46 (by decide) ?_
        refine lv_iconst (v := 3) hx hb dX7_doClose_49 (by decide) ?_
        refine lv_iload_n hx hb dX7_doClose_50 rfl (lv_at hl 1 rfl) ?_
        refine lv_imul hx hb dX7_doClose_51 ?_
        refine lv_iadd hx hb dX7_doClose_52 ?_
        refine lv_iload_n hx hb dX7_doClose_53 rfl (lv_at hl 3 rfl) ?_
        refine lv_iadd hx hb dX7_doClose_54 ?_
        refine lv_iconst (v := 0) hx hb dX7_doClose_55 (by decide) ?_
        obtain ⟨μ5, eμ5, h⟩ := ob h
        refine r_iast X hS hw.2.1 eμ5 dX7_doClose_56 (fun H locs hS => ?_)
        refine lv_iinc (v := x3 + 1) (lv' := [(3, .int (x3 + 1)), (0, .ref (ad q)), (1, .int x1), (2, .int x2)]) hx hb dX7_doClose_57 hl (k := 3) rfl rfl (by decide) rfl (fun ls hl => ?_)
        refine lv_goto (tgt := 37) hx hb dX7_doClose_60 (by decide) ?_
        exact ih37 x1 x2 (x3 + 1) μ5 _ _ _ hS (lv_sub hl [1, 2, 3, 0] rfl) h
  unfold f_X7_doClose at h
  refine lv_iload_n hx hb dX7_doClose_0 rfl (lv_at hl 1 rfl) ?_
  refine lv_iconst (v := 0) hx hb dX7_doClose_1 (by decide) ?_
  refine lv_iconst (v := 3) hx hb dX7_doClose_2 (by decide) ?_
  obtain ⟨v1, ev1, h⟩ := ob h
  refine r_ci hS (r_runS (As := [.int a1, .int 0, .int 3]) (rest := []) X hS (c_X7_in l hE (w := w) (ad := ad) (μ := μ) (D := D) (cI := cI) (cG := cG) (cL := cL) ev1) (va_cwS 3 X.1.2.2.2.2 gX7_doClose_X7_in rfl rfl rfl (by decide +kernel) ⟨Nat.le_of_ble_eq_true rfl, Nat.le_of_ble_eq_true rfl⟩) rfl hl.1 rfl (Nat.le_of_ble_eq_true rfl) dX7_doClose_3 ⟨Nat.zero_le _, Nat.zero_le _⟩) (fun H locs hS => ?_)
  refine lv_if_ne (tgt := 15) hx hb dX7_doClose_6 (by decide) (fun cc => ?_) (fun cc => ?_)
  · replace h := ie h cc
    refine lv_aload_n hx hb dX7_doClose_15 rfl (lv_at hl 0 rfl) ?_
    refine lv_iload_n hx hb dX7_doClose_16 rfl (lv_at hl 1 rfl) ?_
    refine lv_iconst (v := 0) hx hb dX7_doClose_17 (by decide) ?_
    obtain ⟨v2, ev2, h⟩ := ob h
    refine r_ci hS (r_runV (As := [.int a1, .int 0]) (rest := []) X hS (c_X7_ofReader l hE (w := w) (ad := ad) (μ := μ) (D := D) (cI := cI) (cG := cG) (cL := cL) hw ev2) (cwV 2 X.1.2.2.2.2 gX7_doClose_X7_ofReader rfl rfl rfl (by decide +kernel) ⟨Nat.le_of_ble_eq_true rfl, Nat.le_of_ble_eq_true rfl⟩) (q0 := q) (ci := 5) rfl (hw.1 μ).1 rfl hl.1 rfl (Nat.le_of_ble_eq_true rfl) dX7_doClose_18 ⟨Nat.zero_le _, Nat.zero_le _⟩) (fun H locs hS => ?_)
    refine lv_if_ne (tgt := 30) hx hb dX7_doClose_21 (by decide) (fun cc => ?_) (fun cc => ?_)
    · replace h := ie h cc
      refine lv_aload_n hx hb dX7_doClose_30 rfl (lv_at hl 0 rfl) ?_
      obtain ⟨v3, ev3, h⟩ := ob h
      refine r_ci hS (r_runV (As := []) (rest := []) X hS (c_X7_freedToDig l hE (w := w) (ad := ad) (μ := μ) (D := D) (cI := cI) (cG := cG) (cL := cL) hw ev3) (cwV 0 X.1.2.2.2.2 gX7_doClose_X7_freedToDig rfl rfl rfl (by decide +kernel) ⟨Nat.le_of_ble_eq_true rfl, Nat.le_of_ble_eq_true rfl⟩) (q0 := q) (ci := 5) rfl (hw.1 μ).1 rfl hl.1 rfl (Nat.le_of_ble_eq_true rfl) dX7_doClose_31 ⟨Nat.zero_le _, Nat.zero_le _⟩) (fun H locs hS => ?_)
      refine lv_istore_n (lv' := [(2, .int v3), (0, .ref (ad q)), (1, .int a1)]) hx hb dX7_doClose_34 rfl hl (by decide) rfl (fun ls hl => ?_)
      refine lv_iconst (v := 0) hx hb dX7_doClose_35 (by decide) ?_
      refine lv_istore_n (lv' := [(3, .int 0), (2, .int v3), (0, .ref (ad q)), (1, .int a1)]) hx hb dX7_doClose_36 rfl hl (by decide) rfl (fun ls hl => ?_)
      exact hb37 FU a1 v3 0 μ _ _ _ hS (lv_sub hl [2, 3, 1, 0] rfl) h
    · replace h := it h cc
      refine lv_aload_n hx hb dX7_doClose_24 rfl (lv_at hl 0 rfl) ?_
      refine lv_iconst (v := 2) hx hb dX7_doClose_25 (by decide) ?_
      obtain ⟨v6, μ7, ev6, h⟩ := ob2 h
      refine r_ci hS (r_runV (As := [.int 2]) (rest := []) X hS (c_X7_refuse l hE (w := w) (ad := ad) (μ := μ) (D := D) (cI := cI) (cG := cG) (cL := cL) hw ev6) (cwV 1 X.1.2.2.2.2 gX7_doClose_X7_refuse rfl rfl rfl (by decide +kernel) ⟨Nat.le_of_ble_eq_true rfl, Nat.le_of_ble_eq_true rfl⟩) (q0 := q) (ci := 5) rfl (hw.1 μ).1 rfl hl.1 rfl (Nat.le_of_ble_eq_true rfl) dX7_doClose_26 ⟨Nat.zero_le _, Nat.zero_le _⟩) (fun H locs hS => ?_)
      obtain ⟨rfl, rfl⟩ := pr2 h
      exact r_iret X hS hr hlk dX7_doClose_29
  · replace h := it h cc
    refine lv_aload_n hx hb dX7_doClose_9 rfl (lv_at hl 0 rfl) ?_
    refine lv_iconst (v := 1) hx hb dX7_doClose_10 (by decide) ?_
    obtain ⟨v8, μ9, ev8, h⟩ := ob2 h
    refine r_ci hS (r_runV (As := [.int 1]) (rest := []) X hS (c_X7_refuse l hE (w := w) (ad := ad) (μ := μ) (D := D) (cI := cI) (cG := cG) (cL := cL) hw ev8) (cwV 1 X.1.2.2.2.2 gX7_doClose_X7_refuse rfl rfl rfl (by decide +kernel) ⟨Nat.le_of_ble_eq_true rfl, Nat.le_of_ble_eq_true rfl⟩) (q0 := q) (ci := 5) rfl (hw.1 μ).1 rfl hl.1 rfl (Nat.le_of_ble_eq_true rfl) dX7_doClose_11 ⟨Nat.zero_le _, Nat.zero_le _⟩) (fun H locs hS => ?_)
    obtain ⟨rfl, rfl⟩ := pr2 h
    exact r_iret X hS hr hlk dX7_doClose_14
def f_X7_close (q : Nat) (a1 : Int32) (μ : Mem) : Option (Int32 × Mem) := (f_X7_hold q μ).bind (fun μ1 => bn2 (f_X7_doClose q a1 μ1) (fun v2 μ3 => bn2 (f_X7_ends q v2 μ3) (fun v4 μ5 => (some (v4, μ5)))))
set_option maxHeartbeats 4000000 in
set_option maxRecDepth 100000 in
theorem c_X7_close (l : Launch) {D : va_G} {cI cG cL : ClassId} {A : Nat → Prop} {EN : State → Heap → Prop} (hE : EnOK EN A) {w : Mem → va_W} {ad : Nat → Nat} {hh : Int64} {q : Nat} {a1 : Int32} {μ : Mem} {r : Int32} {μ' : Mem} (hw : ModelAt cI w ad hh q) (h : f_X7_close q a1 μ = some (r, μ')) : Met l yX7_close wsX7_close (rmk 5 112) (WPre D (tyl cI cG cL) A EN (w μ) [.ref (ad q), .int a1]) (PI D A (w μ') r) 0 0 A := by
  refine met_start (cc := cX7_close) (nL := 2) (ret := (some .int)) (own := RX7) hE (by decide) rfl rfl (Nat.le_of_ble_eq_true rfl) (fun p e s m args below meth c ls X hS hl hr hlk => ?_)
  have hx := X.1.1
  have hb := X.1.2.1
  replace hl : lv_has ls 2 [(0, .ref (ad q)), (1, .int a1)] := hl
  unfold f_X7_close at h
  refine lv_aload_n hx hb dX7_close_0 rfl (lv_at hl 0 rfl) ?_
  obtain ⟨μ1, eμ1, h⟩ := ob h
  refine r_cv hS (r_runV (As := []) (rest := []) X hS (c_X7_hold l hE (w := w) (ad := ad) (μ := μ) (D := D) (cI := cI) (cG := cG) (cL := cL) hw eμ1) (cwV 0 X.1.2.2.2.2 gX7_close_X7_hold rfl rfl rfl (by decide +kernel) ⟨Nat.le_of_ble_eq_true rfl, Nat.le_of_ble_eq_true rfl⟩) (q0 := q) (ci := 5) rfl (hw.1 μ).1 rfl hl.1 rfl (Nat.le_of_ble_eq_true rfl) dX7_close_1 ⟨Nat.zero_le _, Nat.zero_le _⟩) (fun H locs hS => ?_)
  refine lv_aload_n hx hb dX7_close_4 rfl (lv_at hl 0 rfl) ?_
  refine lv_aload_n hx hb dX7_close_5 rfl (lv_at hl 0 rfl) ?_
  refine lv_iload_n hx hb dX7_close_6 rfl (lv_at hl 1 rfl) ?_
  obtain ⟨v2, μ3, ev2, h⟩ := ob2 h
  refine r_ci hS (r_runV (As := [.int a1]) (rest := [.ref (ad q)]) X hS (c_X7_doClose l hE (w := w) (ad := ad) (μ := μ1) (D := D) (cI := cI) (cG := cG) (cL := cL) hw ev2) (cwV 1 X.1.2.2.2.2 gX7_close_X7_doClose rfl rfl rfl (by decide +kernel) ⟨Nat.le_of_ble_eq_true rfl, Nat.le_of_ble_eq_true rfl⟩) (q0 := q) (ci := 5) rfl (hw.1 μ1).1 rfl hl.1 rfl (Nat.le_of_ble_eq_true rfl) dX7_close_7 ⟨Nat.zero_le _, Nat.zero_le _⟩) (fun H locs hS => ?_)
  obtain ⟨v4, μ5, ev4, h⟩ := ob2 h
  refine r_ci hS (r_runV (As := [.int v2]) (rest := []) X hS (c_X7_ends l hE (w := w) (ad := ad) (μ := μ3) (D := D) (cI := cI) (cG := cG) (cL := cL) hw ev4) (cwV 1 X.1.2.2.2.2 gX7_close_X7_ends rfl rfl rfl (by decide +kernel) ⟨Nat.le_of_ble_eq_true rfl, Nat.le_of_ble_eq_true rfl⟩) (q0 := q) (ci := 5) rfl (hw.1 μ3).1 rfl hl.1 rfl (Nat.le_of_ble_eq_true rfl) dX7_close_10 ⟨Nat.zero_le _, Nat.zero_le _⟩) (fun H locs hS => ?_)
  obtain ⟨rfl, rfl⟩ := pr2 h
  exact r_iret X hS hr hlk dX7_close_13
def f_X7_isKey (a0 : Int32) : Option Int32 := (f_X7_in a0 0 99).bind (fun v1 => (zr v1).bind (fun v2 => (some v2)))
set_option maxHeartbeats 4000000 in
set_option maxRecDepth 100000 in
theorem c_X7_isKey (l : Launch) {D : va_G} {cI cG cL : ClassId} {A : Nat → Prop} {EN : State → Heap → Prop} (hE : EnOK EN A) {w : Mem → va_W} {ad : Nat → Nat} {a0 : Int32} {μ : Mem} {r : Int32}  (h : f_X7_isKey a0 = some r) : Met l yX7_isKey wsX7_isKey (rmk 1 22) (WPre D (tyl cI cG cL) A EN (w μ) [.int a0]) (PI D A (w μ) r) 0 0 A := by
  refine met_start (cc := cX7_isKey) (nL := 1) (ret := (some .boolean)) (own := RX7) hE (by decide) rfl rfl (Nat.le_of_ble_eq_true rfl) (fun p e s m args below meth c ls X hS hl hr hlk => ?_)
  have hx := X.1.1
  have hb := X.1.2.1
  replace hl : lv_has ls 1 [(0, .int a0)] := hl
  unfold f_X7_isKey at h
  refine lv_iload_n hx hb dX7_isKey_0 rfl (lv_at hl 0 rfl) ?_
  refine lv_iconst (v := 0) hx hb dX7_isKey_1 (by decide) ?_
  refine lv_bipush (v := 99) hx hb dX7_isKey_2 (by decide) ?_
  obtain ⟨v1, ev1, h⟩ := ob h
  refine r_ci hS (r_runS (As := [.int a0, .int 0, .int 99]) (rest := []) X hS (c_X7_in l hE (w := w) (ad := ad) (μ := μ) (D := D) (cI := cI) (cG := cG) (cL := cL) ev1) (va_cwS 3 X.1.2.2.2.2 gX7_isKey_X7_in rfl rfl rfl (by decide +kernel) ⟨Nat.le_of_ble_eq_true rfl, Nat.le_of_ble_eq_true rfl⟩) rfl hl.1 rfl (Nat.le_of_ble_eq_true rfl) dX7_isKey_4 ⟨Nat.zero_le _, Nat.zero_le _⟩) (fun H locs hS => ?_)
  obtain ⟨v2, ev2, h⟩ := ob h
  obtain ⟨ezv2, eov2⟩ := zr_ok ev2
  rw [ezv2]
  cases h
  exact r_zret X hS hr hlk eov2 dX7_isKey_7
def f_X7_isReader (a0 : Int32) : Option Int32 := (f_X7_in a0 0 3).bind (fun v1 => (zr v1).bind (fun v2 => (some v2)))
set_option maxHeartbeats 4000000 in
set_option maxRecDepth 100000 in
theorem c_X7_isReader (l : Launch) {D : va_G} {cI cG cL : ClassId} {A : Nat → Prop} {EN : State → Heap → Prop} (hE : EnOK EN A) {w : Mem → va_W} {ad : Nat → Nat} {a0 : Int32} {μ : Mem} {r : Int32}  (h : f_X7_isReader a0 = some r) : Met l yX7_isReader wsX7_isReader (rmk 1 22) (WPre D (tyl cI cG cL) A EN (w μ) [.int a0]) (PI D A (w μ) r) 0 0 A := by
  refine met_start (cc := cX7_isReader) (nL := 1) (ret := (some .boolean)) (own := RX7) hE (by decide) rfl rfl (Nat.le_of_ble_eq_true rfl) (fun p e s m args below meth c ls X hS hl hr hlk => ?_)
  have hx := X.1.1
  have hb := X.1.2.1
  replace hl : lv_has ls 1 [(0, .int a0)] := hl
  unfold f_X7_isReader at h
  refine lv_iload_n hx hb dX7_isReader_0 rfl (lv_at hl 0 rfl) ?_
  refine lv_iconst (v := 0) hx hb dX7_isReader_1 (by decide) ?_
  refine lv_iconst (v := 3) hx hb dX7_isReader_2 (by decide) ?_
  obtain ⟨v1, ev1, h⟩ := ob h
  refine r_ci hS (r_runS (As := [.int a0, .int 0, .int 3]) (rest := []) X hS (c_X7_in l hE (w := w) (ad := ad) (μ := μ) (D := D) (cI := cI) (cG := cG) (cL := cL) ev1) (va_cwS 3 X.1.2.2.2.2 gX7_isReader_X7_in rfl rfl rfl (by decide +kernel) ⟨Nat.le_of_ble_eq_true rfl, Nat.le_of_ble_eq_true rfl⟩) rfl hl.1 rfl (Nat.le_of_ble_eq_true rfl) dX7_isReader_3 ⟨Nat.zero_le _, Nat.zero_le _⟩) (fun H locs hS => ?_)
  obtain ⟨v2, ev2, h⟩ := ob h
  obtain ⟨ezv2, eov2⟩ := zr_ok ev2
  rw [ezv2]
  cases h
  exact r_zret X hS hr hlk eov2 dX7_isReader_6
def f_X7_get_b29 (q : Nat) (s0 : Int32) (μ : Mem) : Option (Int32 × Mem) := (some (s0, μ))
def f_X7_get (q : Nat) (a1 : Int32) (μ : Mem) : Option (Int32 × Mem) := (pf μ q 6 0).bind (fun μ1 => (f_X7_isKey a1).bind (fun v2 => (if v2 = 0 then bn2 (f_X7_fails q 1 μ1) (fun v3 μ4 => f_X7_get_b29 q v3 μ4) else (f_X7_now q μ1).bind (fun v5 => (f_X7_valueBy q v5 a1 μ1).bind (fun v6 => f_X7_get_b29 q v6 μ1)))))
set_option maxHeartbeats 4000000 in
set_option maxRecDepth 100000 in
theorem c_X7_get (l : Launch) {D : va_G} {cI cG cL : ClassId} {A : Nat → Prop} {EN : State → Heap → Prop} (hE : EnOK EN A) {w : Mem → va_W} {ad : Nat → Nat} {hh : Int64} {q : Nat} {a1 : Int32} {μ : Mem} {r : Int32} {μ' : Mem} (hw : ModelAt cI w ad hh q) (h : f_X7_get q a1 μ = some (r, μ')) : Met l yX7_get wsX7_get (rmk 4 92) (WPre D (tyl cI cG cL) A EN (w μ) [.ref (ad q), .int a1]) (PI D A (w μ') r) 0 0 A := by
  have hiX7 : ∀ w ∈ u_ws RX7 TX7 13, w ∈ wsX7_get := by decide +kernel
  have mf28 : Cond.fieldLink RX7 28 (TX7 6).1 (TX7 6).2.1 (TX7 6).2.2.1 ∈ wsX7_get := by decide +kernel
  refine met_start (cc := cX7_get) (nL := 2) (ret := (some .int)) (own := RX7) hE (by decide) rfl rfl (Nat.le_of_ble_eq_true rfl) (fun p e s m args below meth c ls X hS hl hr hlk => ?_)
  have hx := X.1.1
  have hb := X.1.2.1
  replace hl : lv_has ls 2 [(0, .ref (ad q)), (1, .int a1)] := hl
  have hb29 : ∀ (s0 : Int32) (μ : Mem) (H : Heap) (locs : List Loc) (ls : Array Slot), HS D A (w μ) s.heap H locs → lv_has ls 2 [] → f_X7_get_b29 q s0 μ = some (r, μ') → W p l e (headSpec wsX7_get (rmk 4 92)).room s m args below meth c H locs 0 0 (MQ below (PI D A (w μ') r) args s 0 0 A) (F0 m 29 ls [.int s0]) := by
    intro s0 μ H locs ls hS hl h
    unfold f_X7_get_b29 at h
    obtain ⟨rfl, rfl⟩ := pr2 h
    exact r_iret X hS hr hlk dX7_get_29
  unfold f_X7_get at h
  refine lv_aload_n hx hb dX7_get_0 rfl (lv_at hl 0 rfl) ?_
  refine lv_iconst (v := 0) hx hb dX7_get_1 (by decide) ?_
  obtain ⟨μ1, eμ1, h⟩ := ob h
  refine r_putp (w := w) X hS (T := TX7) (k := 6) eμ1 hw.1 rfl hiX7 tyX7 tyX7_ok nmX7 (by decide) mf28 rfl rfl rfl (Nat.le_of_ble_eq_true rfl) rfl dX7_get_2 (fun H locs hS => ?_)
  refine lv_iload_n hx hb dX7_get_5 rfl (lv_at hl 1 rfl) ?_
  obtain ⟨v2, ev2, h⟩ := ob h
  refine r_ci hS (r_runS (As := [.int a1]) (rest := []) X hS (c_X7_isKey l hE (w := w) (ad := ad) (μ := μ1) (D := D) (cI := cI) (cG := cG) (cL := cL) ev2) (va_cwS 1 X.1.2.2.2.2 gX7_get_X7_isKey rfl rfl rfl (by decide +kernel) ⟨Nat.le_of_ble_eq_true rfl, Nat.le_of_ble_eq_true rfl⟩) rfl hl.1 rfl (Nat.le_of_ble_eq_true rfl) dX7_get_6 ⟨Nat.zero_le _, Nat.zero_le _⟩) (fun H locs hS => ?_)
  refine lv_if_eq (tgt := 24) hx hb dX7_get_9 (by decide) (fun cc => ?_) (fun cc => ?_)
  · replace h := it h cc
    refine lv_aload_n hx hb dX7_get_24 rfl (lv_at hl 0 rfl) ?_
    refine lv_iconst (v := 1) hx hb dX7_get_25 (by decide) ?_
    obtain ⟨v3, μ4, ev3, h⟩ := ob2 h
    refine r_ci hS (r_runV (As := [.int 1]) (rest := []) X hS (c_X7_fails l hE (w := w) (ad := ad) (μ := μ1) (D := D) (cI := cI) (cG := cG) (cL := cL) hw ev3) (cwV 1 X.1.2.2.2.2 gX7_get_X7_fails rfl rfl rfl (by decide +kernel) ⟨Nat.le_of_ble_eq_true rfl, Nat.le_of_ble_eq_true rfl⟩) (q0 := q) (ci := 5) rfl (hw.1 μ1).1 rfl hl.1 rfl (Nat.le_of_ble_eq_true rfl) dX7_get_26 ⟨Nat.zero_le _, Nat.zero_le _⟩) (fun H locs hS => ?_)
    exact hb29 v3 μ4 _ _ _ hS (lv_sub hl [] rfl) h
  · replace h := ie h cc
    refine lv_aload_n hx hb dX7_get_12 rfl (lv_at hl 0 rfl) ?_
    refine lv_aload_n hx hb dX7_get_13 rfl (lv_at hl 0 rfl) ?_
    obtain ⟨v5, ev5, h⟩ := ob h
    refine r_ci hS (r_runV (As := []) (rest := [.ref (ad q)]) X hS (c_X7_now l hE (w := w) (ad := ad) (μ := μ1) (D := D) (cI := cI) (cG := cG) (cL := cL) hw ev5) (cwV 0 X.1.2.2.2.2 gX7_get_X7_now rfl rfl rfl (by decide +kernel) ⟨Nat.le_of_ble_eq_true rfl, Nat.le_of_ble_eq_true rfl⟩) (q0 := q) (ci := 5) rfl (hw.1 μ1).1 rfl hl.1 rfl (Nat.le_of_ble_eq_true rfl) dX7_get_14 ⟨Nat.zero_le _, Nat.zero_le _⟩) (fun H locs hS => ?_)
    refine lv_iload_n hx hb dX7_get_17 rfl (lv_at hl 1 rfl) ?_
    obtain ⟨v6, ev6, h⟩ := ob h
    refine r_ci hS (r_runV (As := [.int v5, .int a1]) (rest := []) X hS (c_X7_valueBy l hE (w := w) (ad := ad) (μ := μ1) (D := D) (cI := cI) (cG := cG) (cL := cL) hw ev6) (cwV 2 X.1.2.2.2.2 gX7_get_X7_valueBy rfl rfl rfl (by decide +kernel) ⟨Nat.le_of_ble_eq_true rfl, Nat.le_of_ble_eq_true rfl⟩) (q0 := q) (ci := 5) rfl (hw.1 μ1).1 rfl hl.1 rfl (Nat.le_of_ble_eq_true rfl) dX7_get_18 ⟨Nat.zero_le _, Nat.zero_le _⟩) (fun H locs hS => ?_)
    refine lv_goto (tgt := 29) hx hb dX7_get_21 (by decide) ?_
    exact hb29 v6 μ1 _ _ _ hS (lv_sub hl [] rfl) h
def f_X7_drafted_b51 (q : Nat) (s0 : Int32) (μ : Mem) : Option (Int32 × Mem) := (some (s0, μ))
def f_X7_drafted_b28 (q : Nat) (x1 : Int32) (s0 : Int32) (μ : Mem) : Option (Int32 × Mem) := (pf μ q 6 s0).bind (fun μ3 => (if (μ3 q 6) = 0 then (f_X7_drafts q μ3).bind (fun v4 => (f_X7_valueBy q v4 x1 μ3).bind (fun v5 => f_X7_drafted_b51 q v5 μ3)) else f_X7_drafted_b51 q 0 μ3))
def f_X7_drafted (q : Nat) (a1 : Int32) (μ : Mem) : Option (Int32 × Mem) := (f_X7_isKey a1).bind (fun v1 => (if v1 = 0 then f_X7_drafted_b28 q a1 1 μ else (rd 470 (μ (q + 1)) 466).bind (fun v2 => (if v2 = 0 then f_X7_drafted_b28 q a1 2 μ else f_X7_drafted_b28 q a1 0 μ))))
set_option maxHeartbeats 4000000 in
set_option maxRecDepth 100000 in
theorem c_X7_drafted (l : Launch) {D : va_G} {cI cG cL : ClassId} {A : Nat → Prop} {EN : State → Heap → Prop} (hE : EnOK EN A) {w : Mem → va_W} {ad : Nat → Nat} {hh : Int64} {q : Nat} {a1 : Int32} {μ : Mem} {r : Int32} {μ' : Mem} (hw : ModelAt cI w ad hh q) (h : f_X7_drafted q a1 μ = some (r, μ')) : Met l yX7_drafted wsX7_drafted (rmk 4 92) (WPre D (tyl cI cG cL) A EN (w μ) [.ref (ad q), .int a1]) (PI D A (w μ') r) 0 0 A := by
  have hiX7 : ∀ w ∈ u_ws RX7 TX7 13, w ∈ wsX7_drafted := by decide +kernel
  have mf7 : Cond.fieldLink RX7 7 (TX7 0).1 (TX7 0).2.1 (TX7 0).2.2.1 ∈ wsX7_drafted := by decide +kernel
  have mf28 : Cond.fieldLink RX7 28 (TX7 6).1 (TX7 6).2.1 (TX7 6).2.2.1 ∈ wsX7_drafted := by decide +kernel
  refine met_start (cc := cX7_drafted) (nL := 2) (ret := (some .int)) (own := RX7) hE (by decide) rfl rfl (Nat.le_of_ble_eq_true rfl) (fun p e s m args below meth c ls X hS hl hr hlk => ?_)
  have hx := X.1.1
  have hb := X.1.2.1
  replace hl : lv_has ls 2 [(0, .ref (ad q)), (1, .int a1)] := hl
  have hb51 : ∀ (s0 : Int32) (μ : Mem) (H : Heap) (locs : List Loc) (ls : Array Slot), HS D A (w μ) s.heap H locs → lv_has ls 2 [] → f_X7_drafted_b51 q s0 μ = some (r, μ') → W p l e (headSpec wsX7_drafted (rmk 4 92)).room s m args below meth c H locs 0 0 (MQ below (PI D A (w μ') r) args s 0 0 A) (F0 m 51 ls [.int s0]) := by
    intro s0 μ H locs ls hS hl h
    unfold f_X7_drafted_b51 at h
    obtain ⟨rfl, rfl⟩ := pr2 h
    exact r_iret X hS hr hlk dX7_drafted_51
  have hb28 : ∀ (x1 : Int32) (s0 : Int32) (μ : Mem) (H : Heap) (locs : List Loc) (ls : Array Slot), HS D A (w μ) s.heap H locs → lv_has ls 2 [(0, .ref (ad q)), (1, .int x1)] → f_X7_drafted_b28 q x1 s0 μ = some (r, μ') → W p l e (headSpec wsX7_drafted (rmk 4 92)).room s m args below meth c H locs 0 0 (MQ below (PI D A (w μ') r) args s 0 0 A) (F0 m 28 ls [.int s0, .ref (ad q)]) := by
    intro x1 s0 μ H locs ls hS hl h
    unfold f_X7_drafted_b28 at h
    obtain ⟨μ3, eμ3, h⟩ := ob h
    refine r_putp (w := w) X hS (T := TX7) (k := 6) eμ3 hw.1 rfl hiX7 tyX7 tyX7_ok nmX7 (by decide) mf28 rfl rfl rfl (Nat.le_of_ble_eq_true rfl) rfl dX7_drafted_28 (fun H locs hS => ?_)
    refine lv_aload_n hx hb dX7_drafted_31 rfl (lv_at hl 0 rfl) ?_
    refine r_get X hS (T := TX7) (k := 6) (hw.1 μ3).1 rfl hiX7 (by decide) mf28 rfl dX7_drafted_32 ?_
    refine lv_if_ne (tgt := 50) hx hb dX7_drafted_35 (by decide) (fun cc => ?_) (fun cc => ?_)
    · replace h := ie h cc
      refine lv_iconst (v := 0) hx hb dX7_drafted_50 (by decide) ?_
      exact hb51 0 μ3 _ _ _ hS (lv_sub hl [] rfl) h
    · replace h := it h cc
      refine lv_aload_n hx hb dX7_drafted_38 rfl (lv_at hl 0 rfl) ?_
      refine lv_aload_n hx hb dX7_drafted_39 rfl (lv_at hl 0 rfl) ?_
      obtain ⟨v4, ev4, h⟩ := ob h
      refine r_ci hS (r_runV (As := []) (rest := [.ref (ad q)]) X hS (c_X7_drafts l hE (w := w) (ad := ad) (μ := μ3) (D := D) (cI := cI) (cG := cG) (cL := cL) hw ev4) (cwV 0 X.1.2.2.2.2 gX7_drafted_X7_drafts rfl rfl rfl (by decide +kernel) ⟨Nat.le_of_ble_eq_true rfl, Nat.le_of_ble_eq_true rfl⟩) (q0 := q) (ci := 5) rfl (hw.1 μ3).1 rfl hl.1 rfl (Nat.le_of_ble_eq_true rfl) dX7_drafted_40 ⟨Nat.zero_le _, Nat.zero_le _⟩) (fun H locs hS => ?_)
      refine lv_iload_n hx hb dX7_drafted_43 rfl (lv_at hl 1 rfl) ?_
      obtain ⟨v5, ev5, h⟩ := ob h
      refine r_ci hS (r_runV (As := [.int v4, .int x1]) (rest := []) X hS (c_X7_valueBy l hE (w := w) (ad := ad) (μ := μ3) (D := D) (cI := cI) (cG := cG) (cL := cL) hw ev5) (cwV 2 X.1.2.2.2.2 gX7_drafted_X7_valueBy rfl rfl rfl (by decide +kernel) ⟨Nat.le_of_ble_eq_true rfl, Nat.le_of_ble_eq_true rfl⟩) (q0 := q) (ci := 5) rfl (hw.1 μ3).1 rfl hl.1 rfl (Nat.le_of_ble_eq_true rfl) dX7_drafted_44 ⟨Nat.zero_le _, Nat.zero_le _⟩) (fun H locs hS => ?_)
      refine lv_goto (tgt := 51) hx hb dX7_drafted_47 (by decide) ?_
      exact hb51 v5 μ3 _ _ _ hS (lv_sub hl [] rfl) h
  unfold f_X7_drafted at h
  refine lv_aload_n hx hb dX7_drafted_0 rfl (lv_at hl 0 rfl) ?_
  refine lv_iload_n hx hb dX7_drafted_1 rfl (lv_at hl 1 rfl) ?_
  obtain ⟨v1, ev1, h⟩ := ob h
  refine r_ci hS (r_runS (As := [.int a1]) (rest := [.ref (ad q)]) X hS (c_X7_isKey l hE (w := w) (ad := ad) (μ := μ) (D := D) (cI := cI) (cG := cG) (cL := cL) ev1) (va_cwS 1 X.1.2.2.2.2 gX7_drafted_X7_isKey rfl rfl rfl (by decide +kernel) ⟨Nat.le_of_ble_eq_true rfl, Nat.le_of_ble_eq_true rfl⟩) rfl hl.1 rfl (Nat.le_of_ble_eq_true rfl) dX7_drafted_2 ⟨Nat.zero_le _, Nat.zero_le _⟩) (fun H locs hS => ?_)
  refine lv_if_ne (tgt := 12) hx hb dX7_drafted_5 (by decide) (fun cc => ?_) (fun cc => ?_)
  · replace h := ie h cc
    refine lv_aload_n hx hb dX7_drafted_12 rfl (lv_at hl 0 rfl) ?_
    refine r_get X hS (T := TX7) (k := 0) (hw.1 μ).1 rfl hiX7 (by decide) mf7 rfl dX7_drafted_13 ?_
    refine lv_sipush (v := 466) hx hb dX7_drafted_16 (by decide) ?_
    obtain ⟨v2, ev2, h⟩ := ob h
    refine r_iald X hS (hw.2.1 μ).1 ev2 dX7_drafted_19 ?_
    refine lv_if_ne (tgt := 27) hx hb dX7_drafted_20 (by decide) (fun cc => ?_) (fun cc => ?_)
    · replace h := ie h cc
      refine lv_iconst (v := 0) hx hb dX7_drafted_27 (by decide) ?_
      exact hb28 a1 0 μ _ _ _ hS (lv_sub hl [0, 1] rfl) h
    · replace h := it h cc
      refine lv_iconst (v := 2) hx hb dX7_drafted_23 (by decide) ?_
      refine lv_goto (tgt := 28) hx hb dX7_drafted_24 (by decide) ?_
      exact hb28 a1 2 μ _ _ _ hS (lv_sub hl [0, 1] rfl) h
  · replace h := it h cc
    refine lv_iconst (v := 1) hx hb dX7_drafted_8 (by decide) ?_
    refine lv_goto (tgt := 28) hx hb dX7_drafted_9 (by decide) ?_
    exact hb28 a1 1 μ _ _ _ hS (lv_sub hl [0, 1] rfl) h
def f_X7_read_b62 (q : Nat) (s0 : Int32) (μ : Mem) : Option (Int32 × Mem) := (some (s0, μ))
def f_X7_read_b37 (q : Nat) (x1 : Int32) (x2 : Int32) (s0 : Int32) (μ : Mem) : Option (Int32 × Mem) := (pf μ q 6 s0).bind (fun μ4 => (if (μ4 q 6) = 0 then (f_X7_ofReader q x1 2 μ4).bind (fun v5 => (f_X7_valueBy q v5 x2 μ4).bind (fun v6 => f_X7_read_b62 q v6 μ4)) else f_X7_read_b62 q 0 μ4))
def f_X7_read (q : Nat) (a1 : Int32) (a2 : Int32) (μ : Mem) : Option (Int32 × Mem) := (f_X7_isReader a1).bind (fun v1 => (if v1 = 0 then f_X7_read_b37 q a1 a2 1 μ else (f_X7_isKey a2).bind (fun v2 => (if v2 = 0 then f_X7_read_b37 q a1 a2 2 μ else (f_X7_ofReader q a1 0 μ).bind (fun v3 => (if v3 = 0 then f_X7_read_b37 q a1 a2 3 μ else f_X7_read_b37 q a1 a2 0 μ))))))
set_option maxHeartbeats 4000000 in
set_option maxRecDepth 100000 in
theorem c_X7_read (l : Launch) {D : va_G} {cI cG cL : ClassId} {A : Nat → Prop} {EN : State → Heap → Prop} (hE : EnOK EN A) {w : Mem → va_W} {ad : Nat → Nat} {hh : Int64} {q : Nat} {a1 : Int32} {a2 : Int32} {μ : Mem} {r : Int32} {μ' : Mem} (hw : ModelAt cI w ad hh q) (h : f_X7_read q a1 a2 μ = some (r, μ')) : Met l yX7_read wsX7_read (rmk 4 92) (WPre D (tyl cI cG cL) A EN (w μ) [.ref (ad q), .int a1, .int a2]) (PI D A (w μ') r) 0 0 A := by
  have hiX7 : ∀ w ∈ u_ws RX7 TX7 13, w ∈ wsX7_read := by decide +kernel
  have mf28 : Cond.fieldLink RX7 28 (TX7 6).1 (TX7 6).2.1 (TX7 6).2.2.1 ∈ wsX7_read := by decide +kernel
  refine met_start (cc := cX7_read) (nL := 3) (ret := (some .int)) (own := RX7) hE (by decide) rfl rfl (Nat.le_of_ble_eq_true rfl) (fun p e s m args below meth c ls X hS hl hr hlk => ?_)
  have hx := X.1.1
  have hb := X.1.2.1
  replace hl : lv_has ls 3 [(0, .ref (ad q)), (1, .int a1), (2, .int a2)] := hl
  have hb62 : ∀ (s0 : Int32) (μ : Mem) (H : Heap) (locs : List Loc) (ls : Array Slot), HS D A (w μ) s.heap H locs → lv_has ls 3 [] → f_X7_read_b62 q s0 μ = some (r, μ') → W p l e (headSpec wsX7_read (rmk 4 92)).room s m args below meth c H locs 0 0 (MQ below (PI D A (w μ') r) args s 0 0 A) (F0 m 62 ls [.int s0]) := by
    intro s0 μ H locs ls hS hl h
    unfold f_X7_read_b62 at h
    obtain ⟨rfl, rfl⟩ := pr2 h
    exact r_iret X hS hr hlk dX7_read_62
  have hb37 : ∀ (x1 : Int32) (x2 : Int32) (s0 : Int32) (μ : Mem) (H : Heap) (locs : List Loc) (ls : Array Slot), HS D A (w μ) s.heap H locs → lv_has ls 3 [(0, .ref (ad q)), (1, .int x1), (2, .int x2)] → f_X7_read_b37 q x1 x2 s0 μ = some (r, μ') → W p l e (headSpec wsX7_read (rmk 4 92)).room s m args below meth c H locs 0 0 (MQ below (PI D A (w μ') r) args s 0 0 A) (F0 m 37 ls [.int s0, .ref (ad q)]) := by
    intro x1 x2 s0 μ H locs ls hS hl h
    unfold f_X7_read_b37 at h
    obtain ⟨μ4, eμ4, h⟩ := ob h
    refine r_putp (w := w) X hS (T := TX7) (k := 6) eμ4 hw.1 rfl hiX7 tyX7 tyX7_ok nmX7 (by decide) mf28 rfl rfl rfl (Nat.le_of_ble_eq_true rfl) rfl dX7_read_37 (fun H locs hS => ?_)
    refine lv_aload_n hx hb dX7_read_40 rfl (lv_at hl 0 rfl) ?_
    refine r_get X hS (T := TX7) (k := 6) (hw.1 μ4).1 rfl hiX7 (by decide) mf28 rfl dX7_read_41 ?_
    refine lv_if_ne (tgt := 61) hx hb dX7_read_44 (by decide) (fun cc => ?_) (fun cc => ?_)
    · replace h := ie h cc
      refine lv_iconst (v := 0) hx hb dX7_read_61 (by decide) ?_
      exact hb62 0 μ4 _ _ _ hS (lv_sub hl [] rfl) h
    · replace h := it h cc
      refine lv_aload_n hx hb dX7_read_47 rfl (lv_at hl 0 rfl) ?_
      refine lv_aload_n hx hb dX7_read_48 rfl (lv_at hl 0 rfl) ?_
      refine lv_iload_n hx hb dX7_read_49 rfl (lv_at hl 1 rfl) ?_
      refine lv_iconst (v := 2) hx hb dX7_read_50 (by decide) ?_
      obtain ⟨v5, ev5, h⟩ := ob h
      refine r_ci hS (r_runV (As := [.int x1, .int 2]) (rest := [.ref (ad q)]) X hS (c_X7_ofReader l hE (w := w) (ad := ad) (μ := μ4) (D := D) (cI := cI) (cG := cG) (cL := cL) hw ev5) (cwV 2 X.1.2.2.2.2 gX7_read_X7_ofReader rfl rfl rfl (by decide +kernel) ⟨Nat.le_of_ble_eq_true rfl, Nat.le_of_ble_eq_true rfl⟩) (q0 := q) (ci := 5) rfl (hw.1 μ4).1 rfl hl.1 rfl (Nat.le_of_ble_eq_true rfl) dX7_read_51 ⟨Nat.zero_le _, Nat.zero_le _⟩) (fun H locs hS => ?_)
      refine lv_iload_n hx hb dX7_read_54 rfl (lv_at hl 2 rfl) ?_
      obtain ⟨v6, ev6, h⟩ := ob h
      refine r_ci hS (r_runV (As := [.int v5, .int x2]) (rest := []) X hS (c_X7_valueBy l hE (w := w) (ad := ad) (μ := μ4) (D := D) (cI := cI) (cG := cG) (cL := cL) hw ev6) (cwV 2 X.1.2.2.2.2 gX7_read_X7_valueBy rfl rfl rfl (by decide +kernel) ⟨Nat.le_of_ble_eq_true rfl, Nat.le_of_ble_eq_true rfl⟩) (q0 := q) (ci := 5) rfl (hw.1 μ4).1 rfl hl.1 rfl (Nat.le_of_ble_eq_true rfl) dX7_read_55 ⟨Nat.zero_le _, Nat.zero_le _⟩) (fun H locs hS => ?_)
      refine lv_goto (tgt := 62) hx hb dX7_read_58 (by decide) ?_
      exact hb62 v6 μ4 _ _ _ hS (lv_sub hl [] rfl) h
  unfold f_X7_read at h
  refine lv_aload_n hx hb dX7_read_0 rfl (lv_at hl 0 rfl) ?_
  refine lv_iload_n hx hb dX7_read_1 rfl (lv_at hl 1 rfl) ?_
  obtain ⟨v1, ev1, h⟩ := ob h
  refine r_ci hS (r_runS (As := [.int a1]) (rest := [.ref (ad q)]) X hS (c_X7_isReader l hE (w := w) (ad := ad) (μ := μ) (D := D) (cI := cI) (cG := cG) (cL := cL) ev1) (va_cwS 1 X.1.2.2.2.2 gX7_read_X7_isReader rfl rfl rfl (by decide +kernel) ⟨Nat.le_of_ble_eq_true rfl, Nat.le_of_ble_eq_true rfl⟩) rfl hl.1 rfl (Nat.le_of_ble_eq_true rfl) dX7_read_2 ⟨Nat.zero_le _, Nat.zero_le _⟩) (fun H locs hS => ?_)
  refine lv_if_ne (tgt := 12) hx hb dX7_read_5 (by decide) (fun cc => ?_) (fun cc => ?_)
  · replace h := ie h cc
    refine lv_iload_n hx hb dX7_read_12 rfl (lv_at hl 2 rfl) ?_
    obtain ⟨v2, ev2, h⟩ := ob h
    refine r_ci hS (r_runS (As := [.int a2]) (rest := [.ref (ad q)]) X hS (c_X7_isKey l hE (w := w) (ad := ad) (μ := μ) (D := D) (cI := cI) (cG := cG) (cL := cL) ev2) (va_cwS 1 X.1.2.2.2.2 gX7_read_X7_isKey rfl rfl rfl (by decide +kernel) ⟨Nat.le_of_ble_eq_true rfl, Nat.le_of_ble_eq_true rfl⟩) rfl hl.1 rfl (Nat.le_of_ble_eq_true rfl) dX7_read_13 ⟨Nat.zero_le _, Nat.zero_le _⟩) (fun H locs hS => ?_)
    refine lv_if_ne (tgt := 23) hx hb dX7_read_16 (by decide) (fun cc => ?_) (fun cc => ?_)
    · replace h := ie h cc
      refine lv_aload_n hx hb dX7_read_23 rfl (lv_at hl 0 rfl) ?_
      refine lv_iload_n hx hb dX7_read_24 rfl (lv_at hl 1 rfl) ?_
      refine lv_iconst (v := 0) hx hb dX7_read_25 (by decide) ?_
      obtain ⟨v3, ev3, h⟩ := ob h
      refine r_ci hS (r_runV (As := [.int a1, .int 0]) (rest := [.ref (ad q)]) X hS (c_X7_ofReader l hE (w := w) (ad := ad) (μ := μ) (D := D) (cI := cI) (cG := cG) (cL := cL) hw ev3) (cwV 2 X.1.2.2.2.2 gX7_read_X7_ofReader rfl rfl rfl (by decide +kernel) ⟨Nat.le_of_ble_eq_true rfl, Nat.le_of_ble_eq_true rfl⟩) (q0 := q) (ci := 5) rfl (hw.1 μ).1 rfl hl.1 rfl (Nat.le_of_ble_eq_true rfl) dX7_read_26 ⟨Nat.zero_le _, Nat.zero_le _⟩) (fun H locs hS => ?_)
      refine lv_if_ne (tgt := 36) hx hb dX7_read_29 (by decide) (fun cc => ?_) (fun cc => ?_)
      · replace h := ie h cc
        refine lv_iconst (v := 0) hx hb dX7_read_36 (by decide) ?_
        exact hb37 a1 a2 0 μ _ _ _ hS (lv_sub hl [0, 1, 2] rfl) h
      · replace h := it h cc
        refine lv_iconst (v := 3) hx hb dX7_read_32 (by decide) ?_
        refine lv_goto (tgt := 37) hx hb dX7_read_33 (by decide) ?_
        exact hb37 a1 a2 3 μ _ _ _ hS (lv_sub hl [0, 1, 2] rfl) h
    · replace h := it h cc
      refine lv_iconst (v := 2) hx hb dX7_read_19 (by decide) ?_
      refine lv_goto (tgt := 37) hx hb dX7_read_20 (by decide) ?_
      exact hb37 a1 a2 2 μ _ _ _ hS (lv_sub hl [0, 1, 2] rfl) h
  · replace h := it h cc
    refine lv_iconst (v := 1) hx hb dX7_read_8 (by decide) ?_
    refine lv_goto (tgt := 37) hx hb dX7_read_9 (by decide) ?_
    exact hb37 a1 a2 1 μ _ _ _ hS (lv_sub hl [0, 1, 2] rfl) h
def f_X7_tellEntry_b100 (q : Nat) (s0 : Int32) (μ : Mem) : Option Int32 := (some s0)
def f_X7_tellEntry_b5 (q : Nat)  : Nat → Int32 → Int32 → Int32 → Mem → Option Int32
  | 0, _, _, _, _ => none
  | fuel5 + 1, x2, x3, x4, μ => (f_X7_now q μ).bind (fun v1 => (f_X7_leafAt q v1 x4 μ).bind (fun v2 => (f_X7_of q v2 2 μ).bind (fun v3 => (if x3 < v3 then (f_X7_now q μ).bind (fun v4 => (f_X7_leafAt q v4 x4 μ).bind (fun v5 => (if x2 = 0 then (f_X7_keyAt q v5 x3 μ).bind (fun v7 => f_X7_tellEntry_b100 q v7 μ) else (if x2 = 1 then (f_X7_valueAt q v5 x3 μ).bind (fun v6 => f_X7_tellEntry_b100 q v6 μ) else (if x2 = 2 then f_X7_tellEntry_b100 q v5 μ else f_X7_tellEntry_b100 q x3 μ))))) else (f_X7_now q μ).bind (fun v8 => (f_X7_leafAt q v8 x4 μ).bind (fun v9 => (f_X7_of q v9 2 μ).bind (fun v10 => f_X7_tellEntry_b5 q fuel5 x2 (x3 - v10) (x4 + 1) μ)))))))
def f_X7_tellEntry (q : Nat) (a1 : Int32) (a2 : Int32) (μ : Mem) : Option Int32 := f_X7_tellEntry_b5 q FU a2 a1 0 μ
set_option maxHeartbeats 4000000 in
set_option maxRecDepth 100000 in
theorem c_X7_tellEntry (l : Launch) {D : va_G} {cI cG cL : ClassId} {A : Nat → Prop} {EN : State → Heap → Prop} (hE : EnOK EN A) {w : Mem → va_W} {ad : Nat → Nat} {hh : Int64} {q : Nat} {a1 : Int32} {a2 : Int32} {μ : Mem} {r : Int32} (hw : ModelAt cI w ad hh q) (h : f_X7_tellEntry q a1 a2 μ = some r) : Met l yX7_tellEntry wsX7_tellEntry (rmk 2 44) (WPre D (tyl cI cG cL) A EN (w μ) [.ref (ad q), .int a1, .int a2]) (PI D A (w μ) r) 0 0 A := by
  refine met_start (cc := cX7_tellEntry) (nL := 6) (ret := (some .int)) (own := RX7) hE (by decide) rfl rfl (Nat.le_of_ble_eq_true rfl) (fun p e s m args below meth c ls X hS hl hr hlk => ?_)
  have hx := X.1.1
  have hb := X.1.2.1
  replace hl : lv_has ls 6 [(0, .ref (ad q)), (1, .int a1), (2, .int a2)] := hl
  have hb100 : ∀ (s0 : Int32) (H : Heap) (locs : List Loc) (ls : Array Slot), HS D A (w μ) s.heap H locs → lv_has ls 6 [] → f_X7_tellEntry_b100 q s0 μ = some r → W p l e (headSpec wsX7_tellEntry (rmk 2 44)).room s m args below meth c H locs 0 0 (MQ below (PI D A (w μ) r) args s 0 0 A) (F0 m 100 ls [.int s0]) := by
    intro s0 H locs ls hS hl h
    unfold f_X7_tellEntry_b100 at h
    cases h
    exact r_iret X hS hr hlk dX7_tellEntry_100
  have hb5 : ∀ (fu : Nat) (x2 : Int32) (x3 : Int32) (x4 : Int32) (H : Heap) (locs : List Loc) (ls : Array Slot), HS D A (w μ) s.heap H locs → lv_has ls 6 [(0, .ref (ad q)), (2, .int x2), (3, .int x3), (4, .int x4)] → f_X7_tellEntry_b5 q fu x2 x3 x4 μ = some r → W p l e (headSpec wsX7_tellEntry (rmk 2 44)).room s m args below meth c H locs 0 0 (MQ below (PI D A (w μ) r) args s 0 0 A) (F0 m 5 ls []) := by
    intro fu
    induction fu with
    | zero =>
      intro x2 x3 x4 H locs ls hS hl h
      rw [f_X7_tellEntry_b5] at h
      cases h
    | succ fuel5 ih5 =>
      intro x2 x3 x4 H locs ls hS hl h
      rw [f_X7_tellEntry_b5] at h
      refine lv_iload_n hx hb dX7_tellEntry_5 rfl (lv_at hl 2 rfl) ?_
      refine lv_aload_n hx hb dX7_tellEntry_6 rfl (lv_at hl 0 rfl) ?_
      refine lv_aload_n hx hb dX7_tellEntry_7 rfl (lv_at hl 0 rfl) ?_
      refine lv_aload_n hx hb dX7_tellEntry_8 rfl (lv_at hl 0 rfl) ?_
      obtain ⟨v1, ev1, h⟩ := ob h
      refine r_ci hS (r_runV (As := []) (rest := [.ref (ad q), .ref (ad q), .int x3]) X hS (c_X7_now l hE (w := w) (ad := ad) (μ := μ) (D := D) (cI := cI) (cG := cG) (cL := cL) hw ev1) (cwV 0 X.1.2.2.2.2 gX7_tellEntry_X7_now rfl rfl rfl (by decide +kernel) ⟨Nat.le_of_ble_eq_true rfl, Nat.le_of_ble_eq_true rfl⟩) (q0 := q) (ci := 5) rfl (hw.1 μ).1 rfl hl.1 rfl (Nat.le_of_ble_eq_true rfl) dX7_tellEntry_9 ⟨Nat.zero_le _, Nat.zero_le _⟩) (fun H locs hS => ?_)
      refine lv_iload hx hb dX7_tellEntry_12 (lv_at hl 3 rfl) ?_
      obtain ⟨v2, ev2, h⟩ := ob h
      refine r_ci hS (r_runV (As := [.int v1, .int x4]) (rest := [.ref (ad q), .int x3]) X hS (c_X7_leafAt l hE (w := w) (ad := ad) (μ := μ) (D := D) (cI := cI) (cG := cG) (cL := cL) hw ev2) (cwV 2 X.1.2.2.2.2 gX7_tellEntry_X7_leafAt rfl rfl rfl (by decide +kernel) ⟨Nat.le_of_ble_eq_true rfl, Nat.le_of_ble_eq_true rfl⟩) (q0 := q) (ci := 5) rfl (hw.1 μ).1 rfl hl.1 rfl (Nat.le_of_ble_eq_true rfl) dX7_tellEntry_14 ⟨Nat.zero_le _, Nat.zero_le _⟩) (fun H locs hS => ?_)
      refine lv_iconst (v := 2) hx hb dX7_tellEntry_17 (by decide) ?_
      obtain ⟨v3, ev3, h⟩ := ob h
      refine r_ci hS (r_runV (As := [.int v2, .int 2]) (rest := [.int x3]) X hS (c_X7_of l hE (w := w) (ad := ad) (μ := μ) (D := D) (cI := cI) (cG := cG) (cL := cL) hw ev3) (cwV 2 X.1.2.2.2.2 gX7_tellEntry_X7_of rfl rfl rfl (by decide +kernel) ⟨Nat.le_of_ble_eq_true rfl, Nat.le_of_ble_eq_true rfl⟩) (q0 := q) (ci := 5) rfl (hw.1 μ).1 rfl hl.1 rfl (Nat.le_of_ble_eq_true rfl) dX7_tellEntry_18 ⟨Nat.zero_le _, Nat.zero_le _⟩) (fun H locs hS => ?_)
      refine lv_icmp_lt (tgt := 48) hx hb dX7_tellEntry_21 (by decide) (fun cc => ?_) (fun cc => ?_)
      · replace h := it h cc
        refine lv_aload_n hx hb dX7_tellEntry_48 rfl (lv_at hl 0 rfl) ?_
        refine lv_aload_n hx hb dX7_tellEntry_49 rfl (lv_at hl 0 rfl) ?_
        obtain ⟨v4, ev4, h⟩ := ob h
        refine r_ci hS (r_runV (As := []) (rest := [.ref (ad q)]) X hS (c_X7_now l hE (w := w) (ad := ad) (μ := μ) (D := D) (cI := cI) (cG := cG) (cL := cL) hw ev4) (cwV 0 X.1.2.2.2.2 gX7_tellEntry_X7_now rfl rfl rfl (by decide +kernel) ⟨Nat.le_of_ble_eq_true rfl, Nat.le_of_ble_eq_true rfl⟩) (q0 := q) (ci := 5) rfl (hw.1 μ).1 rfl hl.1 rfl (Nat.le_of_ble_eq_true rfl) dX7_tellEntry_50 ⟨Nat.zero_le _, Nat.zero_le _⟩) (fun H locs hS => ?_)
        refine lv_iload hx hb dX7_tellEntry_53 (lv_at hl 3 rfl) ?_
        obtain ⟨v5, ev5, h⟩ := ob h
        refine r_ci hS (r_runV (As := [.int v4, .int x4]) (rest := []) X hS (c_X7_leafAt l hE (w := w) (ad := ad) (μ := μ) (D := D) (cI := cI) (cG := cG) (cL := cL) hw ev5) (cwV 2 X.1.2.2.2.2 gX7_tellEntry_X7_leafAt rfl rfl rfl (by decide +kernel) ⟨Nat.le_of_ble_eq_true rfl, Nat.le_of_ble_eq_true rfl⟩) (q0 := q) (ci := 5) rfl (hw.1 μ).1 rfl hl.1 rfl (Nat.le_of_ble_eq_true rfl) dX7_tellEntry_55 ⟨Nat.zero_le _, Nat.zero_le _⟩) (fun H locs hS => ?_)
        refine lv_istore (lv' := [(5, .int v5), (0, .ref (ad q)), (2, .int x2), (3, .int x3), (4, .int x4)]) hx hb dX7_tellEntry_58 hl (by decide) rfl (fun ls hl => ?_)
        refine lv_iload_n hx hb dX7_tellEntry_60 rfl (lv_at hl 2 rfl) ?_
        refine lv_if_ne (tgt := 74) hx hb dX7_tellEntry_61 (by decide) (fun cc => ?_) (fun cc => ?_)
        · replace h := ie h cc
          refine lv_iload_n hx hb dX7_tellEntry_74 rfl (lv_at hl 2 rfl) ?_
          refine lv_iconst (v := 1) hx hb dX7_tellEntry_75 (by decide) ?_
          refine lv_icmp_ne (tgt := 89) hx hb dX7_tellEntry_76 (by decide) (fun cc => ?_) (fun cc => ?_)
          · replace h := ie h cc
            refine lv_iload_n hx hb dX7_tellEntry_89 rfl (lv_at hl 2 rfl) ?_
            refine lv_iconst (v := 2) hx hb dX7_tellEntry_90 (by decide) ?_
            refine lv_icmp_ne (tgt := 99) hx hb dX7_tellEntry_91 (by decide) (fun cc => ?_) (fun cc => ?_)
            · replace h := ie h cc
              refine lv_iload_n hx hb dX7_tellEntry_99 rfl (lv_at hl 3 rfl) ?_
              exact hb100 x3 _ _ _ hS (lv_sub hl [] rfl) h
            · replace h := it h cc
              refine lv_iload hx hb dX7_tellEntry_94 (lv_at hl 0 rfl) ?_
              refine lv_goto (tgt := 100) hx hb dX7_tellEntry_96 (by decide) ?_
              exact hb100 v5 _ _ _ hS (lv_sub hl [] rfl) h
          · replace h := it h cc
            refine lv_aload_n hx hb dX7_tellEntry_79 rfl (lv_at hl 1 rfl) ?_
            refine lv_iload hx hb dX7_tellEntry_80 (lv_at hl 0 rfl) ?_
            refine lv_iload_n hx hb dX7_tellEntry_82 rfl (lv_at hl 3 rfl) ?_
            obtain ⟨v6, ev6, h⟩ := ob h
            refine r_ci hS (r_runV (As := [.int v5, .int x3]) (rest := []) X hS (c_X7_valueAt l hE (w := w) (ad := ad) (μ := μ) (D := D) (cI := cI) (cG := cG) (cL := cL) hw ev6) (cwV 2 X.1.2.2.2.2 gX7_tellEntry_X7_valueAt rfl rfl rfl (by decide +kernel) ⟨Nat.le_of_ble_eq_true rfl, Nat.le_of_ble_eq_true rfl⟩) (q0 := q) (ci := 5) rfl (hw.1 μ).1 rfl hl.1 rfl (Nat.le_of_ble_eq_true rfl) dX7_tellEntry_83 ⟨Nat.zero_le _, Nat.zero_le _⟩) (fun H locs hS => ?_)
            refine lv_goto (tgt := 100) hx hb dX7_tellEntry_86 (by decide) ?_
            exact hb100 v6 _ _ _ hS (lv_sub hl [] rfl) h
        · replace h := it h cc
          refine lv_aload_n hx hb dX7_tellEntry_64 rfl (lv_at hl 1 rfl) ?_
          refine lv_iload hx hb dX7_tellEntry_65 (lv_at hl 0 rfl) ?_
          refine lv_iload_n hx hb dX7_tellEntry_67 rfl (lv_at hl 3 rfl) ?_
          obtain ⟨v7, ev7, h⟩ := ob h
          refine r_ci hS (r_runV (As := [.int v5, .int x3]) (rest := []) X hS (c_X7_keyAt l hE (w := w) (ad := ad) (μ := μ) (D := D) (cI := cI) (cG := cG) (cL := cL) hw ev7) (cwV 2 X.1.2.2.2.2 gX7_tellEntry_X7_keyAt rfl rfl rfl (by decide +kernel) ⟨Nat.le_of_ble_eq_true rfl, Nat.le_of_ble_eq_true rfl⟩) (q0 := q) (ci := 5) rfl (hw.1 μ).1 rfl hl.1 rfl (Nat.le_of_ble_eq_true rfl) dX7_tellEntry_68 ⟨Nat.zero_le _, Nat.zero_le _⟩) (fun H locs hS => ?_)
          refine lv_goto (tgt := 100) hx hb dX7_tellEntry_71 (by decide) ?_
          exact hb100 v7 _ _ _ hS (lv_sub hl [] rfl) h
      · replace h := ie h cc
        refine lv_iload_n hx hb dX7_tellEntry_24 rfl (lv_at hl 2 rfl) ?_
        refine lv_aload_n hx hb dX7_tellEntry_25 rfl (lv_at hl 0 rfl) ?_
        refine lv_aload_n hx hb dX7_tellEntry_26 rfl (lv_at hl 0 rfl) ?_
        refine lv_aload_n hx hb dX7_tellEntry_27 rfl (lv_at hl 0 rfl) ?_
        obtain ⟨v8, ev8, h⟩ := ob h
        refine r_ci hS (r_runV (As := []) (rest := [.ref (ad q), .ref (ad q), .int x3]) X hS (c_X7_now l hE (w := w) (ad := ad) (μ := μ) (D := D) (cI := cI) (cG := cG) (cL := cL) hw ev8) (cwV 0 X.1.2.2.2.2 gX7_tellEntry_X7_now rfl rfl rfl (by decide +kernel) ⟨Nat.le_of_ble_eq_true rfl, Nat.le_of_ble_eq_true rfl⟩) (q0 := q) (ci := 5) rfl (hw.1 μ).1 rfl hl.1 rfl (Nat.le_of_ble_eq_true rfl) dX7_tellEntry_28 ⟨Nat.zero_le _, Nat.zero_le _⟩) (fun H locs hS => ?_)
        refine lv_iload hx hb dX7_tellEntry_31 (lv_at hl 3 rfl) ?_
        obtain ⟨v9, ev9, h⟩ := ob h
        refine r_ci hS (r_runV (As := [.int v8, .int x4]) (rest := [.ref (ad q), .int x3]) X hS (c_X7_leafAt l hE (w := w) (ad := ad) (μ := μ) (D := D) (cI := cI) (cG := cG) (cL := cL) hw ev9) (cwV 2 X.1.2.2.2.2 gX7_tellEntry_X7_leafAt rfl rfl rfl (by decide +kernel) ⟨Nat.le_of_ble_eq_true rfl, Nat.le_of_ble_eq_true rfl⟩) (q0 := q) (ci := 5) rfl (hw.1 μ).1 rfl hl.1 rfl (Nat.le_of_ble_eq_true rfl) dX7_tellEntry_33 ⟨Nat.zero_le _, Nat.zero_le _⟩) (fun H locs hS => ?_)
        refine lv_iconst (v := 2) hx hb dX7_tellEntry_36 (by decide) ?_
        obtain ⟨v10, ev10, h⟩ := ob h
        refine r_ci hS (r_runV (As := [.int v9, .int 2]) (rest := [.int x3]) X hS (c_X7_of l hE (w := w) (ad := ad) (μ := μ) (D := D) (cI := cI) (cG := cG) (cL := cL) hw ev10) (cwV 2 X.1.2.2.2.2 gX7_tellEntry_X7_of rfl rfl rfl (by decide +kernel) ⟨Nat.le_of_ble_eq_true rfl, Nat.le_of_ble_eq_true rfl⟩) (q0 := q) (ci := 5) rfl (hw.1 μ).1 rfl hl.1 rfl (Nat.le_of_ble_eq_true rfl) dX7_tellEntry_37 ⟨Nat.zero_le _, Nat.zero_le _⟩) (fun H locs hS => ?_)
        refine lv_isub hx hb dX7_tellEntry_40 ?_
        refine lv_istore_n (lv' := [(3, .int (x3 - v10)), (0, .ref (ad q)), (2, .int x2), (4, .int x4)]) hx hb dX7_tellEntry_41 rfl hl (by decide) rfl (fun ls hl => ?_)
        refine lv_iinc (v := x4 + 1) (lv' := [(4, .int (x4 + 1)), (3, .int (x3 - v10)), (0, .ref (ad q)), (2, .int x2)]) hx hb dX7_tellEntry_42 hl (k := 3) rfl rfl (by decide) rfl (fun ls hl => ?_)
        refine lv_goto (tgt := 5) hx hb dX7_tellEntry_45 (by decide) ?_
        exact ih5 x2 (x3 - v10) (x4 + 1) _ _ _ hS (lv_sub hl [2, 3, 1, 0] rfl) h
  unfold f_X7_tellEntry at h
  refine lv_iload_n hx hb dX7_tellEntry_0 rfl (lv_at hl 1 rfl) ?_
  refine lv_istore_n (lv' := [(3, .int a1), (0, .ref (ad q)), (1, .int a1), (2, .int a2)]) hx hb dX7_tellEntry_1 rfl hl (by decide) rfl (fun ls hl => ?_)
  refine lv_iconst (v := 0) hx hb dX7_tellEntry_2 (by decide) ?_
  refine lv_istore (lv' := [(4, .int 0), (3, .int a1), (0, .ref (ad q)), (1, .int a1), (2, .int a2)]) hx hb dX7_tellEntry_3 hl (by decide) rfl (fun ls hl => ?_)
  exact hb5 FU a2 a1 0 _ _ _ hS (lv_sub hl [2, 4, 1, 0] rfl) h
def f_X7_entry_b57 (q : Nat) (s0 : Int32) (μ : Mem) : Option (Int32 × Mem) := (some (s0, μ))
def f_X7_entry_b37 (q : Nat) (x1 : Int32) (x2 : Int32) (s0 : Int32) (μ : Mem) : Option (Int32 × Mem) := (pf μ q 6 s0).bind (fun μ5 => (if (μ5 q 6) = 0 then (f_X7_tellEntry q x1 x2 μ5).bind (fun v6 => f_X7_entry_b57 q v6 μ5) else f_X7_entry_b57 q 0 μ5))
def f_X7_entry (q : Nat) (a1 : Int32) (a2 : Int32) (μ : Mem) : Option (Int32 × Mem) := (f_X7_now q μ).bind (fun v1 => (f_X7_entriesBy q v1 μ).bind (fun v2 => (f_X7_in a1 0 (v2 - 1)).bind (fun v3 => (if v3 = 0 then f_X7_entry_b37 q a1 a2 1 μ else (f_X7_in a2 0 3).bind (fun v4 => (if v4 = 0 then f_X7_entry_b37 q a1 a2 2 μ else f_X7_entry_b37 q a1 a2 0 μ))))))
set_option maxHeartbeats 4000000 in
set_option maxRecDepth 100000 in
theorem c_X7_entry (l : Launch) {D : va_G} {cI cG cL : ClassId} {A : Nat → Prop} {EN : State → Heap → Prop} (hE : EnOK EN A) {w : Mem → va_W} {ad : Nat → Nat} {hh : Int64} {q : Nat} {a1 : Int32} {a2 : Int32} {μ : Mem} {r : Int32} {μ' : Mem} (hw : ModelAt cI w ad hh q) (h : f_X7_entry q a1 a2 μ = some (r, μ')) : Met l yX7_entry wsX7_entry (rmk 3 69) (WPre D (tyl cI cG cL) A EN (w μ) [.ref (ad q), .int a1, .int a2]) (PI D A (w μ') r) 0 0 A := by
  have hiX7 : ∀ w ∈ u_ws RX7 TX7 13, w ∈ wsX7_entry := by decide +kernel
  have mf28 : Cond.fieldLink RX7 28 (TX7 6).1 (TX7 6).2.1 (TX7 6).2.2.1 ∈ wsX7_entry := by decide +kernel
  refine met_start (cc := cX7_entry) (nL := 3) (ret := (some .int)) (own := RX7) hE (by decide) rfl rfl (Nat.le_of_ble_eq_true rfl) (fun p e s m args below meth c ls X hS hl hr hlk => ?_)
  have hx := X.1.1
  have hb := X.1.2.1
  replace hl : lv_has ls 3 [(0, .ref (ad q)), (1, .int a1), (2, .int a2)] := hl
  have hb57 : ∀ (s0 : Int32) (μ : Mem) (H : Heap) (locs : List Loc) (ls : Array Slot), HS D A (w μ) s.heap H locs → lv_has ls 3 [] → f_X7_entry_b57 q s0 μ = some (r, μ') → W p l e (headSpec wsX7_entry (rmk 3 69)).room s m args below meth c H locs 0 0 (MQ below (PI D A (w μ') r) args s 0 0 A) (F0 m 57 ls [.int s0]) := by
    intro s0 μ H locs ls hS hl h
    unfold f_X7_entry_b57 at h
    obtain ⟨rfl, rfl⟩ := pr2 h
    exact r_iret X hS hr hlk dX7_entry_57
  have hb37 : ∀ (x1 : Int32) (x2 : Int32) (s0 : Int32) (μ : Mem) (H : Heap) (locs : List Loc) (ls : Array Slot), HS D A (w μ) s.heap H locs → lv_has ls 3 [(0, .ref (ad q)), (1, .int x1), (2, .int x2)] → f_X7_entry_b37 q x1 x2 s0 μ = some (r, μ') → W p l e (headSpec wsX7_entry (rmk 3 69)).room s m args below meth c H locs 0 0 (MQ below (PI D A (w μ') r) args s 0 0 A) (F0 m 37 ls [.int s0, .ref (ad q)]) := by
    intro x1 x2 s0 μ H locs ls hS hl h
    unfold f_X7_entry_b37 at h
    obtain ⟨μ5, eμ5, h⟩ := ob h
    refine r_putp (w := w) X hS (T := TX7) (k := 6) eμ5 hw.1 rfl hiX7 tyX7 tyX7_ok nmX7 (by decide) mf28 rfl rfl rfl (Nat.le_of_ble_eq_true rfl) rfl dX7_entry_37 (fun H locs hS => ?_)
    refine lv_aload_n hx hb dX7_entry_40 rfl (lv_at hl 0 rfl) ?_
    refine r_get X hS (T := TX7) (k := 6) (hw.1 μ5).1 rfl hiX7 (by decide) mf28 rfl dX7_entry_41 ?_
    refine lv_if_ne (tgt := 56) hx hb dX7_entry_44 (by decide) (fun cc => ?_) (fun cc => ?_)
    · replace h := ie h cc
      refine lv_iconst (v := 0) hx hb dX7_entry_56 (by decide) ?_
      exact hb57 0 μ5 _ _ _ hS (lv_sub hl [] rfl) h
    · replace h := it h cc
      refine lv_aload_n hx hb dX7_entry_47 rfl (lv_at hl 0 rfl) ?_
      refine lv_iload_n hx hb dX7_entry_48 rfl (lv_at hl 1 rfl) ?_
      refine lv_iload_n hx hb dX7_entry_49 rfl (lv_at hl 2 rfl) ?_
      obtain ⟨v6, ev6, h⟩ := ob h
      refine r_ci hS (r_runV (As := [.int x1, .int x2]) (rest := []) X hS (c_X7_tellEntry l hE (w := w) (ad := ad) (μ := μ5) (D := D) (cI := cI) (cG := cG) (cL := cL) hw ev6) (cwV 2 X.1.2.2.2.2 gX7_entry_X7_tellEntry rfl rfl rfl (by decide +kernel) ⟨Nat.le_of_ble_eq_true rfl, Nat.le_of_ble_eq_true rfl⟩) (q0 := q) (ci := 5) rfl (hw.1 μ5).1 rfl hl.1 rfl (Nat.le_of_ble_eq_true rfl) dX7_entry_50 ⟨Nat.zero_le _, Nat.zero_le _⟩) (fun H locs hS => ?_)
      refine lv_goto (tgt := 57) hx hb dX7_entry_53 (by decide) ?_
      exact hb57 v6 μ5 _ _ _ hS (lv_sub hl [] rfl) h
  unfold f_X7_entry at h
  refine lv_aload_n hx hb dX7_entry_0 rfl (lv_at hl 0 rfl) ?_
  refine lv_iload_n hx hb dX7_entry_1 rfl (lv_at hl 1 rfl) ?_
  refine lv_iconst (v := 0) hx hb dX7_entry_2 (by decide) ?_
  refine lv_aload_n hx hb dX7_entry_3 rfl (lv_at hl 0 rfl) ?_
  refine lv_aload_n hx hb dX7_entry_4 rfl (lv_at hl 0 rfl) ?_
  obtain ⟨v1, ev1, h⟩ := ob h
  refine r_ci hS (r_runV (As := []) (rest := [.ref (ad q), .int 0, .int a1, .ref (ad q)]) X hS (c_X7_now l hE (w := w) (ad := ad) (μ := μ) (D := D) (cI := cI) (cG := cG) (cL := cL) hw ev1) (cwV 0 X.1.2.2.2.2 gX7_entry_X7_now rfl rfl rfl (by decide +kernel) ⟨Nat.le_of_ble_eq_true rfl, Nat.le_of_ble_eq_true rfl⟩) (q0 := q) (ci := 5) rfl (hw.1 μ).1 rfl hl.1 rfl (Nat.le_of_ble_eq_true rfl) dX7_entry_5 ⟨Nat.zero_le _, Nat.zero_le _⟩) (fun H locs hS => ?_)
  obtain ⟨v2, ev2, h⟩ := ob h
  refine r_ci hS (r_runV (As := [.int v1]) (rest := [.int 0, .int a1, .ref (ad q)]) X hS (c_X7_entriesBy l hE (w := w) (ad := ad) (μ := μ) (D := D) (cI := cI) (cG := cG) (cL := cL) hw ev2) (cwV 1 X.1.2.2.2.2 gX7_entry_X7_entriesBy rfl rfl rfl (by decide +kernel) ⟨Nat.le_of_ble_eq_true rfl, Nat.le_of_ble_eq_true rfl⟩) (q0 := q) (ci := 5) rfl (hw.1 μ).1 rfl hl.1 rfl (Nat.le_of_ble_eq_true rfl) dX7_entry_8 ⟨Nat.zero_le _, Nat.zero_le _⟩) (fun H locs hS => ?_)
  refine lv_iconst (v := 1) hx hb dX7_entry_11 (by decide) ?_
  refine lv_isub hx hb dX7_entry_12 ?_
  obtain ⟨v3, ev3, h⟩ := ob h
  refine r_ci hS (r_runS (As := [.int a1, .int 0, .int (v2 - 1)]) (rest := [.ref (ad q)]) X hS (c_X7_in l hE (w := w) (ad := ad) (μ := μ) (D := D) (cI := cI) (cG := cG) (cL := cL) ev3) (va_cwS 3 X.1.2.2.2.2 gX7_entry_X7_in rfl rfl rfl (by decide +kernel) ⟨Nat.le_of_ble_eq_true rfl, Nat.le_of_ble_eq_true rfl⟩) rfl hl.1 rfl (Nat.le_of_ble_eq_true rfl) dX7_entry_13 ⟨Nat.zero_le _, Nat.zero_le _⟩) (fun H locs hS => ?_)
  refine lv_if_ne (tgt := 23) hx hb dX7_entry_16 (by decide) (fun cc => ?_) (fun cc => ?_)
  · replace h := ie h cc
    refine lv_iload_n hx hb dX7_entry_23 rfl (lv_at hl 2 rfl) ?_
    refine lv_iconst (v := 0) hx hb dX7_entry_24 (by decide) ?_
    refine lv_iconst (v := 3) hx hb dX7_entry_25 (by decide) ?_
    obtain ⟨v4, ev4, h⟩ := ob h
    refine r_ci hS (r_runS (As := [.int a2, .int 0, .int 3]) (rest := [.ref (ad q)]) X hS (c_X7_in l hE (w := w) (ad := ad) (μ := μ) (D := D) (cI := cI) (cG := cG) (cL := cL) ev4) (va_cwS 3 X.1.2.2.2.2 gX7_entry_X7_in rfl rfl rfl (by decide +kernel) ⟨Nat.le_of_ble_eq_true rfl, Nat.le_of_ble_eq_true rfl⟩) rfl hl.1 rfl (Nat.le_of_ble_eq_true rfl) dX7_entry_26 ⟨Nat.zero_le _, Nat.zero_le _⟩) (fun H locs hS => ?_)
    refine lv_if_ne (tgt := 36) hx hb dX7_entry_29 (by decide) (fun cc => ?_) (fun cc => ?_)
    · replace h := ie h cc
      refine lv_iconst (v := 0) hx hb dX7_entry_36 (by decide) ?_
      exact hb37 a1 a2 0 μ _ _ _ hS (lv_sub hl [0, 1, 2] rfl) h
    · replace h := it h cc
      refine lv_iconst (v := 2) hx hb dX7_entry_32 (by decide) ?_
      refine lv_goto (tgt := 37) hx hb dX7_entry_33 (by decide) ?_
      exact hb37 a1 a2 2 μ _ _ _ hS (lv_sub hl [0, 1, 2] rfl) h
  · replace h := it h cc
    refine lv_iconst (v := 1) hx hb dX7_entry_19 (by decide) ?_
    refine lv_goto (tgt := 37) hx hb dX7_entry_20 (by decide) ?_
    exact hb37 a1 a2 1 μ _ _ _ hS (lv_sub hl [0, 1, 2] rfl) h
def f_X7_tellRoot_b44 (q : Nat) (s0 : Int32) (μ : Mem) : Option Int32 := (some s0)
def f_X7_tellRoot_b43 (q : Nat) (x3 : Int32) (μ : Mem) : Option Int32 := f_X7_tellRoot_b44 q x3 μ
def f_X7_tellRoot_b27 (q : Nat) (x2 : Int32) (s0 : Int32) (μ : Mem) : Option Int32 := (if x2 = 1 then (if (0 : Int32) ≤ s0 then f_X7_tellRoot_b43 q s0 μ else f_X7_tellRoot_b44 q (-1000) μ) else f_X7_tellRoot_b43 q s0 μ)
def f_X7_tellRoot (q : Nat) (a1 : Int32) (a2 : Int32) (μ : Mem) : Option Int32 := (if a2 = 3 then (f_X7_current q μ).bind (fun v2 => (if v2 = a1 then f_X7_tellRoot_b27 q a2 1 μ else f_X7_tellRoot_b27 q a2 0 μ)) else (f_X7_ofRoot q a1 a2 μ).bind (fun v1 => f_X7_tellRoot_b27 q a2 v1 μ))
set_option maxHeartbeats 4000000 in
set_option maxRecDepth 100000 in
theorem c_X7_tellRoot (l : Launch) {D : va_G} {cI cG cL : ClassId} {A : Nat → Prop} {EN : State → Heap → Prop} (hE : EnOK EN A) {w : Mem → va_W} {ad : Nat → Nat} {hh : Int64} {q : Nat} {a1 : Int32} {a2 : Int32} {μ : Mem} {r : Int32} (hw : ModelAt cI w ad hh q) (h : f_X7_tellRoot q a1 a2 μ = some r) : Met l yX7_tellRoot wsX7_tellRoot (rmk 1 22) (WPre D (tyl cI cG cL) A EN (w μ) [.ref (ad q), .int a1, .int a2]) (PI D A (w μ) r) 0 0 A := by
  refine met_start (cc := cX7_tellRoot) (nL := 4) (ret := (some .int)) (own := RX7) hE (by decide) rfl rfl (Nat.le_of_ble_eq_true rfl) (fun p e s m args below meth c ls X hS hl hr hlk => ?_)
  have hx := X.1.1
  have hb := X.1.2.1
  replace hl : lv_has ls 4 [(0, .ref (ad q)), (1, .int a1), (2, .int a2)] := hl
  have hb44 : ∀ (s0 : Int32) (H : Heap) (locs : List Loc) (ls : Array Slot), HS D A (w μ) s.heap H locs → lv_has ls 4 [] → f_X7_tellRoot_b44 q s0 μ = some r → W p l e (headSpec wsX7_tellRoot (rmk 1 22)).room s m args below meth c H locs 0 0 (MQ below (PI D A (w μ) r) args s 0 0 A) (F0 m 44 ls [.int s0]) := by
    intro s0 H locs ls hS hl h
    unfold f_X7_tellRoot_b44 at h
    cases h
    exact r_iret X hS hr hlk dX7_tellRoot_44
  have hb43 : ∀ (x3 : Int32) (H : Heap) (locs : List Loc) (ls : Array Slot), HS D A (w μ) s.heap H locs → lv_has ls 4 [(3, .int x3)] → f_X7_tellRoot_b43 q x3 μ = some r → W p l e (headSpec wsX7_tellRoot (rmk 1 22)).room s m args below meth c H locs 0 0 (MQ below (PI D A (w μ) r) args s 0 0 A) (F0 m 43 ls []) := by
    intro x3 H locs ls hS hl h
    unfold f_X7_tellRoot_b43 at h
    refine lv_iload_n hx hb dX7_tellRoot_43 rfl (lv_at hl 0 rfl) ?_
    exact hb44 x3 _ _ _ hS (lv_sub hl [] rfl) h
  have hb27 : ∀ (x2 : Int32) (s0 : Int32) (H : Heap) (locs : List Loc) (ls : Array Slot), HS D A (w μ) s.heap H locs → lv_has ls 4 [(2, .int x2)] → f_X7_tellRoot_b27 q x2 s0 μ = some r → W p l e (headSpec wsX7_tellRoot (rmk 1 22)).room s m args below meth c H locs 0 0 (MQ below (PI D A (w μ) r) args s 0 0 A) (F0 m 27 ls [.int s0]) := by
    intro x2 s0 H locs ls hS hl h
    unfold f_X7_tellRoot_b27 at h
    refine lv_istore_n (lv' := [(3, .int s0), (2, .int x2)]) hx hb dX7_tellRoot_27 rfl hl (by decide) rfl (fun ls hl => ?_)
    refine lv_iload_n hx hb dX7_tellRoot_28 rfl (lv_at hl 1 rfl) ?_
    refine lv_iconst (v := 1) hx hb dX7_tellRoot_29 (by decide) ?_
    refine lv_icmp_ne (tgt := 43) hx hb dX7_tellRoot_30 (by decide) (fun cc => ?_) (fun cc => ?_)
    · replace h := ie h cc
      exact hb43 s0 _ _ _ hS (lv_sub hl [0] rfl) h
    · replace h := it h cc
      refine lv_iload_n hx hb dX7_tellRoot_33 rfl (lv_at hl 0 rfl) ?_
      refine lv_if_ge (tgt := 43) hx hb dX7_tellRoot_34 (by decide) (fun cc => ?_) (fun cc => ?_)
      · replace h := it h cc
        exact hb43 s0 _ _ _ hS (lv_sub hl [0] rfl) h
      · replace h := ie h cc
        refine lv_sipush (v := (-1000)) hx hb dX7_tellRoot_37 (by decide) ?_
        refine lv_goto (tgt := 44) hx hb dX7_tellRoot_40 (by decide) ?_
        exact hb44 (-1000) _ _ _ hS (lv_sub hl [] rfl) h
  unfold f_X7_tellRoot at h
  refine lv_iload_n hx hb dX7_tellRoot_0 rfl (lv_at hl 2 rfl) ?_
  refine lv_iconst (v := 3) hx hb dX7_tellRoot_1 (by decide) ?_
  refine lv_icmp_ne (tgt := 21) hx hb dX7_tellRoot_2 (by decide) (fun cc => ?_) (fun cc => ?_)
  · replace h := ie h cc
    refine lv_aload_n hx hb dX7_tellRoot_21 rfl (lv_at hl 0 rfl) ?_
    refine lv_iload_n hx hb dX7_tellRoot_22 rfl (lv_at hl 1 rfl) ?_
    refine lv_iload_n hx hb dX7_tellRoot_23 rfl (lv_at hl 2 rfl) ?_
    obtain ⟨v1, ev1, h⟩ := ob h
    refine r_ci hS (r_runV (As := [.int a1, .int a2]) (rest := []) X hS (c_X7_ofRoot l hE (w := w) (ad := ad) (μ := μ) (D := D) (cI := cI) (cG := cG) (cL := cL) hw ev1) (cwV 2 X.1.2.2.2.2 gX7_tellRoot_X7_ofRoot rfl rfl rfl (by decide +kernel) ⟨Nat.le_of_ble_eq_true rfl, Nat.le_of_ble_eq_true rfl⟩) (q0 := q) (ci := 5) rfl (hw.1 μ).1 rfl hl.1 rfl (Nat.le_of_ble_eq_true rfl) dX7_tellRoot_24 ⟨Nat.zero_le _, Nat.zero_le _⟩) (fun H locs hS => ?_)
    exact hb27 a2 v1 _ _ _ hS (lv_sub hl [2] rfl) h
  · replace h := it h cc
    refine lv_aload_n hx hb dX7_tellRoot_5 rfl (lv_at hl 0 rfl) ?_
    obtain ⟨v2, ev2, h⟩ := ob h
    refine r_ci hS (r_runV (As := []) (rest := []) X hS (c_X7_current l hE (w := w) (ad := ad) (μ := μ) (D := D) (cI := cI) (cG := cG) (cL := cL) hw ev2) (cwV 0 X.1.2.2.2.2 gX7_tellRoot_X7_current rfl rfl rfl (by decide +kernel) ⟨Nat.le_of_ble_eq_true rfl, Nat.le_of_ble_eq_true rfl⟩) (q0 := q) (ci := 5) rfl (hw.1 μ).1 rfl hl.1 rfl (Nat.le_of_ble_eq_true rfl) dX7_tellRoot_6 ⟨Nat.zero_le _, Nat.zero_le _⟩) (fun H locs hS => ?_)
    refine lv_iload_n hx hb dX7_tellRoot_9 rfl (lv_at hl 1 rfl) ?_
    refine lv_icmp_ne (tgt := 17) hx hb dX7_tellRoot_10 (by decide) (fun cc => ?_) (fun cc => ?_)
    · replace h := ie h cc
      refine lv_iconst (v := 0) hx hb dX7_tellRoot_17 (by decide) ?_
      refine lv_goto (tgt := 27) hx hb dX7_tellRoot_18 (by decide) ?_
      exact hb27 a2 0 _ _ _ hS (lv_sub hl [2] rfl) h
    · replace h := it h cc
      refine lv_iconst (v := 1) hx hb dX7_tellRoot_13 (by decide) ?_
      refine lv_goto (tgt := 27) hx hb dX7_tellRoot_14 (by decide) ?_
      exact hb27 a2 1 _ _ _ hS (lv_sub hl [2] rfl) h
def f_X7_root_b48 (q : Nat) (s0 : Int32) (μ : Mem) : Option (Int32 × Mem) := (some (s0, μ))
def f_X7_root_b28 (q : Nat) (x1 : Int32) (x2 : Int32) (s0 : Int32) (μ : Mem) : Option (Int32 × Mem) := (pf μ q 6 s0).bind (fun μ3 => (if (μ3 q 6) = 0 then (f_X7_tellRoot q x1 x2 μ3).bind (fun v4 => f_X7_root_b48 q v4 μ3) else f_X7_root_b48 q 0 μ3))
def f_X7_root (q : Nat) (a1 : Int32) (a2 : Int32) (μ : Mem) : Option (Int32 × Mem) := (f_X7_in a1 0 1).bind (fun v1 => (if v1 = 0 then f_X7_root_b28 q a1 a2 1 μ else (f_X7_in a2 0 3).bind (fun v2 => (if v2 = 0 then f_X7_root_b28 q a1 a2 2 μ else f_X7_root_b28 q a1 a2 0 μ))))
set_option maxHeartbeats 4000000 in
set_option maxRecDepth 100000 in
theorem c_X7_root (l : Launch) {D : va_G} {cI cG cL : ClassId} {A : Nat → Prop} {EN : State → Heap → Prop} (hE : EnOK EN A) {w : Mem → va_W} {ad : Nat → Nat} {hh : Int64} {q : Nat} {a1 : Int32} {a2 : Int32} {μ : Mem} {r : Int32} {μ' : Mem} (hw : ModelAt cI w ad hh q) (h : f_X7_root q a1 a2 μ = some (r, μ')) : Met l yX7_root wsX7_root (rmk 2 45) (WPre D (tyl cI cG cL) A EN (w μ) [.ref (ad q), .int a1, .int a2]) (PI D A (w μ') r) 0 0 A := by
  have hiX7 : ∀ w ∈ u_ws RX7 TX7 13, w ∈ wsX7_root := by decide +kernel
  have mf28 : Cond.fieldLink RX7 28 (TX7 6).1 (TX7 6).2.1 (TX7 6).2.2.1 ∈ wsX7_root := by decide +kernel
  refine met_start (cc := cX7_root) (nL := 3) (ret := (some .int)) (own := RX7) hE (by decide) rfl rfl (Nat.le_of_ble_eq_true rfl) (fun p e s m args below meth c ls X hS hl hr hlk => ?_)
  have hx := X.1.1
  have hb := X.1.2.1
  replace hl : lv_has ls 3 [(0, .ref (ad q)), (1, .int a1), (2, .int a2)] := hl
  have hb48 : ∀ (s0 : Int32) (μ : Mem) (H : Heap) (locs : List Loc) (ls : Array Slot), HS D A (w μ) s.heap H locs → lv_has ls 3 [] → f_X7_root_b48 q s0 μ = some (r, μ') → W p l e (headSpec wsX7_root (rmk 2 45)).room s m args below meth c H locs 0 0 (MQ below (PI D A (w μ') r) args s 0 0 A) (F0 m 48 ls [.int s0]) := by
    intro s0 μ H locs ls hS hl h
    unfold f_X7_root_b48 at h
    obtain ⟨rfl, rfl⟩ := pr2 h
    exact r_iret X hS hr hlk dX7_root_48
  have hb28 : ∀ (x1 : Int32) (x2 : Int32) (s0 : Int32) (μ : Mem) (H : Heap) (locs : List Loc) (ls : Array Slot), HS D A (w μ) s.heap H locs → lv_has ls 3 [(0, .ref (ad q)), (1, .int x1), (2, .int x2)] → f_X7_root_b28 q x1 x2 s0 μ = some (r, μ') → W p l e (headSpec wsX7_root (rmk 2 45)).room s m args below meth c H locs 0 0 (MQ below (PI D A (w μ') r) args s 0 0 A) (F0 m 28 ls [.int s0, .ref (ad q)]) := by
    intro x1 x2 s0 μ H locs ls hS hl h
    unfold f_X7_root_b28 at h
    obtain ⟨μ3, eμ3, h⟩ := ob h
    refine r_putp (w := w) X hS (T := TX7) (k := 6) eμ3 hw.1 rfl hiX7 tyX7 tyX7_ok nmX7 (by decide) mf28 rfl rfl rfl (Nat.le_of_ble_eq_true rfl) rfl dX7_root_28 (fun H locs hS => ?_)
    refine lv_aload_n hx hb dX7_root_31 rfl (lv_at hl 0 rfl) ?_
    refine r_get X hS (T := TX7) (k := 6) (hw.1 μ3).1 rfl hiX7 (by decide) mf28 rfl dX7_root_32 ?_
    refine lv_if_ne (tgt := 47) hx hb dX7_root_35 (by decide) (fun cc => ?_) (fun cc => ?_)
    · replace h := ie h cc
      refine lv_iconst (v := 0) hx hb dX7_root_47 (by decide) ?_
      exact hb48 0 μ3 _ _ _ hS (lv_sub hl [] rfl) h
    · replace h := it h cc
      refine lv_aload_n hx hb dX7_root_38 rfl (lv_at hl 0 rfl) ?_
      refine lv_iload_n hx hb dX7_root_39 rfl (lv_at hl 1 rfl) ?_
      refine lv_iload_n hx hb dX7_root_40 rfl (lv_at hl 2 rfl) ?_
      obtain ⟨v4, ev4, h⟩ := ob h
      refine r_ci hS (r_runV (As := [.int x1, .int x2]) (rest := []) X hS (c_X7_tellRoot l hE (w := w) (ad := ad) (μ := μ3) (D := D) (cI := cI) (cG := cG) (cL := cL) hw ev4) (cwV 2 X.1.2.2.2.2 gX7_root_X7_tellRoot rfl rfl rfl (by decide +kernel) ⟨Nat.le_of_ble_eq_true rfl, Nat.le_of_ble_eq_true rfl⟩) (q0 := q) (ci := 5) rfl (hw.1 μ3).1 rfl hl.1 rfl (Nat.le_of_ble_eq_true rfl) dX7_root_41 ⟨Nat.zero_le _, Nat.zero_le _⟩) (fun H locs hS => ?_)
      refine lv_goto (tgt := 48) hx hb dX7_root_44 (by decide) ?_
      exact hb48 v4 μ3 _ _ _ hS (lv_sub hl [] rfl) h
  unfold f_X7_root at h
  refine lv_aload_n hx hb dX7_root_0 rfl (lv_at hl 0 rfl) ?_
  refine lv_iload_n hx hb dX7_root_1 rfl (lv_at hl 1 rfl) ?_
  refine lv_iconst (v := 0) hx hb dX7_root_2 (by decide) ?_
  refine lv_iconst (v := 1) hx hb dX7_root_3 (by decide) ?_
  obtain ⟨v1, ev1, h⟩ := ob h
  refine r_ci hS (r_runS (As := [.int a1, .int 0, .int 1]) (rest := [.ref (ad q)]) X hS (c_X7_in l hE (w := w) (ad := ad) (μ := μ) (D := D) (cI := cI) (cG := cG) (cL := cL) ev1) (va_cwS 3 X.1.2.2.2.2 gX7_root_X7_in rfl rfl rfl (by decide +kernel) ⟨Nat.le_of_ble_eq_true rfl, Nat.le_of_ble_eq_true rfl⟩) rfl hl.1 rfl (Nat.le_of_ble_eq_true rfl) dX7_root_4 ⟨Nat.zero_le _, Nat.zero_le _⟩) (fun H locs hS => ?_)
  refine lv_if_ne (tgt := 14) hx hb dX7_root_7 (by decide) (fun cc => ?_) (fun cc => ?_)
  · replace h := ie h cc
    refine lv_iload_n hx hb dX7_root_14 rfl (lv_at hl 2 rfl) ?_
    refine lv_iconst (v := 0) hx hb dX7_root_15 (by decide) ?_
    refine lv_iconst (v := 3) hx hb dX7_root_16 (by decide) ?_
    obtain ⟨v2, ev2, h⟩ := ob h
    refine r_ci hS (r_runS (As := [.int a2, .int 0, .int 3]) (rest := [.ref (ad q)]) X hS (c_X7_in l hE (w := w) (ad := ad) (μ := μ) (D := D) (cI := cI) (cG := cG) (cL := cL) ev2) (va_cwS 3 X.1.2.2.2.2 gX7_root_X7_in rfl rfl rfl (by decide +kernel) ⟨Nat.le_of_ble_eq_true rfl, Nat.le_of_ble_eq_true rfl⟩) rfl hl.1 rfl (Nat.le_of_ble_eq_true rfl) dX7_root_17 ⟨Nat.zero_le _, Nat.zero_le _⟩) (fun H locs hS => ?_)
    refine lv_if_ne (tgt := 27) hx hb dX7_root_20 (by decide) (fun cc => ?_) (fun cc => ?_)
    · replace h := ie h cc
      refine lv_iconst (v := 0) hx hb dX7_root_27 (by decide) ?_
      exact hb28 a1 a2 0 μ _ _ _ hS (lv_sub hl [0, 1, 2] rfl) h
    · replace h := it h cc
      refine lv_iconst (v := 2) hx hb dX7_root_23 (by decide) ?_
      refine lv_goto (tgt := 28) hx hb dX7_root_24 (by decide) ?_
      exact hb28 a1 a2 2 μ _ _ _ hS (lv_sub hl [0, 1, 2] rfl) h
  · replace h := it h cc
    refine lv_iconst (v := 1) hx hb dX7_root_10 (by decide) ?_
    refine lv_goto (tgt := 28) hx hb dX7_root_11 (by decide) ?_
    exact hb28 a1 a2 1 μ _ _ _ hS (lv_sub hl [0, 1, 2] rfl) h
def f_X7_tellReader_b39 (q : Nat) (s0 : Int32) (μ : Mem) : Option Int32 := (some s0)
def f_X7_tellReader (q : Nat) (a1 : Int32) (a2 : Int32) (μ : Mem) : Option Int32 := (f_X7_ofReader q a1 0 μ).bind (fun v1 => (if v1 = 0 then (some (-1000)) else (if a2 = 2 then (f_X7_ofReader q a1 2 μ).bind (fun v3 => (f_X7_entriesBy q v3 μ).bind (fun v4 => f_X7_tellReader_b39 q v4 μ)) else (f_X7_ofReader q a1 (a2 + 1) μ).bind (fun v2 => f_X7_tellReader_b39 q v2 μ))))
set_option maxHeartbeats 4000000 in
set_option maxRecDepth 100000 in
theorem c_X7_tellReader (l : Launch) {D : va_G} {cI cG cL : ClassId} {A : Nat → Prop} {EN : State → Heap → Prop} (hE : EnOK EN A) {w : Mem → va_W} {ad : Nat → Nat} {hh : Int64} {q : Nat} {a1 : Int32} {a2 : Int32} {μ : Mem} {r : Int32} (hw : ModelAt cI w ad hh q) (h : f_X7_tellReader q a1 a2 μ = some r) : Met l yX7_tellReader wsX7_tellReader (rmk 3 67) (WPre D (tyl cI cG cL) A EN (w μ) [.ref (ad q), .int a1, .int a2]) (PI D A (w μ) r) 0 0 A := by
  refine met_start (cc := cX7_tellReader) (nL := 3) (ret := (some .int)) (own := RX7) hE (by decide) rfl rfl (Nat.le_of_ble_eq_true rfl) (fun p e s m args below meth c ls X hS hl hr hlk => ?_)
  have hx := X.1.1
  have hb := X.1.2.1
  replace hl : lv_has ls 3 [(0, .ref (ad q)), (1, .int a1), (2, .int a2)] := hl
  have hb39 : ∀ (s0 : Int32) (H : Heap) (locs : List Loc) (ls : Array Slot), HS D A (w μ) s.heap H locs → lv_has ls 3 [] → f_X7_tellReader_b39 q s0 μ = some r → W p l e (headSpec wsX7_tellReader (rmk 3 67)).room s m args below meth c H locs 0 0 (MQ below (PI D A (w μ) r) args s 0 0 A) (F0 m 39 ls [.int s0]) := by
    intro s0 H locs ls hS hl h
    unfold f_X7_tellReader_b39 at h
    cases h
    exact r_iret X hS hr hlk dX7_tellReader_39
  unfold f_X7_tellReader at h
  refine lv_aload_n hx hb dX7_tellReader_0 rfl (lv_at hl 0 rfl) ?_
  refine lv_iload_n hx hb dX7_tellReader_1 rfl (lv_at hl 1 rfl) ?_
  refine lv_iconst (v := 0) hx hb dX7_tellReader_2 (by decide) ?_
  obtain ⟨v1, ev1, h⟩ := ob h
  refine r_ci hS (r_runV (As := [.int a1, .int 0]) (rest := []) X hS (c_X7_ofReader l hE (w := w) (ad := ad) (μ := μ) (D := D) (cI := cI) (cG := cG) (cL := cL) hw ev1) (cwV 2 X.1.2.2.2.2 gX7_tellReader_X7_ofReader rfl rfl rfl (by decide +kernel) ⟨Nat.le_of_ble_eq_true rfl, Nat.le_of_ble_eq_true rfl⟩) (q0 := q) (ci := 5) rfl (hw.1 μ).1 rfl hl.1 rfl (Nat.le_of_ble_eq_true rfl) dX7_tellReader_3 ⟨Nat.zero_le _, Nat.zero_le _⟩) (fun H locs hS => ?_)
  refine lv_if_ne (tgt := 13) hx hb dX7_tellReader_6 (by decide) (fun cc => ?_) (fun cc => ?_)
  · replace h := ie h cc
    refine lv_iload_n hx hb dX7_tellReader_13 rfl (lv_at hl 2 rfl) ?_
    refine lv_iconst (v := 2) hx hb dX7_tellReader_14 (by decide) ?_
    refine lv_icmp_ne (tgt := 31) hx hb dX7_tellReader_15 (by decide) (fun cc => ?_) (fun cc => ?_)
    · replace h := ie h cc
      refine lv_aload_n hx hb dX7_tellReader_31 rfl (lv_at hl 0 rfl) ?_
      refine lv_iload_n hx hb dX7_tellReader_32 rfl (lv_at hl 1 rfl) ?_
      refine lv_iload_n hx hb dX7_tellReader_33 rfl (lv_at hl 2 rfl) ?_
      refine lv_iconst (v := 1) hx hb dX7_tellReader_34 (by decide) ?_
      refine lv_iadd hx hb dX7_tellReader_35 ?_
      obtain ⟨v2, ev2, h⟩ := ob h
      refine r_ci hS (r_runV (As := [.int a1, .int (a2 + 1)]) (rest := []) X hS (c_X7_ofReader l hE (w := w) (ad := ad) (μ := μ) (D := D) (cI := cI) (cG := cG) (cL := cL) hw ev2) (cwV 2 X.1.2.2.2.2 gX7_tellReader_X7_ofReader rfl rfl rfl (by decide +kernel) ⟨Nat.le_of_ble_eq_true rfl, Nat.le_of_ble_eq_true rfl⟩) (q0 := q) (ci := 5) rfl (hw.1 μ).1 rfl hl.1 rfl (Nat.le_of_ble_eq_true rfl) dX7_tellReader_36 ⟨Nat.zero_le _, Nat.zero_le _⟩) (fun H locs hS => ?_)
      exact hb39 v2 _ _ _ hS (lv_sub hl [] rfl) h
    · replace h := it h cc
      refine lv_aload_n hx hb dX7_tellReader_18 rfl (lv_at hl 0 rfl) ?_
      refine lv_aload_n hx hb dX7_tellReader_19 rfl (lv_at hl 0 rfl) ?_
      refine lv_iload_n hx hb dX7_tellReader_20 rfl (lv_at hl 1 rfl) ?_
      refine lv_iconst (v := 2) hx hb dX7_tellReader_21 (by decide) ?_
      obtain ⟨v3, ev3, h⟩ := ob h
      refine r_ci hS (r_runV (As := [.int a1, .int 2]) (rest := [.ref (ad q)]) X hS (c_X7_ofReader l hE (w := w) (ad := ad) (μ := μ) (D := D) (cI := cI) (cG := cG) (cL := cL) hw ev3) (cwV 2 X.1.2.2.2.2 gX7_tellReader_X7_ofReader rfl rfl rfl (by decide +kernel) ⟨Nat.le_of_ble_eq_true rfl, Nat.le_of_ble_eq_true rfl⟩) (q0 := q) (ci := 5) rfl (hw.1 μ).1 rfl hl.1 rfl (Nat.le_of_ble_eq_true rfl) dX7_tellReader_22 ⟨Nat.zero_le _, Nat.zero_le _⟩) (fun H locs hS => ?_)
      obtain ⟨v4, ev4, h⟩ := ob h
      refine r_ci hS (r_runV (As := [.int v3]) (rest := []) X hS (c_X7_entriesBy l hE (w := w) (ad := ad) (μ := μ) (D := D) (cI := cI) (cG := cG) (cL := cL) hw ev4) (cwV 1 X.1.2.2.2.2 gX7_tellReader_X7_entriesBy rfl rfl rfl (by decide +kernel) ⟨Nat.le_of_ble_eq_true rfl, Nat.le_of_ble_eq_true rfl⟩) (q0 := q) (ci := 5) rfl (hw.1 μ).1 rfl hl.1 rfl (Nat.le_of_ble_eq_true rfl) dX7_tellReader_25 ⟨Nat.zero_le _, Nat.zero_le _⟩) (fun H locs hS => ?_)
      refine lv_goto (tgt := 39) hx hb dX7_tellReader_28 (by decide) ?_
      exact hb39 v4 _ _ _ hS (lv_sub hl [] rfl) h
  · replace h := it h cc
    refine lv_sipush (v := (-1000)) hx hb dX7_tellReader_9 (by decide) ?_
    cases h
    exact r_iret X hS hr hlk dX7_tellReader_12
def f_X7_reader_b46 (q : Nat) (s0 : Int32) (μ : Mem) : Option (Int32 × Mem) := (some (s0, μ))
def f_X7_reader_b26 (q : Nat) (x1 : Int32) (x2 : Int32) (s0 : Int32) (μ : Mem) : Option (Int32 × Mem) := (pf μ q 6 s0).bind (fun μ3 => (if (μ3 q 6) = 0 then (f_X7_tellReader q x1 x2 μ3).bind (fun v4 => f_X7_reader_b46 q v4 μ3) else f_X7_reader_b46 q 0 μ3))
def f_X7_reader (q : Nat) (a1 : Int32) (a2 : Int32) (μ : Mem) : Option (Int32 × Mem) := (f_X7_isReader a1).bind (fun v1 => (if v1 = 0 then f_X7_reader_b26 q a1 a2 1 μ else (f_X7_in a2 0 2).bind (fun v2 => (if v2 = 0 then f_X7_reader_b26 q a1 a2 2 μ else f_X7_reader_b26 q a1 a2 0 μ))))
set_option maxHeartbeats 4000000 in
set_option maxRecDepth 100000 in
theorem c_X7_reader (l : Launch) {D : va_G} {cI cG cL : ClassId} {A : Nat → Prop} {EN : State → Heap → Prop} (hE : EnOK EN A) {w : Mem → va_W} {ad : Nat → Nat} {hh : Int64} {q : Nat} {a1 : Int32} {a2 : Int32} {μ : Mem} {r : Int32} {μ' : Mem} (hw : ModelAt cI w ad hh q) (h : f_X7_reader q a1 a2 μ = some (r, μ')) : Met l yX7_reader wsX7_reader (rmk 4 89) (WPre D (tyl cI cG cL) A EN (w μ) [.ref (ad q), .int a1, .int a2]) (PI D A (w μ') r) 0 0 A := by
  have hiX7 : ∀ w ∈ u_ws RX7 TX7 13, w ∈ wsX7_reader := by decide +kernel
  have mf28 : Cond.fieldLink RX7 28 (TX7 6).1 (TX7 6).2.1 (TX7 6).2.2.1 ∈ wsX7_reader := by decide +kernel
  refine met_start (cc := cX7_reader) (nL := 3) (ret := (some .int)) (own := RX7) hE (by decide) rfl rfl (Nat.le_of_ble_eq_true rfl) (fun p e s m args below meth c ls X hS hl hr hlk => ?_)
  have hx := X.1.1
  have hb := X.1.2.1
  replace hl : lv_has ls 3 [(0, .ref (ad q)), (1, .int a1), (2, .int a2)] := hl
  have hb46 : ∀ (s0 : Int32) (μ : Mem) (H : Heap) (locs : List Loc) (ls : Array Slot), HS D A (w μ) s.heap H locs → lv_has ls 3 [] → f_X7_reader_b46 q s0 μ = some (r, μ') → W p l e (headSpec wsX7_reader (rmk 4 89)).room s m args below meth c H locs 0 0 (MQ below (PI D A (w μ') r) args s 0 0 A) (F0 m 46 ls [.int s0]) := by
    intro s0 μ H locs ls hS hl h
    unfold f_X7_reader_b46 at h
    obtain ⟨rfl, rfl⟩ := pr2 h
    exact r_iret X hS hr hlk dX7_reader_46
  have hb26 : ∀ (x1 : Int32) (x2 : Int32) (s0 : Int32) (μ : Mem) (H : Heap) (locs : List Loc) (ls : Array Slot), HS D A (w μ) s.heap H locs → lv_has ls 3 [(0, .ref (ad q)), (1, .int x1), (2, .int x2)] → f_X7_reader_b26 q x1 x2 s0 μ = some (r, μ') → W p l e (headSpec wsX7_reader (rmk 4 89)).room s m args below meth c H locs 0 0 (MQ below (PI D A (w μ') r) args s 0 0 A) (F0 m 26 ls [.int s0, .ref (ad q)]) := by
    intro x1 x2 s0 μ H locs ls hS hl h
    unfold f_X7_reader_b26 at h
    obtain ⟨μ3, eμ3, h⟩ := ob h
    refine r_putp (w := w) X hS (T := TX7) (k := 6) eμ3 hw.1 rfl hiX7 tyX7 tyX7_ok nmX7 (by decide) mf28 rfl rfl rfl (Nat.le_of_ble_eq_true rfl) rfl dX7_reader_26 (fun H locs hS => ?_)
    refine lv_aload_n hx hb dX7_reader_29 rfl (lv_at hl 0 rfl) ?_
    refine r_get X hS (T := TX7) (k := 6) (hw.1 μ3).1 rfl hiX7 (by decide) mf28 rfl dX7_reader_30 ?_
    refine lv_if_ne (tgt := 45) hx hb dX7_reader_33 (by decide) (fun cc => ?_) (fun cc => ?_)
    · replace h := ie h cc
      refine lv_iconst (v := 0) hx hb dX7_reader_45 (by decide) ?_
      exact hb46 0 μ3 _ _ _ hS (lv_sub hl [] rfl) h
    · replace h := it h cc
      refine lv_aload_n hx hb dX7_reader_36 rfl (lv_at hl 0 rfl) ?_
      refine lv_iload_n hx hb dX7_reader_37 rfl (lv_at hl 1 rfl) ?_
      refine lv_iload_n hx hb dX7_reader_38 rfl (lv_at hl 2 rfl) ?_
      obtain ⟨v4, ev4, h⟩ := ob h
      refine r_ci hS (r_runV (As := [.int x1, .int x2]) (rest := []) X hS (c_X7_tellReader l hE (w := w) (ad := ad) (μ := μ3) (D := D) (cI := cI) (cG := cG) (cL := cL) hw ev4) (cwV 2 X.1.2.2.2.2 gX7_reader_X7_tellReader rfl rfl rfl (by decide +kernel) ⟨Nat.le_of_ble_eq_true rfl, Nat.le_of_ble_eq_true rfl⟩) (q0 := q) (ci := 5) rfl (hw.1 μ3).1 rfl hl.1 rfl (Nat.le_of_ble_eq_true rfl) dX7_reader_39 ⟨Nat.zero_le _, Nat.zero_le _⟩) (fun H locs hS => ?_)
      refine lv_goto (tgt := 46) hx hb dX7_reader_42 (by decide) ?_
      exact hb46 v4 μ3 _ _ _ hS (lv_sub hl [] rfl) h
  unfold f_X7_reader at h
  refine lv_aload_n hx hb dX7_reader_0 rfl (lv_at hl 0 rfl) ?_
  refine lv_iload_n hx hb dX7_reader_1 rfl (lv_at hl 1 rfl) ?_
  obtain ⟨v1, ev1, h⟩ := ob h
  refine r_ci hS (r_runS (As := [.int a1]) (rest := [.ref (ad q)]) X hS (c_X7_isReader l hE (w := w) (ad := ad) (μ := μ) (D := D) (cI := cI) (cG := cG) (cL := cL) ev1) (va_cwS 1 X.1.2.2.2.2 gX7_reader_X7_isReader rfl rfl rfl (by decide +kernel) ⟨Nat.le_of_ble_eq_true rfl, Nat.le_of_ble_eq_true rfl⟩) rfl hl.1 rfl (Nat.le_of_ble_eq_true rfl) dX7_reader_2 ⟨Nat.zero_le _, Nat.zero_le _⟩) (fun H locs hS => ?_)
  refine lv_if_ne (tgt := 12) hx hb dX7_reader_5 (by decide) (fun cc => ?_) (fun cc => ?_)
  · replace h := ie h cc
    refine lv_iload_n hx hb dX7_reader_12 rfl (lv_at hl 2 rfl) ?_
    refine lv_iconst (v := 0) hx hb dX7_reader_13 (by decide) ?_
    refine lv_iconst (v := 2) hx hb dX7_reader_14 (by decide) ?_
    obtain ⟨v2, ev2, h⟩ := ob h
    refine r_ci hS (r_runS (As := [.int a2, .int 0, .int 2]) (rest := [.ref (ad q)]) X hS (c_X7_in l hE (w := w) (ad := ad) (μ := μ) (D := D) (cI := cI) (cG := cG) (cL := cL) ev2) (va_cwS 3 X.1.2.2.2.2 gX7_reader_X7_in rfl rfl rfl (by decide +kernel) ⟨Nat.le_of_ble_eq_true rfl, Nat.le_of_ble_eq_true rfl⟩) rfl hl.1 rfl (Nat.le_of_ble_eq_true rfl) dX7_reader_15 ⟨Nat.zero_le _, Nat.zero_le _⟩) (fun H locs hS => ?_)
    refine lv_if_ne (tgt := 25) hx hb dX7_reader_18 (by decide) (fun cc => ?_) (fun cc => ?_)
    · replace h := ie h cc
      refine lv_iconst (v := 0) hx hb dX7_reader_25 (by decide) ?_
      exact hb26 a1 a2 0 μ _ _ _ hS (lv_sub hl [0, 1, 2] rfl) h
    · replace h := it h cc
      refine lv_iconst (v := 2) hx hb dX7_reader_21 (by decide) ?_
      refine lv_goto (tgt := 26) hx hb dX7_reader_22 (by decide) ?_
      exact hb26 a1 a2 2 μ _ _ _ hS (lv_sub hl [0, 1, 2] rfl) h
  · replace h := it h cc
    refine lv_iconst (v := 1) hx hb dX7_reader_8 (by decide) ?_
    refine lv_goto (tgt := 26) hx hb dX7_reader_9 (by decide) ?_
    exact hb26 a1 a2 1 μ _ _ _ hS (lv_sub hl [0, 1, 2] rfl) h
def f_X7_tellBed_b75 (q : Nat) (s0 : Int32) (μ : Mem) : Option Int32 := (some s0)
def f_X7_tellBed_b92 (q : Nat) (s0 : Int32) (μ : Mem) : Option Int32 := (some s0)
def f_X7_tellBed_b115 (q : Nat) (s0 : Int32) (μ : Mem) : Option Int32 := (some s0)
def f_X7_tellBed_b129 (q : Nat) (s0 : Int32) (μ : Mem) : Option Int32 := (some s0)
def f_X7_tellBed_b14 (q : Nat) (x1 : Int32) (x2 : Int32) (s0 : Int32) (μ : Mem) : Option Int32 := (if x2 = 0 then (f_X7_of q x1 0 μ).bind (fun v2 => (some v2)) else (if x2 = 1 then (if s0 = 0 then (f_X7_of q x1 1 μ).bind (fun v3 => f_X7_tellBed_b75 q v3 μ) else f_X7_tellBed_b75 q (-1000) μ) else (if x2 = 2 then (if s0 = 0 then (f_X7_of q x1 2 μ).bind (fun v4 => f_X7_tellBed_b92 q v4 μ) else f_X7_tellBed_b92 q (-1000) μ) else (if x2 = 3 then (f_X7_of q x1 0 μ).bind (fun v5 => (if v5 = 2 then (f_X7_of q x1 3 μ).bind (fun v6 => f_X7_tellBed_b115 q v6 μ) else f_X7_tellBed_b115 q (-1000) μ)) else (if x2 = 4 then (f_X7_canBeDug q x1 μ).bind (fun v7 => (if v7 = 0 then f_X7_tellBed_b129 q 0 μ else f_X7_tellBed_b129 q 1 μ)) else ((f_X7_of q x1 4 μ).bind (fun v8 => (some v8))))))))
def f_X7_tellBed (q : Nat) (a1 : Int32) (a2 : Int32) (μ : Mem) : Option Int32 := (f_X7_of q a1 0 μ).bind (fun v1 => (if v1 = 0 then f_X7_tellBed_b14 q a1 a2 1 μ else f_X7_tellBed_b14 q a1 a2 0 μ))
set_option maxHeartbeats 4000000 in
set_option maxRecDepth 100000 in
theorem c_X7_tellBed (l : Launch) {D : va_G} {cI cG cL : ClassId} {A : Nat → Prop} {EN : State → Heap → Prop} (hE : EnOK EN A) {w : Mem → va_W} {ad : Nat → Nat} {hh : Int64} {q : Nat} {a1 : Int32} {a2 : Int32} {μ : Mem} {r : Int32} (hw : ModelAt cI w ad hh q) (h : f_X7_tellBed q a1 a2 μ = some r) : Met l yX7_tellBed wsX7_tellBed (rmk 3 67) (WPre D (tyl cI cG cL) A EN (w μ) [.ref (ad q), .int a1, .int a2]) (PI D A (w μ) r) 0 0 A := by
  refine met_start (cc := cX7_tellBed) (nL := 4) (ret := (some .int)) (own := RX7) hE (by decide) rfl rfl (Nat.le_of_ble_eq_true rfl) (fun p e s m args below meth c ls X hS hl hr hlk => ?_)
  have hx := X.1.1
  have hb := X.1.2.1
  replace hl : lv_has ls 4 [(0, .ref (ad q)), (1, .int a1), (2, .int a2)] := hl
  have hb75 : ∀ (s0 : Int32) (H : Heap) (locs : List Loc) (ls : Array Slot), HS D A (w μ) s.heap H locs → lv_has ls 4 [] → f_X7_tellBed_b75 q s0 μ = some r → W p l e (headSpec wsX7_tellBed (rmk 3 67)).room s m args below meth c H locs 0 0 (MQ below (PI D A (w μ) r) args s 0 0 A) (F0 m 75 ls [.int s0]) := by
    intro s0 H locs ls hS hl h
    unfold f_X7_tellBed_b75 at h
    cases h
    exact r_iret X hS hr hlk dX7_tellBed_75
  have hb92 : ∀ (s0 : Int32) (H : Heap) (locs : List Loc) (ls : Array Slot), HS D A (w μ) s.heap H locs → lv_has ls 4 [] → f_X7_tellBed_b92 q s0 μ = some r → W p l e (headSpec wsX7_tellBed (rmk 3 67)).room s m args below meth c H locs 0 0 (MQ below (PI D A (w μ) r) args s 0 0 A) (F0 m 92 ls [.int s0]) := by
    intro s0 H locs ls hS hl h
    unfold f_X7_tellBed_b92 at h
    cases h
    exact r_iret X hS hr hlk dX7_tellBed_92
  have hb115 : ∀ (s0 : Int32) (H : Heap) (locs : List Loc) (ls : Array Slot), HS D A (w μ) s.heap H locs → lv_has ls 4 [] → f_X7_tellBed_b115 q s0 μ = some r → W p l e (headSpec wsX7_tellBed (rmk 3 67)).room s m args below meth c H locs 0 0 (MQ below (PI D A (w μ) r) args s 0 0 A) (F0 m 115 ls [.int s0]) := by
    intro s0 H locs ls hS hl h
    unfold f_X7_tellBed_b115 at h
    cases h
    exact r_iret X hS hr hlk dX7_tellBed_115
  have hb129 : ∀ (s0 : Int32) (H : Heap) (locs : List Loc) (ls : Array Slot), HS D A (w μ) s.heap H locs → lv_has ls 4 [] → f_X7_tellBed_b129 q s0 μ = some r → W p l e (headSpec wsX7_tellBed (rmk 3 67)).room s m args below meth c H locs 0 0 (MQ below (PI D A (w μ) r) args s 0 0 A) (F0 m 129 ls [.int s0]) := by
    intro s0 H locs ls hS hl h
    unfold f_X7_tellBed_b129 at h
    cases h
    exact r_iret X hS hr hlk dX7_tellBed_129
  have hb14 : ∀ (x1 : Int32) (x2 : Int32) (s0 : Int32) (H : Heap) (locs : List Loc) (ls : Array Slot), HS D A (w μ) s.heap H locs → lv_has ls 4 [(0, .ref (ad q)), (1, .int x1), (2, .int x2)] → f_X7_tellBed_b14 q x1 x2 s0 μ = some r → W p l e (headSpec wsX7_tellBed (rmk 3 67)).room s m args below meth c H locs 0 0 (MQ below (PI D A (w μ) r) args s 0 0 A) (F0 m 14 ls [.int s0]) := by
    intro x1 x2 s0 H locs ls hS hl h
    unfold f_X7_tellBed_b14 at h
    refine lv_istore_n (lv' := [(3, .int s0), (0, .ref (ad q)), (1, .int x1), (2, .int x2)]) hx hb dX7_tellBed_14 rfl hl (by decide) rfl (fun ls hl => ?_)
    refine lv_iload_n hx hb dX7_tellBed_15 rfl (lv_at hl 3 rfl) ?_
    by_cases cc0 : x2 = 0
    · replace h := it h cc0
      rw [cc0]
      refine lv_tableIn (off := 36) (tgt := 52) hx hb dX7_tellBed_16 (by decide) (by decide) rfl (by decide) ?_
      refine lv_aload_n hx hb dX7_tellBed_52 rfl (lv_at hl 1 rfl) ?_
      refine lv_iload_n hx hb dX7_tellBed_53 rfl (lv_at hl 2 rfl) ?_
      refine lv_iconst (v := 0) hx hb dX7_tellBed_54 (by decide) ?_
      obtain ⟨v2, ev2, h⟩ := ob h
      refine r_ci hS (r_runV (As := [.int x1, .int 0]) (rest := []) X hS (c_X7_of l hE (w := w) (ad := ad) (μ := μ) (D := D) (cI := cI) (cG := cG) (cL := cL) hw ev2) (cwV 2 X.1.2.2.2.2 gX7_tellBed_X7_of rfl rfl rfl (by decide +kernel) ⟨Nat.le_of_ble_eq_true rfl, Nat.le_of_ble_eq_true rfl⟩) (q0 := q) (ci := 5) rfl (hw.1 μ).1 rfl hl.1 rfl (Nat.le_of_ble_eq_true rfl) dX7_tellBed_55 ⟨Nat.zero_le _, Nat.zero_le _⟩) (fun H locs hS => ?_)
      cases h
      exact r_iret X hS hr hlk dX7_tellBed_58
    · replace h := ie h cc0
      by_cases cc1 : x2 = 1
      · replace h := it h cc1
        rw [cc1]
        refine lv_tableIn (off := 43) (tgt := 59) hx hb dX7_tellBed_16 (by decide) (by decide) rfl (by decide) ?_
        refine lv_iload_n hx hb dX7_tellBed_59 rfl (lv_at hl 0 rfl) ?_
        refine lv_if_eq (tgt := 69) hx hb dX7_tellBed_60 (by decide) (fun cc => ?_) (fun cc => ?_)
        · replace h := it h cc
          refine lv_aload_n hx hb dX7_tellBed_69 rfl (lv_at hl 1 rfl) ?_
          refine lv_iload_n hx hb dX7_tellBed_70 rfl (lv_at hl 2 rfl) ?_
          refine lv_iconst (v := 1) hx hb dX7_tellBed_71 (by decide) ?_
          obtain ⟨v3, ev3, h⟩ := ob h
          refine r_ci hS (r_runV (As := [.int x1, .int 1]) (rest := []) X hS (c_X7_of l hE (w := w) (ad := ad) (μ := μ) (D := D) (cI := cI) (cG := cG) (cL := cL) hw ev3) (cwV 2 X.1.2.2.2.2 gX7_tellBed_X7_of rfl rfl rfl (by decide +kernel) ⟨Nat.le_of_ble_eq_true rfl, Nat.le_of_ble_eq_true rfl⟩) (q0 := q) (ci := 5) rfl (hw.1 μ).1 rfl hl.1 rfl (Nat.le_of_ble_eq_true rfl) dX7_tellBed_72 ⟨Nat.zero_le _, Nat.zero_le _⟩) (fun H locs hS => ?_)
          exact hb75 v3 _ _ _ hS (lv_sub hl [] rfl) h
        · replace h := ie h cc
          refine lv_sipush (v := (-1000)) hx hb dX7_tellBed_63 (by decide) ?_
          refine lv_goto (tgt := 75) hx hb dX7_tellBed_66 (by decide) ?_
          exact hb75 (-1000) _ _ _ hS (lv_sub hl [] rfl) h
      · replace h := ie h cc1
        by_cases cc2 : x2 = 2
        · replace h := it h cc2
          rw [cc2]
          refine lv_tableIn (off := 60) (tgt := 76) hx hb dX7_tellBed_16 (by decide) (by decide) rfl (by decide) ?_
          refine lv_iload_n hx hb dX7_tellBed_76 rfl (lv_at hl 0 rfl) ?_
          refine lv_if_eq (tgt := 86) hx hb dX7_tellBed_77 (by decide) (fun cc => ?_) (fun cc => ?_)
          · replace h := it h cc
            refine lv_aload_n hx hb dX7_tellBed_86 rfl (lv_at hl 1 rfl) ?_
            refine lv_iload_n hx hb dX7_tellBed_87 rfl (lv_at hl 2 rfl) ?_
            refine lv_iconst (v := 2) hx hb dX7_tellBed_88 (by decide) ?_
            obtain ⟨v4, ev4, h⟩ := ob h
            refine r_ci hS (r_runV (As := [.int x1, .int 2]) (rest := []) X hS (c_X7_of l hE (w := w) (ad := ad) (μ := μ) (D := D) (cI := cI) (cG := cG) (cL := cL) hw ev4) (cwV 2 X.1.2.2.2.2 gX7_tellBed_X7_of rfl rfl rfl (by decide +kernel) ⟨Nat.le_of_ble_eq_true rfl, Nat.le_of_ble_eq_true rfl⟩) (q0 := q) (ci := 5) rfl (hw.1 μ).1 rfl hl.1 rfl (Nat.le_of_ble_eq_true rfl) dX7_tellBed_89 ⟨Nat.zero_le _, Nat.zero_le _⟩) (fun H locs hS => ?_)
            exact hb92 v4 _ _ _ hS (lv_sub hl [] rfl) h
          · replace h := ie h cc
            refine lv_sipush (v := (-1000)) hx hb dX7_tellBed_80 (by decide) ?_
            refine lv_goto (tgt := 92) hx hb dX7_tellBed_83 (by decide) ?_
            exact hb92 (-1000) _ _ _ hS (lv_sub hl [] rfl) h
        · replace h := ie h cc2
          by_cases cc3 : x2 = 3
          · replace h := it h cc3
            rw [cc3]
            refine lv_tableIn (off := 77) (tgt := 93) hx hb dX7_tellBed_16 (by decide) (by decide) rfl (by decide) ?_
            refine lv_aload_n hx hb dX7_tellBed_93 rfl (lv_at hl 1 rfl) ?_
            refine lv_iload_n hx hb dX7_tellBed_94 rfl (lv_at hl 2 rfl) ?_
            refine lv_iconst (v := 0) hx hb dX7_tellBed_95 (by decide) ?_
            obtain ⟨v5, ev5, h⟩ := ob h
            refine r_ci hS (r_runV (As := [.int x1, .int 0]) (rest := []) X hS (c_X7_of l hE (w := w) (ad := ad) (μ := μ) (D := D) (cI := cI) (cG := cG) (cL := cL) hw ev5) (cwV 2 X.1.2.2.2.2 gX7_tellBed_X7_of rfl rfl rfl (by decide +kernel) ⟨Nat.le_of_ble_eq_true rfl, Nat.le_of_ble_eq_true rfl⟩) (q0 := q) (ci := 5) rfl (hw.1 μ).1 rfl hl.1 rfl (Nat.le_of_ble_eq_true rfl) dX7_tellBed_96 ⟨Nat.zero_le _, Nat.zero_le _⟩) (fun H locs hS => ?_)
            refine lv_iconst (v := 2) hx hb dX7_tellBed_99 (by decide) ?_
            refine lv_icmp_ne (tgt := 112) hx hb dX7_tellBed_100 (by decide) (fun cc => ?_) (fun cc => ?_)
            · replace h := ie h cc
              refine lv_sipush (v := (-1000)) hx hb dX7_tellBed_112 (by decide) ?_
              exact hb115 (-1000) _ _ _ hS (lv_sub hl [] rfl) h
            · replace h := it h cc
              refine lv_aload_n hx hb dX7_tellBed_103 rfl (lv_at hl 1 rfl) ?_
              refine lv_iload_n hx hb dX7_tellBed_104 rfl (lv_at hl 2 rfl) ?_
              refine lv_iconst (v := 3) hx hb dX7_tellBed_105 (by decide) ?_
              obtain ⟨v6, ev6, h⟩ := ob h
              refine r_ci hS (r_runV (As := [.int x1, .int 3]) (rest := []) X hS (c_X7_of l hE (w := w) (ad := ad) (μ := μ) (D := D) (cI := cI) (cG := cG) (cL := cL) hw ev6) (cwV 2 X.1.2.2.2.2 gX7_tellBed_X7_of rfl rfl rfl (by decide +kernel) ⟨Nat.le_of_ble_eq_true rfl, Nat.le_of_ble_eq_true rfl⟩) (q0 := q) (ci := 5) rfl (hw.1 μ).1 rfl hl.1 rfl (Nat.le_of_ble_eq_true rfl) dX7_tellBed_106 ⟨Nat.zero_le _, Nat.zero_le _⟩) (fun H locs hS => ?_)
              refine lv_goto (tgt := 115) hx hb dX7_tellBed_109 (by decide) ?_
              exact hb115 v6 _ _ _ hS (lv_sub hl [] rfl) h
          · replace h := ie h cc3
            by_cases cc4 : x2 = 4
            · replace h := it h cc4
              rw [cc4]
              refine lv_tableIn (off := 100) (tgt := 116) hx hb dX7_tellBed_16 (by decide) (by decide) rfl (by decide) ?_
              refine lv_aload_n hx hb dX7_tellBed_116 rfl (lv_at hl 1 rfl) ?_
              refine lv_iload_n hx hb dX7_tellBed_117 rfl (lv_at hl 2 rfl) ?_
              obtain ⟨v7, ev7, h⟩ := ob h
              refine r_ci hS (r_runV (As := [.int x1]) (rest := []) X hS (c_X7_canBeDug l hE (w := w) (ad := ad) (μ := μ) (D := D) (cI := cI) (cG := cG) (cL := cL) hw ev7) (cwV 1 X.1.2.2.2.2 gX7_tellBed_X7_canBeDug rfl rfl rfl (by decide +kernel) ⟨Nat.le_of_ble_eq_true rfl, Nat.le_of_ble_eq_true rfl⟩) (q0 := q) (ci := 5) rfl (hw.1 μ).1 rfl hl.1 rfl (Nat.le_of_ble_eq_true rfl) dX7_tellBed_118 ⟨Nat.zero_le _, Nat.zero_le _⟩) (fun H locs hS => ?_)
              refine lv_if_eq (tgt := 128) hx hb dX7_tellBed_121 (by decide) (fun cc => ?_) (fun cc => ?_)
              · replace h := it h cc
                refine lv_iconst (v := 0) hx hb dX7_tellBed_128 (by decide) ?_
                exact hb129 0 _ _ _ hS (lv_sub hl [] rfl) h
              · replace h := ie h cc
                refine lv_iconst (v := 1) hx hb dX7_tellBed_124 (by decide) ?_
                refine lv_goto (tgt := 129) hx hb dX7_tellBed_125 (by decide) ?_
                exact hb129 1 _ _ _ hS (lv_sub hl [] rfl) h
            · replace h := ie h cc4
              refine lv_tableOut (tgt := 130) hx hb dX7_tellBed_16 (sw_0_4 cc0 cc1 cc2 cc3 cc4) (by decide) ?_
              refine lv_aload_n hx hb dX7_tellBed_130 rfl (lv_at hl 1 rfl) ?_
              refine lv_iload_n hx hb dX7_tellBed_131 rfl (lv_at hl 2 rfl) ?_
              refine lv_iconst (v := 4) hx hb dX7_tellBed_132 (by decide) ?_
              obtain ⟨v8, ev8, h⟩ := ob h
              refine r_ci hS (r_runV (As := [.int x1, .int 4]) (rest := []) X hS (c_X7_of l hE (w := w) (ad := ad) (μ := μ) (D := D) (cI := cI) (cG := cG) (cL := cL) hw ev8) (cwV 2 X.1.2.2.2.2 gX7_tellBed_X7_of rfl rfl rfl (by decide +kernel) ⟨Nat.le_of_ble_eq_true rfl, Nat.le_of_ble_eq_true rfl⟩) (q0 := q) (ci := 5) rfl (hw.1 μ).1 rfl hl.1 rfl (Nat.le_of_ble_eq_true rfl) dX7_tellBed_133 ⟨Nat.zero_le _, Nat.zero_le _⟩) (fun H locs hS => ?_)
              cases h
              exact r_iret X hS hr hlk dX7_tellBed_136
  unfold f_X7_tellBed at h
  refine lv_aload_n hx hb dX7_tellBed_0 rfl (lv_at hl 0 rfl) ?_
  refine lv_iload_n hx hb dX7_tellBed_1 rfl (lv_at hl 1 rfl) ?_
  refine lv_iconst (v := 0) hx hb dX7_tellBed_2 (by decide) ?_
  obtain ⟨v1, ev1, h⟩ := ob h
  refine r_ci hS (r_runV (As := [.int a1, .int 0]) (rest := []) X hS (c_X7_of l hE (w := w) (ad := ad) (μ := μ) (D := D) (cI := cI) (cG := cG) (cL := cL) hw ev1) (cwV 2 X.1.2.2.2.2 gX7_tellBed_X7_of rfl rfl rfl (by decide +kernel) ⟨Nat.le_of_ble_eq_true rfl, Nat.le_of_ble_eq_true rfl⟩) (q0 := q) (ci := 5) rfl (hw.1 μ).1 rfl hl.1 rfl (Nat.le_of_ble_eq_true rfl) dX7_tellBed_3 ⟨Nat.zero_le _, Nat.zero_le _⟩) (fun H locs hS => ?_)
  refine lv_if_ne (tgt := 13) hx hb dX7_tellBed_6 (by decide) (fun cc => ?_) (fun cc => ?_)
  · replace h := ie h cc
    refine lv_iconst (v := 0) hx hb dX7_tellBed_13 (by decide) ?_
    exact hb14 a1 a2 0 _ _ _ hS (lv_sub hl [0, 1, 2] rfl) h
  · replace h := it h cc
    refine lv_iconst (v := 1) hx hb dX7_tellBed_9 (by decide) ?_
    refine lv_goto (tgt := 14) hx hb dX7_tellBed_10 (by decide) ?_
    exact hb14 a1 a2 1 _ _ _ hS (lv_sub hl [0, 1, 2] rfl) h
def f_X7_bed_b49 (q : Nat) (s0 : Int32) (μ : Mem) : Option (Int32 × Mem) := (some (s0, μ))
def f_X7_bed_b29 (q : Nat) (x1 : Int32) (x2 : Int32) (s0 : Int32) (μ : Mem) : Option (Int32 × Mem) := (pf μ q 6 s0).bind (fun μ3 => (if (μ3 q 6) = 0 then (f_X7_tellBed q x1 x2 μ3).bind (fun v4 => f_X7_bed_b49 q v4 μ3) else f_X7_bed_b49 q 0 μ3))
def f_X7_bed (q : Nat) (a1 : Int32) (a2 : Int32) (μ : Mem) : Option (Int32 × Mem) := (f_X7_in a1 0 31).bind (fun v1 => (if v1 = 0 then f_X7_bed_b29 q a1 a2 1 μ else (f_X7_in a2 0 5).bind (fun v2 => (if v2 = 0 then f_X7_bed_b29 q a1 a2 2 μ else f_X7_bed_b29 q a1 a2 0 μ))))
set_option maxHeartbeats 4000000 in
set_option maxRecDepth 100000 in
theorem c_X7_bed (l : Launch) {D : va_G} {cI cG cL : ClassId} {A : Nat → Prop} {EN : State → Heap → Prop} (hE : EnOK EN A) {w : Mem → va_W} {ad : Nat → Nat} {hh : Int64} {q : Nat} {a1 : Int32} {a2 : Int32} {μ : Mem} {r : Int32} {μ' : Mem} (hw : ModelAt cI w ad hh q) (h : f_X7_bed q a1 a2 μ = some (r, μ')) : Met l yX7_bed wsX7_bed (rmk 4 90) (WPre D (tyl cI cG cL) A EN (w μ) [.ref (ad q), .int a1, .int a2]) (PI D A (w μ') r) 0 0 A := by
  have hiX7 : ∀ w ∈ u_ws RX7 TX7 13, w ∈ wsX7_bed := by decide +kernel
  have mf28 : Cond.fieldLink RX7 28 (TX7 6).1 (TX7 6).2.1 (TX7 6).2.2.1 ∈ wsX7_bed := by decide +kernel
  refine met_start (cc := cX7_bed) (nL := 3) (ret := (some .int)) (own := RX7) hE (by decide) rfl rfl (Nat.le_of_ble_eq_true rfl) (fun p e s m args below meth c ls X hS hl hr hlk => ?_)
  have hx := X.1.1
  have hb := X.1.2.1
  replace hl : lv_has ls 3 [(0, .ref (ad q)), (1, .int a1), (2, .int a2)] := hl
  have hb49 : ∀ (s0 : Int32) (μ : Mem) (H : Heap) (locs : List Loc) (ls : Array Slot), HS D A (w μ) s.heap H locs → lv_has ls 3 [] → f_X7_bed_b49 q s0 μ = some (r, μ') → W p l e (headSpec wsX7_bed (rmk 4 90)).room s m args below meth c H locs 0 0 (MQ below (PI D A (w μ') r) args s 0 0 A) (F0 m 49 ls [.int s0]) := by
    intro s0 μ H locs ls hS hl h
    unfold f_X7_bed_b49 at h
    obtain ⟨rfl, rfl⟩ := pr2 h
    exact r_iret X hS hr hlk dX7_bed_49
  have hb29 : ∀ (x1 : Int32) (x2 : Int32) (s0 : Int32) (μ : Mem) (H : Heap) (locs : List Loc) (ls : Array Slot), HS D A (w μ) s.heap H locs → lv_has ls 3 [(0, .ref (ad q)), (1, .int x1), (2, .int x2)] → f_X7_bed_b29 q x1 x2 s0 μ = some (r, μ') → W p l e (headSpec wsX7_bed (rmk 4 90)).room s m args below meth c H locs 0 0 (MQ below (PI D A (w μ') r) args s 0 0 A) (F0 m 29 ls [.int s0, .ref (ad q)]) := by
    intro x1 x2 s0 μ H locs ls hS hl h
    unfold f_X7_bed_b29 at h
    obtain ⟨μ3, eμ3, h⟩ := ob h
    refine r_putp (w := w) X hS (T := TX7) (k := 6) eμ3 hw.1 rfl hiX7 tyX7 tyX7_ok nmX7 (by decide) mf28 rfl rfl rfl (Nat.le_of_ble_eq_true rfl) rfl dX7_bed_29 (fun H locs hS => ?_)
    refine lv_aload_n hx hb dX7_bed_32 rfl (lv_at hl 0 rfl) ?_
    refine r_get X hS (T := TX7) (k := 6) (hw.1 μ3).1 rfl hiX7 (by decide) mf28 rfl dX7_bed_33 ?_
    refine lv_if_ne (tgt := 48) hx hb dX7_bed_36 (by decide) (fun cc => ?_) (fun cc => ?_)
    · replace h := ie h cc
      refine lv_iconst (v := 0) hx hb dX7_bed_48 (by decide) ?_
      exact hb49 0 μ3 _ _ _ hS (lv_sub hl [] rfl) h
    · replace h := it h cc
      refine lv_aload_n hx hb dX7_bed_39 rfl (lv_at hl 0 rfl) ?_
      refine lv_iload_n hx hb dX7_bed_40 rfl (lv_at hl 1 rfl) ?_
      refine lv_iload_n hx hb dX7_bed_41 rfl (lv_at hl 2 rfl) ?_
      obtain ⟨v4, ev4, h⟩ := ob h
      refine r_ci hS (r_runV (As := [.int x1, .int x2]) (rest := []) X hS (c_X7_tellBed l hE (w := w) (ad := ad) (μ := μ3) (D := D) (cI := cI) (cG := cG) (cL := cL) hw ev4) (cwV 2 X.1.2.2.2.2 gX7_bed_X7_tellBed rfl rfl rfl (by decide +kernel) ⟨Nat.le_of_ble_eq_true rfl, Nat.le_of_ble_eq_true rfl⟩) (q0 := q) (ci := 5) rfl (hw.1 μ3).1 rfl hl.1 rfl (Nat.le_of_ble_eq_true rfl) dX7_bed_42 ⟨Nat.zero_le _, Nat.zero_le _⟩) (fun H locs hS => ?_)
      refine lv_goto (tgt := 49) hx hb dX7_bed_45 (by decide) ?_
      exact hb49 v4 μ3 _ _ _ hS (lv_sub hl [] rfl) h
  unfold f_X7_bed at h
  refine lv_aload_n hx hb dX7_bed_0 rfl (lv_at hl 0 rfl) ?_
  refine lv_iload_n hx hb dX7_bed_1 rfl (lv_at hl 1 rfl) ?_
  refine lv_iconst (v := 0) hx hb dX7_bed_2 (by decide) ?_
  refine lv_bipush (v := 31) hx hb dX7_bed_3 (by decide) ?_
  obtain ⟨v1, ev1, h⟩ := ob h
  refine r_ci hS (r_runS (As := [.int a1, .int 0, .int 31]) (rest := [.ref (ad q)]) X hS (c_X7_in l hE (w := w) (ad := ad) (μ := μ) (D := D) (cI := cI) (cG := cG) (cL := cL) ev1) (va_cwS 3 X.1.2.2.2.2 gX7_bed_X7_in rfl rfl rfl (by decide +kernel) ⟨Nat.le_of_ble_eq_true rfl, Nat.le_of_ble_eq_true rfl⟩) rfl hl.1 rfl (Nat.le_of_ble_eq_true rfl) dX7_bed_5 ⟨Nat.zero_le _, Nat.zero_le _⟩) (fun H locs hS => ?_)
  refine lv_if_ne (tgt := 15) hx hb dX7_bed_8 (by decide) (fun cc => ?_) (fun cc => ?_)
  · replace h := ie h cc
    refine lv_iload_n hx hb dX7_bed_15 rfl (lv_at hl 2 rfl) ?_
    refine lv_iconst (v := 0) hx hb dX7_bed_16 (by decide) ?_
    refine lv_iconst (v := 5) hx hb dX7_bed_17 (by decide) ?_
    obtain ⟨v2, ev2, h⟩ := ob h
    refine r_ci hS (r_runS (As := [.int a2, .int 0, .int 5]) (rest := [.ref (ad q)]) X hS (c_X7_in l hE (w := w) (ad := ad) (μ := μ) (D := D) (cI := cI) (cG := cG) (cL := cL) ev2) (va_cwS 3 X.1.2.2.2.2 gX7_bed_X7_in rfl rfl rfl (by decide +kernel) ⟨Nat.le_of_ble_eq_true rfl, Nat.le_of_ble_eq_true rfl⟩) rfl hl.1 rfl (Nat.le_of_ble_eq_true rfl) dX7_bed_18 ⟨Nat.zero_le _, Nat.zero_le _⟩) (fun H locs hS => ?_)
    refine lv_if_ne (tgt := 28) hx hb dX7_bed_21 (by decide) (fun cc => ?_) (fun cc => ?_)
    · replace h := ie h cc
      refine lv_iconst (v := 0) hx hb dX7_bed_28 (by decide) ?_
      exact hb29 a1 a2 0 μ _ _ _ hS (lv_sub hl [0, 1, 2] rfl) h
    · replace h := it h cc
      refine lv_iconst (v := 2) hx hb dX7_bed_24 (by decide) ?_
      refine lv_goto (tgt := 29) hx hb dX7_bed_25 (by decide) ?_
      exact hb29 a1 a2 2 μ _ _ _ hS (lv_sub hl [0, 1, 2] rfl) h
  · replace h := it h cc
    refine lv_iconst (v := 1) hx hb dX7_bed_11 (by decide) ?_
    refine lv_goto (tgt := 29) hx hb dX7_bed_12 (by decide) ?_
    exact hb29 a1 a2 1 μ _ _ _ hS (lv_sub hl [0, 1, 2] rfl) h
def f_X7_bedsWith_b29 (q : Nat) (k5 : Int32 → Int32 → Int32 → Int32 → Mem → Option Int32) (x1 : Int32) (x2 : Int32) (x4 : Int32) (s0 : Int32) (s1 : Int32) (μ : Mem) : Option Int32 := k5 x1 x2 (s1 + s0) (x4 + 1) μ
def f_X7_bedsWith_b5 (q : Nat)  : Nat → Int32 → Int32 → Int32 → Int32 → Mem → Option Int32
  | 0, _, _, _, _, _ => none
  | fuel5 + 1, x1, x2, x3, x4, μ => (if 32 ≤ x4 then (some x3) else (f_X7_of q x4 x1 μ).bind (fun v1 => (if v1 = x2 then f_X7_bedsWith_b29 q (f_X7_bedsWith_b5 q fuel5) x1 x2 x4 1 x3 μ else f_X7_bedsWith_b29 q (f_X7_bedsWith_b5 q fuel5) x1 x2 x4 0 x3 μ)))
def f_X7_bedsWith (q : Nat) (a1 : Int32) (a2 : Int32) (μ : Mem) : Option Int32 := f_X7_bedsWith_b5 q FU a1 a2 0 0 μ
set_option maxHeartbeats 4000000 in
set_option maxRecDepth 100000 in
theorem c_X7_bedsWith (l : Launch) {D : va_G} {cI cG cL : ClassId} {A : Nat → Prop} {EN : State → Heap → Prop} (hE : EnOK EN A) {w : Mem → va_W} {ad : Nat → Nat} {hh : Int64} {q : Nat} {a1 : Int32} {a2 : Int32} {μ : Mem} {r : Int32} (hw : ModelAt cI w ad hh q) (h : f_X7_bedsWith q a1 a2 μ = some r) : Met l yX7_bedsWith wsX7_bedsWith (rmk 1 22) (WPre D (tyl cI cG cL) A EN (w μ) [.ref (ad q), .int a1, .int a2]) (PI D A (w μ) r) 0 0 A := by
  refine met_start (cc := cX7_bedsWith) (nL := 5) (ret := (some .int)) (own := RX7) hE (by decide) rfl rfl (Nat.le_of_ble_eq_true rfl) (fun p e s m args below meth c ls X hS hl hr hlk => ?_)
  have hx := X.1.1
  have hb := X.1.2.1
  replace hl : lv_has ls 5 [(0, .ref (ad q)), (1, .int a1), (2, .int a2)] := hl
  have hb29 : ∀ (k5 : Int32 → Int32 → Int32 → Int32 → Mem → Option Int32), (∀ (x1 : Int32) (x2 : Int32) (x3 : Int32) (x4 : Int32) (H : Heap) (locs : List Loc) (ls : Array Slot), HS D A (w μ) s.heap H locs → lv_has ls 5 [(0, .ref (ad q)), (1, .int x1), (2, .int x2), (3, .int x3), (4, .int x4)] → k5 x1 x2 x3 x4 μ = some r → W p l e (headSpec wsX7_bedsWith (rmk 1 22)).room s m args below meth c H locs 0 0 (MQ below (PI D A (w μ) r) args s 0 0 A) (F0 m 5 ls [])) → ∀ (x1 : Int32) (x2 : Int32) (x4 : Int32) (s0 : Int32) (s1 : Int32) (H : Heap) (locs : List Loc) (ls : Array Slot), HS D A (w μ) s.heap H locs → lv_has ls 5 [(0, .ref (ad q)), (1, .int x1), (2, .int x2), (4, .int x4)] → f_X7_bedsWith_b29 q k5 x1 x2 x4 s0 s1 μ = some r → W p l e (headSpec wsX7_bedsWith (rmk 1 22)).room s m args below meth c H locs 0 0 (MQ below (PI D A (w μ) r) args s 0 0 A) (F0 m 29 ls [.int s0, .int s1]) := by
    intro k5 hk5 x1 x2 x4 s0 s1 H locs ls hS hl h
    unfold f_X7_bedsWith_b29 at h
    refine lv_iadd hx hb dX7_bedsWith_29 ?_
    refine lv_istore_n (lv' := [(3, .int (s1 + s0)), (0, .ref (ad q)), (1, .int x1), (2, .int x2), (4, .int x4)]) hx hb dX7_bedsWith_30 rfl hl (by decide) rfl (fun ls hl => ?_)
    refine lv_iinc (v := x4 + 1) (lv' := [(4, .int (x4 + 1)), (3, .int (s1 + s0)), (0, .ref (ad q)), (1, .int x1), (2, .int x2)]) hx hb dX7_bedsWith_31 hl (k := 4) rfl rfl (by decide) rfl (fun ls hl => ?_)
    refine lv_goto (tgt := 5) hx hb dX7_bedsWith_34 (by decide) ?_
    exact hk5 x1 x2 (s1 + s0) (x4 + 1) _ _ _ hS (lv_sub hl [2, 3, 4, 1, 0] rfl) h
  have hb5 : ∀ (fu : Nat) (x1 : Int32) (x2 : Int32) (x3 : Int32) (x4 : Int32) (H : Heap) (locs : List Loc) (ls : Array Slot), HS D A (w μ) s.heap H locs → lv_has ls 5 [(0, .ref (ad q)), (1, .int x1), (2, .int x2), (3, .int x3), (4, .int x4)] → f_X7_bedsWith_b5 q fu x1 x2 x3 x4 μ = some r → W p l e (headSpec wsX7_bedsWith (rmk 1 22)).room s m args below meth c H locs 0 0 (MQ below (PI D A (w μ) r) args s 0 0 A) (F0 m 5 ls []) := by
    intro fu
    induction fu with
    | zero =>
      intro x1 x2 x3 x4 H locs ls hS hl h
      rw [f_X7_bedsWith_b5] at h
      cases h
    | succ fuel5 ih5 =>
      intro x1 x2 x3 x4 H locs ls hS hl h
      rw [f_X7_bedsWith_b5] at h
      refine lv_iload hx hb dX7_bedsWith_5 (lv_at hl 4 rfl) ?_
      refine lv_bipush (v := 32) hx hb dX7_bedsWith_7 (by decide) ?_
      refine lv_icmp_ge (tgt := 37) hx hb dX7_bedsWith_9 (by decide) (fun cc => ?_) (fun cc => ?_)
      · replace h := it h cc
        refine lv_iload_n hx hb dX7_bedsWith_37 rfl (lv_at hl 3 rfl) ?_
        cases h
        exact r_iret X hS hr hlk dX7_bedsWith_38
      · replace h := ie h cc
        refine lv_iload_n hx hb dX7_bedsWith_12 rfl (lv_at hl 3 rfl) ?_
        refine lv_aload_n hx hb dX7_bedsWith_13 rfl (lv_at hl 0 rfl) ?_
        refine lv_iload hx hb dX7_bedsWith_14 (lv_at hl 4 rfl) ?_
        refine lv_iload_n hx hb dX7_bedsWith_16 rfl (lv_at hl 1 rfl) ?_
        obtain ⟨v1, ev1, h⟩ := ob h
        refine r_ci hS (r_runV (As := [.int x4, .int x1]) (rest := [.int x3]) X hS (c_X7_of l hE (w := w) (ad := ad) (μ := μ) (D := D) (cI := cI) (cG := cG) (cL := cL) hw ev1) (cwV 2 X.1.2.2.2.2 gX7_bedsWith_X7_of rfl rfl rfl (by decide +kernel) ⟨Nat.le_of_ble_eq_true rfl, Nat.le_of_ble_eq_true rfl⟩) (q0 := q) (ci := 5) rfl (hw.1 μ).1 rfl hl.1 rfl (Nat.le_of_ble_eq_true rfl) dX7_bedsWith_17 ⟨Nat.zero_le _, Nat.zero_le _⟩) (fun H locs hS => ?_)
        refine lv_iload_n hx hb dX7_bedsWith_20 rfl (lv_at hl 2 rfl) ?_
        refine lv_icmp_ne (tgt := 28) hx hb dX7_bedsWith_21 (by decide) (fun cc => ?_) (fun cc => ?_)
        · replace h := ie h cc
          refine lv_iconst (v := 0) hx hb dX7_bedsWith_28 (by decide) ?_
          exact hb29 (f_X7_bedsWith_b5 q fuel5) ih5 x1 x2 x4 0 x3 _ _ _ hS (lv_sub hl [0, 1, 2, 4] rfl) h
        · replace h := it h cc
          refine lv_iconst (v := 1) hx hb dX7_bedsWith_24 (by decide) ?_
          refine lv_goto (tgt := 29) hx hb dX7_bedsWith_25 (by decide) ?_
          exact hb29 (f_X7_bedsWith_b5 q fuel5) ih5 x1 x2 x4 1 x3 _ _ _ hS (lv_sub hl [0, 1, 2, 4] rfl) h
  unfold f_X7_bedsWith at h
  refine lv_iconst (v := 0) hx hb dX7_bedsWith_0 (by decide) ?_
  refine lv_istore_n (lv' := [(3, .int 0), (0, .ref (ad q)), (1, .int a1), (2, .int a2)]) hx hb dX7_bedsWith_1 rfl hl (by decide) rfl (fun ls hl => ?_)
  refine lv_iconst (v := 0) hx hb dX7_bedsWith_2 (by decide) ?_
  refine lv_istore (lv' := [(4, .int 0), (3, .int 0), (0, .ref (ad q)), (1, .int a1), (2, .int a2)]) hx hb dX7_bedsWith_3 hl (by decide) rfl (fun ls hl => ?_)
  exact hb5 FU a1 a2 0 0 _ _ _ hS (lv_sub hl [2, 3, 4, 1, 0] rfl) h
def f_X7_openReaders_b4 (q : Nat)  : Nat → Int32 → Int32 → Mem → Option Int32
  | 0, _, _, _ => none
  | fuel4 + 1, x1, x2, μ => (if 4 ≤ x2 then (some x1) else (f_X7_ofReader q x2 0 μ).bind (fun v1 => f_X7_openReaders_b4 q fuel4 (x1 + v1) (x2 + 1) μ))
def f_X7_openReaders (q : Nat) (μ : Mem) : Option Int32 := f_X7_openReaders_b4 q FU 0 0 μ
set_option maxHeartbeats 4000000 in
set_option maxRecDepth 100000 in
theorem c_X7_openReaders (l : Launch) {D : va_G} {cI cG cL : ClassId} {A : Nat → Prop} {EN : State → Heap → Prop} (hE : EnOK EN A) {w : Mem → va_W} {ad : Nat → Nat} {hh : Int64} {q : Nat} {μ : Mem} {r : Int32} (hw : ModelAt cI w ad hh q) (h : f_X7_openReaders q μ = some r) : Met l yX7_openReaders wsX7_openReaders (rmk 1 22) (WPre D (tyl cI cG cL) A EN (w μ) [.ref (ad q)]) (PI D A (w μ) r) 0 0 A := by
  refine met_start (cc := cX7_openReaders) (nL := 3) (ret := (some .int)) (own := RX7) hE (by decide) rfl rfl (Nat.le_of_ble_eq_true rfl) (fun p e s m args below meth c ls X hS hl hr hlk => ?_)
  have hx := X.1.1
  have hb := X.1.2.1
  replace hl : lv_has ls 3 [(0, .ref (ad q))] := hl
  have hb4 : ∀ (fu : Nat) (x1 : Int32) (x2 : Int32) (H : Heap) (locs : List Loc) (ls : Array Slot), HS D A (w μ) s.heap H locs → lv_has ls 3 [(0, .ref (ad q)), (1, .int x1), (2, .int x2)] → f_X7_openReaders_b4 q fu x1 x2 μ = some r → W p l e (headSpec wsX7_openReaders (rmk 1 22)).room s m args below meth c H locs 0 0 (MQ below (PI D A (w μ) r) args s 0 0 A) (F0 m 4 ls []) := by
    intro fu
    induction fu with
    | zero =>
      intro x1 x2 H locs ls hS hl h
      rw [f_X7_openReaders_b4] at h
      cases h
    | succ fuel4 ih4 =>
      intro x1 x2 H locs ls hS hl h
      rw [f_X7_openReaders_b4] at h
      refine lv_iload_n hx hb dX7_openReaders_4 rfl (lv_at hl 2 rfl) ?_
      refine lv_iconst (v := 4) hx hb dX7_openReaders_5 (by decide) ?_
      refine lv_icmp_ge (tgt := 24) hx hb dX7_openReaders_6 (by decide) (fun cc => ?_) (fun cc => ?_)
      · replace h := it h cc
        refine lv_iload_n hx hb dX7_openReaders_24 rfl (lv_at hl 1 rfl) ?_
        cases h
        exact r_iret X hS hr hlk dX7_openReaders_25
      · replace h := ie h cc
        refine lv_iload_n hx hb dX7_openReaders_9 rfl (lv_at hl 1 rfl) ?_
        refine lv_aload_n hx hb dX7_openReaders_10 rfl (lv_at hl 0 rfl) ?_
        refine lv_iload_n hx hb dX7_openReaders_11 rfl (lv_at hl 2 rfl) ?_
        refine lv_iconst (v := 0) hx hb dX7_openReaders_12 (by decide) ?_
        obtain ⟨v1, ev1, h⟩ := ob h
        refine r_ci hS (r_runV (As := [.int x2, .int 0]) (rest := [.int x1]) X hS (c_X7_ofReader l hE (w := w) (ad := ad) (μ := μ) (D := D) (cI := cI) (cG := cG) (cL := cL) hw ev1) (cwV 2 X.1.2.2.2.2 gX7_openReaders_X7_ofReader rfl rfl rfl (by decide +kernel) ⟨Nat.le_of_ble_eq_true rfl, Nat.le_of_ble_eq_true rfl⟩) (q0 := q) (ci := 5) rfl (hw.1 μ).1 rfl hl.1 rfl (Nat.le_of_ble_eq_true rfl) dX7_openReaders_13 ⟨Nat.zero_le _, Nat.zero_le _⟩) (fun H locs hS => ?_)
        refine lv_iadd hx hb dX7_openReaders_16 ?_
        refine lv_istore_n (lv' := [(1, .int (x1 + v1)), (0, .ref (ad q)), (2, .int x2)]) hx hb dX7_openReaders_17 rfl hl (by decide) rfl (fun ls hl => ?_)
        refine lv_iinc (v := x2 + 1) (lv' := [(2, .int (x2 + 1)), (1, .int (x1 + v1)), (0, .ref (ad q))]) hx hb dX7_openReaders_18 hl (k := 2) rfl rfl (by decide) rfl (fun ls hl => ?_)
        refine lv_goto (tgt := 4) hx hb dX7_openReaders_21 (by decide) ?_
        exact ih4 (x1 + v1) (x2 + 1) _ _ _ hS (lv_sub hl [2, 1, 0] rfl) h
  unfold f_X7_openReaders at h
  refine lv_iconst (v := 0) hx hb dX7_openReaders_0 (by decide) ?_
  refine lv_istore_n (lv' := [(1, .int 0), (0, .ref (ad q))]) hx hb dX7_openReaders_1 rfl hl (by decide) rfl (fun ls hl => ?_)
  refine lv_iconst (v := 0) hx hb dX7_openReaders_2 (by decide) ?_
  refine lv_istore_n (lv' := [(2, .int 0), (1, .int 0), (0, .ref (ad q))]) hx hb dX7_openReaders_3 rfl hl (by decide) rfl (fun ls hl => ?_)
  exact hb4 FU 0 0 _ _ _ hS (lv_sub hl [2, 1, 0] rfl) h
def f_X7_sumOfValues_b4 (q : Nat)  : Nat → Int32 → Int32 → Mem → Option Int32
  | 0, _, _, _ => none
  | fuel4 + 1, x1, x2, μ => (f_X7_now q μ).bind (fun v1 => (f_X7_entriesBy q v1 μ).bind (fun v2 => (if v2 ≤ x2 then (some x1) else (f_X7_tellEntry q x2 1 μ).bind (fun v3 => f_X7_sumOfValues_b4 q fuel4 (x1 + v3) (x2 + 1) μ))))
def f_X7_sumOfValues (q : Nat) (μ : Mem) : Option Int32 := f_X7_sumOfValues_b4 q FU 0 0 μ
set_option maxHeartbeats 4000000 in
set_option maxRecDepth 100000 in
theorem c_X7_sumOfValues (l : Launch) {D : va_G} {cI cG cL : ClassId} {A : Nat → Prop} {EN : State → Heap → Prop} (hE : EnOK EN A) {w : Mem → va_W} {ad : Nat → Nat} {hh : Int64} {q : Nat} {μ : Mem} {r : Int32} (hw : ModelAt cI w ad hh q) (h : f_X7_sumOfValues q μ = some r) : Met l yX7_sumOfValues wsX7_sumOfValues (rmk 3 69) (WPre D (tyl cI cG cL) A EN (w μ) [.ref (ad q)]) (PI D A (w μ) r) 0 0 A := by
  refine met_start (cc := cX7_sumOfValues) (nL := 3) (ret := (some .int)) (own := RX7) hE (by decide) rfl rfl (Nat.le_of_ble_eq_true rfl) (fun p e s m args below meth c ls X hS hl hr hlk => ?_)
  have hx := X.1.1
  have hb := X.1.2.1
  replace hl : lv_has ls 3 [(0, .ref (ad q))] := hl
  have hb4 : ∀ (fu : Nat) (x1 : Int32) (x2 : Int32) (H : Heap) (locs : List Loc) (ls : Array Slot), HS D A (w μ) s.heap H locs → lv_has ls 3 [(0, .ref (ad q)), (1, .int x1), (2, .int x2)] → f_X7_sumOfValues_b4 q fu x1 x2 μ = some r → W p l e (headSpec wsX7_sumOfValues (rmk 3 69)).room s m args below meth c H locs 0 0 (MQ below (PI D A (w μ) r) args s 0 0 A) (F0 m 4 ls []) := by
    intro fu
    induction fu with
    | zero =>
      intro x1 x2 H locs ls hS hl h
      rw [f_X7_sumOfValues_b4] at h
      cases h
    | succ fuel4 ih4 =>
      intro x1 x2 H locs ls hS hl h
      rw [f_X7_sumOfValues_b4] at h
      refine lv_iload_n hx hb dX7_sumOfValues_4 rfl (lv_at hl 2 rfl) ?_
      refine lv_aload_n hx hb dX7_sumOfValues_5 rfl (lv_at hl 0 rfl) ?_
      refine lv_aload_n hx hb dX7_sumOfValues_6 rfl (lv_at hl 0 rfl) ?_
      obtain ⟨v1, ev1, h⟩ := ob h
      refine r_ci hS (r_runV (As := []) (rest := [.ref (ad q), .int x2]) X hS (c_X7_now l hE (w := w) (ad := ad) (μ := μ) (D := D) (cI := cI) (cG := cG) (cL := cL) hw ev1) (cwV 0 X.1.2.2.2.2 gX7_sumOfValues_X7_now rfl rfl rfl (by decide +kernel) ⟨Nat.le_of_ble_eq_true rfl, Nat.le_of_ble_eq_true rfl⟩) (q0 := q) (ci := 5) rfl (hw.1 μ).1 rfl hl.1 rfl (Nat.le_of_ble_eq_true rfl) dX7_sumOfValues_7 ⟨Nat.zero_le _, Nat.zero_le _⟩) (fun H locs hS => ?_)
      obtain ⟨v2, ev2, h⟩ := ob h
      refine r_ci hS (r_runV (As := [.int v1]) (rest := [.int x2]) X hS (c_X7_entriesBy l hE (w := w) (ad := ad) (μ := μ) (D := D) (cI := cI) (cG := cG) (cL := cL) hw ev2) (cwV 1 X.1.2.2.2.2 gX7_sumOfValues_X7_entriesBy rfl rfl rfl (by decide +kernel) ⟨Nat.le_of_ble_eq_true rfl, Nat.le_of_ble_eq_true rfl⟩) (q0 := q) (ci := 5) rfl (hw.1 μ).1 rfl hl.1 rfl (Nat.le_of_ble_eq_true rfl) dX7_sumOfValues_10 ⟨Nat.zero_le _, Nat.zero_le _⟩) (fun H locs hS => ?_)
      refine lv_icmp_ge (tgt := 31) hx hb dX7_sumOfValues_13 (by decide) (fun cc => ?_) (fun cc => ?_)
      · replace h := it h cc
        refine lv_iload_n hx hb dX7_sumOfValues_31 rfl (lv_at hl 1 rfl) ?_
        cases h
        exact r_iret X hS hr hlk dX7_sumOfValues_32
      · replace h := ie h cc
        refine lv_iload_n hx hb dX7_sumOfValues_16 rfl (lv_at hl 1 rfl) ?_
        refine lv_aload_n hx hb dX7_sumOfValues_17 rfl (lv_at hl 0 rfl) ?_
        refine lv_iload_n hx hb dX7_sumOfValues_18 rfl (lv_at hl 2 rfl) ?_
        refine lv_iconst (v := 1) hx hb dX7_sumOfValues_19 (by decide) ?_
        obtain ⟨v3, ev3, h⟩ := ob h
        refine r_ci hS (r_runV (As := [.int x2, .int 1]) (rest := [.int x1]) X hS (c_X7_tellEntry l hE (w := w) (ad := ad) (μ := μ) (D := D) (cI := cI) (cG := cG) (cL := cL) hw ev3) (cwV 2 X.1.2.2.2.2 gX7_sumOfValues_X7_tellEntry rfl rfl rfl (by decide +kernel) ⟨Nat.le_of_ble_eq_true rfl, Nat.le_of_ble_eq_true rfl⟩) (q0 := q) (ci := 5) rfl (hw.1 μ).1 rfl hl.1 rfl (Nat.le_of_ble_eq_true rfl) dX7_sumOfValues_20 ⟨Nat.zero_le _, Nat.zero_le _⟩) (fun H locs hS => ?_)
        refine lv_iadd hx hb dX7_sumOfValues_23 ?_
        refine lv_istore_n (lv' := [(1, .int (x1 + v3)), (0, .ref (ad q)), (2, .int x2)]) hx hb dX7_sumOfValues_24 rfl hl (by decide) rfl (fun ls hl => ?_)
        refine lv_iinc (v := x2 + 1) (lv' := [(2, .int (x2 + 1)), (1, .int (x1 + v3)), (0, .ref (ad q))]) hx hb dX7_sumOfValues_25 hl (k := 2) rfl rfl (by decide) rfl (fun ls hl => ?_)
        refine lv_goto (tgt := 4) hx hb dX7_sumOfValues_28 (by decide) ?_
        exact ih4 (x1 + v3) (x2 + 1) _ _ _ hS (lv_sub hl [2, 1, 0] rfl) h
  unfold f_X7_sumOfValues at h
  refine lv_iconst (v := 0) hx hb dX7_sumOfValues_0 (by decide) ?_
  refine lv_istore_n (lv' := [(1, .int 0), (0, .ref (ad q))]) hx hb dX7_sumOfValues_1 rfl hl (by decide) rfl (fun ls hl => ?_)
  refine lv_iconst (v := 0) hx hb dX7_sumOfValues_2 (by decide) ?_
  refine lv_istore_n (lv' := [(2, .int 0), (1, .int 0), (0, .ref (ad q))]) hx hb dX7_sumOfValues_3 rfl hl (by decide) rfl (fun ls hl => ?_)
  exact hb4 FU 0 0 _ _ _ hS (lv_sub hl [2, 1, 0] rfl) h
def f_X7_tell (q : Nat) (a1 : Int32) (μ : Mem) : Option Int32 := (if a1 = 0 then (f_X7_bedsWith q 0 a1 μ).bind (fun v1 => (some v1)) else (if a1 = 1 then (f_X7_bedsWith q 0 a1 μ).bind (fun v2 => (some v2)) else (if a1 = 2 then (f_X7_bedsWith q 0 a1 μ).bind (fun v3 => (some v3)) else (if a1 = 3 then (f_X7_freedToDig q μ).bind (fun v4 => (some v4)) else (if a1 = 4 then (f_X7_needed q (-1) μ).bind (fun v5 => (some v5)) else (if a1 = 5 then (f_X7_now q μ).bind (fun v6 => (f_X7_entriesBy q v6 μ).bind (fun v7 => (some v7))) else (if a1 = 6 then (f_X7_now q μ).bind (fun v8 => (f_X7_of q v8 2 μ).bind (fun v9 => (some v9))) else (if a1 = 7 then (f_X7_openReaders q μ).bind (fun v10 => (some v10)) else (if a1 = 8 then (rd 470 (μ (q + 1)) 466).bind (fun v11 => (some v11)) else (if a1 = 9 then (f_X7_bedsWith q 4 1 μ).bind (fun v12 => (some v12)) else (if a1 = 10 then (f_X7_bedsWith q 5 1 μ).bind (fun v13 => (some v13)) else (if a1 = 11 then (rd 470 (μ (q + 1)) 468).bind (fun v14 => (some v14)) else (if a1 = 12 then (rd 470 (μ (q + 1)) 469).bind (fun v15 => (some v15)) else (if a1 = 13 then (f_X7_sumOfValues q μ).bind (fun v16 => (some v16)) else ((some (μ q 5)))))))))))))))))
set_option maxHeartbeats 4000000 in
set_option maxRecDepth 100000 in
theorem c_X7_tell (l : Launch) {D : va_G} {cI cG cL : ClassId} {A : Nat → Prop} {EN : State → Heap → Prop} (hE : EnOK EN A) {w : Mem → va_W} {ad : Nat → Nat} {hh : Int64} {q : Nat} {a1 : Int32} {μ : Mem} {r : Int32} (hw : ModelAt cI w ad hh q) (h : f_X7_tell q a1 μ = some r) : Met l yX7_tell wsX7_tell (rmk 4 91) (WPre D (tyl cI cG cL) A EN (w μ) [.ref (ad q), .int a1]) (PI D A (w μ) r) 0 0 A := by
  have hiX7 : ∀ w ∈ u_ws RX7 TX7 13, w ∈ wsX7_tell := by decide +kernel
  have mf7 : Cond.fieldLink RX7 7 (TX7 0).1 (TX7 0).2.1 (TX7 0).2.2.1 ∈ wsX7_tell := by decide +kernel
  have mf211 : Cond.fieldLink RX7 211 (TX7 5).1 (TX7 5).2.1 (TX7 5).2.2.1 ∈ wsX7_tell := by decide +kernel
  refine met_start (cc := cX7_tell) (nL := 2) (ret := (some .int)) (own := RX7) hE (by decide) rfl rfl (Nat.le_of_ble_eq_true rfl) (fun p e s m args below meth c ls X hS hl hr hlk => ?_)
  have hx := X.1.1
  have hb := X.1.2.1
  replace hl : lv_has ls 2 [(0, .ref (ad q)), (1, .int a1)] := hl
  unfold f_X7_tell at h
  refine lv_iload_n hx hb dX7_tell_0 rfl (lv_at hl 1 rfl) ?_
  by_cases cc0 : a1 = 0
  · replace h := it h cc0
    rw [cc0]
    refine lv_tableIn (off := 71) (tgt := 72) hx hb dX7_tell_1 (by decide) (by decide) rfl (by decide) ?_
    refine lv_aload_n hx hb dX7_tell_72 rfl (lv_at hl 0 rfl) ?_
    refine lv_iconst (v := 0) hx hb dX7_tell_73 (by decide) ?_
    refine lv_iload_n hx hb dX7_tell_74 rfl (lv_at hl 1 rfl) ?_
    obtain ⟨v1, ev1, h⟩ := ob h
    refine r_ci hS (r_runV (As := [.int 0, .int a1]) (rest := []) X hS (c_X7_bedsWith l hE (w := w) (ad := ad) (μ := μ) (D := D) (cI := cI) (cG := cG) (cL := cL) hw ev1) (cwV 2 X.1.2.2.2.2 gX7_tell_X7_bedsWith rfl rfl rfl (by decide +kernel) ⟨Nat.le_of_ble_eq_true rfl, Nat.le_of_ble_eq_true rfl⟩) (q0 := q) (ci := 5) rfl (hw.1 μ).1 rfl hl.1 rfl (Nat.le_of_ble_eq_true rfl) dX7_tell_75 ⟨Nat.zero_le _, Nat.zero_le _⟩) (fun H locs hS => ?_)
    cases h
    exact r_iret X hS hr hlk dX7_tell_78
  · replace h := ie h cc0
    by_cases cc1 : a1 = 1
    · replace h := it h cc1
      rw [cc1]
      refine lv_tableIn (off := 71) (tgt := 72) hx hb dX7_tell_1 (by decide) (by decide) rfl (by decide) ?_
      refine lv_aload_n hx hb dX7_tell_72 rfl (lv_at hl 0 rfl) ?_
      refine lv_iconst (v := 0) hx hb dX7_tell_73 (by decide) ?_
      refine lv_iload_n hx hb dX7_tell_74 rfl (lv_at hl 1 rfl) ?_
      obtain ⟨v2, ev2, h⟩ := ob h
      refine r_ci hS (r_runV (As := [.int 0, .int a1]) (rest := []) X hS (c_X7_bedsWith l hE (w := w) (ad := ad) (μ := μ) (D := D) (cI := cI) (cG := cG) (cL := cL) hw ev2) (cwV 2 X.1.2.2.2.2 gX7_tell_X7_bedsWith rfl rfl rfl (by decide +kernel) ⟨Nat.le_of_ble_eq_true rfl, Nat.le_of_ble_eq_true rfl⟩) (q0 := q) (ci := 5) rfl (hw.1 μ).1 rfl hl.1 rfl (Nat.le_of_ble_eq_true rfl) dX7_tell_75 ⟨Nat.zero_le _, Nat.zero_le _⟩) (fun H locs hS => ?_)
      cases h
      exact r_iret X hS hr hlk dX7_tell_78
    · replace h := ie h cc1
      by_cases cc2 : a1 = 2
      · replace h := it h cc2
        rw [cc2]
        refine lv_tableIn (off := 71) (tgt := 72) hx hb dX7_tell_1 (by decide) (by decide) rfl (by decide) ?_
        refine lv_aload_n hx hb dX7_tell_72 rfl (lv_at hl 0 rfl) ?_
        refine lv_iconst (v := 0) hx hb dX7_tell_73 (by decide) ?_
        refine lv_iload_n hx hb dX7_tell_74 rfl (lv_at hl 1 rfl) ?_
        obtain ⟨v3, ev3, h⟩ := ob h
        refine r_ci hS (r_runV (As := [.int 0, .int a1]) (rest := []) X hS (c_X7_bedsWith l hE (w := w) (ad := ad) (μ := μ) (D := D) (cI := cI) (cG := cG) (cL := cL) hw ev3) (cwV 2 X.1.2.2.2.2 gX7_tell_X7_bedsWith rfl rfl rfl (by decide +kernel) ⟨Nat.le_of_ble_eq_true rfl, Nat.le_of_ble_eq_true rfl⟩) (q0 := q) (ci := 5) rfl (hw.1 μ).1 rfl hl.1 rfl (Nat.le_of_ble_eq_true rfl) dX7_tell_75 ⟨Nat.zero_le _, Nat.zero_le _⟩) (fun H locs hS => ?_)
        cases h
        exact r_iret X hS hr hlk dX7_tell_78
      · replace h := ie h cc2
        by_cases cc3 : a1 = 3
        · replace h := it h cc3
          rw [cc3]
          refine lv_tableIn (off := 78) (tgt := 79) hx hb dX7_tell_1 (by decide) (by decide) rfl (by decide) ?_
          refine lv_aload_n hx hb dX7_tell_79 rfl (lv_at hl 0 rfl) ?_
          obtain ⟨v4, ev4, h⟩ := ob h
          refine r_ci hS (r_runV (As := []) (rest := []) X hS (c_X7_freedToDig l hE (w := w) (ad := ad) (μ := μ) (D := D) (cI := cI) (cG := cG) (cL := cL) hw ev4) (cwV 0 X.1.2.2.2.2 gX7_tell_X7_freedToDig rfl rfl rfl (by decide +kernel) ⟨Nat.le_of_ble_eq_true rfl, Nat.le_of_ble_eq_true rfl⟩) (q0 := q) (ci := 5) rfl (hw.1 μ).1 rfl hl.1 rfl (Nat.le_of_ble_eq_true rfl) dX7_tell_80 ⟨Nat.zero_le _, Nat.zero_le _⟩) (fun H locs hS => ?_)
          cases h
          exact r_iret X hS hr hlk dX7_tell_83
        · replace h := ie h cc3
          by_cases cc4 : a1 = 4
          · replace h := it h cc4
            rw [cc4]
            refine lv_tableIn (off := 83) (tgt := 84) hx hb dX7_tell_1 (by decide) (by decide) rfl (by decide) ?_
            refine lv_aload_n hx hb dX7_tell_84 rfl (lv_at hl 0 rfl) ?_
            refine lv_iconst (v := (-1)) hx hb dX7_tell_85 (by decide) ?_
            obtain ⟨v5, ev5, h⟩ := ob h
            refine r_ci hS (r_runV (As := [.int (-1)]) (rest := []) X hS (c_X7_needed l hE (w := w) (ad := ad) (μ := μ) (D := D) (cI := cI) (cG := cG) (cL := cL) hw ev5) (cwV 1 X.1.2.2.2.2 gX7_tell_X7_needed rfl rfl rfl (by decide +kernel) ⟨Nat.le_of_ble_eq_true rfl, Nat.le_of_ble_eq_true rfl⟩) (q0 := q) (ci := 5) rfl (hw.1 μ).1 rfl hl.1 rfl (Nat.le_of_ble_eq_true rfl) dX7_tell_86 ⟨Nat.zero_le _, Nat.zero_le _⟩) (fun H locs hS => ?_)
            cases h
            exact r_iret X hS hr hlk dX7_tell_89
          · replace h := ie h cc4
            by_cases cc5 : a1 = 5
            · replace h := it h cc5
              rw [cc5]
              refine lv_tableIn (off := 89) (tgt := 90) hx hb dX7_tell_1 (by decide) (by decide) rfl (by decide) ?_
              refine lv_aload_n hx hb dX7_tell_90 rfl (lv_at hl 0 rfl) ?_
              refine lv_aload_n hx hb dX7_tell_91 rfl (lv_at hl 0 rfl) ?_
              obtain ⟨v6, ev6, h⟩ := ob h
              refine r_ci hS (r_runV (As := []) (rest := [.ref (ad q)]) X hS (c_X7_now l hE (w := w) (ad := ad) (μ := μ) (D := D) (cI := cI) (cG := cG) (cL := cL) hw ev6) (cwV 0 X.1.2.2.2.2 gX7_tell_X7_now rfl rfl rfl (by decide +kernel) ⟨Nat.le_of_ble_eq_true rfl, Nat.le_of_ble_eq_true rfl⟩) (q0 := q) (ci := 5) rfl (hw.1 μ).1 rfl hl.1 rfl (Nat.le_of_ble_eq_true rfl) dX7_tell_92 ⟨Nat.zero_le _, Nat.zero_le _⟩) (fun H locs hS => ?_)
              obtain ⟨v7, ev7, h⟩ := ob h
              refine r_ci hS (r_runV (As := [.int v6]) (rest := []) X hS (c_X7_entriesBy l hE (w := w) (ad := ad) (μ := μ) (D := D) (cI := cI) (cG := cG) (cL := cL) hw ev7) (cwV 1 X.1.2.2.2.2 gX7_tell_X7_entriesBy rfl rfl rfl (by decide +kernel) ⟨Nat.le_of_ble_eq_true rfl, Nat.le_of_ble_eq_true rfl⟩) (q0 := q) (ci := 5) rfl (hw.1 μ).1 rfl hl.1 rfl (Nat.le_of_ble_eq_true rfl) dX7_tell_95 ⟨Nat.zero_le _, Nat.zero_le _⟩) (fun H locs hS => ?_)
              cases h
              exact r_iret X hS hr hlk dX7_tell_98
            · replace h := ie h cc5
              by_cases cc6 : a1 = 6
              · replace h := it h cc6
                rw [cc6]
                refine lv_tableIn (off := 98) (tgt := 99) hx hb dX7_tell_1 (by decide) (by decide) rfl (by decide) ?_
                refine lv_aload_n hx hb dX7_tell_99 rfl (lv_at hl 0 rfl) ?_
                refine lv_aload_n hx hb dX7_tell_100 rfl (lv_at hl 0 rfl) ?_
                obtain ⟨v8, ev8, h⟩ := ob h
                refine r_ci hS (r_runV (As := []) (rest := [.ref (ad q)]) X hS (c_X7_now l hE (w := w) (ad := ad) (μ := μ) (D := D) (cI := cI) (cG := cG) (cL := cL) hw ev8) (cwV 0 X.1.2.2.2.2 gX7_tell_X7_now rfl rfl rfl (by decide +kernel) ⟨Nat.le_of_ble_eq_true rfl, Nat.le_of_ble_eq_true rfl⟩) (q0 := q) (ci := 5) rfl (hw.1 μ).1 rfl hl.1 rfl (Nat.le_of_ble_eq_true rfl) dX7_tell_101 ⟨Nat.zero_le _, Nat.zero_le _⟩) (fun H locs hS => ?_)
                refine lv_iconst (v := 2) hx hb dX7_tell_104 (by decide) ?_
                obtain ⟨v9, ev9, h⟩ := ob h
                refine r_ci hS (r_runV (As := [.int v8, .int 2]) (rest := []) X hS (c_X7_of l hE (w := w) (ad := ad) (μ := μ) (D := D) (cI := cI) (cG := cG) (cL := cL) hw ev9) (cwV 2 X.1.2.2.2.2 gX7_tell_X7_of rfl rfl rfl (by decide +kernel) ⟨Nat.le_of_ble_eq_true rfl, Nat.le_of_ble_eq_true rfl⟩) (q0 := q) (ci := 5) rfl (hw.1 μ).1 rfl hl.1 rfl (Nat.le_of_ble_eq_true rfl) dX7_tell_105 ⟨Nat.zero_le _, Nat.zero_le _⟩) (fun H locs hS => ?_)
                cases h
                exact r_iret X hS hr hlk dX7_tell_108
              · replace h := ie h cc6
                by_cases cc7 : a1 = 7
                · replace h := it h cc7
                  rw [cc7]
                  refine lv_tableIn (off := 108) (tgt := 109) hx hb dX7_tell_1 (by decide) (by decide) rfl (by decide) ?_
                  refine lv_aload_n hx hb dX7_tell_109 rfl (lv_at hl 0 rfl) ?_
                  obtain ⟨v10, ev10, h⟩ := ob h
                  refine r_ci hS (r_runV (As := []) (rest := []) X hS (c_X7_openReaders l hE (w := w) (ad := ad) (μ := μ) (D := D) (cI := cI) (cG := cG) (cL := cL) hw ev10) (cwV 0 X.1.2.2.2.2 gX7_tell_X7_openReaders rfl rfl rfl (by decide +kernel) ⟨Nat.le_of_ble_eq_true rfl, Nat.le_of_ble_eq_true rfl⟩) (q0 := q) (ci := 5) rfl (hw.1 μ).1 rfl hl.1 rfl (Nat.le_of_ble_eq_true rfl) dX7_tell_110 ⟨Nat.zero_le _, Nat.zero_le _⟩) (fun H locs hS => ?_)
                  cases h
                  exact r_iret X hS hr hlk dX7_tell_113
                · replace h := ie h cc7
                  by_cases cc8 : a1 = 8
                  · replace h := it h cc8
                    rw [cc8]
                    refine lv_tableIn (off := 113) (tgt := 114) hx hb dX7_tell_1 (by decide) (by decide) rfl (by decide) ?_
                    refine lv_aload_n hx hb dX7_tell_114 rfl (lv_at hl 0 rfl) ?_
                    refine r_get X hS (T := TX7) (k := 0) (hw.1 μ).1 rfl hiX7 (by decide) mf7 rfl dX7_tell_115 ?_
                    refine lv_sipush (v := 466) hx hb dX7_tell_118 (by decide) ?_
                    obtain ⟨v11, ev11, h⟩ := ob h
                    refine r_iald X hS (hw.2.1 μ).1 ev11 dX7_tell_121 ?_
                    cases h
                    exact r_iret X hS hr hlk dX7_tell_122
                  · replace h := ie h cc8
                    by_cases cc9 : a1 = 9
                    · replace h := it h cc9
                      rw [cc9]
                      refine lv_tableIn (off := 122) (tgt := 123) hx hb dX7_tell_1 (by decide) (by decide) rfl (by decide) ?_
                      refine lv_aload_n hx hb dX7_tell_123 rfl (lv_at hl 0 rfl) ?_
                      refine lv_iconst (v := 4) hx hb dX7_tell_124 (by decide) ?_
                      refine lv_iconst (v := 1) hx hb dX7_tell_125 (by decide) ?_
                      obtain ⟨v12, ev12, h⟩ := ob h
                      refine r_ci hS (r_runV (As := [.int 4, .int 1]) (rest := []) X hS (c_X7_bedsWith l hE (w := w) (ad := ad) (μ := μ) (D := D) (cI := cI) (cG := cG) (cL := cL) hw ev12) (cwV 2 X.1.2.2.2.2 gX7_tell_X7_bedsWith rfl rfl rfl (by decide +kernel) ⟨Nat.le_of_ble_eq_true rfl, Nat.le_of_ble_eq_true rfl⟩) (q0 := q) (ci := 5) rfl (hw.1 μ).1 rfl hl.1 rfl (Nat.le_of_ble_eq_true rfl) dX7_tell_126 ⟨Nat.zero_le _, Nat.zero_le _⟩) (fun H locs hS => ?_)
                      cases h
                      exact r_iret X hS hr hlk dX7_tell_129
                    · replace h := ie h cc9
                      by_cases cc10 : a1 = 10
                      · replace h := it h cc10
                        rw [cc10]
                        refine lv_tableIn (off := 129) (tgt := 130) hx hb dX7_tell_1 (by decide) (by decide) rfl (by decide) ?_
                        refine lv_aload_n hx hb dX7_tell_130 rfl (lv_at hl 0 rfl) ?_
                        refine lv_iconst (v := 5) hx hb dX7_tell_131 (by decide) ?_
                        refine lv_iconst (v := 1) hx hb dX7_tell_132 (by decide) ?_
                        obtain ⟨v13, ev13, h⟩ := ob h
                        refine r_ci hS (r_runV (As := [.int 5, .int 1]) (rest := []) X hS (c_X7_bedsWith l hE (w := w) (ad := ad) (μ := μ) (D := D) (cI := cI) (cG := cG) (cL := cL) hw ev13) (cwV 2 X.1.2.2.2.2 gX7_tell_X7_bedsWith rfl rfl rfl (by decide +kernel) ⟨Nat.le_of_ble_eq_true rfl, Nat.le_of_ble_eq_true rfl⟩) (q0 := q) (ci := 5) rfl (hw.1 μ).1 rfl hl.1 rfl (Nat.le_of_ble_eq_true rfl) dX7_tell_133 ⟨Nat.zero_le _, Nat.zero_le _⟩) (fun H locs hS => ?_)
                        cases h
                        exact r_iret X hS hr hlk dX7_tell_136
                      · replace h := ie h cc10
                        by_cases cc11 : a1 = 11
                        · replace h := it h cc11
                          rw [cc11]
                          refine lv_tableIn (off := 136) (tgt := 137) hx hb dX7_tell_1 (by decide) (by decide) rfl (by decide) ?_
                          refine lv_aload_n hx hb dX7_tell_137 rfl (lv_at hl 0 rfl) ?_
                          refine r_get X hS (T := TX7) (k := 0) (hw.1 μ).1 rfl hiX7 (by decide) mf7 rfl dX7_tell_138 ?_
                          refine lv_sipush (v := 468) hx hb dX7_tell_141 (by decide) ?_
                          obtain ⟨v14, ev14, h⟩ := ob h
                          refine r_iald X hS (hw.2.1 μ).1 ev14 dX7_tell_144 ?_
                          cases h
                          exact r_iret X hS hr hlk dX7_tell_145
                        · replace h := ie h cc11
                          by_cases cc12 : a1 = 12
                          · replace h := it h cc12
                            rw [cc12]
                            refine lv_tableIn (off := 145) (tgt := 146) hx hb dX7_tell_1 (by decide) (by decide) rfl (by decide) ?_
                            refine lv_aload_n hx hb dX7_tell_146 rfl (lv_at hl 0 rfl) ?_
                            refine r_get X hS (T := TX7) (k := 0) (hw.1 μ).1 rfl hiX7 (by decide) mf7 rfl dX7_tell_147 ?_
                            refine lv_sipush (v := 469) hx hb dX7_tell_150 (by decide) ?_
                            obtain ⟨v15, ev15, h⟩ := ob h
                            refine r_iald X hS (hw.2.1 μ).1 ev15 dX7_tell_153 ?_
                            cases h
                            exact r_iret X hS hr hlk dX7_tell_154
                          · replace h := ie h cc12
                            by_cases cc13 : a1 = 13
                            · replace h := it h cc13
                              rw [cc13]
                              refine lv_tableIn (off := 154) (tgt := 155) hx hb dX7_tell_1 (by decide) (by decide) rfl (by decide) ?_
                              refine lv_aload_n hx hb dX7_tell_155 rfl (lv_at hl 0 rfl) ?_
                              obtain ⟨v16, ev16, h⟩ := ob h
                              refine r_ci hS (r_runV (As := []) (rest := []) X hS (c_X7_sumOfValues l hE (w := w) (ad := ad) (μ := μ) (D := D) (cI := cI) (cG := cG) (cL := cL) hw ev16) (cwV 0 X.1.2.2.2.2 gX7_tell_X7_sumOfValues rfl rfl rfl (by decide +kernel) ⟨Nat.le_of_ble_eq_true rfl, Nat.le_of_ble_eq_true rfl⟩) (q0 := q) (ci := 5) rfl (hw.1 μ).1 rfl hl.1 rfl (Nat.le_of_ble_eq_true rfl) dX7_tell_156 ⟨Nat.zero_le _, Nat.zero_le _⟩) (fun H locs hS => ?_)
                              cases h
                              exact r_iret X hS hr hlk dX7_tell_159
                            · replace h := ie h cc13
                              refine lv_tableOut (tgt := 160) hx hb dX7_tell_1 (sw_0_13 cc0 cc1 cc2 cc3 cc4 cc5 cc6 cc7 cc8 cc9 cc10 cc11 cc12 cc13) (by decide) ?_
                              refine lv_aload_n hx hb dX7_tell_160 rfl (lv_at hl 0 rfl) ?_
                              refine r_get X hS (T := TX7) (k := 5) (hw.1 μ).1 rfl hiX7 (by decide) mf211 rfl dX7_tell_161 ?_
                              cases h
                              exact r_iret X hS hr hlk dX7_tell_164
def f_X7_whole_b28 (q : Nat) (s0 : Int32) (μ : Mem) : Option (Int32 × Mem) := (some (s0, μ))
def f_X7_whole (q : Nat) (a1 : Int32) (μ : Mem) : Option (Int32 × Mem) := (pf μ q 6 0).bind (fun μ1 => (f_X7_in a1 0 14).bind (fun v2 => (if v2 = 0 then bn2 (f_X7_fails q 1 μ1) (fun v3 μ4 => f_X7_whole_b28 q v3 μ4) else (f_X7_tell q a1 μ1).bind (fun v5 => f_X7_whole_b28 q v5 μ1))))
set_option maxHeartbeats 4000000 in
set_option maxRecDepth 100000 in
theorem c_X7_whole (l : Launch) {D : va_G} {cI cG cL : ClassId} {A : Nat → Prop} {EN : State → Heap → Prop} (hE : EnOK EN A) {w : Mem → va_W} {ad : Nat → Nat} {hh : Int64} {q : Nat} {a1 : Int32} {μ : Mem} {r : Int32} {μ' : Mem} (hw : ModelAt cI w ad hh q) (h : f_X7_whole q a1 μ = some (r, μ')) : Met l yX7_whole wsX7_whole (rmk 5 112) (WPre D (tyl cI cG cL) A EN (w μ) [.ref (ad q), .int a1]) (PI D A (w μ') r) 0 0 A := by
  have hiX7 : ∀ w ∈ u_ws RX7 TX7 13, w ∈ wsX7_whole := by decide +kernel
  have mf28 : Cond.fieldLink RX7 28 (TX7 6).1 (TX7 6).2.1 (TX7 6).2.2.1 ∈ wsX7_whole := by decide +kernel
  refine met_start (cc := cX7_whole) (nL := 2) (ret := (some .int)) (own := RX7) hE (by decide) rfl rfl (Nat.le_of_ble_eq_true rfl) (fun p e s m args below meth c ls X hS hl hr hlk => ?_)
  have hx := X.1.1
  have hb := X.1.2.1
  replace hl : lv_has ls 2 [(0, .ref (ad q)), (1, .int a1)] := hl
  have hb28 : ∀ (s0 : Int32) (μ : Mem) (H : Heap) (locs : List Loc) (ls : Array Slot), HS D A (w μ) s.heap H locs → lv_has ls 2 [] → f_X7_whole_b28 q s0 μ = some (r, μ') → W p l e (headSpec wsX7_whole (rmk 5 112)).room s m args below meth c H locs 0 0 (MQ below (PI D A (w μ') r) args s 0 0 A) (F0 m 28 ls [.int s0]) := by
    intro s0 μ H locs ls hS hl h
    unfold f_X7_whole_b28 at h
    obtain ⟨rfl, rfl⟩ := pr2 h
    exact r_iret X hS hr hlk dX7_whole_28
  unfold f_X7_whole at h
  refine lv_aload_n hx hb dX7_whole_0 rfl (lv_at hl 0 rfl) ?_
  refine lv_iconst (v := 0) hx hb dX7_whole_1 (by decide) ?_
  obtain ⟨μ1, eμ1, h⟩ := ob h
  refine r_putp (w := w) X hS (T := TX7) (k := 6) eμ1 hw.1 rfl hiX7 tyX7 tyX7_ok nmX7 (by decide) mf28 rfl rfl rfl (Nat.le_of_ble_eq_true rfl) rfl dX7_whole_2 (fun H locs hS => ?_)
  refine lv_iload_n hx hb dX7_whole_5 rfl (lv_at hl 1 rfl) ?_
  refine lv_iconst (v := 0) hx hb dX7_whole_6 (by decide) ?_
  refine lv_bipush (v := 14) hx hb dX7_whole_7 (by decide) ?_
  obtain ⟨v2, ev2, h⟩ := ob h
  refine r_ci hS (r_runS (As := [.int a1, .int 0, .int 14]) (rest := []) X hS (c_X7_in l hE (w := w) (ad := ad) (μ := μ1) (D := D) (cI := cI) (cG := cG) (cL := cL) ev2) (va_cwS 3 X.1.2.2.2.2 gX7_whole_X7_in rfl rfl rfl (by decide +kernel) ⟨Nat.le_of_ble_eq_true rfl, Nat.le_of_ble_eq_true rfl⟩) rfl hl.1 rfl (Nat.le_of_ble_eq_true rfl) dX7_whole_9 ⟨Nat.zero_le _, Nat.zero_le _⟩) (fun H locs hS => ?_)
  refine lv_if_eq (tgt := 23) hx hb dX7_whole_12 (by decide) (fun cc => ?_) (fun cc => ?_)
  · replace h := it h cc
    refine lv_aload_n hx hb dX7_whole_23 rfl (lv_at hl 0 rfl) ?_
    refine lv_iconst (v := 1) hx hb dX7_whole_24 (by decide) ?_
    obtain ⟨v3, μ4, ev3, h⟩ := ob2 h
    refine r_ci hS (r_runV (As := [.int 1]) (rest := []) X hS (c_X7_fails l hE (w := w) (ad := ad) (μ := μ1) (D := D) (cI := cI) (cG := cG) (cL := cL) hw ev3) (cwV 1 X.1.2.2.2.2 gX7_whole_X7_fails rfl rfl rfl (by decide +kernel) ⟨Nat.le_of_ble_eq_true rfl, Nat.le_of_ble_eq_true rfl⟩) (q0 := q) (ci := 5) rfl (hw.1 μ1).1 rfl hl.1 rfl (Nat.le_of_ble_eq_true rfl) dX7_whole_25 ⟨Nat.zero_le _, Nat.zero_le _⟩) (fun H locs hS => ?_)
    exact hb28 v3 μ4 _ _ _ hS (lv_sub hl [] rfl) h
  · replace h := ie h cc
    refine lv_aload_n hx hb dX7_whole_15 rfl (lv_at hl 0 rfl) ?_
    refine lv_iload_n hx hb dX7_whole_16 rfl (lv_at hl 1 rfl) ?_
    obtain ⟨v5, ev5, h⟩ := ob h
    refine r_ci hS (r_runV (As := [.int a1]) (rest := []) X hS (c_X7_tell l hE (w := w) (ad := ad) (μ := μ1) (D := D) (cI := cI) (cG := cG) (cL := cL) hw ev5) (cwV 1 X.1.2.2.2.2 gX7_whole_X7_tell rfl rfl rfl (by decide +kernel) ⟨Nat.le_of_ble_eq_true rfl, Nat.le_of_ble_eq_true rfl⟩) (q0 := q) (ci := 5) rfl (hw.1 μ1).1 rfl hl.1 rfl (Nat.le_of_ble_eq_true rfl) dX7_whole_17 ⟨Nat.zero_le _, Nat.zero_le _⟩) (fun H locs hS => ?_)
    refine lv_goto (tgt := 28) hx hb dX7_whole_20 (by decide) ?_
    exact hb28 v5 μ1 _ _ _ hS (lv_sub hl [] rfl) h
def f_X7_tellNext_b16 (q : Nat) (s0 : Int32) (μ : Mem) : Option Int32 := (some s0)
def f_X7_tellNext (q : Nat) (μ : Mem) : Option Int32 := (f_X7_nextNow q μ).bind (fun v1 => (if (0 : Int32) ≤ v1 then f_X7_tellNext_b16 q v1 μ else f_X7_tellNext_b16 q (-1000) μ))
set_option maxHeartbeats 4000000 in
set_option maxRecDepth 100000 in
theorem c_X7_tellNext (l : Launch) {D : va_G} {cI cG cL : ClassId} {A : Nat → Prop} {EN : State → Heap → Prop} (hE : EnOK EN A) {w : Mem → va_W} {ad : Nat → Nat} {hh : Int64} {q : Nat} {μ : Mem} {r : Int32} (hw : ModelAt cI w ad hh q) (h : f_X7_tellNext q μ = some r) : Met l yX7_tellNext wsX7_tellNext (rmk 4 90) (WPre D (tyl cI cG cL) A EN (w μ) [.ref (ad q)]) (PI D A (w μ) r) 0 0 A := by
  refine met_start (cc := cX7_tellNext) (nL := 2) (ret := (some .int)) (own := RX7) hE (by decide) rfl rfl (Nat.le_of_ble_eq_true rfl) (fun p e s m args below meth c ls X hS hl hr hlk => ?_)
  have hx := X.1.1
  have hb := X.1.2.1
  replace hl : lv_has ls 2 [(0, .ref (ad q))] := hl
  have hb16 : ∀ (s0 : Int32) (H : Heap) (locs : List Loc) (ls : Array Slot), HS D A (w μ) s.heap H locs → lv_has ls 2 [] → f_X7_tellNext_b16 q s0 μ = some r → W p l e (headSpec wsX7_tellNext (rmk 4 90)).room s m args below meth c H locs 0 0 (MQ below (PI D A (w μ) r) args s 0 0 A) (F0 m 16 ls [.int s0]) := by
    intro s0 H locs ls hS hl h
    unfold f_X7_tellNext_b16 at h
    cases h
    exact r_iret X hS hr hlk dX7_tellNext_16
  unfold f_X7_tellNext at h
  refine lv_aload_n hx hb dX7_tellNext_0 rfl (lv_at hl 0 rfl) ?_
  obtain ⟨v1, ev1, h⟩ := ob h
  refine r_ci hS (r_runV (As := []) (rest := []) X hS (c_X7_nextNow l hE (w := w) (ad := ad) (μ := μ) (D := D) (cI := cI) (cG := cG) (cL := cL) hw ev1) (cwV 0 X.1.2.2.2.2 gX7_tellNext_X7_nextNow rfl rfl rfl (by decide +kernel) ⟨Nat.le_of_ble_eq_true rfl, Nat.le_of_ble_eq_true rfl⟩) (q0 := q) (ci := 5) rfl (hw.1 μ).1 rfl hl.1 rfl (Nat.le_of_ble_eq_true rfl) dX7_tellNext_1 ⟨Nat.zero_le _, Nat.zero_le _⟩) (fun H locs hS => ?_)
  refine lv_istore_n (lv' := [(1, .int v1), (0, .ref (ad q))]) hx hb dX7_tellNext_4 rfl hl (by decide) rfl (fun ls hl => ?_)
  refine lv_iload_n hx hb dX7_tellNext_5 rfl (lv_at hl 0 rfl) ?_
  refine lv_if_ge (tgt := 15) hx hb dX7_tellNext_6 (by decide) (fun cc => ?_) (fun cc => ?_)
  · replace h := it h cc
    refine lv_iload_n hx hb dX7_tellNext_15 rfl (lv_at hl 0 rfl) ?_
    exact hb16 v1 _ _ _ hS (lv_sub hl [] rfl) h
  · replace h := ie h cc
    refine lv_sipush (v := (-1000)) hx hb dX7_tellNext_9 (by decide) ?_
    refine lv_goto (tgt := 16) hx hb dX7_tellNext_12 (by decide) ?_
    exact hb16 (-1000) _ _ _ hS (lv_sub hl [] rfl) h
def f_X7_nextBed (q : Nat) (μ : Mem) : Option (Int32 × Mem) := (pf μ q 6 0).bind (fun μ1 => (f_X7_tellNext q μ1).bind (fun v2 => (some (v2, μ1))))
set_option maxHeartbeats 4000000 in
set_option maxRecDepth 100000 in
theorem c_X7_nextBed (l : Launch) {D : va_G} {cI cG cL : ClassId} {A : Nat → Prop} {EN : State → Heap → Prop} (hE : EnOK EN A) {w : Mem → va_W} {ad : Nat → Nat} {hh : Int64} {q : Nat} {μ : Mem} {r : Int32} {μ' : Mem} (hw : ModelAt cI w ad hh q) (h : f_X7_nextBed q μ = some (r, μ')) : Met l yX7_nextBed wsX7_nextBed (rmk 5 111) (WPre D (tyl cI cG cL) A EN (w μ) [.ref (ad q)]) (PI D A (w μ') r) 0 0 A := by
  have hiX7 : ∀ w ∈ u_ws RX7 TX7 13, w ∈ wsX7_nextBed := by decide +kernel
  have mf28 : Cond.fieldLink RX7 28 (TX7 6).1 (TX7 6).2.1 (TX7 6).2.2.1 ∈ wsX7_nextBed := by decide +kernel
  refine met_start (cc := cX7_nextBed) (nL := 1) (ret := (some .int)) (own := RX7) hE (by decide) rfl rfl (Nat.le_of_ble_eq_true rfl) (fun p e s m args below meth c ls X hS hl hr hlk => ?_)
  have hx := X.1.1
  have hb := X.1.2.1
  replace hl : lv_has ls 1 [(0, .ref (ad q))] := hl
  unfold f_X7_nextBed at h
  refine lv_aload_n hx hb dX7_nextBed_0 rfl (lv_at hl 0 rfl) ?_
  refine lv_iconst (v := 0) hx hb dX7_nextBed_1 (by decide) ?_
  obtain ⟨μ1, eμ1, h⟩ := ob h
  refine r_putp (w := w) X hS (T := TX7) (k := 6) eμ1 hw.1 rfl hiX7 tyX7 tyX7_ok nmX7 (by decide) mf28 rfl rfl rfl (Nat.le_of_ble_eq_true rfl) rfl dX7_nextBed_2 (fun H locs hS => ?_)
  refine lv_aload_n hx hb dX7_nextBed_5 rfl (lv_at hl 0 rfl) ?_
  obtain ⟨v2, ev2, h⟩ := ob h
  refine r_ci hS (r_runV (As := []) (rest := []) X hS (c_X7_tellNext l hE (w := w) (ad := ad) (μ := μ1) (D := D) (cI := cI) (cG := cG) (cL := cL) hw ev2) (cwV 0 X.1.2.2.2.2 gX7_nextBed_X7_tellNext rfl rfl rfl (by decide +kernel) ⟨Nat.le_of_ble_eq_true rfl, Nat.le_of_ble_eq_true rfl⟩) (q0 := q) (ci := 5) rfl (hw.1 μ1).1 rfl hl.1 rfl (Nat.le_of_ble_eq_true rfl) dX7_nextBed_6 ⟨Nat.zero_le _, Nat.zero_le _⟩) (fun H locs hS => ?_)
  obtain ⟨rfl, rfl⟩ := pr2 h
  exact r_iret X hS hr hlk dX7_nextBed_9
