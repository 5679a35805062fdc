def f_X7_bedsFor_b47 (q : Nat) (s0 : Int32) (μ : Mem) : Option (Int32 × Mem) := (some (s0, μ))
def f_X7_bedsFor_b28 (q : Nat) (x1 : Int32) (s0 : Int32) (μ : Mem) : Option (Int32 × Mem) := (pf μ q 6 s0).bind (fun μ3 => (if (μ3 q 6) = 0 then (f_X7_bedsOf q x1 μ3).bind (fun v4 => f_X7_bedsFor_b47 q v4 μ3) else f_X7_bedsFor_b47 q 0 μ3))
def f_X7_bedsFor (q : Nat) (a1 : Int32) (μ : Mem) : Option (Int32 × Mem) := (f_X7_isKey a1).bind (fun v1 => (if v1 = 0 then f_X7_bedsFor_b28 q a1 1 μ else (rd 470 (μ (q + 1)) 466).bind (fun v2 => (if v2 = 0 then f_X7_bedsFor_b28 q a1 2 μ else f_X7_bedsFor_b28 q a1 0 μ))))
set_option maxHeartbeats 4000000 in
set_option maxRecDepth 100000 in
theorem c_X7_bedsFor (l : Launch) {D : va_G} {cI cG cL : ClassId} {A : Nat → Prop} {EN : State → Heap → Prop} (hE : EnOK EN A) {w : Mem → va_W} {ad : Nat → Nat} {hh : Int64} {q : Nat} {a1 : Int32} {μ : Mem} {r : Int32} {μ' : Mem} (hw : ModelAt cI w ad hh q) (h : f_X7_bedsFor q a1 μ = some (r, μ')) : Met l yX7_bedsFor wsX7_bedsFor (rmk 4 95) (WPre D (tyl cI cG cL) A EN (w μ) [.ref (ad q), .int a1]) (PI D A (w μ') r) 0 0 A := by
  have hiX7 : ∀ w ∈ u_ws RX7 TX7 13, w ∈ wsX7_bedsFor := by decide +kernel
  have mf7 : Cond.fieldLink RX7 7 (TX7 0).1 (TX7 0).2.1 (TX7 0).2.2.1 ∈ wsX7_bedsFor := by decide +kernel
  have mf28 : Cond.fieldLink RX7 28 (TX7 6).1 (TX7 6).2.1 (TX7 6).2.2.1 ∈ wsX7_bedsFor := by decide +kernel
  refine met_start (cc := cX7_bedsFor) (nL := 2) (ret := (some .int)) (own := RX7) hE (by decide) rfl rfl (Nat.le_of_ble_eq_true rfl) (fun p e s m args below meth c ls X hS hl hr hlk => ?_)
  have hx := X.1.1
  have hb := X.1.2.1
  replace hl : lv_has ls 2 [(0, .ref (ad q)), (1, .int a1)] := hl
  have hb47 : ∀ (s0 : Int32) (μ : Mem) (H : Heap) (locs : List Loc) (ls : Array Slot), HS D A (w μ) s.heap H locs → lv_has ls 2 [] → f_X7_bedsFor_b47 q s0 μ = some (r, μ') → W p l e (headSpec wsX7_bedsFor (rmk 4 95)).room s m args below meth c H locs 0 0 (MQ below (PI D A (w μ') r) args s 0 0 A) (F0 m 47 ls [.int s0]) := by
    intro s0 μ H locs ls hS hl h
    unfold f_X7_bedsFor_b47 at h
    obtain ⟨rfl, rfl⟩ := pr2 h
    exact r_iret X hS hr hlk dX7_bedsFor_47
  have hb28 : ∀ (x1 : Int32) (s0 : Int32) (μ : Mem) (H : Heap) (locs : List Loc) (ls : Array Slot), HS D A (w μ) s.heap H locs → lv_has ls 2 [(0, .ref (ad q)), (1, .int x1)] → f_X7_bedsFor_b28 q x1 s0 μ = some (r, μ') → W p l e (headSpec wsX7_bedsFor (rmk 4 95)).room s m args below meth c H locs 0 0 (MQ below (PI D A (w μ') r) args s 0 0 A) (F0 m 28 ls [.int s0, .ref (ad q)]) := by
    intro x1 s0 μ H locs ls hS hl h
    unfold f_X7_bedsFor_b28 at h
    obtain ⟨μ3, eμ3, h⟩ := ob h
    refine r_putp (w := w) X hS (T := TX7) (k := 6) eμ3 hw.1 rfl hiX7 tyX7 tyX7_ok nmX7 (by decide) mf28 rfl rfl rfl (Nat.le_of_ble_eq_true rfl) rfl dX7_bedsFor_28 (fun H locs hS => ?_)
    refine lv_aload_n hx hb dX7_bedsFor_31 rfl (lv_at hl 0 rfl) ?_
    refine r_get X hS (T := TX7) (k := 6) (hw.1 μ3).1 rfl hiX7 (by decide) mf28 rfl dX7_bedsFor_32 ?_
    refine lv_if_ne (tgt := 46) hx hb dX7_bedsFor_35 (by decide) (fun cc => ?_) (fun cc => ?_)
    · replace h := ie h cc
      refine lv_iconst (v := 0) hx hb dX7_bedsFor_46 (by decide) ?_
      exact hb47 0 μ3 _ _ _ hS (lv_sub hl [] rfl) h
    · replace h := it h cc
      refine lv_aload_n hx hb dX7_bedsFor_38 rfl (lv_at hl 0 rfl) ?_
      refine lv_iload_n hx hb dX7_bedsFor_39 rfl (lv_at hl 1 rfl) ?_
      obtain ⟨v4, ev4, h⟩ := ob h
      refine r_ci hS (r_runV (As := [.int x1]) (rest := []) X hS (c_X7_bedsOf l hE (w := w) (ad := ad) (μ := μ3) (D := D) (cI := cI) (cG := cG) (cL := cL) hw ev4) (cwV 1 X.1.2.2.2.2 gX7_bedsFor_X7_bedsOf rfl rfl rfl (by decide +kernel) ⟨Nat.le_of_ble_eq_true rfl, Nat.le_of_ble_eq_true rfl⟩) (q0 := q) (ci := 5) rfl (hw.1 μ3).1 rfl hl.1 rfl (Nat.le_of_ble_eq_true rfl) dX7_bedsFor_40 ⟨Nat.zero_le _, Nat.zero_le _⟩) (fun H locs hS => ?_)
      refine lv_goto (tgt := 47) hx hb dX7_bedsFor_43 (by decide) ?_
      exact hb47 v4 μ3 _ _ _ hS (lv_sub hl [] rfl) h
  unfold f_X7_bedsFor at h
  refine lv_aload_n hx hb dX7_bedsFor_0 rfl (lv_at hl 0 rfl) ?_
  refine lv_iload_n hx hb dX7_bedsFor_1 rfl (lv_at hl 1 rfl) ?_
  obtain ⟨v1, ev1, h⟩ := ob h
  refine r_ci hS (r_runS (As := [.int a1]) (rest := [.ref (ad q)]) X hS (c_X7_isKey l hE (w := w) (ad := ad) (μ := μ) (D := D) (cI := cI) (cG := cG) (cL := cL) ev1) (va_cwS 1 X.1.2.2.2.2 gX7_bedsFor_X7_isKey rfl rfl rfl (by decide +kernel) ⟨Nat.le_of_ble_eq_true rfl, Nat.le_of_ble_eq_true rfl⟩) rfl hl.1 rfl (Nat.le_of_ble_eq_true rfl) dX7_bedsFor_2 ⟨Nat.zero_le _, Nat.zero_le _⟩) (fun H locs hS => ?_)
  refine lv_if_ne (tgt := 12) hx hb dX7_bedsFor_5 (by decide) (fun cc => ?_) (fun cc => ?_)
  · replace h := ie h cc
    refine lv_aload_n hx hb dX7_bedsFor_12 rfl (lv_at hl 0 rfl) ?_
    refine r_get X hS (T := TX7) (k := 0) (hw.1 μ).1 rfl hiX7 (by decide) mf7 rfl dX7_bedsFor_13 ?_
    refine lv_sipush (v := 466) hx hb dX7_bedsFor_16 (by decide) ?_
    obtain ⟨v2, ev2, h⟩ := ob h
    refine r_iald X hS (hw.2.1 μ).1 ev2 dX7_bedsFor_19 ?_
    refine lv_if_ne (tgt := 27) hx hb dX7_bedsFor_20 (by decide) (fun cc => ?_) (fun cc => ?_)
    · replace h := ie h cc
      refine lv_iconst (v := 0) hx hb dX7_bedsFor_27 (by decide) ?_
      exact hb28 a1 0 μ _ _ _ hS (lv_sub hl [0, 1] rfl) h
    · replace h := it h cc
      refine lv_iconst (v := 2) hx hb dX7_bedsFor_23 (by decide) ?_
      refine lv_goto (tgt := 28) hx hb dX7_bedsFor_24 (by decide) ?_
      exact hb28 a1 2 μ _ _ _ hS (lv_sub hl [0, 1] rfl) h
  · replace h := it h cc
    refine lv_iconst (v := 1) hx hb dX7_bedsFor_8 (by decide) ?_
    refine lv_goto (tgt := 28) hx hb dX7_bedsFor_9 (by decide) ?_
    exact hb28 a1 1 μ _ _ _ hS (lv_sub hl [0, 1] rfl) h
def f_X7_reason_b70 (q : Nat) (s0 : Int32) (μ : Mem) : Option (Int32 × Mem) := (some (s0, μ))
def f_X7_reason_b28 (q : Nat) (x1 : Int32) (s0 : Int32) (μ : Mem) : Option (Int32 × Mem) := (pf μ q 6 s0).bind (fun μ3 => (if (μ3 q 6) ≤ 0 then (f_X7_bedsOf q x1 μ3).bind (fun v4 => (if v4 = (-1000) then f_X7_reason_b70 q 1 μ3 else (f_X7_manyToDig q μ3).bind (fun v5 => (if v4 ≤ v5 then f_X7_reason_b70 q 0 μ3 else f_X7_reason_b70 q 2 μ3)))) else (some (0, μ3))))
def f_X7_reason (q : Nat) (a1 : Int32) (μ : Mem) : Option (Int32 × Mem) := (f_X7_isKey a1).bind (fun v1 => (if v1 = 0 then f_X7_reason_b28 q a1 1 μ else (rd 470 (μ (q + 1)) 466).bind (fun v2 => (if v2 = 0 then f_X7_reason_b28 q a1 2 μ else f_X7_reason_b28 q a1 0 μ))))
set_option maxHeartbeats 4000000 in
set_option maxRecDepth 100000 in
theorem c_X7_reason (l : Launch) {D : va_G} {cI cG cL : ClassId} {A : Nat → Prop} {EN : State → Heap → Prop} (hE : EnOK EN A) {w : Mem → va_W} {ad : Nat → Nat} {hh : Int64} {q : Nat} {a1 : Int32} {μ : Mem} {r : Int32} {μ' : Mem} (hw : ModelAt cI w ad hh q) (h : f_X7_reason q a1 μ = some (r, μ')) : Met l yX7_reason wsX7_reason (rmk 4 95) (WPre D (tyl cI cG cL) A EN (w μ) [.ref (ad q), .int a1]) (PI D A (w μ') r) 0 0 A := by
  have hiX7 : ∀ w ∈ u_ws RX7 TX7 13, w ∈ wsX7_reason := by decide +kernel
  have mf7 : Cond.fieldLink RX7 7 (TX7 0).1 (TX7 0).2.1 (TX7 0).2.2.1 ∈ wsX7_reason := by decide +kernel
  have mf28 : Cond.fieldLink RX7 28 (TX7 6).1 (TX7 6).2.1 (TX7 6).2.2.1 ∈ wsX7_reason := by decide +kernel
  refine met_start (cc := cX7_reason) (nL := 3) (ret := (some .int)) (own := RX7) hE (by decide) rfl rfl (Nat.le_of_ble_eq_true rfl) (fun p e s m args below meth c ls X hS hl hr hlk => ?_)
  have hx := X.1.1
  have hb := X.1.2.1
  replace hl : lv_has ls 3 [(0, .ref (ad q)), (1, .int a1)] := hl
  have hb70 : ∀ (s0 : Int32) (μ : Mem) (H : Heap) (locs : List Loc) (ls : Array Slot), HS D A (w μ) s.heap H locs → lv_has ls 3 [] → f_X7_reason_b70 q s0 μ = some (r, μ') → W p l e (headSpec wsX7_reason (rmk 4 95)).room s m args below meth c H locs 0 0 (MQ below (PI D A (w μ') r) args s 0 0 A) (F0 m 70 ls [.int s0]) := by
    intro s0 μ H locs ls hS hl h
    unfold f_X7_reason_b70 at h
    obtain ⟨rfl, rfl⟩ := pr2 h
    exact r_iret X hS hr hlk dX7_reason_70
  have hb28 : ∀ (x1 : Int32) (s0 : Int32) (μ : Mem) (H : Heap) (locs : List Loc) (ls : Array Slot), HS D A (w μ) s.heap H locs → lv_has ls 3 [(0, .ref (ad q)), (1, .int x1)] → f_X7_reason_b28 q x1 s0 μ = some (r, μ') → W p l e (headSpec wsX7_reason (rmk 4 95)).room s m args below meth c H locs 0 0 (MQ below (PI D A (w μ') r) args s 0 0 A) (F0 m 28 ls [.int s0, .ref (ad q)]) := by
    intro x1 s0 μ H locs ls hS hl h
    unfold f_X7_reason_b28 at h
    obtain ⟨μ3, eμ3, h⟩ := ob h
    refine r_putp (w := w) X hS (T := TX7) (k := 6) eμ3 hw.1 rfl hiX7 tyX7 tyX7_ok nmX7 (by decide) mf28 rfl rfl rfl (Nat.le_of_ble_eq_true rfl) rfl dX7_reason_28 (fun H locs hS => ?_)
    refine lv_aload_n hx hb dX7_reason_31 rfl (lv_at hl 0 rfl) ?_
    refine r_get X hS (T := TX7) (k := 6) (hw.1 μ3).1 rfl hiX7 (by decide) mf28 rfl dX7_reason_32 ?_
    refine lv_if_le (tgt := 40) hx hb dX7_reason_35 (by decide) (fun cc => ?_) (fun cc => ?_)
    · replace h := it h cc
      refine lv_aload_n hx hb dX7_reason_40 rfl (lv_at hl 0 rfl) ?_
      refine lv_iload_n hx hb dX7_reason_41 rfl (lv_at hl 1 rfl) ?_
      obtain ⟨v4, ev4, h⟩ := ob h
      refine r_ci hS (r_runV (As := [.int x1]) (rest := []) X hS (c_X7_bedsOf l hE (w := w) (ad := ad) (μ := μ3) (D := D) (cI := cI) (cG := cG) (cL := cL) hw ev4) (cwV 1 X.1.2.2.2.2 gX7_reason_X7_bedsOf rfl rfl rfl (by decide +kernel) ⟨Nat.le_of_ble_eq_true rfl, Nat.le_of_ble_eq_true rfl⟩) (q0 := q) (ci := 5) rfl (hw.1 μ3).1 rfl hl.1 rfl (Nat.le_of_ble_eq_true rfl) dX7_reason_42 ⟨Nat.zero_le _, Nat.zero_le _⟩) (fun H locs hS => ?_)
      refine lv_istore_n (lv' := [(2, .int v4), (0, .ref (ad q)), (1, .int x1)]) hx hb dX7_reason_45 rfl hl (by decide) rfl (fun ls hl => ?_)
      refine lv_iload_n hx hb dX7_reason_46 rfl (lv_at hl 0 rfl) ?_
      refine lv_sipush (v := (-1000)) hx hb dX7_reason_47 (by decide) ?_
      refine lv_icmp_ne (tgt := 57) hx hb dX7_reason_50 (by decide) (fun cc => ?_) (fun cc => ?_)
      · replace h := ie h cc
        refine lv_iload_n hx hb dX7_reason_57 rfl (lv_at hl 0 rfl) ?_
        refine lv_aload_n hx hb dX7_reason_58 rfl (lv_at hl 1 rfl) ?_
        obtain ⟨v5, ev5, h⟩ := ob h
        refine r_ci hS (r_runV (As := []) (rest := [.int v4]) X hS (c_X7_manyToDig l hE (w := w) (ad := ad) (μ := μ3) (D := D) (cI := cI) (cG := cG) (cL := cL) hw ev5) (cwV 0 X.1.2.2.2.2 gX7_reason_X7_manyToDig rfl rfl rfl (by decide +kernel) ⟨Nat.le_of_ble_eq_true rfl, Nat.le_of_ble_eq_true rfl⟩) (q0 := q) (ci := 5) rfl (hw.1 μ3).1 rfl hl.1 rfl (Nat.le_of_ble_eq_true rfl) dX7_reason_59 ⟨Nat.zero_le _, Nat.zero_le _⟩) (fun H locs hS => ?_)
        refine lv_icmp_le (tgt := 69) hx hb dX7_reason_62 (by decide) (fun cc => ?_) (fun cc => ?_)
        · replace h := it h cc
          refine lv_iconst (v := 0) hx hb dX7_reason_69 (by decide) ?_
          exact hb70 0 μ3 _ _ _ hS (lv_sub hl [] rfl) h
        · replace h := ie h cc
          refine lv_iconst (v := 2) hx hb dX7_reason_65 (by decide) ?_
          refine lv_goto (tgt := 70) hx hb dX7_reason_66 (by decide) ?_
          exact hb70 2 μ3 _ _ _ hS (lv_sub hl [] rfl) h
      · replace h := it h cc
        refine lv_iconst (v := 1) hx hb dX7_reason_53 (by decide) ?_
        refine lv_goto (tgt := 70) hx hb dX7_reason_54 (by decide) ?_
        exact hb70 1 μ3 _ _ _ hS (lv_sub hl [] rfl) h
    · replace h := ie h cc
      refine lv_iconst (v := 0) hx hb dX7_reason_38 (by decide) ?_
      obtain ⟨rfl, rfl⟩ := pr2 h
      exact r_iret X hS hr hlk dX7_reason_39
  unfold f_X7_reason at h
  refine lv_aload_n hx hb dX7_reason_0 rfl (lv_at hl 0 rfl) ?_
  refine lv_iload_n hx hb dX7_reason_1 rfl (lv_at hl 1 rfl) ?_
  obtain ⟨v1, ev1, h⟩ := ob h
  refine r_ci hS (r_runS (As := [.int a1]) (rest := [.ref (ad q)]) X hS (c_X7_isKey l hE (w := w) (ad := ad) (μ := μ) (D := D) (cI := cI) (cG := cG) (cL := cL) ev1) (va_cwS 1 X.1.2.2.2.2 gX7_reason_X7_isKey rfl rfl rfl (by decide +kernel) ⟨Nat.le_of_ble_eq_true rfl, Nat.le_of_ble_eq_true rfl⟩) rfl hl.1 rfl (Nat.le_of_ble_eq_true rfl) dX7_reason_2 ⟨Nat.zero_le _, Nat.zero_le _⟩) (fun H locs hS => ?_)
  refine lv_if_ne (tgt := 12) hx hb dX7_reason_5 (by decide) (fun cc => ?_) (fun cc => ?_)
  · replace h := ie h cc
    refine lv_aload_n hx hb dX7_reason_12 rfl (lv_at hl 0 rfl) ?_
    refine r_get X hS (T := TX7) (k := 0) (hw.1 μ).1 rfl hiX7 (by decide) mf7 rfl dX7_reason_13 ?_
    refine lv_sipush (v := 466) hx hb dX7_reason_16 (by decide) ?_
    obtain ⟨v2, ev2, h⟩ := ob h
    refine r_iald X hS (hw.2.1 μ).1 ev2 dX7_reason_19 ?_
    refine lv_if_ne (tgt := 27) hx hb dX7_reason_20 (by decide) (fun cc => ?_) (fun cc => ?_)
    · replace h := ie h cc
      refine lv_iconst (v := 0) hx hb dX7_reason_27 (by decide) ?_
      exact hb28 a1 0 μ _ _ _ hS (lv_sub hl [0, 1] rfl) h
    · replace h := it h cc
      refine lv_iconst (v := 2) hx hb dX7_reason_23 (by decide) ?_
      refine lv_goto (tgt := 28) hx hb dX7_reason_24 (by decide) ?_
      exact hb28 a1 2 μ _ _ _ hS (lv_sub hl [0, 1] rfl) h
  · replace h := it h cc
    refine lv_iconst (v := 1) hx hb dX7_reason_8 (by decide) ?_
    refine lv_goto (tgt := 28) hx hb dX7_reason_9 (by decide) ?_
    exact hb28 a1 1 μ _ _ _ hS (lv_sub hl [0, 1] rfl) h
def f_X7_neededWithout_b45 (q : Nat) (s0 : Int32) (μ : Mem) : Option (Int32 × Mem) := (some (s0, μ))
def f_X7_neededWithout_b26 (q : Nat) (x1 : Int32) (s0 : Int32) (μ : Mem) : Option (Int32 × Mem) := (pf μ q 6 s0).bind (fun μ3 => (if (μ3 q 6) = 0 then (f_X7_needed q x1 μ3).bind (fun v4 => f_X7_neededWithout_b45 q v4 μ3) else f_X7_neededWithout_b45 q 0 μ3))
def f_X7_neededWithout (q : Nat) (a1 : Int32) (μ : Mem) : Option (Int32 × Mem) := (f_X7_isReader a1).bind (fun v1 => (if v1 = 0 then f_X7_neededWithout_b26 q a1 1 μ else (f_X7_ofReader q a1 0 μ).bind (fun v2 => (if v2 = 0 then f_X7_neededWithout_b26 q a1 2 μ else f_X7_neededWithout_b26 q a1 0 μ))))
set_option maxHeartbeats 4000000 in
set_option maxRecDepth 100000 in
theorem c_X7_neededWithout (l : Launch) {D : va_G} {cI cG cL : ClassId} {A : Nat → Prop} {EN : State → Heap → Prop} (hE : EnOK EN A) {w : Mem → va_W} {ad : Nat → Nat} {hh : Int64} {q : Nat} {a1 : Int32} {μ : Mem} {r : Int32} {μ' : Mem} (hw : ModelAt cI w ad hh q) (h : f_X7_neededWithout q a1 μ = some (r, μ')) : Met l yX7_neededWithout wsX7_neededWithout (rmk 2 46) (WPre D (tyl cI cG cL) A EN (w μ) [.ref (ad q), .int a1]) (PI D A (w μ') r) 0 0 A := by
  have hiX7 : ∀ w ∈ u_ws RX7 TX7 13, w ∈ wsX7_neededWithout := by decide +kernel
  have mf28 : Cond.fieldLink RX7 28 (TX7 6).1 (TX7 6).2.1 (TX7 6).2.2.1 ∈ wsX7_neededWithout := by decide +kernel
  refine met_start (cc := cX7_neededWithout) (nL := 2) (ret := (some .int)) (own := RX7) hE (by decide) rfl rfl (Nat.le_of_ble_eq_true rfl) (fun p e s m args below meth c ls X hS hl hr hlk => ?_)
  have hx := X.1.1
  have hb := X.1.2.1
  replace hl : lv_has ls 2 [(0, .ref (ad q)), (1, .int a1)] := hl
  have hb45 : ∀ (s0 : Int32) (μ : Mem) (H : Heap) (locs : List Loc) (ls : Array Slot), HS D A (w μ) s.heap H locs → lv_has ls 2 [] → f_X7_neededWithout_b45 q s0 μ = some (r, μ') → W p l e (headSpec wsX7_neededWithout (rmk 2 46)).room s m args below meth c H locs 0 0 (MQ below (PI D A (w μ') r) args s 0 0 A) (F0 m 45 ls [.int s0]) := by
    intro s0 μ H locs ls hS hl h
    unfold f_X7_neededWithout_b45 at h
    obtain ⟨rfl, rfl⟩ := pr2 h
    exact r_iret X hS hr hlk dX7_neededWithout_45
  have hb26 : ∀ (x1 : Int32) (s0 : Int32) (μ : Mem) (H : Heap) (locs : List Loc) (ls : Array Slot), HS D A (w μ) s.heap H locs → lv_has ls 2 [(0, .ref (ad q)), (1, .int x1)] → f_X7_neededWithout_b26 q x1 s0 μ = some (r, μ') → W p l e (headSpec wsX7_neededWithout (rmk 2 46)).room s m args below meth c H locs 0 0 (MQ below (PI D A (w μ') r) args s 0 0 A) (F0 m 26 ls [.int s0, .ref (ad q)]) := by
    intro x1 s0 μ H locs ls hS hl h
    unfold f_X7_neededWithout_b26 at h
    obtain ⟨μ3, eμ3, h⟩ := ob h
    refine r_putp (w := w) X hS (T := TX7) (k := 6) eμ3 hw.1 rfl hiX7 tyX7 tyX7_ok nmX7 (by decide) mf28 rfl rfl rfl (Nat.le_of_ble_eq_true rfl) rfl dX7_neededWithout_26 (fun H locs hS => ?_)
    refine lv_aload_n hx hb dX7_neededWithout_29 rfl (lv_at hl 0 rfl) ?_
    refine r_get X hS (T := TX7) (k := 6) (hw.1 μ3).1 rfl hiX7 (by decide) mf28 rfl dX7_neededWithout_30 ?_
    refine lv_if_ne (tgt := 44) hx hb dX7_neededWithout_33 (by decide) (fun cc => ?_) (fun cc => ?_)
    · replace h := ie h cc
      refine lv_iconst (v := 0) hx hb dX7_neededWithout_44 (by decide) ?_
      exact hb45 0 μ3 _ _ _ hS (lv_sub hl [] rfl) h
    · replace h := it h cc
      refine lv_aload_n hx hb dX7_neededWithout_36 rfl (lv_at hl 0 rfl) ?_
      refine lv_iload_n hx hb dX7_neededWithout_37 rfl (lv_at hl 1 rfl) ?_
      obtain ⟨v4, ev4, h⟩ := ob h
      refine r_ci hS (r_runV (As := [.int x1]) (rest := []) X hS (c_X7_needed l hE (w := w) (ad := ad) (μ := μ3) (D := D) (cI := cI) (cG := cG) (cL := cL) hw ev4) (cwV 1 X.1.2.2.2.2 gX7_neededWithout_X7_needed rfl rfl rfl (by decide +kernel) ⟨Nat.le_of_ble_eq_true rfl, Nat.le_of_ble_eq_true rfl⟩) (q0 := q) (ci := 5) rfl (hw.1 μ3).1 rfl hl.1 rfl (Nat.le_of_ble_eq_true rfl) dX7_neededWithout_38 ⟨Nat.zero_le _, Nat.zero_le _⟩) (fun H locs hS => ?_)
      refine lv_goto (tgt := 45) hx hb dX7_neededWithout_41 (by decide) ?_
      exact hb45 v4 μ3 _ _ _ hS (lv_sub hl [] rfl) h
  unfold f_X7_neededWithout at h
  refine lv_aload_n hx hb dX7_neededWithout_0 rfl (lv_at hl 0 rfl) ?_
  refine lv_iload_n hx hb dX7_neededWithout_1 rfl (lv_at hl 1 rfl) ?_
  obtain ⟨v1, ev1, h⟩ := ob h
  refine r_ci hS (r_runS (As := [.int a1]) (rest := [.ref (ad q)]) X hS (c_X7_isReader l hE (w := w) (ad := ad) (μ := μ) (D := D) (cI := cI) (cG := cG) (cL := cL) ev1) (va_cwS 1 X.1.2.2.2.2 gX7_neededWithout_X7_isReader rfl rfl rfl (by decide +kernel) ⟨Nat.le_of_ble_eq_true rfl, Nat.le_of_ble_eq_true rfl⟩) rfl hl.1 rfl (Nat.le_of_ble_eq_true rfl) dX7_neededWithout_2 ⟨Nat.zero_le _, Nat.zero_le _⟩) (fun H locs hS => ?_)
  refine lv_if_ne (tgt := 12) hx hb dX7_neededWithout_5 (by decide) (fun cc => ?_) (fun cc => ?_)
  · replace h := ie h cc
    refine lv_aload_n hx hb dX7_neededWithout_12 rfl (lv_at hl 0 rfl) ?_
    refine lv_iload_n hx hb dX7_neededWithout_13 rfl (lv_at hl 1 rfl) ?_
    refine lv_iconst (v := 0) hx hb dX7_neededWithout_14 (by decide) ?_
    obtain ⟨v2, ev2, h⟩ := ob h
    refine r_ci hS (r_runV (As := [.int a1, .int 0]) (rest := [.ref (ad q)]) X hS (c_X7_ofReader l hE (w := w) (ad := ad) (μ := μ) (D := D) (cI := cI) (cG := cG) (cL := cL) hw ev2) (cwV 2 X.1.2.2.2.2 gX7_neededWithout_X7_ofReader rfl rfl rfl (by decide +kernel) ⟨Nat.le_of_ble_eq_true rfl, Nat.le_of_ble_eq_true rfl⟩) (q0 := q) (ci := 5) rfl (hw.1 μ).1 rfl hl.1 rfl (Nat.le_of_ble_eq_true rfl) dX7_neededWithout_15 ⟨Nat.zero_le _, Nat.zero_le _⟩) (fun H locs hS => ?_)
    refine lv_if_ne (tgt := 25) hx hb dX7_neededWithout_18 (by decide) (fun cc => ?_) (fun cc => ?_)
    · replace h := ie h cc
      refine lv_iconst (v := 0) hx hb dX7_neededWithout_25 (by decide) ?_
      exact hb26 a1 0 μ _ _ _ hS (lv_sub hl [0, 1] rfl) h
    · replace h := it h cc
      refine lv_iconst (v := 2) hx hb dX7_neededWithout_21 (by decide) ?_
      refine lv_goto (tgt := 26) hx hb dX7_neededWithout_22 (by decide) ?_
      exact hb26 a1 2 μ _ _ _ hS (lv_sub hl [0, 1] rfl) h
  · replace h := it h cc
    refine lv_iconst (v := 1) hx hb dX7_neededWithout_8 (by decide) ?_
    refine lv_goto (tgt := 26) hx hb dX7_neededWithout_9 (by decide) ?_
    exact hb26 a1 1 μ _ _ _ hS (lv_sub hl [0, 1] rfl) h
def f_X7_changedSince_b83 (q : Nat) (x2 : Int32) (μ : Mem) : Option (Int32 × Mem) := (some (x2, μ))
def f_X7_changedSince_b75 (q : Nat) (k33 : Int32 → Int32 → Int32 → Mem → Option (Int32 × Mem)) (x1 : Int32) (x3 : Int32) (s0 : Int32) (s1 : Int32) (μ : Mem) : Option (Int32 × Mem) := k33 x1 (s1 + s0) (x3 + 1) μ
def f_X7_changedSince_b33 (q : Nat)  : Nat → Int32 → Int32 → Int32 → Mem → Option (Int32 × Mem)
  | 0, _, _, _, _ => none
  | fuel33 + 1, x1, x2, x3, μ => (if 100 ≤ x3 then f_X7_changedSince_b83 q x2 μ else (if (μ q 6) = 0 then (f_X7_now q μ).bind (fun v4 => (f_X7_valueBy q v4 x3 μ).bind (fun v5 => (f_X7_ofReader q x1 2 μ).bind (fun v6 => (f_X7_valueBy q v6 x3 μ).bind (fun v7 => (if v5 = v7 then f_X7_changedSince_b75 q (f_X7_changedSince_b33 q fuel33) x1 x3 0 x2 μ else f_X7_changedSince_b75 q (f_X7_changedSince_b33 q fuel33) x1 x3 1 x2 μ))))) else f_X7_changedSince_b83 q x2 μ))
def f_X7_changedSince_b26 (q : Nat) (x1 : Int32) (s0 : Int32) (μ : Mem) : Option (Int32 × Mem) := (pf μ q 6 s0).bind (fun μ3 => f_X7_changedSince_b33 q FU x1 0 0 μ3)
def f_X7_changedSince (q : Nat) (a1 : Int32) (μ : Mem) : Option (Int32 × Mem) := (f_X7_isReader a1).bind (fun v1 => (if v1 = 0 then f_X7_changedSince_b26 q a1 1 μ else (f_X7_ofReader q a1 0 μ).bind (fun v2 => (if v2 = 0 then f_X7_changedSince_b26 q a1 2 μ else f_X7_changedSince_b26 q a1 0 μ))))
set_option maxHeartbeats 4000000 in
set_option maxRecDepth 100000 in
theorem c_X7_changedSince (l : Launch) {D : va_G} {cI cG cL : ClassId} {A : Nat → Prop} {EN : State → Heap → Prop} (hE : EnOK EN A) {w : Mem → va_W} {ad : Nat → Nat} {hh : Int64} {q : Nat} {a1 : Int32} {μ : Mem} {r : Int32} {μ' : Mem} (hw : ModelAt cI w ad hh q) (h : f_X7_changedSince q a1 μ = some (r, μ')) : Met l yX7_changedSince wsX7_changedSince (rmk 4 92) (WPre D (tyl cI cG cL) A EN (w μ) [.ref (ad q), .int a1]) (PI D A (w μ') r) 0 0 A := by
  have hiX7 : ∀ w ∈ u_ws RX7 TX7 13, w ∈ wsX7_changedSince := by decide +kernel
  have mf28 : Cond.fieldLink RX7 28 (TX7 6).1 (TX7 6).2.1 (TX7 6).2.2.1 ∈ wsX7_changedSince := by decide +kernel
  refine met_start (cc := cX7_changedSince) (nL := 4) (ret := (some .int)) (own := RX7) hE (by decide) rfl rfl (Nat.le_of_ble_eq_true rfl) (fun p e s m args below meth c ls X hS hl hr hlk => ?_)
  have hx := X.1.1
  have hb := X.1.2.1
  replace hl : lv_has ls 4 [(0, .ref (ad q)), (1, .int a1)] := hl
  have hb83 : ∀ (x2 : Int32) (μ : Mem) (H : Heap) (locs : List Loc) (ls : Array Slot), HS D A (w μ) s.heap H locs → lv_has ls 4 [(2, .int x2)] → f_X7_changedSince_b83 q x2 μ = some (r, μ') → W p l e (headSpec wsX7_changedSince (rmk 4 92)).room s m args below meth c H locs 0 0 (MQ below (PI D A (w μ') r) args s 0 0 A) (F0 m 83 ls []) := by
    intro x2 μ H locs ls hS hl h
    unfold f_X7_changedSince_b83 at h
    refine lv_iload_n hx hb dX7_changedSince_83 rfl (lv_at hl 0 rfl) ?_
    obtain ⟨rfl, rfl⟩ := pr2 h
    exact r_iret X hS hr hlk dX7_changedSince_84
  have hb75 : ∀ (k33 : Int32 → Int32 → Int32 → Mem → Option (Int32 × Mem)), (∀ (x1 : Int32) (x2 : Int32) (x3 : Int32) (μ : Mem) (H : Heap) (locs : List Loc) (ls : Array Slot), HS D A (w μ) s.heap H locs → lv_has ls 4 [(0, .ref (ad q)), (1, .int x1), (2, .int x2), (3, .int x3)] → k33 x1 x2 x3 μ = some (r, μ') → W p l e (headSpec wsX7_changedSince (rmk 4 92)).room s m args below meth c H locs 0 0 (MQ below (PI D A (w μ') r) args s 0 0 A) (F0 m 33 ls [])) → ∀ (x1 : Int32) (x3 : Int32) (s0 : Int32) (s1 : Int32) (μ : Mem) (H : Heap) (locs : List Loc) (ls : Array Slot), HS D A (w μ) s.heap H locs → lv_has ls 4 [(0, .ref (ad q)), (1, .int x1), (3, .int x3)] → f_X7_changedSince_b75 q k33 x1 x3 s0 s1 μ = some (r, μ') → W p l e (headSpec wsX7_changedSince (rmk 4 92)).room s m args below meth c H locs 0 0 (MQ below (PI D A (w μ') r) args s 0 0 A) (F0 m 75 ls [.int s0, .int s1]) := by
    intro k33 hk33 x1 x3 s0 s1 μ H locs ls hS hl h
    unfold f_X7_changedSince_b75 at h
    refine lv_iadd hx hb dX7_changedSince_75 ?_
    refine lv_istore_n (lv' := [(2, .int (s1 + s0)), (0, .ref (ad q)), (1, .int x1), (3, .int x3)]) hx hb dX7_changedSince_76 rfl hl (by decide) rfl (fun ls hl => ?_)
    refine lv_iinc (v := x3 + 1) (lv' := [(3, .int (x3 + 1)), (2, .int (s1 + s0)), (0, .ref (ad q)), (1, .int x1)]) hx hb dX7_changedSince_77 hl (k := 3) rfl rfl (by decide) rfl (fun ls hl => ?_)
    refine lv_goto (tgt := 33) hx hb dX7_changedSince_80 (by decide) ?_
    exact hk33 x1 (s1 + s0) (x3 + 1) μ _ _ _ hS (lv_sub hl [2, 3, 1, 0] rfl) h
  have hb33 : ∀ (fu : Nat) (x1 : Int32) (x2 : Int32) (x3 : Int32) (μ : Mem) (H : Heap) (locs : List Loc) (ls : Array Slot), HS D A (w μ) s.heap H locs → lv_has ls 4 [(0, .ref (ad q)), (1, .int x1), (2, .int x2), (3, .int x3)] → f_X7_changedSince_b33 q fu x1 x2 x3 μ = some (r, μ') → W p l e (headSpec wsX7_changedSince (rmk 4 92)).room s m args below meth c H locs 0 0 (MQ below (PI D A (w μ') r) args s 0 0 A) (F0 m 33 ls []) := by
    intro fu
    induction fu with
    | zero =>
      intro x1 x2 x3 μ H locs ls hS hl h
      rw [f_X7_changedSince_b33] at h
      cases h
    | succ fuel33 ih33 =>
      intro x1 x2 x3 μ H locs ls hS hl h
      rw [f_X7_changedSince_b33] at h
      refine lv_iload_n hx hb dX7_changedSince_33 rfl (lv_at hl 3 rfl) ?_
      refine lv_bipush (v := 100) hx hb dX7_changedSince_34 (by decide) ?_
      refine lv_icmp_ge (tgt := 83) hx hb dX7_changedSince_36 (by decide) (fun cc => ?_) (fun cc => ?_)
      · replace h := it h cc
        exact hb83 x2 μ _ _ _ hS (lv_sub hl [2] rfl) h
      · replace h := ie h cc
        refine lv_aload_n hx hb dX7_changedSince_39 rfl (lv_at hl 0 rfl) ?_
        refine r_get X hS (T := TX7) (k := 6) (hw.1 μ).1 rfl hiX7 (by decide) mf28 rfl dX7_changedSince_40 ?_
        refine lv_if_ne (tgt := 83) hx hb dX7_changedSince_43 (by decide) (fun cc => ?_) (fun cc => ?_)
        · replace h := ie h cc
          exact hb83 x2 μ _ _ _ hS (lv_sub hl [2] rfl) h
        · replace h := it h cc
          refine lv_iload_n hx hb dX7_changedSince_46 rfl (lv_at hl 2 rfl) ?_
          refine lv_aload_n hx hb dX7_changedSince_47 rfl (lv_at hl 0 rfl) ?_
          refine lv_aload_n hx hb dX7_changedSince_48 rfl (lv_at hl 0 rfl) ?_
          obtain ⟨v4, ev4, h⟩ := ob h
          refine r_ci hS (r_runV (As := []) (rest := [.ref (ad q), .int x2]) X hS (c_X7_now l hE (w := w) (ad := ad) (μ := μ) (D := D) (cI := cI) (cG := cG) (cL := cL) hw ev4) (cwV 0 X.1.2.2.2.2 gX7_changedSince_X7_now rfl rfl rfl (by decide +kernel) ⟨Nat.le_of_ble_eq_true rfl, Nat.le_of_ble_eq_true rfl⟩) (q0 := q) (ci := 5) rfl (hw.1 μ).1 rfl hl.1 rfl (Nat.le_of_ble_eq_true rfl) dX7_changedSince_49 ⟨Nat.zero_le _, Nat.zero_le _⟩) (fun H locs hS => ?_)
          refine lv_iload_n hx hb dX7_changedSince_52 rfl (lv_at hl 3 rfl) ?_
          obtain ⟨v5, ev5, h⟩ := ob h
          refine r_ci hS (r_runV (As := [.int v4, .int x3]) (rest := [.int x2]) X hS (c_X7_valueBy l hE (w := w) (ad := ad) (μ := μ) (D := D) (cI := cI) (cG := cG) (cL := cL) hw ev5) (cwV 2 X.1.2.2.2.2 gX7_changedSince_X7_valueBy rfl rfl rfl (by decide +kernel) ⟨Nat.le_of_ble_eq_true rfl, Nat.le_of_ble_eq_true rfl⟩) (q0 := q) (ci := 5) rfl (hw.1 μ).1 rfl hl.1 rfl (Nat.le_of_ble_eq_true rfl) dX7_changedSince_53 ⟨Nat.zero_le _, Nat.zero_le _⟩) (fun H locs hS => ?_)
          refine lv_aload_n hx hb dX7_changedSince_56 rfl (lv_at hl 0 rfl) ?_
          refine lv_aload_n hx hb dX7_changedSince_57 rfl (lv_at hl 0 rfl) ?_
          refine lv_iload_n hx hb dX7_changedSince_58 rfl (lv_at hl 1 rfl) ?_
          refine lv_iconst (v := 2) hx hb dX7_changedSince_59 (by decide) ?_
          obtain ⟨v6, ev6, h⟩ := ob h
          refine r_ci hS (r_runV (As := [.int x1, .int 2]) (rest := [.ref (ad q), .int v5, .int x2]) X hS (c_X7_ofReader l hE (w := w) (ad := ad) (μ := μ) (D := D) (cI := cI) (cG := cG) (cL := cL) hw ev6) (cwV 2 X.1.2.2.2.2 gX7_changedSince_X7_ofReader rfl rfl rfl (by decide +kernel) ⟨Nat.le_of_ble_eq_true rfl, Nat.le_of_ble_eq_true rfl⟩) (q0 := q) (ci := 5) rfl (hw.1 μ).1 rfl hl.1 rfl (Nat.le_of_ble_eq_true rfl) dX7_changedSince_60 ⟨Nat.zero_le _, Nat.zero_le _⟩) (fun H locs hS => ?_)
          refine lv_iload_n hx hb dX7_changedSince_63 rfl (lv_at hl 3 rfl) ?_
          obtain ⟨v7, ev7, h⟩ := ob h
          refine r_ci hS (r_runV (As := [.int v6, .int x3]) (rest := [.int v5, .int x2]) X hS (c_X7_valueBy l hE (w := w) (ad := ad) (μ := μ) (D := D) (cI := cI) (cG := cG) (cL := cL) hw ev7) (cwV 2 X.1.2.2.2.2 gX7_changedSince_X7_valueBy rfl rfl rfl (by decide +kernel) ⟨Nat.le_of_ble_eq_true rfl, Nat.le_of_ble_eq_true rfl⟩) (q0 := q) (ci := 5) rfl (hw.1 μ).1 rfl hl.1 rfl (Nat.le_of_ble_eq_true rfl) dX7_changedSince_64 ⟨Nat.zero_le _, Nat.zero_le _⟩) (fun H locs hS => ?_)
          refine lv_icmp_ne (tgt := 74) hx hb dX7_changedSince_67 (by decide) (fun cc => ?_) (fun cc => ?_)
          · replace h := ie h cc
            refine lv_iconst (v := 1) hx hb dX7_changedSince_74 (by decide) ?_
            exact hb75 (f_X7_changedSince_b33 q fuel33) ih33 x1 x3 1 x2 μ _ _ _ hS (lv_sub hl [0, 1, 3] rfl) h
          · replace h := it h cc
            refine lv_iconst (v := 0) hx hb dX7_changedSince_70 (by decide) ?_
            refine lv_goto (tgt := 75) hx hb dX7_changedSince_71 (by decide) ?_
            exact hb75 (f_X7_changedSince_b33 q fuel33) ih33 x1 x3 0 x2 μ _ _ _ hS (lv_sub hl [0, 1, 3] rfl) h
  have hb26 : ∀ (x1 : Int32) (s0 : Int32) (μ : Mem) (H : Heap) (locs : List Loc) (ls : Array Slot), HS D A (w μ) s.heap H locs → lv_has ls 4 [(0, .ref (ad q)), (1, .int x1)] → f_X7_changedSince_b26 q x1 s0 μ = some (r, μ') → W p l e (headSpec wsX7_changedSince (rmk 4 92)).room s m args below meth c H locs 0 0 (MQ below (PI D A (w μ') r) args s 0 0 A) (F0 m 26 ls [.int s0, .ref (ad q)]) := by
    intro x1 s0 μ H locs ls hS hl h
    unfold f_X7_changedSince_b26 at h
    obtain ⟨μ3, eμ3, h⟩ := ob h
    refine r_putp (w := w) X hS (T := TX7) (k := 6) eμ3 hw.1 rfl hiX7 tyX7 tyX7_ok nmX7 (by decide) mf28 rfl rfl rfl (Nat.le_of_ble_eq_true rfl) rfl dX7_changedSince_26 (fun H locs hS => ?_)
    refine lv_iconst (v := 0) hx hb dX7_changedSince_29 (by decide) ?_
    refine lv_istore_n (lv' := [(2, .int 0), (0, .ref (ad q)), (1, .int x1)]) hx hb dX7_changedSince_30 rfl hl (by decide) rfl (fun ls hl => ?_)
    refine lv_iconst (v := 0) hx hb dX7_changedSince_31 (by decide) ?_
    refine lv_istore_n (lv' := [(3, .int 0), (2, .int 0), (0, .ref (ad q)), (1, .int x1)]) hx hb dX7_changedSince_32 rfl hl (by decide) rfl (fun ls hl => ?_)
    exact hb33 FU x1 0 0 μ3 _ _ _ hS (lv_sub hl [2, 3, 1, 0] rfl) h
  unfold f_X7_changedSince at h
  refine lv_aload_n hx hb dX7_changedSince_0 rfl (lv_at hl 0 rfl) ?_
  refine lv_iload_n hx hb dX7_changedSince_1 rfl (lv_at hl 1 rfl) ?_
  obtain ⟨v1, ev1, h⟩ := ob h
  refine r_ci hS (r_runS (As := [.int a1]) (rest := [.ref (ad q)]) X hS (c_X7_isReader l hE (w := w) (ad := ad) (μ := μ) (D := D) (cI := cI) (cG := cG) (cL := cL) ev1) (va_cwS 1 X.1.2.2.2.2 gX7_changedSince_X7_isReader rfl rfl rfl (by decide +kernel) ⟨Nat.le_of_ble_eq_true rfl, Nat.le_of_ble_eq_true rfl⟩) rfl hl.1 rfl (Nat.le_of_ble_eq_true rfl) dX7_changedSince_2 ⟨Nat.zero_le _, Nat.zero_le _⟩) (fun H locs hS => ?_)
  refine lv_if_ne (tgt := 12) hx hb dX7_changedSince_5 (by decide) (fun cc => ?_) (fun cc => ?_)
  · replace h := ie h cc
    refine lv_aload_n hx hb dX7_changedSince_12 rfl (lv_at hl 0 rfl) ?_
    refine lv_iload_n hx hb dX7_changedSince_13 rfl (lv_at hl 1 rfl) ?_
    refine lv_iconst (v := 0) hx hb dX7_changedSince_14 (by decide) ?_
    obtain ⟨v2, ev2, h⟩ := ob h
    refine r_ci hS (r_runV (As := [.int a1, .int 0]) (rest := [.ref (ad q)]) X hS (c_X7_ofReader l hE (w := w) (ad := ad) (μ := μ) (D := D) (cI := cI) (cG := cG) (cL := cL) hw ev2) (cwV 2 X.1.2.2.2.2 gX7_changedSince_X7_ofReader rfl rfl rfl (by decide +kernel) ⟨Nat.le_of_ble_eq_true rfl, Nat.le_of_ble_eq_true rfl⟩) (q0 := q) (ci := 5) rfl (hw.1 μ).1 rfl hl.1 rfl (Nat.le_of_ble_eq_true rfl) dX7_changedSince_15 ⟨Nat.zero_le _, Nat.zero_le _⟩) (fun H locs hS => ?_)
    refine lv_if_ne (tgt := 25) hx hb dX7_changedSince_18 (by decide) (fun cc => ?_) (fun cc => ?_)
    · replace h := ie h cc
      refine lv_iconst (v := 0) hx hb dX7_changedSince_25 (by decide) ?_
      exact hb26 a1 0 μ _ _ _ hS (lv_sub hl [0, 1] rfl) h
    · replace h := it h cc
      refine lv_iconst (v := 2) hx hb dX7_changedSince_21 (by decide) ?_
      refine lv_goto (tgt := 26) hx hb dX7_changedSince_22 (by decide) ?_
      exact hb26 a1 2 μ _ _ _ hS (lv_sub hl [0, 1] rfl) h
  · replace h := it h cc
    refine lv_iconst (v := 1) hx hb dX7_changedSince_8 (by decide) ?_
    refine lv_goto (tgt := 26) hx hb dX7_changedSince_9 (by decide) ?_
    exact hb26 a1 1 μ _ _ _ hS (lv_sub hl [0, 1] rfl) h
def f_X7_type (q : Nat) (a1 : Int32) (μ : Mem) : Option (Int32 × Mem) := (pf μ q 6 0).bind (fun μ1 => (f_X7_in a1 0 127).bind (fun v2 => (if v2 = 0 then bn2 (f_X7_fails q 1 μ1) (fun v7 μ8 => (some (v7, μ8))) else (if (μ1 q 5) = 150 then bn2 (f_X7_fails q 2 μ1) (fun v5 μ6 => (some (v5, μ6))) else (wr μ1 (q + 4) 150 (μ1 q 5) a1).bind (fun μ3 => (pf μ3 q 5 ((μ3 q 5) + 1)).bind (fun μ4 => (some (μ4 q 5, μ4))))))))
set_option maxHeartbeats 4000000 in
set_option maxRecDepth 100000 in
theorem c_X7_type (l : Launch) {D : va_G} {cI cG cL : ClassId} {A : Nat → Prop} {EN : State → Heap → Prop} (hE : EnOK EN A) {w : Mem → va_W} {ad : Nat → Nat} {hh : Int64} {q : Nat} {a1 : Int32} {μ : Mem} {r : Int32} {μ' : Mem} (hw : ModelAt cI w ad hh q) (h : f_X7_type q a1 μ = some (r, μ')) : Met l yX7_type wsX7_type (rmk 1 22) (WPre D (tyl cI cG cL) A EN (w μ) [.ref (ad q), .int a1]) (PI D A (w μ') r) 0 0 A := by
  have hiX7 : ∀ w ∈ u_ws RX7 TX7 13, w ∈ wsX7_type := by decide +kernel
  have mf28 : Cond.fieldLink RX7 28 (TX7 6).1 (TX7 6).2.1 (TX7 6).2.2.1 ∈ wsX7_type := by decide +kernel
  have mf211 : Cond.fieldLink RX7 211 (TX7 5).1 (TX7 5).2.1 (TX7 5).2.2.1 ∈ wsX7_type := by decide +kernel
  have mf19 : Cond.fieldLink RX7 19 (TX7 4).1 (TX7 4).2.1 (TX7 4).2.2.1 ∈ wsX7_type := by decide +kernel
  refine met_start (cc := cX7_type) (nL := 2) (ret := (some .int)) (own := RX7) hE (by decide) rfl rfl (Nat.le_of_ble_eq_true rfl) (fun p e s m args below meth c ls X hS hl hr hlk => ?_)
  have hx := X.1.1
  have hb := X.1.2.1
  replace hl : lv_has ls 2 [(0, .ref (ad q)), (1, .int a1)] := hl
  unfold f_X7_type at h
  refine lv_aload_n hx hb dX7_type_0 rfl (lv_at hl 0 rfl) ?_
  refine lv_iconst (v := 0) hx hb dX7_type_1 (by decide) ?_
  obtain ⟨μ1, eμ1, h⟩ := ob h
  refine r_putp (w := w) X hS (T := TX7) (k := 6) eμ1 hw.1 rfl hiX7 tyX7 tyX7_ok nmX7 (by decide) mf28 rfl rfl rfl (Nat.le_of_ble_eq_true rfl) rfl dX7_type_2 (fun H locs hS => ?_)
  refine lv_iload_n hx hb dX7_type_5 rfl (lv_at hl 1 rfl) ?_
  refine lv_iconst (v := 0) hx hb dX7_type_6 (by decide) ?_
  refine lv_bipush (v := 127) hx hb dX7_type_7 (by decide) ?_
  obtain ⟨v2, ev2, h⟩ := ob h
  refine r_ci hS (r_runS (As := [.int a1, .int 0, .int 127]) (rest := []) X hS (c_X7_in l hE (w := w) (ad := ad) (μ := μ1) (D := D) (cI := cI) (cG := cG) (cL := cL) ev2) (va_cwS 3 X.1.2.2.2.2 gX7_type_X7_in rfl rfl rfl (by decide +kernel) ⟨Nat.le_of_ble_eq_true rfl, Nat.le_of_ble_eq_true rfl⟩) rfl hl.1 rfl (Nat.le_of_ble_eq_true rfl) dX7_type_9 ⟨Nat.zero_le _, Nat.zero_le _⟩) (fun H locs hS => ?_)
  refine lv_if_ne (tgt := 21) hx hb dX7_type_12 (by decide) (fun cc => ?_) (fun cc => ?_)
  · replace h := ie h cc
    refine lv_aload_n hx hb dX7_type_21 rfl (lv_at hl 0 rfl) ?_
    refine r_get X hS (T := TX7) (k := 5) (hw.1 μ1).1 rfl hiX7 (by decide) mf211 rfl dX7_type_22 ?_
    refine lv_sipush (v := 150) hx hb dX7_type_25 (by decide) ?_
    refine lv_icmp_ne (tgt := 37) hx hb dX7_type_28 (by decide) (fun cc => ?_) (fun cc => ?_)
    · replace h := ie h cc
      refine lv_aload_n hx hb dX7_type_37 rfl (lv_at hl 0 rfl) ?_
      refine r_get X hS (T := TX7) (k := 4) (hw.1 μ1).1 rfl hiX7 (by decide) mf19 rfl dX7_type_38 ?_
      refine lv_aload_n hx hb dX7_type_41 rfl (lv_at hl 0 rfl) ?_
      refine r_get X hS (T := TX7) (k := 5) (hw.1 μ1).1 rfl hiX7 (by decide) mf211 rfl dX7_type_42 ?_
      refine lv_iload_n hx hb dX7_type_45 rfl (lv_at hl 1 rfl) ?_
      obtain ⟨μ3, eμ3, h⟩ := ob h
      refine r_iast X hS hw.2.2.2.2.1 eμ3 dX7_type_46 (fun H locs hS => ?_)
      refine lv_aload_n hx hb dX7_type_47 rfl (lv_at hl 0 rfl) ?_
      refine lv_dup hx hb dX7_type_48 rfl ?_
      refine r_get X hS (T := TX7) (k := 5) (hw.1 μ3).1 rfl hiX7 (by decide) mf211 rfl dX7_type_49 ?_
      refine lv_iconst (v := 1) hx hb dX7_type_52 (by decide) ?_
      refine lv_iadd hx hb dX7_type_53 ?_
      obtain ⟨μ4, eμ4, h⟩ := ob h
      refine r_putp (w := w) X hS (T := TX7) (k := 5) eμ4 hw.1 rfl hiX7 tyX7 tyX7_ok nmX7 (by decide) mf211 rfl rfl rfl (Nat.le_of_ble_eq_true rfl) rfl dX7_type_54 (fun H locs hS => ?_)
      refine lv_aload_n hx hb dX7_type_57 rfl (lv_at hl 0 rfl) ?_
      refine r_get X hS (T := TX7) (k := 5) (hw.1 μ4).1 rfl hiX7 (by decide) mf211 rfl dX7_type_58 ?_
      obtain ⟨rfl, rfl⟩ := pr2 h
      exact r_iret X hS hr hlk dX7_type_61
    · replace h := it h cc
      refine lv_aload_n hx hb dX7_type_31 rfl (lv_at hl 0 rfl) ?_
      refine lv_iconst (v := 2) hx hb dX7_type_32 (by decide) ?_
      obtain ⟨v5, μ6, ev5, h⟩ := ob2 h
      refine r_ci hS (r_runV (As := [.int 2]) (rest := []) X hS (c_X7_fails l hE (w := w) (ad := ad) (μ := μ1) (D := D) (cI := cI) (cG := cG) (cL := cL) hw ev5) (cwV 1 X.1.2.2.2.2 gX7_type_X7_fails rfl rfl rfl (by decide +kernel) ⟨Nat.le_of_ble_eq_true rfl, Nat.le_of_ble_eq_true rfl⟩) (q0 := q) (ci := 5) rfl (hw.1 μ1).1 rfl hl.1 rfl (Nat.le_of_ble_eq_true rfl) dX7_type_33 ⟨Nat.zero_le _, Nat.zero_le _⟩) (fun H locs hS => ?_)
      obtain ⟨rfl, rfl⟩ := pr2 h
      exact r_iret X hS hr hlk dX7_type_36
  · replace h := it h cc
    refine lv_aload_n hx hb dX7_type_15 rfl (lv_at hl 0 rfl) ?_
    refine lv_iconst (v := 1) hx hb dX7_type_16 (by decide) ?_
    obtain ⟨v7, μ8, ev7, h⟩ := ob2 h
    refine r_ci hS (r_runV (As := [.int 1]) (rest := []) X hS (c_X7_fails l hE (w := w) (ad := ad) (μ := μ1) (D := D) (cI := cI) (cG := cG) (cL := cL) hw ev7) (cwV 1 X.1.2.2.2.2 gX7_type_X7_fails rfl rfl rfl (by decide +kernel) ⟨Nat.le_of_ble_eq_true rfl, Nat.le_of_ble_eq_true rfl⟩) (q0 := q) (ci := 5) rfl (hw.1 μ1).1 rfl hl.1 rfl (Nat.le_of_ble_eq_true rfl) dX7_type_17 ⟨Nat.zero_le _, Nat.zero_le _⟩) (fun H locs hS => ?_)
    obtain ⟨rfl, rfl⟩ := pr2 h
    exact r_iret X hS hr hlk dX7_type_20
def f_X7_clearCommands (q : Nat) (μ : Mem) : Option (Int32 × Mem) := (pf μ q 6 0).bind (fun μ1 => (pf μ1 q 5 0).bind (fun μ2 => (some (μ1 q 5, μ2))))
set_option maxHeartbeats 4000000 in
set_option maxRecDepth 100000 in
theorem c_X7_clearCommands (l : Launch) {D : va_G} {cI cG cL : ClassId} {A : Nat → Prop} {EN : State → Heap → Prop} (hE : EnOK EN A) {w : Mem → va_W} {ad : Nat → Nat} {hh : Int64} {q : Nat} {μ : Mem} {r : Int32} {μ' : Mem} (hw : ModelAt cI w ad hh q) (h : f_X7_clearCommands q μ = some (r, μ')) : Met l yX7_clearCommands wsX7_clearCommands (rmk 0 0) (WPre D (tyl cI cG cL) A EN (w μ) [.ref (ad q)]) (PI D A (w μ') r) 0 0 A := by
  have hiX7 : ∀ w ∈ u_ws RX7 TX7 13, w ∈ wsX7_clearCommands := by decide +kernel
  have mf28 : Cond.fieldLink RX7 28 (TX7 6).1 (TX7 6).2.1 (TX7 6).2.2.1 ∈ wsX7_clearCommands := by decide +kernel
  have mf211 : Cond.fieldLink RX7 211 (TX7 5).1 (TX7 5).2.1 (TX7 5).2.2.1 ∈ wsX7_clearCommands := by decide +kernel
  refine met_start (cc := cX7_clearCommands) (nL := 2) (ret := (some .int)) (own := RX7) hE (by decide) rfl rfl (Nat.le_of_ble_eq_true rfl) (fun p e s m args below meth c ls X hS hl hr hlk => ?_)
  have hx := X.1.1
  have hb := X.1.2.1
  replace hl : lv_has ls 2 [(0, .ref (ad q))] := hl
  unfold f_X7_clearCommands at h
  refine lv_aload_n hx hb dX7_clearCommands_0 rfl (lv_at hl 0 rfl) ?_
  refine lv_iconst (v := 0) hx hb dX7_clearCommands_1 (by decide) ?_
  obtain ⟨μ1, eμ1, h⟩ := ob h
  refine r_putp (w := w) X hS (T := TX7) (k := 6) eμ1 hw.1 rfl hiX7 tyX7 tyX7_ok nmX7 (by decide) mf28 rfl rfl rfl (Nat.le_of_ble_eq_true rfl) rfl dX7_clearCommands_2 (fun H locs hS => ?_)
  refine lv_aload_n hx hb dX7_clearCommands_5 rfl (lv_at hl 0 rfl) ?_
  refine r_get X hS (T := TX7) (k := 5) (hw.1 μ1).1 rfl hiX7 (by decide) mf211 rfl dX7_clearCommands_6 ?_
  refine lv_istore_n (lv' := [(1, .int (μ1 q 5)), (0, .ref (ad q))]) hx hb dX7_clearCommands_9 rfl hl (by decide) rfl (fun ls hl => ?_)
  refine lv_aload_n hx hb dX7_clearCommands_10 rfl (lv_at hl 1 rfl) ?_
  refine lv_iconst (v := 0) hx hb dX7_clearCommands_11 (by decide) ?_
  obtain ⟨μ2, eμ2, h⟩ := ob h
  refine r_putp (w := w) X hS (T := TX7) (k := 5) eμ2 hw.1 rfl hiX7 tyX7 tyX7_ok nmX7 (by decide) mf211 rfl rfl rfl (Nat.le_of_ble_eq_true rfl) rfl dX7_clearCommands_12 (fun H locs hS => ?_)
  refine lv_iload_n hx hb dX7_clearCommands_15 rfl (lv_at hl 0 rfl) ?_
  obtain ⟨rfl, rfl⟩ := pr2 h
  exact r_iret X hS hr hlk dX7_clearCommands_16
def f_X7_here_b24 (q : Nat) (s0 : Int32) (μ : Mem) : Option Int32 := (some s0)
def f_X7_here (q : Nat) (μ : Mem) : Option Int32 := (if (μ q 5) ≤ (μ q 9) then f_X7_here_b24 q (-1) μ else (rd 150 (μ (q + 4)) (μ q 9)).bind (fun v1 => f_X7_here_b24 q v1 μ))
set_option maxHeartbeats 4000000 in
set_option maxRecDepth 100000 in
theorem c_X7_here (l : Launch) {D : va_G} {cI cG cL : ClassId} {A : Nat → Prop} {EN : State → Heap → Prop} (hE : EnOK EN A) {w : Mem → va_W} {ad : Nat → Nat} {hh : Int64} {q : Nat} {μ : Mem} {r : Int32} (hw : ModelAt cI w ad hh q) (h : f_X7_here q μ = some r) : Met l yX7_here wsX7_here (rmk 0 0) (WPre D (tyl cI cG cL) A EN (w μ) [.ref (ad q)]) (PI D A (w μ) r) 0 0 A := by
  have hiX7 : ∀ w ∈ u_ws RX7 TX7 13, w ∈ wsX7_here := by decide +kernel
  have mf220 : Cond.fieldLink RX7 220 (TX7 9).1 (TX7 9).2.1 (TX7 9).2.2.1 ∈ wsX7_here := by decide +kernel
  have mf211 : Cond.fieldLink RX7 211 (TX7 5).1 (TX7 5).2.1 (TX7 5).2.2.1 ∈ wsX7_here := by decide +kernel
  have mf19 : Cond.fieldLink RX7 19 (TX7 4).1 (TX7 4).2.1 (TX7 4).2.2.1 ∈ wsX7_here := by decide +kernel
  refine met_start (cc := cX7_here) (nL := 1) (ret := (some .int)) (own := RX7) hE (by decide) rfl rfl (Nat.le_of_ble_eq_true rfl) (fun p e s m args below meth c ls X hS hl hr hlk => ?_)
  have hx := X.1.1
  have hb := X.1.2.1
  replace hl : lv_has ls 1 [(0, .ref (ad q))] := hl
  have hb24 : ∀ (s0 : Int32) (H : Heap) (locs : List Loc) (ls : Array Slot), HS D A (w μ) s.heap H locs → lv_has ls 1 [] → f_X7_here_b24 q s0 μ = some r → W p l e (headSpec wsX7_here (rmk 0 0)).room s m args below meth c H locs 0 0 (MQ below (PI D A (w μ) r) args s 0 0 A) (F0 m 24 ls [.int s0]) := by
    intro s0 H locs ls hS hl h
    unfold f_X7_here_b24 at h
    cases h
    exact r_iret X hS hr hlk dX7_here_24
  unfold f_X7_here at h
  refine lv_aload_n hx hb dX7_here_0 rfl (lv_at hl 0 rfl) ?_
  refine r_get X hS (T := TX7) (k := 9) (hw.1 μ).1 rfl hiX7 (by decide) mf220 rfl dX7_here_1 ?_
  refine lv_aload_n hx hb dX7_here_4 rfl (lv_at hl 0 rfl) ?_
  refine r_get X hS (T := TX7) (k := 5) (hw.1 μ).1 rfl hiX7 (by decide) mf211 rfl dX7_here_5 ?_
  refine lv_icmp_ge (tgt := 23) hx hb dX7_here_8 (by decide) (fun cc => ?_) (fun cc => ?_)
  · replace h := it h cc
    refine lv_iconst (v := (-1)) hx hb dX7_here_23 (by decide) ?_
    exact hb24 (-1) _ _ _ hS (lv_sub hl [] rfl) h
  · replace h := ie h cc
    refine lv_aload_n hx hb dX7_here_11 rfl (lv_at hl 0 rfl) ?_
    refine r_get X hS (T := TX7) (k := 4) (hw.1 μ).1 rfl hiX7 (by decide) mf19 rfl dX7_here_12 ?_
    refine lv_aload_n hx hb dX7_here_15 rfl (lv_at hl 0 rfl) ?_
    refine r_get X hS (T := TX7) (k := 9) (hw.1 μ).1 rfl hiX7 (by decide) mf220 rfl dX7_here_16 ?_
    obtain ⟨v1, ev1, h⟩ := ob h
    refine r_iald X hS (hw.2.2.2.2.1 μ).1 ev1 dX7_here_19 ?_
    refine lv_goto (tgt := 24) hx hb dX7_here_20 (by decide) ?_
    exact hb24 v1 _ _ _ hS (lv_sub hl [] rfl) h
def f_X7_spaces_b0 (q : Nat)  : Nat → Mem → Option Mem
  | 0, _ => none
  | fuel0 + 1, μ => (f_X7_here q μ).bind (fun v1 => (if v1 = 32 then (pf μ q 9 ((μ q 9) + 1)).bind (fun μ2 => f_X7_spaces_b0 q fuel0 μ2) else (some μ)))
def f_X7_spaces (q : Nat) (μ : Mem) : Option Mem := f_X7_spaces_b0 q FU μ
set_option maxHeartbeats 4000000 in
set_option maxRecDepth 100000 in
theorem c_X7_spaces (l : Launch) {D : va_G} {cI cG cL : ClassId} {A : Nat → Prop} {EN : State → Heap → Prop} (hE : EnOK EN A) {w : Mem → va_W} {ad : Nat → Nat} {hh : Int64} {q : Nat} {μ : Mem}  {μ' : Mem} (hw : ModelAt cI w ad hh q) (h : f_X7_spaces q μ = some μ') : Met l yX7_spaces wsX7_spaces (rmk 1 20) (WPre D (tyl cI cG cL) A EN (w μ) [.ref (ad q)]) (PV D A (w μ')) 0 0 A := by
  have hiX7 : ∀ w ∈ u_ws RX7 TX7 13, w ∈ wsX7_spaces := by decide +kernel
  have mf220 : Cond.fieldLink RX7 220 (TX7 9).1 (TX7 9).2.1 (TX7 9).2.2.1 ∈ wsX7_spaces := by decide +kernel
  refine met_start (cc := cX7_spaces) (nL := 1) (ret := none) (own := RX7) hE (by decide) rfl rfl (Nat.le_of_ble_eq_true rfl) (fun p e s m args below meth c ls X hS hl hr hlk => ?_)
  have hx := X.1.1
  have hb := X.1.2.1
  replace hl : lv_has ls 1 [(0, .ref (ad q))] := hl
  have hb0 : ∀ (fu : Nat)  (μ : Mem) (H : Heap) (locs : List Loc) (ls : Array Slot), HS D A (w μ) s.heap H locs → lv_has ls 1 [(0, .ref (ad q))] → f_X7_spaces_b0 q fu μ = some μ' → W p l e (headSpec wsX7_spaces (rmk 1 20)).room s m args below meth c H locs 0 0 (MQ below (PV D A (w μ')) args s 0 0 A) (F0 m 0 ls []) := by
    intro fu
    induction fu with
    | zero =>
      intro μ H locs ls hS hl h
      rw [f_X7_spaces_b0] at h
      cases h
    | succ fuel0 ih0 =>
      intro μ H locs ls hS hl h
      rw [f_X7_spaces_b0] at h
      refine lv_aload_n hx hb dX7_spaces_0 rfl (lv_at hl 0 rfl) ?_
      obtain ⟨v1, ev1, h⟩ := ob h
      refine r_ci hS (r_runV (As := []) (rest := []) X hS (c_X7_here l hE (w := w) (ad := ad) (μ := μ) (D := D) (cI := cI) (cG := cG) (cL := cL) hw ev1) (cwV 0 X.1.2.2.2.2 gX7_spaces_X7_here rfl rfl rfl (by decide +kernel) ⟨Nat.le_of_ble_eq_true rfl, Nat.le_of_ble_eq_true rfl⟩) (q0 := q) (ci := 5) rfl (hw.1 μ).1 rfl hl.1 rfl (Nat.le_of_ble_eq_true rfl) dX7_spaces_1 ⟨Nat.zero_le _, Nat.zero_le _⟩) (fun H locs hS => ?_)
      refine lv_bipush (v := 32) hx hb dX7_spaces_4 (by decide) ?_
      refine lv_icmp_ne (tgt := 22) hx hb dX7_spaces_6 (by decide) (fun cc => ?_) (fun cc => ?_)
      · replace h := ie h cc
        cases h
        exact r_vret X hS hr hlk dX7_spaces_22
      · replace h := it h cc
        refine lv_aload_n hx hb dX7_spaces_9 rfl (lv_at hl 0 rfl) ?_
        refine lv_dup hx hb dX7_spaces_10 rfl ?_
        refine r_get X hS (T := TX7) (k := 9) (hw.1 μ).1 rfl hiX7 (by decide) mf220 rfl dX7_spaces_11 ?_
        refine lv_iconst (v := 1) hx hb dX7_spaces_14 (by decide) ?_
        refine lv_iadd hx hb dX7_spaces_15 ?_
        obtain ⟨μ2, eμ2, h⟩ := ob h
        refine r_putp (w := w) X hS (T := TX7) (k := 9) eμ2 hw.1 rfl hiX7 tyX7 tyX7_ok nmX7 (by decide) mf220 rfl rfl rfl (Nat.le_of_ble_eq_true rfl) rfl dX7_spaces_16 (fun H locs hS => ?_)
        refine lv_goto (tgt := 0) hx hb dX7_spaces_19 (by decide) ?_
        exact ih0 μ2 _ _ _ hS (lv_sub hl [0] rfl) h
  unfold f_X7_spaces at h
  exact hb0 FU μ _ _ _ hS (lv_sub hl [0] rfl) h
def f_X7_meaning_b87  (s0 : Int32)  : Option Int32 := (some s0)
def f_X7_meaning (a0 : Int64) : Option Int32 := (if (lg_cmp a0 2268462) = 0 then f_X7_meaning_b87 1 else (if (lg_cmp a0 17076) = 0 then f_X7_meaning_b87 2 else (if (lg_cmp a0 150000) = 0 then f_X7_meaning_b87 3 else (if (lg_cmp a0 116831540) = 0 then f_X7_meaning_b87 4 else (if (lg_cmp a0 1130068) = 0 then f_X7_meaning_b87 5 else (if (lg_cmp a0 508078) = 0 then f_X7_meaning_b87 6 else (if (lg_cmp a0 3554917) = 0 then f_X7_meaning_b87 7 else f_X7_meaning_b87 0)))))))
set_option maxHeartbeats 4000000 in
set_option maxRecDepth 100000 in
theorem c_X7_meaning (l : Launch) {D : va_G} {cI cG cL : ClassId} {A : Nat → Prop} {EN : State → Heap → Prop} (hE : EnOK EN A) {w : Mem → va_W} {ad : Nat → Nat} {a0 : Int64} {μ : Mem} {r : Int32}  (h : f_X7_meaning a0 = some r) : Met l yX7_meaning wsX7_meaning (rmk 0 0) (WPre D (tyl cI cG cL) A EN (w μ) [.long a0]) (PI D A (w μ) r) 0 0 A := by
  have mc226 : Cond.constantLong RX7 226 2268462 ∈ wsX7_meaning := by decide +kernel
  have mc228 : Cond.constantLong RX7 228 17076 ∈ wsX7_meaning := by decide +kernel
  have mc230 : Cond.constantLong RX7 230 150000 ∈ wsX7_meaning := by decide +kernel
  have mc232 : Cond.constantLong RX7 232 116831540 ∈ wsX7_meaning := by decide +kernel
  have mc234 : Cond.constantLong RX7 234 1130068 ∈ wsX7_meaning := by decide +kernel
  have mc236 : Cond.constantLong RX7 236 508078 ∈ wsX7_meaning := by decide +kernel
  have mc238 : Cond.constantLong RX7 238 3554917 ∈ wsX7_meaning := by decide +kernel
  refine met_start (cc := cX7_meaning) (nL := 2) (ret := (some .int)) (own := RX7) hE (by decide) rfl rfl (Nat.le_of_ble_eq_true rfl) (fun p e s m args below meth c ls X hS hl hr hlk => ?_)
  have hx := X.1.1
  have hb := X.1.2.1
  replace hl : lv_has ls 2 [(0, .long a0)] := hl
  have hb87 : ∀ (s0 : Int32) (H : Heap) (locs : List Loc) (ls : Array Slot), HS D A (w μ) s.heap H locs → lv_has ls 2 [] → f_X7_meaning_b87 s0 = some r → W p l e (headSpec wsX7_meaning (rmk 0 0)).room s m args below meth c H locs 0 0 (MQ below (PI D A (w μ) r) args s 0 0 A) (F0 m 87 ls [.int s0]) := by
    intro s0 H locs ls hS hl h
    unfold f_X7_meaning_b87 at h
    cases h
    exact r_iret X hS hr hlk dX7_meaning_87
  unfold f_X7_meaning at h
  refine lv_lload_n hx hb dX7_meaning_0 rfl (lv_at hl 0 rfl) ?_
  refine lv_ldc2 (v := 2268462) hx hb X.1.2.2.2.1 (X.1.2.2.2.2 _ mc226) dX7_meaning_1 ?_
  refine W.lcmp hx hb dX7_meaning_4 ?_
  refine lv_if_ne (tgt := 12) hx hb dX7_meaning_5 (by decide) (fun cc => ?_) (fun cc => ?_)
  · replace h := ie h cc
    refine lv_lload_n hx hb dX7_meaning_12 rfl (lv_at hl 0 rfl) ?_
    refine lv_ldc2 (v := 17076) hx hb X.1.2.2.2.1 (X.1.2.2.2.2 _ mc228) dX7_meaning_13 ?_
    refine W.lcmp hx hb dX7_meaning_16 ?_
    refine lv_if_ne (tgt := 24) hx hb dX7_meaning_17 (by decide) (fun cc => ?_) (fun cc => ?_)
    · replace h := ie h cc
      refine lv_lload_n hx hb dX7_meaning_24 rfl (lv_at hl 0 rfl) ?_
      refine lv_ldc2 (v := 150000) hx hb X.1.2.2.2.1 (X.1.2.2.2.2 _ mc230) dX7_meaning_25 ?_
      refine W.lcmp hx hb dX7_meaning_28 ?_
      refine lv_if_ne (tgt := 36) hx hb dX7_meaning_29 (by decide) (fun cc => ?_) (fun cc => ?_)
      · replace h := ie h cc
        refine lv_lload_n hx hb dX7_meaning_36 rfl (lv_at hl 0 rfl) ?_
        refine lv_ldc2 (v := 116831540) hx hb X.1.2.2.2.1 (X.1.2.2.2.2 _ mc232) dX7_meaning_37 ?_
        refine W.lcmp hx hb dX7_meaning_40 ?_
        refine lv_if_ne (tgt := 48) hx hb dX7_meaning_41 (by decide) (fun cc => ?_) (fun cc => ?_)
        · replace h := ie h cc
          refine lv_lload_n hx hb dX7_meaning_48 rfl (lv_at hl 0 rfl) ?_
          refine lv_ldc2 (v := 1130068) hx hb X.1.2.2.2.1 (X.1.2.2.2.2 _ mc234) dX7_meaning_49 ?_
          refine W.lcmp hx hb dX7_meaning_52 ?_
          refine lv_if_ne (tgt := 60) hx hb dX7_meaning_53 (by decide) (fun cc => ?_) (fun cc => ?_)
          · replace h := ie h cc
            refine lv_lload_n hx hb dX7_meaning_60 rfl (lv_at hl 0 rfl) ?_
            refine lv_ldc2 (v := 508078) hx hb X.1.2.2.2.1 (X.1.2.2.2.2 _ mc236) dX7_meaning_61 ?_
            refine W.lcmp hx hb dX7_meaning_64 ?_
            refine lv_if_ne (tgt := 73) hx hb dX7_meaning_65 (by decide) (fun cc => ?_) (fun cc => ?_)
            · replace h := ie h cc
              refine lv_lload_n hx hb dX7_meaning_73 rfl (lv_at hl 0 rfl) ?_
              refine lv_ldc2 (v := 3554917) hx hb X.1.2.2.2.1 (X.1.2.2.2.2 _ mc238) dX7_meaning_74 ?_
              refine W.lcmp hx hb dX7_meaning_77 ?_
              refine lv_if_ne (tgt := 86) hx hb dX7_meaning_78 (by decide) (fun cc => ?_) (fun cc => ?_)
              · replace h := ie h cc
                refine lv_iconst (v := 0) hx hb dX7_meaning_86 (by decide) ?_
                exact hb87 0 _ _ _ hS (lv_sub hl [] rfl) h
              · replace h := it h cc
                refine lv_bipush (v := 7) hx hb dX7_meaning_81 (by decide) ?_
                refine lv_goto (tgt := 87) hx hb dX7_meaning_83 (by decide) ?_
                exact hb87 7 _ _ _ hS (lv_sub hl [] rfl) h
            · replace h := it h cc
              refine lv_bipush (v := 6) hx hb dX7_meaning_68 (by decide) ?_
              refine lv_goto (tgt := 87) hx hb dX7_meaning_70 (by decide) ?_
              exact hb87 6 _ _ _ hS (lv_sub hl [] rfl) h
          · replace h := it h cc
            refine lv_iconst (v := 5) hx hb dX7_meaning_56 (by decide) ?_
            refine lv_goto (tgt := 87) hx hb dX7_meaning_57 (by decide) ?_
            exact hb87 5 _ _ _ hS (lv_sub hl [] rfl) h
        · replace h := it h cc
          refine lv_iconst (v := 4) hx hb dX7_meaning_44 (by decide) ?_
          refine lv_goto (tgt := 87) hx hb dX7_meaning_45 (by decide) ?_
          exact hb87 4 _ _ _ hS (lv_sub hl [] rfl) h
      · replace h := it h cc
        refine lv_iconst (v := 3) hx hb dX7_meaning_32 (by decide) ?_
        refine lv_goto (tgt := 87) hx hb dX7_meaning_33 (by decide) ?_
        exact hb87 3 _ _ _ hS (lv_sub hl [] rfl) h
    · replace h := it h cc
      refine lv_iconst (v := 2) hx hb dX7_meaning_20 (by decide) ?_
      refine lv_goto (tgt := 87) hx hb dX7_meaning_21 (by decide) ?_
      exact hb87 2 _ _ _ hS (lv_sub hl [] rfl) h
  · replace h := it h cc
    refine lv_iconst (v := 1) hx hb dX7_meaning_8 (by decide) ?_
    refine lv_goto (tgt := 87) hx hb dX7_meaning_9 (by decide) ?_
    exact hb87 1 _ _ _ hS (lv_sub hl [] rfl) h
def f_X7_readWord_b104 (q : Nat) (s0 : Int32) (μ : Mem) : Option (Int32 × Mem) := (zr s0).bind (fun v6 => (some (v6, μ)))
def f_X7_readWord_b89 (q : Nat) (s0 : Int32) (μ : Mem) : Option (Int32 × Mem) := (pf μ q 9 s0).bind (fun μ5 => (if (μ5 q 10) = 0 then f_X7_readWord_b104 q 0 μ5 else f_X7_readWord_b104 q 1 μ5))
def f_X7_readWord_b51 (q : Nat) (k7 : Int32 → Int64 → Mem → Option (Int32 × Mem)) (x1 : Int32) (s0 : Int64) (μ : Mem) : Option (Int32 × Mem) := (pf μ q 9 ((μ q 9) + 1)).bind (fun μ7 => k7 x1 s0 μ7)
def f_X7_readWord_b7 (q : Nat)  : Nat → Int32 → Int64 → Mem → Option (Int32 × Mem)
  | 0, _, _, _ => none
  | fuel7 + 1, x1, x2, μ => (f_X7_here q μ).bind (fun v1 => (f_X7_in v1 97 122).bind (fun v2 => (if v2 = 0 then (f_X7_meaning x2).bind (fun v3 => (pf μ q 10 v3).bind (fun μ4 => (if (μ4 q 10) = 0 then f_X7_readWord_b89 q x1 μ4 else f_X7_readWord_b89 q (μ4 q 9) μ4))) else (if (x1 + 6) ≤ (μ q 9) then f_X7_readWord_b51 q (f_X7_readWord_b7 q fuel7) x1 0 μ else (f_X7_here q μ).bind (fun v8 => f_X7_readWord_b51 q (f_X7_readWord_b7 q fuel7) x1 (((32 * x2) + v8.toInt64) - 96) μ)))))
def f_X7_readWord (q : Nat) (μ : Mem) : Option (Int32 × Mem) := f_X7_readWord_b7 q FU (μ q 9) 0 μ
set_option maxHeartbeats 4000000 in
set_option maxRecDepth 100000 in
theorem c_X7_readWord (l : Launch) {D : va_G} {cI cG cL : ClassId} {A : Nat → Prop} {EN : State → Heap → Prop} (hE : EnOK EN A) {w : Mem → va_W} {ad : Nat → Nat} {hh : Int64} {q : Nat} {μ : Mem} {r : Int32} {μ' : Mem} (hw : ModelAt cI w ad hh q) (h : f_X7_readWord q μ = some (r, μ')) : Met l yX7_readWord wsX7_readWord (rmk 1 22) (WPre D (tyl cI cG cL) A EN (w μ) [.ref (ad q)]) (PI D A (w μ') r) 0 0 A := by
  have hiX7 : ∀ w ∈ u_ws RX7 TX7 13, w ∈ wsX7_readWord := by decide +kernel
  have mf220 : Cond.fieldLink RX7 220 (TX7 9).1 (TX7 9).2.1 (TX7 9).2.2.1 ∈ wsX7_readWord := by decide +kernel
  have mf248 : Cond.fieldLink RX7 248 (TX7 10).1 (TX7 10).2.1 (TX7 10).2.2.1 ∈ wsX7_readWord := by decide +kernel
  have mc240 : Cond.constantLong RX7 240 32 ∈ wsX7_readWord := by decide +kernel
  have mc242 : Cond.constantLong RX7 242 96 ∈ wsX7_readWord := by decide +kernel
  refine met_start (cc := cX7_readWord) (nL := 4) (ret := (some .boolean)) (own := RX7) hE (by decide) rfl rfl (Nat.le_of_ble_eq_true rfl) (fun p e s m args below meth c ls X hS hl hr hlk => ?_)
  have hx := X.1.1
  have hb := X.1.2.1
  replace hl : lv_has ls 4 [(0, .ref (ad q))] := hl
  have hb104 : ∀ (s0 : Int32) (μ : Mem) (H : Heap) (locs : List Loc) (ls : Array Slot), HS D A (w μ) s.heap H locs → lv_has ls 4 [] → f_X7_readWord_b104 q s0 μ = some (r, μ') → W p l e (headSpec wsX7_readWord (rmk 1 22)).room s m args below meth c H locs 0 0 (MQ below (PI D A (w μ') r) args s 0 0 A) (F0 m 104 ls [.int s0]) := by
    intro s0 μ H locs ls hS hl h
    unfold f_X7_readWord_b104 at h
    obtain ⟨v6, ev6, h⟩ := ob h
    obtain ⟨ezv6, eov6⟩ := zr_ok ev6
    rw [ezv6]
    obtain ⟨rfl, rfl⟩ := pr2 h
    exact r_zret X hS hr hlk eov6 dX7_readWord_104
  have hb89 : ∀ (s0 : Int32) (μ : Mem) (H : Heap) (locs : List Loc) (ls : Array Slot), HS D A (w μ) s.heap H locs → lv_has ls 4 [(0, .ref (ad q))] → f_X7_readWord_b89 q s0 μ = some (r, μ') → W p l e (headSpec wsX7_readWord (rmk 1 22)).room s m args below meth c H locs 0 0 (MQ below (PI D A (w μ') r) args s 0 0 A) (F0 m 89 ls [.int s0, .ref (ad q)]) := by
    intro s0 μ H locs ls hS hl h
    unfold f_X7_readWord_b89 at h
    obtain ⟨μ5, eμ5, h⟩ := ob h
    refine r_putp (w := w) X hS (T := TX7) (k := 9) eμ5 hw.1 rfl hiX7 tyX7 tyX7_ok nmX7 (by decide) mf220 rfl rfl rfl (Nat.le_of_ble_eq_true rfl) rfl dX7_readWord_89 (fun H locs hS => ?_)
    refine lv_aload_n hx hb dX7_readWord_92 rfl (lv_at hl 0 rfl) ?_
    refine r_get X hS (T := TX7) (k := 10) (hw.1 μ5).1 rfl hiX7 (by decide) mf248 rfl dX7_readWord_93 ?_
    refine lv_if_eq (tgt := 103) hx hb dX7_readWord_96 (by decide) (fun cc => ?_) (fun cc => ?_)
    · replace h := it h cc
      refine lv_iconst (v := 0) hx hb dX7_readWord_103 (by decide) ?_
      exact hb104 0 μ5 _ _ _ hS (lv_sub hl [] rfl) h
    · replace h := ie h cc
      refine lv_iconst (v := 1) hx hb dX7_readWord_99 (by decide) ?_
      refine lv_goto (tgt := 104) hx hb dX7_readWord_100 (by decide) ?_
      exact hb104 1 μ5 _ _ _ hS (lv_sub hl [] rfl) h
  have hb51 : ∀ (k7 : Int32 → Int64 → Mem → Option (Int32 × Mem)), (∀ (x1 : Int32) (x2 : Int64) (μ : Mem) (H : Heap) (locs : List Loc) (ls : Array Slot), HS D A (w μ) s.heap H locs → lv_has ls 4 [(0, .ref (ad q)), (1, .int x1), (2, .long x2)] → k7 x1 x2 μ = some (r, μ') → W p l e (headSpec wsX7_readWord (rmk 1 22)).room s m args below meth c H locs 0 0 (MQ below (PI D A (w μ') r) args s 0 0 A) (F0 m 7 ls [])) → ∀ (x1 : Int32) (s0 : Int64) (μ : Mem) (H : Heap) (locs : List Loc) (ls : Array Slot), HS D A (w μ) s.heap H locs → lv_has ls 4 [(0, .ref (ad q)), (1, .int x1)] → f_X7_readWord_b51 q k7 x1 s0 μ = some (r, μ') → W p l e (headSpec wsX7_readWord (rmk 1 22)).room s m args below meth c H locs 0 0 (MQ below (PI D A (w μ') r) args s 0 0 A) (F0 m 51 ls [.long s0]) := by
    intro k7 hk7 x1 s0 μ H locs ls hS hl h
    unfold f_X7_readWord_b51 at h
    refine lv_lstore_n (lv' := [(2, .long s0), (0, .ref (ad q)), (1, .int x1)]) hx hb dX7_readWord_51 rfl hl (by decide) rfl (fun ls hl => ?_)
    refine lv_aload_n hx hb dX7_readWord_52 rfl (lv_at hl 1 rfl) ?_
    refine lv_dup hx hb dX7_readWord_53 rfl ?_
    refine r_get X hS (T := TX7) (k := 9) (hw.1 μ).1 rfl hiX7 (by decide) mf220 rfl dX7_readWord_54 ?_
    refine lv_iconst (v := 1) hx hb dX7_readWord_57 (by decide) ?_
    refine lv_iadd hx hb dX7_readWord_58 ?_
    obtain ⟨μ7, eμ7, h⟩ := ob h
    refine r_putp (w := w) X hS (T := TX7) (k := 9) eμ7 hw.1 rfl hiX7 tyX7 tyX7_ok nmX7 (by decide) mf220 rfl rfl rfl (Nat.le_of_ble_eq_true rfl) rfl dX7_readWord_59 (fun H locs hS => ?_)
    refine lv_goto (tgt := 7) hx hb dX7_readWord_62 (by decide) ?_
    exact hk7 x1 s0 μ7 _ _ _ hS (lv_sub hl [1, 2, 0] rfl) h
  have hb7 : ∀ (fu : Nat) (x1 : Int32) (x2 : Int64) (μ : Mem) (H : Heap) (locs : List Loc) (ls : Array Slot), HS D A (w μ) s.heap H locs → lv_has ls 4 [(0, .ref (ad q)), (1, .int x1), (2, .long x2)] → f_X7_readWord_b7 q fu x1 x2 μ = some (r, μ') → W p l e (headSpec wsX7_readWord (rmk 1 22)).room s m args below meth c H locs 0 0 (MQ below (PI D A (w μ') r) args s 0 0 A) (F0 m 7 ls []) := by
    intro fu
    induction fu with
    | zero =>
      intro x1 x2 μ H locs ls hS hl h
      rw [f_X7_readWord_b7] at h
      cases h
    | succ fuel7 ih7 =>
      intro x1 x2 μ H locs ls hS hl h
      rw [f_X7_readWord_b7] at h
      refine lv_aload_n hx hb dX7_readWord_7 rfl (lv_at hl 0 rfl) ?_
      obtain ⟨v1, ev1, h⟩ := ob h
      refine r_ci hS (r_runV (As := []) (rest := []) X hS (c_X7_here l hE (w := w) (ad := ad) (μ := μ) (D := D) (cI := cI) (cG := cG) (cL := cL) hw ev1) (cwV 0 X.1.2.2.2.2 gX7_readWord_X7_here rfl rfl rfl (by decide +kernel) ⟨Nat.le_of_ble_eq_true rfl, Nat.le_of_ble_eq_true rfl⟩) (q0 := q) (ci := 5) rfl (hw.1 μ).1 rfl hl.1 rfl (Nat.le_of_ble_eq_true rfl) dX7_readWord_8 ⟨Nat.zero_le _, Nat.zero_le _⟩) (fun H locs hS => ?_)
      refine lv_bipush (v := 97) hx hb dX7_readWord_11 (by decide) ?_
      refine lv_bipush (v := 122) hx hb dX7_readWord_13 (by decide) ?_
      obtain ⟨v2, ev2, h⟩ := ob h
      refine r_ci hS (r_runS (As := [.int v1, .int 97, .int 122]) (rest := []) X hS (c_X7_in l hE (w := w) (ad := ad) (μ := μ) (D := D) (cI := cI) (cG := cG) (cL := cL) ev2) (va_cwS 3 X.1.2.2.2.2 gX7_readWord_X7_in rfl rfl rfl (by decide +kernel) ⟨Nat.le_of_ble_eq_true rfl, Nat.le_of_ble_eq_true rfl⟩) rfl hl.1 rfl (Nat.le_of_ble_eq_true rfl) dX7_readWord_15 ⟨Nat.zero_le _, Nat.zero_le _⟩) (fun H locs hS => ?_)
      refine lv_if_eq (tgt := 65) hx hb dX7_readWord_18 (by decide) (fun cc => ?_) (fun cc => ?_)
      · replace h := it h cc
        refine lv_aload_n hx hb dX7_readWord_65 rfl (lv_at hl 0 rfl) ?_
        refine lv_lload_n hx hb dX7_readWord_66 rfl (lv_at hl 2 rfl) ?_
        obtain ⟨v3, ev3, h⟩ := ob h
        refine r_ci hS (r_runS (As := [.long x2]) (rest := [.ref (ad q)]) X hS (c_X7_meaning l hE (w := w) (ad := ad) (μ := μ) (D := D) (cI := cI) (cG := cG) (cL := cL) ev3) (va_cwS 1 X.1.2.2.2.2 gX7_readWord_X7_meaning rfl rfl rfl (by decide +kernel) ⟨Nat.le_of_ble_eq_true rfl, Nat.le_of_ble_eq_true rfl⟩) rfl hl.1 rfl (Nat.le_of_ble_eq_true rfl) dX7_readWord_67 ⟨Nat.zero_le _, Nat.zero_le _⟩) (fun H locs hS => ?_)
        obtain ⟨μ4, eμ4, h⟩ := ob h
        refine r_putp (w := w) X hS (T := TX7) (k := 10) eμ4 hw.1 rfl hiX7 tyX7 tyX7_ok nmX7 (by decide) mf248 rfl rfl rfl (Nat.le_of_ble_eq_true rfl) rfl dX7_readWord_70 (fun H locs hS => ?_)
        refine lv_aload_n hx hb dX7_readWord_73 rfl (lv_at hl 0 rfl) ?_
        refine lv_aload_n hx hb dX7_readWord_74 rfl (lv_at hl 0 rfl) ?_
        refine r_get X hS (T := TX7) (k := 10) (hw.1 μ4).1 rfl hiX7 (by decide) mf248 rfl dX7_readWord_75 ?_
        refine lv_if_ne (tgt := 85) hx hb dX7_readWord_78 (by decide) (fun cc => ?_) (fun cc => ?_)
        · replace h := ie h cc
          refine lv_aload_n hx hb dX7_readWord_85 rfl (lv_at hl 0 rfl) ?_
          refine r_get X hS (T := TX7) (k := 9) (hw.1 μ4).1 rfl hiX7 (by decide) mf220 rfl dX7_readWord_86 ?_
          exact hb89 (μ4 q 9) μ4 _ _ _ hS (lv_sub hl [0] rfl) h
        · replace h := it h cc
          refine lv_iload_n hx hb dX7_readWord_81 rfl (lv_at hl 1 rfl) ?_
          refine lv_goto (tgt := 89) hx hb dX7_readWord_82 (by decide) ?_
          exact hb89 x1 μ4 _ _ _ hS (lv_sub hl [0] rfl) h
      · replace h := ie h cc
        refine lv_aload_n hx hb dX7_readWord_21 rfl (lv_at hl 0 rfl) ?_
        refine r_get X hS (T := TX7) (k := 9) (hw.1 μ).1 rfl hiX7 (by decide) mf220 rfl dX7_readWord_22 ?_
        refine lv_iload_n hx hb dX7_readWord_25 rfl (lv_at hl 1 rfl) ?_
        refine lv_bipush (v := 6) hx hb dX7_readWord_26 (by decide) ?_
        refine lv_iadd hx hb dX7_readWord_28 ?_
        refine lv_icmp_ge (tgt := 50) hx hb dX7_readWord_29 (by decide) (fun cc => ?_) (fun cc => ?_)
        · replace h := it h cc
          refine lv_lconst (v := 0) hx hb dX7_readWord_50 (by decide) ?_
          exact hb51 (f_X7_readWord_b7 q fuel7) ih7 x1 0 μ _ _ _ hS (lv_sub hl [0, 1] rfl) h
        · replace h := ie h cc
          refine lv_ldc2 (v := 32) hx hb X.1.2.2.2.1 (X.1.2.2.2.2 _ mc240) dX7_readWord_32 ?_
          refine lv_lload_n hx hb dX7_readWord_35 rfl (lv_at hl 2 rfl) ?_
          refine lv_lmul hx hb dX7_readWord_36 ?_
          refine lv_aload_n hx hb dX7_readWord_37 rfl (lv_at hl 0 rfl) ?_
          obtain ⟨v8, ev8, h⟩ := ob h
          refine r_ci hS (r_runV (As := []) (rest := [.long (32 * x2)]) X hS (c_X7_here l hE (w := w) (ad := ad) (μ := μ) (D := D) (cI := cI) (cG := cG) (cL := cL) hw ev8) (cwV 0 X.1.2.2.2.2 gX7_readWord_X7_here rfl rfl rfl (by decide +kernel) ⟨Nat.le_of_ble_eq_true rfl, Nat.le_of_ble_eq_true rfl⟩) (q0 := q) (ci := 5) rfl (hw.1 μ).1 rfl hl.1 rfl (Nat.le_of_ble_eq_true rfl) dX7_readWord_38 ⟨Nat.zero_le _, Nat.zero_le _⟩) (fun H locs hS => ?_)
          refine lv_i2l (v := v8.toInt64) hx hb dX7_readWord_41 rfl ?_
          refine lv_ladd hx hb dX7_readWord_42 ?_
          refine lv_ldc2 (v := 96) hx hb X.1.2.2.2.1 (X.1.2.2.2.2 _ mc242) dX7_readWord_43 ?_
          refine lv_lsub hx hb dX7_readWord_46 ?_
          refine lv_goto (tgt := 51) hx hb dX7_readWord_47 (by decide) ?_
          exact hb51 (f_X7_readWord_b7 q fuel7) ih7 x1 (((32 * x2) + v8.toInt64) - 96) μ _ _ _ hS (lv_sub hl [0, 1] rfl) h
  unfold f_X7_readWord at h
  refine lv_aload_n hx hb dX7_readWord_0 rfl (lv_at hl 0 rfl) ?_
  refine r_get X hS (T := TX7) (k := 9) (hw.1 μ).1 rfl hiX7 (by decide) mf220 rfl dX7_readWord_1 ?_
  refine lv_istore_n (lv' := [(1, .int (μ q 9)), (0, .ref (ad q))]) hx hb dX7_readWord_4 rfl hl (by decide) rfl (fun ls hl => ?_)
  refine lv_lconst (v := 0) hx hb dX7_readWord_5 (by decide) ?_
  refine lv_lstore_n (lv' := [(2, .long 0), (1, .int (μ q 9)), (0, .ref (ad q))]) hx hb dX7_readWord_6 rfl hl (by decide) rfl (fun ls hl => ?_)
  exact hb7 FU (μ q 9) 0 μ _ _ _ hS (lv_sub hl [2, 1, 0] rfl) h
def f_X7_readNumber_b100 (q : Nat) (s0 : Int32) (μ : Mem) : Option (Int32 × Mem) := (zr s0).bind (fun v6 => (some (v6, μ)))
def f_X7_readNumber_b87 (q : Nat) (x2 : Int32) (μ : Mem) : Option (Int32 × Mem) := (if (μ q 9) ≤ x2 then f_X7_readNumber_b100 q 0 μ else f_X7_readNumber_b100 q 1 μ)
def f_X7_readNumber_b27 (q : Nat)  : Nat → Int32 → Int32 → Mem → Option (Int32 × Mem)
  | 0, _, _, _ => none
  | fuel27 + 1, x1, x2, μ => (f_X7_here q μ).bind (fun v4 => (f_X7_in v4 48 57).bind (fun v5 => (if v5 = 0 then f_X7_readNumber_b87 q x2 μ else (if (x2 + 3) ≤ (μ q 9) then f_X7_readNumber_b87 q x2 μ else (rd 2 (μ (q + 6)) x1).bind (fun v7 => (f_X7_here q μ).bind (fun v8 => (wr μ (q + 6) 2 x1 (((10 * v7) + v8) - 48)).bind (fun μ9 => (pf μ9 q 9 ((μ9 q 9) + 1)).bind (fun μ10 => f_X7_readNumber_b27 q fuel27 x1 x2 μ10))))))))
def f_X7_readNumber (q : Nat) (a1 : Int32) (μ : Mem) : Option (Int32 × Mem) := (f_X7_here q μ).bind (fun v1 => (if v1 = 32 then (f_X7_spaces q μ).bind (fun μ2 => (wr μ2 (q + 6) 2 a1 0).bind (fun μ3 => f_X7_readNumber_b27 q FU a1 (μ2 q 9) μ3)) else (some (0, μ))))
set_option maxHeartbeats 4000000 in
set_option maxRecDepth 100000 in
theorem c_X7_readNumber (l : Launch) {D : va_G} {cI cG cL : ClassId} {A : Nat → Prop} {EN : State → Heap → Prop} (hE : EnOK EN A) {w : Mem → va_W} {ad : Nat → Nat} {hh : Int64} {q : Nat} {a1 : Int32} {μ : Mem} {r : Int32} {μ' : Mem} (hw : ModelAt cI w ad hh q) (h : f_X7_readNumber q a1 μ = some (r, μ')) : Met l yX7_readNumber wsX7_readNumber (rmk 2 40) (WPre D (tyl cI cG cL) A EN (w μ) [.ref (ad q), .int a1]) (PI D A (w μ') r) 0 0 A := by
  have hiX7 : ∀ w ∈ u_ws RX7 TX7 13, w ∈ wsX7_readNumber := by decide +kernel
  have mf220 : Cond.fieldLink RX7 220 (TX7 9).1 (TX7 9).2.1 (TX7 9).2.2.1 ∈ wsX7_readNumber := by decide +kernel
  have mf25 : Cond.fieldLink RX7 25 (TX7 11).1 (TX7 11).2.1 (TX7 11).2.2.1 ∈ wsX7_readNumber := by decide +kernel
  refine met_start (cc := cX7_readNumber) (nL := 3) (ret := (some .boolean)) (own := RX7) hE (by decide) rfl rfl (Nat.le_of_ble_eq_true rfl) (fun p e s m args below meth c ls X hS hl hr hlk => ?_)
  have hx := X.1.1
  have hb := X.1.2.1
  replace hl : lv_has ls 3 [(0, .ref (ad q)), (1, .int a1)] := hl
  have hb100 : ∀ (s0 : Int32) (μ : Mem) (H : Heap) (locs : List Loc) (ls : Array Slot), HS D A (w μ) s.heap H locs → lv_has ls 3 [] → f_X7_readNumber_b100 q s0 μ = some (r, μ') → W p l e (headSpec wsX7_readNumber (rmk 2 40)).room s m args below meth c H locs 0 0 (MQ below (PI D A (w μ') r) args s 0 0 A) (F0 m 100 ls [.int s0]) := by
    intro s0 μ H locs ls hS hl h
    unfold f_X7_readNumber_b100 at h
    obtain ⟨v6, ev6, h⟩ := ob h
    obtain ⟨ezv6, eov6⟩ := zr_ok ev6
    rw [ezv6]
    obtain ⟨rfl, rfl⟩ := pr2 h
    exact r_zret X hS hr hlk eov6 dX7_readNumber_100
  have hb87 : ∀ (x2 : Int32) (μ : Mem) (H : Heap) (locs : List Loc) (ls : Array Slot), HS D A (w μ) s.heap H locs → lv_has ls 3 [(0, .ref (ad q)), (2, .int x2)] → f_X7_readNumber_b87 q x2 μ = some (r, μ') → W p l e (headSpec wsX7_readNumber (rmk 2 40)).room s m args below meth c H locs 0 0 (MQ below (PI D A (w μ') r) args s 0 0 A) (F0 m 87 ls []) := by
    intro x2 μ H locs ls hS hl h
    unfold f_X7_readNumber_b87 at h
    refine lv_aload_n hx hb dX7_readNumber_87 rfl (lv_at hl 0 rfl) ?_
    refine r_get X hS (T := TX7) (k := 9) (hw.1 μ).1 rfl hiX7 (by decide) mf220 rfl dX7_readNumber_88 ?_
    refine lv_iload_n hx hb dX7_readNumber_91 rfl (lv_at hl 1 rfl) ?_
    refine lv_icmp_le (tgt := 99) hx hb dX7_readNumber_92 (by decide) (fun cc => ?_) (fun cc => ?_)
    · replace h := it h cc
      refine lv_iconst (v := 0) hx hb dX7_readNumber_99 (by decide) ?_
      exact hb100 0 μ _ _ _ hS (lv_sub hl [] rfl) h
    · replace h := ie h cc
      refine lv_iconst (v := 1) hx hb dX7_readNumber_95 (by decide) ?_
      refine lv_goto (tgt := 100) hx hb dX7_readNumber_96 (by decide) ?_
      exact hb100 1 μ _ _ _ hS (lv_sub hl [] rfl) h
  have hb27 : ∀ (fu : Nat) (x1 : Int32) (x2 : Int32) (μ : Mem) (H : Heap) (locs : List Loc) (ls : Array Slot), HS D A (w μ) s.heap H locs → lv_has ls 3 [(0, .ref (ad q)), (1, .int x1), (2, .int x2)] → f_X7_readNumber_b27 q fu x1 x2 μ = some (r, μ') → W p l e (headSpec wsX7_readNumber (rmk 2 40)).room s m args below meth c H locs 0 0 (MQ below (PI D A (w μ') r) args s 0 0 A) (F0 m 27 ls []) := by
    intro fu
    induction fu with
    | zero =>
      intro x1 x2 μ H locs ls hS hl h
      rw [f_X7_readNumber_b27] at h
      cases h
    | succ fuel27 ih27 =>
      intro x1 x2 μ H locs ls hS hl h
      rw [f_X7_readNumber_b27] at h
      refine lv_aload_n hx hb dX7_readNumber_27 rfl (lv_at hl 0 rfl) ?_
      obtain ⟨v4, ev4, h⟩ := ob h
      refine r_ci hS (r_runV (As := []) (rest := []) X hS (c_X7_here l hE (w := w) (ad := ad) (μ := μ) (D := D) (cI := cI) (cG := cG) (cL := cL) hw ev4) (cwV 0 X.1.2.2.2.2 gX7_readNumber_X7_here rfl rfl rfl (by decide +kernel) ⟨Nat.le_of_ble_eq_true rfl, Nat.le_of_ble_eq_true rfl⟩) (q0 := q) (ci := 5) rfl (hw.1 μ).1 rfl hl.1 rfl (Nat.le_of_ble_eq_true rfl) dX7_readNumber_28 ⟨Nat.zero_le _, Nat.zero_le _⟩) (fun H locs hS => ?_)
      refine lv_bipush (v := 48) hx hb dX7_readNumber_31 (by decide) ?_
      refine lv_bipush (v := 57) hx hb dX7_readNumber_33 (by decide) ?_
      obtain ⟨v5, ev5, h⟩ := ob h
      refine r_ci hS (r_runS (As := [.int v4, .int 48, .int 57]) (rest := []) X hS (c_X7_in l hE (w := w) (ad := ad) (μ := μ) (D := D) (cI := cI) (cG := cG) (cL := cL) ev5) (va_cwS 3 X.1.2.2.2.2 gX7_readNumber_X7_in rfl rfl rfl (by decide +kernel) ⟨Nat.le_of_ble_eq_true rfl, Nat.le_of_ble_eq_true rfl⟩) rfl hl.1 rfl (Nat.le_of_ble_eq_true rfl) dX7_readNumber_35 ⟨Nat.zero_le _, Nat.zero_le _⟩) (fun H locs hS => ?_)
      refine lv_if_eq (tgt := 87) hx hb dX7_readNumber_38 (by decide) (fun cc => ?_) (fun cc => ?_)
      · replace h := it h cc
        exact hb87 x2 μ _ _ _ hS (lv_sub hl [0, 2] rfl) h
      · replace h := ie h cc
        refine lv_aload_n hx hb dX7_readNumber_41 rfl (lv_at hl 0 rfl) ?_
        refine r_get X hS (T := TX7) (k := 9) (hw.1 μ).1 rfl hiX7 (by decide) mf220 rfl dX7_readNumber_42 ?_
        refine lv_iload_n hx hb dX7_readNumber_45 rfl (lv_at hl 2 rfl) ?_
        refine lv_iconst (v := 3) hx hb dX7_readNumber_46 (by decide) ?_
        refine lv_iadd hx hb dX7_readNumber_47 ?_
        refine lv_icmp_ge (tgt := 87) hx hb dX7_readNumber_48 (by decide) (fun cc => ?_) (fun cc => ?_)
        · replace h := it h cc
          exact hb87 x2 μ _ _ _ hS (lv_sub hl [0, 2] rfl) h
        · replace h := ie h cc
          refine lv_aload_n hx hb dX7_readNumber_51 rfl (lv_at hl 0 rfl) ?_
          refine r_get X hS (T := TX7) (k := 11) (hw.1 μ).1 rfl hiX7 (by decide) mf25 rfl dX7_readNumber_52 ?_
          refine lv_iload_n hx hb dX7_readNumber_55 rfl (lv_at hl 1 rfl) ?_
          refine lv_bipush (v := 10) hx hb dX7_readNumber_56 (by decide) ?_
          refine lv_aload_n hx hb dX7_readNumber_58 rfl (lv_at hl 0 rfl) ?_
          refine r_get X hS (T := TX7) (k := 11) (hw.1 μ).1 rfl hiX7 (by decide) mf25 rfl dX7_readNumber_59 ?_
          refine lv_iload_n hx hb dX7_readNumber_62 rfl (lv_at hl 1 rfl) ?_
          obtain ⟨v7, ev7, h⟩ := ob h
          refine r_iald X hS (hw.2.2.2.2.2.2 μ).1 ev7 dX7_readNumber_63 ?_
          refine lv_imul hx hb dX7_readNumber_64 ?_
          refine lv_aload_n hx hb dX7_readNumber_65 rfl (lv_at hl 0 rfl) ?_
          obtain ⟨v8, ev8, h⟩ := ob h
          refine r_ci hS (r_runV (As := []) (rest := [.int (10 * v7), .int x1, .ref (ad (q + 6))]) X hS (c_X7_here l hE (w := w) (ad := ad) (μ := μ) (D := D) (cI := cI) (cG := cG) (cL := cL) hw ev8) (cwV 0 X.1.2.2.2.2 gX7_readNumber_X7_here rfl rfl rfl (by decide +kernel) ⟨Nat.le_of_ble_eq_true rfl, Nat.le_of_ble_eq_true rfl⟩) (q0 := q) (ci := 5) rfl (hw.1 μ).1 rfl hl.1 rfl (Nat.le_of_ble_eq_true rfl) dX7_readNumber_66 ⟨Nat.zero_le _, Nat.zero_le _⟩) (fun H locs hS => ?_)
          refine lv_iadd hx hb dX7_readNumber_69 ?_
          refine lv_bipush (v := 48) hx hb dX7_readNumber_70 (by decide) ?_
          refine lv_isub hx hb dX7_readNumber_72 ?_
          obtain ⟨μ9, eμ9, h⟩ := ob h
          refine r_iast X hS hw.2.2.2.2.2.2 eμ9 dX7_readNumber_73 (fun H locs hS => ?_)
          refine lv_aload_n hx hb dX7_readNumber_74 rfl (lv_at hl 0 rfl) ?_
          refine lv_dup hx hb dX7_readNumber_75 rfl ?_
          refine r_get X hS (T := TX7) (k := 9) (hw.1 μ9).1 rfl hiX7 (by decide) mf220 rfl dX7_readNumber_76 ?_
          refine lv_iconst (v := 1) hx hb dX7_readNumber_79 (by decide) ?_
          refine lv_iadd hx hb dX7_readNumber_80 ?_
          obtain ⟨μ10, eμ10, h⟩ := ob h
          refine r_putp (w := w) X hS (T := TX7) (k := 9) eμ10 hw.1 rfl hiX7 tyX7 tyX7_ok nmX7 (by decide) mf220 rfl rfl rfl (Nat.le_of_ble_eq_true rfl) rfl dX7_readNumber_81 (fun H locs hS => ?_)
          refine lv_goto (tgt := 27) hx hb dX7_readNumber_84 (by decide) ?_
          exact ih27 x1 x2 μ10 _ _ _ hS (lv_sub hl [0, 1, 2] rfl) h
  unfold f_X7_readNumber at h
  refine lv_aload_n hx hb dX7_readNumber_0 rfl (lv_at hl 0 rfl) ?_
  obtain ⟨v1, ev1, h⟩ := ob h
  refine r_ci hS (r_runV (As := []) (rest := []) X hS (c_X7_here l hE (w := w) (ad := ad) (μ := μ) (D := D) (cI := cI) (cG := cG) (cL := cL) hw ev1) (cwV 0 X.1.2.2.2.2 gX7_readNumber_X7_here rfl rfl rfl (by decide +kernel) ⟨Nat.le_of_ble_eq_true rfl, Nat.le_of_ble_eq_true rfl⟩) (q0 := q) (ci := 5) rfl (hw.1 μ).1 rfl hl.1 rfl (Nat.le_of_ble_eq_true rfl) dX7_readNumber_1 ⟨Nat.zero_le _, Nat.zero_le _⟩) (fun H locs hS => ?_)
  refine lv_bipush (v := 32) hx hb dX7_readNumber_4 (by decide) ?_
  refine lv_icmp_eq (tgt := 11) hx hb dX7_readNumber_6 (by decide) (fun cc => ?_) (fun cc => ?_)
  · replace h := it h cc
    refine lv_aload_n hx hb dX7_readNumber_11 rfl (lv_at hl 0 rfl) ?_
    obtain ⟨μ2, eμ2, h⟩ := ob h
    refine r_cv hS (r_runV (As := []) (rest := []) X hS (c_X7_spaces l hE (w := w) (ad := ad) (μ := μ) (D := D) (cI := cI) (cG := cG) (cL := cL) hw eμ2) (cwV 0 X.1.2.2.2.2 gX7_readNumber_X7_spaces rfl rfl rfl (by decide +kernel) ⟨Nat.le_of_ble_eq_true rfl, Nat.le_of_ble_eq_true rfl⟩) (q0 := q) (ci := 5) rfl (hw.1 μ).1 rfl hl.1 rfl (Nat.le_of_ble_eq_true rfl) dX7_readNumber_12 ⟨Nat.zero_le _, Nat.zero_le _⟩) (fun H locs hS => ?_)
    refine lv_aload_n hx hb dX7_readNumber_15 rfl (lv_at hl 0 rfl) ?_
    refine r_get X hS (T := TX7) (k := 9) (hw.1 μ2).1 rfl hiX7 (by decide) mf220 rfl dX7_readNumber_16 ?_
    refine lv_istore_n (lv' := [(2, .int (μ2 q 9)), (0, .ref (ad q)), (1, .int a1)]) hx hb dX7_readNumber_19 rfl hl (by decide) rfl (fun ls hl => ?_)
    refine lv_aload_n hx hb dX7_readNumber_20 rfl (lv_at hl 1 rfl) ?_
    refine r_get X hS (T := TX7) (k := 11) (hw.1 μ2).1 rfl hiX7 (by decide) mf25 rfl dX7_readNumber_21 ?_
    refine lv_iload_n hx hb dX7_readNumber_24 rfl (lv_at hl 2 rfl) ?_
    refine lv_iconst (v := 0) hx hb dX7_readNumber_25 (by decide) ?_
    obtain ⟨μ3, eμ3, h⟩ := ob h
    refine r_iast X hS hw.2.2.2.2.2.2 eμ3 dX7_readNumber_26 (fun H locs hS => ?_)
    exact hb27 FU a1 (μ2 q 9) μ3 _ _ _ hS (lv_sub hl [1, 2, 0] rfl) h
  · replace h := ie h cc
    refine lv_iconst (v := 0) hx hb dX7_readNumber_9 (by decide) ?_
    obtain ⟨rfl, rfl⟩ := pr2 h
    exact r_zret X hS hr hlk (by decide) dX7_readNumber_10
def f_X7_readCommand_b108 (q : Nat) (x2 : Int32) (s0 : Int32) (s1 : Int32) (μ : Mem) : Option (Int32 × Mem) := (pf μ q 9 (s1 + s0)).bind (fun μ5 => (zr x2).bind (fun v6 => (some (v6, μ5))))
def f_X7_readCommand_b93 (q : Nat) (s0 : Int32) (μ : Mem) : Option (Int32 × Mem) := (if s0 = 0 then f_X7_readCommand_b108 q s0 0 (μ q 9) μ else f_X7_readCommand_b108 q s0 1 (μ q 9) μ)
def f_X7_readCommand_b54 (q : Nat)  : Nat → Int32 → Int32 → Mem → Option (Int32 × Mem)
  | 0, _, _, _ => none
  | fuel54 + 1, x1, x2, μ => (if x1 ≤ x2 then (f_X7_spaces q μ).bind (fun μ3 => (f_X7_here q μ3).bind (fun v4 => (if v4 = 59 then f_X7_readCommand_b93 q 1 μ3 else f_X7_readCommand_b93 q 0 μ3))) else bn2 (f_X7_readNumber q x2 μ) (fun v7 μ8 => (if v7 = 0 then (some (0, μ8)) else f_X7_readCommand_b54 q fuel54 x1 (x2 + 1) μ8)))
def f_X7_readCommand_b51 (q : Nat) (s0 : Int32) (μ : Mem) : Option (Int32 × Mem) := f_X7_readCommand_b54 q FU s0 0 μ
def f_X7_readCommand_b46 (q : Nat)  (μ : Mem) : Option (Int32 × Mem) := f_X7_readCommand_b51 q 1 μ
def f_X7_readCommand (q : Nat) (μ : Mem) : Option (Int32 × Mem) := bn2 (f_X7_readWord q μ) (fun v1 μ2 => (if v1 = 0 then (some (0, μ2)) else (if (μ2 q 10) = 2 then f_X7_readCommand_b51 q 2 μ2 else (if (μ2 q 10) = 3 then f_X7_readCommand_b46 q μ2 else (if (μ2 q 10) = 4 then f_X7_readCommand_b46 q μ2 else (if (μ2 q 10) = 7 then f_X7_readCommand_b46 q μ2 else f_X7_readCommand_b51 q 0 μ2))))))
set_option maxHeartbeats 4000000 in
set_option maxRecDepth 100000 in
theorem c_X7_readCommand (l : Launch) {D : va_G} {cI cG cL : ClassId} {A : Nat → Prop} {EN : State → Heap → Prop} (hE : EnOK EN A) {w : Mem → va_W} {ad : Nat → Nat} {hh : Int64} {q : Nat} {μ : Mem} {r : Int32} {μ' : Mem} (hw : ModelAt cI w ad hh q) (h : f_X7_readCommand q μ = some (r, μ')) : Met l yX7_readCommand wsX7_readCommand (rmk 3 62) (WPre D (tyl cI cG cL) A EN (w μ) [.ref (ad q)]) (PI D A (w μ') r) 0 0 A := by
  have hiX7 : ∀ w ∈ u_ws RX7 TX7 13, w ∈ wsX7_readCommand := by decide +kernel
  have mf248 : Cond.fieldLink RX7 248 (TX7 10).1 (TX7 10).2.1 (TX7 10).2.2.1 ∈ wsX7_readCommand := by decide +kernel
  have mf220 : Cond.fieldLink RX7 220 (TX7 9).1 (TX7 9).2.1 (TX7 9).2.2.1 ∈ wsX7_readCommand := by decide +kernel
  refine met_start (cc := cX7_readCommand) (nL := 3) (ret := (some .boolean)) (own := RX7) hE (by decide) rfl rfl (Nat.le_of_ble_eq_true rfl) (fun p e s m args below meth c ls X hS hl hr hlk => ?_)
  have hx := X.1.1
  have hb := X.1.2.1
  replace hl : lv_has ls 3 [(0, .ref (ad q))] := hl
  have hb108 : ∀ (x2 : Int32) (s0 : Int32) (s1 : Int32) (μ : Mem) (H : Heap) (locs : List Loc) (ls : Array Slot), HS D A (w μ) s.heap H locs → lv_has ls 3 [(2, .int x2)] → f_X7_readCommand_b108 q x2 s0 s1 μ = some (r, μ') → W p l e (headSpec wsX7_readCommand (rmk 3 62)).room s m args below meth c H locs 0 0 (MQ below (PI D A (w μ') r) args s 0 0 A) (F0 m 108 ls [.int s0, .int s1, .ref (ad q)]) := by
    intro x2 s0 s1 μ H locs ls hS hl h
    unfold f_X7_readCommand_b108 at h
    refine lv_iadd hx hb dX7_readCommand_108 ?_
    obtain ⟨μ5, eμ5, h⟩ := ob h
    refine r_putp (w := w) X hS (T := TX7) (k := 9) eμ5 hw.1 rfl hiX7 tyX7 tyX7_ok nmX7 (by decide) mf220 rfl rfl rfl (Nat.le_of_ble_eq_true rfl) rfl dX7_readCommand_109 (fun H locs hS => ?_)
    refine lv_iload_n hx hb dX7_readCommand_112 rfl (lv_at hl 0 rfl) ?_
    obtain ⟨v6, ev6, h⟩ := ob h
    obtain ⟨ezv6, eov6⟩ := zr_ok ev6
    rw [ezv6]
    obtain ⟨rfl, rfl⟩ := pr2 h
    exact r_zret X hS hr hlk eov6 dX7_readCommand_113
  have hb93 : ∀ (s0 : Int32) (μ : Mem) (H : Heap) (locs : List Loc) (ls : Array Slot), HS D A (w μ) s.heap H locs → lv_has ls 3 [(0, .ref (ad q))] → f_X7_readCommand_b93 q s0 μ = some (r, μ') → W p l e (headSpec wsX7_readCommand (rmk 3 62)).room s m args below meth c H locs 0 0 (MQ below (PI D A (w μ') r) args s 0 0 A) (F0 m 93 ls [.int s0]) := by
    intro s0 μ H locs ls hS hl h
    unfold f_X7_readCommand_b93 at h
    refine lv_istore_n (lv' := [(2, .int s0), (0, .ref (ad q))]) hx hb dX7_readCommand_93 rfl hl (by decide) rfl (fun ls hl => ?_)
    refine lv_aload_n hx hb dX7_readCommand_94 rfl (lv_at hl 1 rfl) ?_
    refine lv_dup hx hb dX7_readCommand_95 rfl ?_
    refine r_get X hS (T := TX7) (k := 9) (hw.1 μ).1 rfl hiX7 (by decide) mf220 rfl dX7_readCommand_96 ?_
    refine lv_iload_n hx hb dX7_readCommand_99 rfl (lv_at hl 0 rfl) ?_
    refine lv_if_eq (tgt := 107) hx hb dX7_readCommand_100 (by decide) (fun cc => ?_) (fun cc => ?_)
    · replace h := it h cc
      refine lv_iconst (v := 0) hx hb dX7_readCommand_107 (by decide) ?_
      exact hb108 s0 0 (μ q 9) μ _ _ _ hS (lv_sub hl [0] rfl) h
    · replace h := ie h cc
      refine lv_iconst (v := 1) hx hb dX7_readCommand_103 (by decide) ?_
      refine lv_goto (tgt := 108) hx hb dX7_readCommand_104 (by decide) ?_
      exact hb108 s0 1 (μ q 9) μ _ _ _ hS (lv_sub hl [0] rfl) h
  have hb54 : ∀ (fu : Nat) (x1 : Int32) (x2 : Int32) (μ : Mem) (H : Heap) (locs : List Loc) (ls : Array Slot), HS D A (w μ) s.heap H locs → lv_has ls 3 [(0, .ref (ad q)), (1, .int x1), (2, .int x2)] → f_X7_readCommand_b54 q fu x1 x2 μ = some (r, μ') → W p l e (headSpec wsX7_readCommand (rmk 3 62)).room s m args below meth c H locs 0 0 (MQ below (PI D A (w μ') r) args s 0 0 A) (F0 m 54 ls []) := by
    intro fu
    induction fu with
    | zero =>
      intro x1 x2 μ H locs ls hS hl h
      rw [f_X7_readCommand_b54] at h
      cases h
    | succ fuel54 ih54 =>
      intro x1 x2 μ H locs ls hS hl h
      rw [f_X7_readCommand_b54] at h
      refine lv_iload_n hx hb dX7_readCommand_54 rfl (lv_at hl 2 rfl) ?_
      refine lv_iload_n hx hb dX7_readCommand_55 rfl (lv_at hl 1 rfl) ?_
      refine lv_icmp_ge (tgt := 75) hx hb dX7_readCommand_56 (by decide) (fun cc => ?_) (fun cc => ?_)
      · replace h := it h cc
        refine lv_aload_n hx hb dX7_readCommand_75 rfl (lv_at hl 0 rfl) ?_
        obtain ⟨μ3, eμ3, h⟩ := ob h
        refine r_cv hS (r_runV (As := []) (rest := []) X hS (c_X7_spaces l hE (w := w) (ad := ad) (μ := μ) (D := D) (cI := cI) (cG := cG) (cL := cL) hw eμ3) (cwV 0 X.1.2.2.2.2 gX7_readCommand_X7_spaces rfl rfl rfl (by decide +kernel) ⟨Nat.le_of_ble_eq_true rfl, Nat.le_of_ble_eq_true rfl⟩) (q0 := q) (ci := 5) rfl (hw.1 μ).1 rfl hl.1 rfl (Nat.le_of_ble_eq_true rfl) dX7_readCommand_76 ⟨Nat.zero_le _, Nat.zero_le _⟩) (fun H locs hS => ?_)
        refine lv_aload_n hx hb dX7_readCommand_79 rfl (lv_at hl 0 rfl) ?_
        obtain ⟨v4, ev4, h⟩ := ob h
        refine r_ci hS (r_runV (As := []) (rest := []) X hS (c_X7_here l hE (w := w) (ad := ad) (μ := μ3) (D := D) (cI := cI) (cG := cG) (cL := cL) hw ev4) (cwV 0 X.1.2.2.2.2 gX7_readCommand_X7_here rfl rfl rfl (by decide +kernel) ⟨Nat.le_of_ble_eq_true rfl, Nat.le_of_ble_eq_true rfl⟩) (q0 := q) (ci := 5) rfl (hw.1 μ3).1 rfl hl.1 rfl (Nat.le_of_ble_eq_true rfl) dX7_readCommand_80 ⟨Nat.zero_le _, Nat.zero_le _⟩) (fun H locs hS => ?_)
        refine lv_bipush (v := 59) hx hb dX7_readCommand_83 (by decide) ?_
        refine lv_icmp_ne (tgt := 92) hx hb dX7_readCommand_85 (by decide) (fun cc => ?_) (fun cc => ?_)
        · replace h := ie h cc
          refine lv_iconst (v := 0) hx hb dX7_readCommand_92 (by decide) ?_
          exact hb93 0 μ3 _ _ _ hS (lv_sub hl [0] rfl) h
        · replace h := it h cc
          refine lv_iconst (v := 1) hx hb dX7_readCommand_88 (by decide) ?_
          refine lv_goto (tgt := 93) hx hb dX7_readCommand_89 (by decide) ?_
          exact hb93 1 μ3 _ _ _ hS (lv_sub hl [0] rfl) h
      · replace h := ie h cc
        refine lv_aload_n hx hb dX7_readCommand_59 rfl (lv_at hl 0 rfl) ?_
        refine lv_iload_n hx hb dX7_readCommand_60 rfl (lv_at hl 2 rfl) ?_
        obtain ⟨v7, μ8, ev7, h⟩ := ob2 h
        refine r_ci hS (r_runV (As := [.int x2]) (rest := []) X hS (c_X7_readNumber l hE (w := w) (ad := ad) (μ := μ) (D := D) (cI := cI) (cG := cG) (cL := cL) hw ev7) (cwV 1 X.1.2.2.2.2 gX7_readCommand_X7_readNumber rfl rfl rfl (by decide +kernel) ⟨Nat.le_of_ble_eq_true rfl, Nat.le_of_ble_eq_true rfl⟩) (q0 := q) (ci := 5) rfl (hw.1 μ).1 rfl hl.1 rfl (Nat.le_of_ble_eq_true rfl) dX7_readCommand_61 ⟨Nat.zero_le _, Nat.zero_le _⟩) (fun H locs hS => ?_)
        refine lv_if_ne (tgt := 69) hx hb dX7_readCommand_64 (by decide) (fun cc => ?_) (fun cc => ?_)
        · replace h := ie h cc
          refine lv_iinc (v := x2 + 1) (lv' := [(2, .int (x2 + 1)), (0, .ref (ad q)), (1, .int x1)]) hx hb dX7_readCommand_69 hl (k := 2) rfl rfl (by decide) rfl (fun ls hl => ?_)
          refine lv_goto (tgt := 54) hx hb dX7_readCommand_72 (by decide) ?_
          exact ih54 x1 (x2 + 1) μ8 _ _ _ hS (lv_sub hl [1, 2, 0] rfl) h
        · replace h := it h cc
          refine lv_iconst (v := 0) hx hb dX7_readCommand_67 (by decide) ?_
          obtain ⟨rfl, rfl⟩ := pr2 h
          exact r_zret X hS hr hlk (by decide) dX7_readCommand_68
  have hb51 : ∀ (s0 : Int32) (μ : Mem) (H : Heap) (locs : List Loc) (ls : Array Slot), HS D A (w μ) s.heap H locs → lv_has ls 3 [(0, .ref (ad q))] → f_X7_readCommand_b51 q s0 μ = some (r, μ') → W p l e (headSpec wsX7_readCommand (rmk 3 62)).room s m args below meth c H locs 0 0 (MQ below (PI D A (w μ') r) args s 0 0 A) (F0 m 51 ls [.int s0]) := by
    intro s0 μ H locs ls hS hl h
    unfold f_X7_readCommand_b51 at h
    refine lv_istore_n (lv' := [(1, .int s0), (0, .ref (ad q))]) hx hb dX7_readCommand_51 rfl hl (by decide) rfl (fun ls hl => ?_)
    refine lv_iconst (v := 0) hx hb dX7_readCommand_52 (by decide) ?_
    refine lv_istore_n (lv' := [(2, .int 0), (1, .int s0), (0, .ref (ad q))]) hx hb dX7_readCommand_53 rfl hl (by decide) rfl (fun ls hl => ?_)
    exact hb54 FU s0 0 μ _ _ _ hS (lv_sub hl [2, 1, 0] rfl) h
  have hb46 : ∀  (μ : Mem) (H : Heap) (locs : List Loc) (ls : Array Slot), HS D A (w μ) s.heap H locs → lv_has ls 3 [(0, .ref (ad q))] → f_X7_readCommand_b46 q μ = some (r, μ') → W p l e (headSpec wsX7_readCommand (rmk 3 62)).room s m args below meth c H locs 0 0 (MQ below (PI D A (w μ') r) args s 0 0 A) (F0 m 46 ls []) := by
    intro μ H locs ls hS hl h
    unfold f_X7_readCommand_b46 at h
    refine lv_iconst (v := 1) hx hb dX7_readCommand_46 (by decide) ?_
    refine lv_goto (tgt := 51) hx hb dX7_readCommand_47 (by decide) ?_
    exact hb51 1 μ _ _ _ hS (lv_sub hl [0] rfl) h
  unfold f_X7_readCommand at h
  refine lv_aload_n hx hb dX7_readCommand_0 rfl (lv_at hl 0 rfl) ?_
  obtain ⟨v1, μ2, ev1, h⟩ := ob2 h
  refine r_ci hS (r_runV (As := []) (rest := []) X hS (c_X7_readWord l hE (w := w) (ad := ad) (μ := μ) (D := D) (cI := cI) (cG := cG) (cL := cL) hw ev1) (cwV 0 X.1.2.2.2.2 gX7_readCommand_X7_readWord rfl rfl rfl (by decide +kernel) ⟨Nat.le_of_ble_eq_true rfl, Nat.le_of_ble_eq_true rfl⟩) (q0 := q) (ci := 5) rfl (hw.1 μ).1 rfl hl.1 rfl (Nat.le_of_ble_eq_true rfl) dX7_readCommand_1 ⟨Nat.zero_le _, Nat.zero_le _⟩) (fun H locs hS => ?_)
  refine lv_if_ne (tgt := 9) hx hb dX7_readCommand_4 (by decide) (fun cc => ?_) (fun cc => ?_)
  · replace h := ie h cc
    refine lv_aload_n hx hb dX7_readCommand_9 rfl (lv_at hl 0 rfl) ?_
    refine r_get X hS (T := TX7) (k := 10) (hw.1 μ2).1 rfl hiX7 (by decide) mf248 rfl dX7_readCommand_10 ?_
    refine lv_iconst (v := 2) hx hb dX7_readCommand_13 (by decide) ?_
    refine lv_icmp_ne (tgt := 21) hx hb dX7_readCommand_14 (by decide) (fun cc => ?_) (fun cc => ?_)
    · replace h := ie h cc
      refine lv_aload_n hx hb dX7_readCommand_21 rfl (lv_at hl 0 rfl) ?_
      refine r_get X hS (T := TX7) (k := 10) (hw.1 μ2).1 rfl hiX7 (by decide) mf248 rfl dX7_readCommand_22 ?_
      refine lv_iconst (v := 3) hx hb dX7_readCommand_25 (by decide) ?_
      refine lv_icmp_eq (tgt := 46) hx hb dX7_readCommand_26 (by decide) (fun cc => ?_) (fun cc => ?_)
      · replace h := it h cc
        exact hb46 μ2 _ _ _ hS (lv_sub hl [0] rfl) h
      · replace h := ie h cc
        refine lv_aload_n hx hb dX7_readCommand_29 rfl (lv_at hl 0 rfl) ?_
        refine r_get X hS (T := TX7) (k := 10) (hw.1 μ2).1 rfl hiX7 (by decide) mf248 rfl dX7_readCommand_30 ?_
        refine lv_iconst (v := 4) hx hb dX7_readCommand_33 (by decide) ?_
        refine lv_icmp_eq (tgt := 46) hx hb dX7_readCommand_34 (by decide) (fun cc => ?_) (fun cc => ?_)
        · replace h := it h cc
          exact hb46 μ2 _ _ _ hS (lv_sub hl [0] rfl) h
        · replace h := ie h cc
          refine lv_aload_n hx hb dX7_readCommand_37 rfl (lv_at hl 0 rfl) ?_
          refine r_get X hS (T := TX7) (k := 10) (hw.1 μ2).1 rfl hiX7 (by decide) mf248 rfl dX7_readCommand_38 ?_
          refine lv_bipush (v := 7) hx hb dX7_readCommand_41 (by decide) ?_
          refine lv_icmp_ne (tgt := 50) hx hb dX7_readCommand_43 (by decide) (fun cc => ?_) (fun cc => ?_)
          · replace h := ie h cc
            refine lv_iconst (v := 0) hx hb dX7_readCommand_50 (by decide) ?_
            exact hb51 0 μ2 _ _ _ hS (lv_sub hl [0] rfl) h
          · replace h := it h cc
            exact hb46 μ2 _ _ _ hS (lv_sub hl [0] rfl) h
    · replace h := it h cc
      refine lv_iconst (v := 2) hx hb dX7_readCommand_17 (by decide) ?_
      refine lv_goto (tgt := 51) hx hb dX7_readCommand_18 (by decide) ?_
      exact hb51 2 μ2 _ _ _ hS (lv_sub hl [0] rfl) h
  · replace h := it h cc
    refine lv_iconst (v := 0) hx hb dX7_readCommand_7 (by decide) ?_
    obtain ⟨rfl, rfl⟩ := pr2 h
    exact r_zret X hS hr hlk (by decide) dX7_readCommand_8
def f_X7_does (q : Nat) (μ : Mem) : Option (Int32 × Mem) := (if (μ q 10) = 1 then bn2 (f_X7_doBegin q μ) (fun v1 μ2 => (some (v1, μ2))) else (if (μ q 10) = 2 then (rd 2 (μ (q + 6)) 0).bind (fun v3 => (rd 2 (μ (q + 6)) 1).bind (fun v4 => bn2 (f_X7_doPut q v3 v4 μ) (fun v5 μ6 => (some (v5, μ6))))) else (if (μ q 10) = 3 then (rd 2 (μ (q + 6)) 0).bind (fun v7 => bn2 (f_X7_doRemove q v7 μ) (fun v8 μ9 => (some (v8, μ9)))) else (if (μ q 10) = 4 then (rd 2 (μ (q + 6)) 0).bind (fun v10 => bn2 (f_X7_doCommit q v10 μ) (fun v11 μ12 => (some (v11, μ12)))) else (if (μ q 10) = 5 then bn2 (f_X7_doAbort q μ) (fun v13 μ14 => (some (v13, μ14))) else (if (μ q 10) = 6 then bn2 (f_X7_doOpen q μ) (fun v15 μ16 => (some (v15, μ16))) else ((rd 2 (μ (q + 6)) 0).bind (fun v17 => bn2 (f_X7_doClose q v17 μ) (fun v18 μ19 => (some (v18, μ19)))))))))))
set_option maxHeartbeats 4000000 in
set_option maxRecDepth 100000 in
theorem c_X7_does (l : Launch) {D : va_G} {cI cG cL : ClassId} {A : Nat → Prop} {EN : State → Heap → Prop} (hE : EnOK EN A) {w : Mem → va_W} {ad : Nat → Nat} {hh : Int64} {q : Nat} {μ : Mem} {r : Int32} {μ' : Mem} (hw : ModelAt cI w ad hh q) (h : f_X7_does q μ = some (r, μ')) : Met l yX7_does wsX7_does (rmk 7 168) (WPre D (tyl cI cG cL) A EN (w μ) [.ref (ad q)]) (PI D A (w μ') r) 0 0 A := by
  have hiX7 : ∀ w ∈ u_ws RX7 TX7 13, w ∈ wsX7_does := by decide +kernel
  have mf248 : Cond.fieldLink RX7 248 (TX7 10).1 (TX7 10).2.1 (TX7 10).2.2.1 ∈ wsX7_does := by decide +kernel
  have mf25 : Cond.fieldLink RX7 25 (TX7 11).1 (TX7 11).2.1 (TX7 11).2.2.1 ∈ wsX7_does := by decide +kernel
  refine met_start (cc := cX7_does) (nL := 1) (ret := (some .int)) (own := RX7) hE (by decide) rfl rfl (Nat.le_of_ble_eq_true rfl) (fun p e s m args below meth c ls X hS hl hr hlk => ?_)
  have hx := X.1.1
  have hb := X.1.2.1
  replace hl : lv_has ls 1 [(0, .ref (ad q))] := hl
  unfold f_X7_does at h
  refine lv_aload_n hx hb dX7_does_0 rfl (lv_at hl 0 rfl) ?_
  refine r_get X hS (T := TX7) (k := 10) (hw.1 μ).1 rfl hiX7 (by decide) mf248 rfl dX7_does_1 ?_
  by_cases cc0 : (μ q 10) = 1
  · replace h := it h cc0
    rw [cc0]
    refine lv_tableIn (off := 40) (tgt := 44) hx hb dX7_does_4 (by decide) (by decide) rfl (by decide) ?_
    refine lv_aload_n hx hb dX7_does_44 rfl (lv_at hl 0 rfl) ?_
    obtain ⟨v1, μ2, ev1, h⟩ := ob2 h
    refine r_ci hS (r_runV (As := []) (rest := []) X hS (c_X7_doBegin l hE (w := w) (ad := ad) (μ := μ) (D := D) (cI := cI) (cG := cG) (cL := cL) hw ev1) (cwV 0 X.1.2.2.2.2 gX7_does_X7_doBegin rfl rfl rfl (by decide +kernel) ⟨Nat.le_of_ble_eq_true rfl, Nat.le_of_ble_eq_true rfl⟩) (q0 := q) (ci := 5) rfl (hw.1 μ).1 rfl hl.1 rfl (Nat.le_of_ble_eq_true rfl) dX7_does_45 ⟨Nat.zero_le _, Nat.zero_le _⟩) (fun H locs hS => ?_)
    obtain ⟨rfl, rfl⟩ := pr2 h
    exact r_iret X hS hr hlk dX7_does_48
  · replace h := ie h cc0
    by_cases cc1 : (μ q 10) = 2
    · replace h := it h cc1
      rw [cc1]
      refine lv_tableIn (off := 45) (tgt := 49) hx hb dX7_does_4 (by decide) (by decide) rfl (by decide) ?_
      refine lv_aload_n hx hb dX7_does_49 rfl (lv_at hl 0 rfl) ?_
      refine lv_aload_n hx hb dX7_does_50 rfl (lv_at hl 0 rfl) ?_
      refine r_get X hS (T := TX7) (k := 11) (hw.1 μ).1 rfl hiX7 (by decide) mf25 rfl dX7_does_51 ?_
      refine lv_iconst (v := 0) hx hb dX7_does_54 (by decide) ?_
      obtain ⟨v3, ev3, h⟩ := ob h
      refine r_iald X hS (hw.2.2.2.2.2.2 μ).1 ev3 dX7_does_55 ?_
      refine lv_aload_n hx hb dX7_does_56 rfl (lv_at hl 0 rfl) ?_
      refine r_get X hS (T := TX7) (k := 11) (hw.1 μ).1 rfl hiX7 (by decide) mf25 rfl dX7_does_57 ?_
      refine lv_iconst (v := 1) hx hb dX7_does_60 (by decide) ?_
      obtain ⟨v4, ev4, h⟩ := ob h
      refine r_iald X hS (hw.2.2.2.2.2.2 μ).1 ev4 dX7_does_61 ?_
      obtain ⟨v5, μ6, ev5, h⟩ := ob2 h
      refine r_ci hS (r_runV (As := [.int v3, .int v4]) (rest := []) X hS (c_X7_doPut l hE (w := w) (ad := ad) (μ := μ) (D := D) (cI := cI) (cG := cG) (cL := cL) hw ev5) (cwV 2 X.1.2.2.2.2 gX7_does_X7_doPut rfl rfl rfl (by decide +kernel) ⟨Nat.le_of_ble_eq_true rfl, Nat.le_of_ble_eq_true rfl⟩) (q0 := q) (ci := 5) rfl (hw.1 μ).1 rfl hl.1 rfl (Nat.le_of_ble_eq_true rfl) dX7_does_62 ⟨Nat.zero_le _, Nat.zero_le _⟩) (fun H locs hS => ?_)
      obtain ⟨rfl, rfl⟩ := pr2 h
      exact r_iret X hS hr hlk dX7_does_65
    · replace h := ie h cc1
      by_cases cc2 : (μ q 10) = 3
      · replace h := it h cc2
        rw [cc2]
        refine lv_tableIn (off := 62) (tgt := 66) hx hb dX7_does_4 (by decide) (by decide) rfl (by decide) ?_
        refine lv_aload_n hx hb dX7_does_66 rfl (lv_at hl 0 rfl) ?_
        refine lv_aload_n hx hb dX7_does_67 rfl (lv_at hl 0 rfl) ?_
        refine r_get X hS (T := TX7) (k := 11) (hw.1 μ).1 rfl hiX7 (by decide) mf25 rfl dX7_does_68 ?_
        refine lv_iconst (v := 0) hx hb dX7_does_71 (by decide) ?_
        obtain ⟨v7, ev7, h⟩ := ob h
        refine r_iald X hS (hw.2.2.2.2.2.2 μ).1 ev7 dX7_does_72 ?_
        obtain ⟨v8, μ9, ev8, h⟩ := ob2 h
        refine r_ci hS (r_runV (As := [.int v7]) (rest := []) X hS (c_X7_doRemove l hE (w := w) (ad := ad) (μ := μ) (D := D) (cI := cI) (cG := cG) (cL := cL) hw ev8) (cwV 1 X.1.2.2.2.2 gX7_does_X7_doRemove rfl rfl rfl (by decide +kernel) ⟨Nat.le_of_ble_eq_true rfl, Nat.le_of_ble_eq_true rfl⟩) (q0 := q) (ci := 5) rfl (hw.1 μ).1 rfl hl.1 rfl (Nat.le_of_ble_eq_true rfl) dX7_does_73 ⟨Nat.zero_le _, Nat.zero_le _⟩) (fun H locs hS => ?_)
        obtain ⟨rfl, rfl⟩ := pr2 h
        exact r_iret X hS hr hlk dX7_does_76
      · replace h := ie h cc2
        by_cases cc3 : (μ q 10) = 4
        · replace h := it h cc3
          rw [cc3]
          refine lv_tableIn (off := 73) (tgt := 77) hx hb dX7_does_4 (by decide) (by decide) rfl (by decide) ?_
          refine lv_aload_n hx hb dX7_does_77 rfl (lv_at hl 0 rfl) ?_
          refine lv_aload_n hx hb dX7_does_78 rfl (lv_at hl 0 rfl) ?_
          refine r_get X hS (T := TX7) (k := 11) (hw.1 μ).1 rfl hiX7 (by decide) mf25 rfl dX7_does_79 ?_
          refine lv_iconst (v := 0) hx hb dX7_does_82 (by decide) ?_
          obtain ⟨v10, ev10, h⟩ := ob h
          refine r_iald X hS (hw.2.2.2.2.2.2 μ).1 ev10 dX7_does_83 ?_
          obtain ⟨v11, μ12, ev11, h⟩ := ob2 h
          refine r_ci hS (r_runV (As := [.int v10]) (rest := []) X hS (c_X7_doCommit l hE (w := w) (ad := ad) (μ := μ) (D := D) (cI := cI) (cG := cG) (cL := cL) hw ev11) (cwV 1 X.1.2.2.2.2 gX7_does_X7_doCommit rfl rfl rfl (by decide +kernel) ⟨Nat.le_of_ble_eq_true rfl, Nat.le_of_ble_eq_true rfl⟩) (q0 := q) (ci := 5) rfl (hw.1 μ).1 rfl hl.1 rfl (Nat.le_of_ble_eq_true rfl) dX7_does_84 ⟨Nat.zero_le _, Nat.zero_le _⟩) (fun H locs hS => ?_)
          obtain ⟨rfl, rfl⟩ := pr2 h
          exact r_iret X hS hr hlk dX7_does_87
        · replace h := ie h cc3
          by_cases cc4 : (μ q 10) = 5
          · replace h := it h cc4
            rw [cc4]
            refine lv_tableIn (off := 84) (tgt := 88) hx hb dX7_does_4 (by decide) (by decide) rfl (by decide) ?_
            refine lv_aload_n hx hb dX7_does_88 rfl (lv_at hl 0 rfl) ?_
            obtain ⟨v13, μ14, ev13, h⟩ := ob2 h
            refine r_ci hS (r_runV (As := []) (rest := []) X hS (c_X7_doAbort l hE (w := w) (ad := ad) (μ := μ) (D := D) (cI := cI) (cG := cG) (cL := cL) hw ev13) (cwV 0 X.1.2.2.2.2 gX7_does_X7_doAbort rfl rfl rfl (by decide +kernel) ⟨Nat.le_of_ble_eq_true rfl, Nat.le_of_ble_eq_true rfl⟩) (q0 := q) (ci := 5) rfl (hw.1 μ).1 rfl hl.1 rfl (Nat.le_of_ble_eq_true rfl) dX7_does_89 ⟨Nat.zero_le _, Nat.zero_le _⟩) (fun H locs hS => ?_)
            obtain ⟨rfl, rfl⟩ := pr2 h
            exact r_iret X hS hr hlk dX7_does_92
          · replace h := ie h cc4
            by_cases cc5 : (μ q 10) = 6
            · replace h := it h cc5
              rw [cc5]
              refine lv_tableIn (off := 89) (tgt := 93) hx hb dX7_does_4 (by decide) (by decide) rfl (by decide) ?_
              refine lv_aload_n hx hb dX7_does_93 rfl (lv_at hl 0 rfl) ?_
              obtain ⟨v15, μ16, ev15, h⟩ := ob2 h
              refine r_ci hS (r_runV (As := []) (rest := []) X hS (c_X7_doOpen l hE (w := w) (ad := ad) (μ := μ) (D := D) (cI := cI) (cG := cG) (cL := cL) hw ev15) (cwV 0 X.1.2.2.2.2 gX7_does_X7_doOpen rfl rfl rfl (by decide +kernel) ⟨Nat.le_of_ble_eq_true rfl, Nat.le_of_ble_eq_true rfl⟩) (q0 := q) (ci := 5) rfl (hw.1 μ).1 rfl hl.1 rfl (Nat.le_of_ble_eq_true rfl) dX7_does_94 ⟨Nat.zero_le _, Nat.zero_le _⟩) (fun H locs hS => ?_)
              obtain ⟨rfl, rfl⟩ := pr2 h
              exact r_iret X hS hr hlk dX7_does_97
            · replace h := ie h cc5
              refine lv_tableOut (tgt := 98) hx hb dX7_does_4 (sw_1_6 cc0 cc1 cc2 cc3 cc4 cc5) (by decide) ?_
              refine lv_aload_n hx hb dX7_does_98 rfl (lv_at hl 0 rfl) ?_
              refine lv_aload_n hx hb dX7_does_99 rfl (lv_at hl 0 rfl) ?_
              refine r_get X hS (T := TX7) (k := 11) (hw.1 μ).1 rfl hiX7 (by decide) mf25 rfl dX7_does_100 ?_
              refine lv_iconst (v := 0) hx hb dX7_does_103 (by decide) ?_
              obtain ⟨v17, ev17, h⟩ := ob h
              refine r_iald X hS (hw.2.2.2.2.2.2 μ).1 ev17 dX7_does_104 ?_
              obtain ⟨v18, μ19, ev18, h⟩ := ob2 h
              refine r_ci hS (r_runV (As := [.int v17]) (rest := []) X hS (c_X7_doClose l hE (w := w) (ad := ad) (μ := μ) (D := D) (cI := cI) (cG := cG) (cL := cL) hw ev18) (cwV 1 X.1.2.2.2.2 gX7_does_X7_doClose rfl rfl rfl (by decide +kernel) ⟨Nat.le_of_ble_eq_true rfl, Nat.le_of_ble_eq_true rfl⟩) (q0 := q) (ci := 5) rfl (hw.1 μ).1 rfl hl.1 rfl (Nat.le_of_ble_eq_true rfl) dX7_does_105 ⟨Nat.zero_le _, Nat.zero_le _⟩) (fun H locs hS => ?_)
              obtain ⟨rfl, rfl⟩ := pr2 h
              exact r_iret X hS hr hlk dX7_does_108
def f_X7_runCommands_b116 (q : Nat) (x1 : Int32) (μ : Mem) : Option (Int32 × Mem) := (pf μ q 7 0).bind (fun μ7 => bn2 (f_X7_ends q x1 μ7) (fun v8 μ9 => (some (v8, μ9))))
def f_X7_runCommands_b107 (q : Nat) (k62 : Int32 → Mem → Option (Int32 × Mem)) (s0 : Int32) (s1 : Int32) (μ : Mem) : Option (Int32 × Mem) := (f_X7_spaces q μ).bind (fun μ14 => k62 (s1 + s0) μ14)
def f_X7_runCommands_b106 (q : Nat) (k62 : Int32 → Mem → Option (Int32 × Mem)) (s0 : Int32) (μ : Mem) : Option (Int32 × Mem) := f_X7_runCommands_b107 q k62 0 s0 μ
def f_X7_runCommands_b62 (q : Nat)  : Nat → Int32 → Mem → Option (Int32 × Mem)
  | 0, _, _ => none
  | fuel62 + 1, x1, μ => (if (μ q 5) ≤ (μ q 9) then f_X7_runCommands_b116 q x1 μ else (if (μ q 7) = 0 then bn2 (f_X7_readCommand q μ) (fun v10 μ11 => bn2 (f_X7_does q μ11) (fun v12 μ13 => (if v10 = 0 then f_X7_runCommands_b106 q (f_X7_runCommands_b62 q fuel62) x1 μ13 else (if (μ13 q 7) = 0 then f_X7_runCommands_b107 q (f_X7_runCommands_b62 q fuel62) 1 x1 μ13 else f_X7_runCommands_b106 q (f_X7_runCommands_b62 q fuel62) x1 μ13)))) else f_X7_runCommands_b116 q x1 μ))
def f_X7_runCommands_b14 (q : Nat)  : Nat → Mem → Option (Int32 × Mem)
  | 0, _ => none
  | fuel14 + 1, μ => (if (μ q 5) ≤ (μ q 9) then (f_X7_hold q μ).bind (fun μ4 => (pf μ4 q 9 0).bind (fun μ5 => (f_X7_spaces q μ5).bind (fun μ6 => f_X7_runCommands_b62 q FU 0 μ6))) else bn2 (f_X7_readCommand q μ) (fun v15 μ16 => (if v15 = 0 then (some ((-10) - (μ16 q 9), μ16)) else (f_X7_spaces q μ16).bind (fun μ17 => f_X7_runCommands_b14 q fuel14 μ17))))
def f_X7_runCommands (q : Nat) (μ : Mem) : Option (Int32 × Mem) := (pf μ q 6 0).bind (fun μ1 => (pf μ1 q 9 0).bind (fun μ2 => (f_X7_spaces q μ2).bind (fun μ3 => f_X7_runCommands_b14 q FU μ3)))
set_option maxHeartbeats 4000000 in
set_option maxRecDepth 100000 in
theorem c_X7_runCommands (l : Launch) {D : va_G} {cI cG cL : ClassId} {A : Nat → Prop} {EN : State → Heap → Prop} (hE : EnOK EN A) {w : Mem → va_W} {ad : Nat → Nat} {hh : Int64} {q : Nat} {μ : Mem} {r : Int32} {μ' : Mem} (hw : ModelAt cI w ad hh q) (h : f_X7_runCommands q μ = some (r, μ')) : Met l yX7_runCommands wsX7_runCommands (rmk 8 188) (WPre D (tyl cI cG cL) A EN (w μ) [.ref (ad q)]) (PI D A (w μ') r) 0 0 A := by
  have hiX7 : ∀ w ∈ u_ws RX7 TX7 13, w ∈ wsX7_runCommands := by decide +kernel
  have mf28 : Cond.fieldLink RX7 28 (TX7 6).1 (TX7 6).2.1 (TX7 6).2.2.1 ∈ wsX7_runCommands := by decide +kernel
  have mf220 : Cond.fieldLink RX7 220 (TX7 9).1 (TX7 9).2.1 (TX7 9).2.2.1 ∈ wsX7_runCommands := by decide +kernel
  have mf211 : Cond.fieldLink RX7 211 (TX7 5).1 (TX7 5).2.1 (TX7 5).2.2.1 ∈ wsX7_runCommands := by decide +kernel
  have mf32 : Cond.fieldLink RX7 32 (TX7 7).1 (TX7 7).2.1 (TX7 7).2.2.1 ∈ wsX7_runCommands := by decide +kernel
  refine met_start (cc := cX7_runCommands) (nL := 4) (ret := (some .int)) (own := RX7) hE (by decide) rfl rfl (Nat.le_of_ble_eq_true rfl) (fun p e s m args below meth c ls X hS hl hr hlk => ?_)
  have hx := X.1.1
  have hb := X.1.2.1
  replace hl : lv_has ls 4 [(0, .ref (ad q))] := hl
  have hb116 : ∀ (x1 : Int32) (μ : Mem) (H : Heap) (locs : List Loc) (ls : Array Slot), HS D A (w μ) s.heap H locs → lv_has ls 4 [(0, .ref (ad q)), (1, .int x1)] → f_X7_runCommands_b116 q x1 μ = some (r, μ') → W p l e (headSpec wsX7_runCommands (rmk 8 188)).room s m args below meth c H locs 0 0 (MQ below (PI D A (w μ') r) args s 0 0 A) (F0 m 116 ls []) := by
    intro x1 μ H locs ls hS hl h
    unfold f_X7_runCommands_b116 at h
    refine lv_aload_n hx hb dX7_runCommands_116 rfl (lv_at hl 0 rfl) ?_
    refine lv_iconst (v := 0) hx hb dX7_runCommands_117 (by decide) ?_
    obtain ⟨μ7, eμ7, h⟩ := ob h
    refine r_putp (w := w) X hS (T := TX7) (k := 7) eμ7 hw.1 rfl hiX7 tyX7 tyX7_ok nmX7 (by decide) mf32 rfl rfl rfl (Nat.le_of_ble_eq_true rfl) rfl dX7_runCommands_118 (fun H locs hS => ?_)
    refine lv_aload_n hx hb dX7_runCommands_121 rfl (lv_at hl 0 rfl) ?_
    refine lv_iload_n hx hb dX7_runCommands_122 rfl (lv_at hl 1 rfl) ?_
    obtain ⟨v8, μ9, ev8, h⟩ := ob2 h
    refine r_ci hS (r_runV (As := [.int x1]) (rest := []) X hS (c_X7_ends l hE (w := w) (ad := ad) (μ := μ7) (D := D) (cI := cI) (cG := cG) (cL := cL) hw ev8) (cwV 1 X.1.2.2.2.2 gX7_runCommands_X7_ends rfl rfl rfl (by decide +kernel) ⟨Nat.le_of_ble_eq_true rfl, Nat.le_of_ble_eq_true rfl⟩) (q0 := q) (ci := 5) rfl (hw.1 μ7).1 rfl hl.1 rfl (Nat.le_of_ble_eq_true rfl) dX7_runCommands_123 ⟨Nat.zero_le _, Nat.zero_le _⟩) (fun H locs hS => ?_)
    obtain ⟨rfl, rfl⟩ := pr2 h
    exact r_iret X hS hr hlk dX7_runCommands_126
  have hb107 : ∀ (k62 : Int32 → Mem → Option (Int32 × Mem)), (∀ (x1 : Int32) (μ : Mem) (H : Heap) (locs : List Loc) (ls : Array Slot), HS D A (w μ) s.heap H locs → lv_has ls 4 [(0, .ref (ad q)), (1, .int x1)] → k62 x1 μ = some (r, μ') → W p l e (headSpec wsX7_runCommands (rmk 8 188)).room s m args below meth c H locs 0 0 (MQ below (PI D A (w μ') r) args s 0 0 A) (F0 m 62 ls [])) → ∀ (s0 : Int32) (s1 : Int32) (μ : Mem) (H : Heap) (locs : List Loc) (ls : Array Slot), HS D A (w μ) s.heap H locs → lv_has ls 4 [(0, .ref (ad q))] → f_X7_runCommands_b107 q k62 s0 s1 μ = some (r, μ') → W p l e (headSpec wsX7_runCommands (rmk 8 188)).room s m args below meth c H locs 0 0 (MQ below (PI D A (w μ') r) args s 0 0 A) (F0 m 107 ls [.int s0, .int s1]) := by
    intro k62 hk62 s0 s1 μ H locs ls hS hl h
    unfold f_X7_runCommands_b107 at h
    refine lv_iadd hx hb dX7_runCommands_107 ?_
    refine lv_istore_n (lv' := [(1, .int (s1 + s0)), (0, .ref (ad q))]) hx hb dX7_runCommands_108 rfl hl (by decide) rfl (fun ls hl => ?_)
    refine lv_aload_n hx hb dX7_runCommands_109 rfl (lv_at hl 1 rfl) ?_
    obtain ⟨μ14, eμ14, h⟩ := ob h
    refine r_cv hS (r_runV (As := []) (rest := []) X hS (c_X7_spaces l hE (w := w) (ad := ad) (μ := μ) (D := D) (cI := cI) (cG := cG) (cL := cL) hw eμ14) (cwV 0 X.1.2.2.2.2 gX7_runCommands_X7_spaces rfl rfl rfl (by decide +kernel) ⟨Nat.le_of_ble_eq_true rfl, Nat.le_of_ble_eq_true rfl⟩) (q0 := q) (ci := 5) rfl (hw.1 μ).1 rfl hl.1 rfl (Nat.le_of_ble_eq_true rfl) dX7_runCommands_110 ⟨Nat.zero_le _, Nat.zero_le _⟩) (fun H locs hS => ?_)
    refine lv_goto (tgt := 62) hx hb dX7_runCommands_113 (by decide) ?_
    exact hk62 (s1 + s0) μ14 _ _ _ hS (lv_sub hl [1, 0] rfl) h
  have hb106 : ∀ (k62 : Int32 → Mem → Option (Int32 × Mem)), (∀ (x1 : Int32) (μ : Mem) (H : Heap) (locs : List Loc) (ls : Array Slot), HS D A (w μ) s.heap H locs → lv_has ls 4 [(0, .ref (ad q)), (1, .int x1)] → k62 x1 μ = some (r, μ') → W p l e (headSpec wsX7_runCommands (rmk 8 188)).room s m args below meth c H locs 0 0 (MQ below (PI D A (w μ') r) args s 0 0 A) (F0 m 62 ls [])) → ∀ (s0 : Int32) (μ : Mem) (H : Heap) (locs : List Loc) (ls : Array Slot), HS D A (w μ) s.heap H locs → lv_has ls 4 [(0, .ref (ad q))] → f_X7_runCommands_b106 q k62 s0 μ = some (r, μ') → W p l e (headSpec wsX7_runCommands (rmk 8 188)).room s m args below meth c H locs 0 0 (MQ below (PI D A (w μ') r) args s 0 0 A) (F0 m 106 ls [.int s0]) := by
    intro k62 hk62 s0 μ H locs ls hS hl h
    unfold f_X7_runCommands_b106 at h
    refine lv_iconst (v := 0) hx hb dX7_runCommands_106 (by decide) ?_
    exact hb107 k62 hk62 0 s0 μ _ _ _ hS (lv_sub hl [0] rfl) h
  have hb62 : ∀ (fu : Nat) (x1 : Int32) (μ : Mem) (H : Heap) (locs : List Loc) (ls : Array Slot), HS D A (w μ) s.heap H locs → lv_has ls 4 [(0, .ref (ad q)), (1, .int x1)] → f_X7_runCommands_b62 q fu x1 μ = some (r, μ') → W p l e (headSpec wsX7_runCommands (rmk 8 188)).room s m args below meth c H locs 0 0 (MQ below (PI D A (w μ') r) args s 0 0 A) (F0 m 62 ls []) := by
    intro fu
    induction fu with
    | zero =>
      intro x1 μ H locs ls hS hl h
      rw [f_X7_runCommands_b62] at h
      cases h
    | succ fuel62 ih62 =>
      intro x1 μ H locs ls hS hl h
      rw [f_X7_runCommands_b62] at h
      refine lv_aload_n hx hb dX7_runCommands_62 rfl (lv_at hl 0 rfl) ?_
      refine r_get X hS (T := TX7) (k := 9) (hw.1 μ).1 rfl hiX7 (by decide) mf220 rfl dX7_runCommands_63 ?_
      refine lv_aload_n hx hb dX7_runCommands_66 rfl (lv_at hl 0 rfl) ?_
      refine r_get X hS (T := TX7) (k := 5) (hw.1 μ).1 rfl hiX7 (by decide) mf211 rfl dX7_runCommands_67 ?_
      refine lv_icmp_ge (tgt := 116) hx hb dX7_runCommands_70 (by decide) (fun cc => ?_) (fun cc => ?_)
      · replace h := it h cc
        exact hb116 x1 μ _ _ _ hS (lv_sub hl [0, 1] rfl) h
      · replace h := ie h cc
        refine lv_aload_n hx hb dX7_runCommands_73 rfl (lv_at hl 0 rfl) ?_
        refine r_get X hS (T := TX7) (k := 7) (hw.1 μ).1 rfl hiX7 (by decide) mf32 rfl dX7_runCommands_74 ?_
        refine lv_if_ne (tgt := 116) hx hb dX7_runCommands_77 (by decide) (fun cc => ?_) (fun cc => ?_)
        · replace h := ie h cc
          exact hb116 x1 μ _ _ _ hS (lv_sub hl [0, 1] rfl) h
        · replace h := it h cc
          refine lv_aload_n hx hb dX7_runCommands_80 rfl (lv_at hl 0 rfl) ?_
          obtain ⟨v10, μ11, ev10, h⟩ := ob2 h
          refine r_ci hS (r_runV (As := []) (rest := []) X hS (c_X7_readCommand l hE (w := w) (ad := ad) (μ := μ) (D := D) (cI := cI) (cG := cG) (cL := cL) hw ev10) (cwV 0 X.1.2.2.2.2 gX7_runCommands_X7_readCommand rfl rfl rfl (by decide +kernel) ⟨Nat.le_of_ble_eq_true rfl, Nat.le_of_ble_eq_true rfl⟩) (q0 := q) (ci := 5) rfl (hw.1 μ).1 rfl hl.1 rfl (Nat.le_of_ble_eq_true rfl) dX7_runCommands_81 ⟨Nat.zero_le _, Nat.zero_le _⟩) (fun H locs hS => ?_)
          refine lv_istore_n (lv' := [(2, .int v10), (0, .ref (ad q)), (1, .int x1)]) hx hb dX7_runCommands_84 rfl hl (by decide) rfl (fun ls hl => ?_)
          refine lv_aload_n hx hb dX7_runCommands_85 rfl (lv_at hl 1 rfl) ?_
          obtain ⟨v12, μ13, ev12, h⟩ := ob2 h
          refine r_ci hS (r_runV (As := []) (rest := []) X hS (c_X7_does l hE (w := w) (ad := ad) (μ := μ11) (D := D) (cI := cI) (cG := cG) (cL := cL) hw ev12) (cwV 0 X.1.2.2.2.2 gX7_runCommands_X7_does rfl rfl rfl (by decide +kernel) ⟨Nat.le_of_ble_eq_true rfl, Nat.le_of_ble_eq_true rfl⟩) (q0 := q) (ci := 5) rfl (hw.1 μ11).1 rfl hl.1 rfl (Nat.le_of_ble_eq_true rfl) dX7_runCommands_86 ⟨Nat.zero_le _, Nat.zero_le _⟩) (fun H locs hS => ?_)
          refine lv_istore_n (lv' := [(3, .int v12), (2, .int v10), (0, .ref (ad q)), (1, .int x1)]) hx hb dX7_runCommands_89 rfl hl (by decide) rfl (fun ls hl => ?_)
          refine lv_iload_n hx hb dX7_runCommands_90 rfl (lv_at hl 3 rfl) ?_
          refine lv_iload_n hx hb dX7_runCommands_91 rfl (lv_at hl 1 rfl) ?_
          refine lv_if_eq (tgt := 106) hx hb dX7_runCommands_92 (by decide) (fun cc => ?_) (fun cc => ?_)
          · replace h := it h cc
            exact hb106 (f_X7_runCommands_b62 q fuel62) ih62 x1 μ13 _ _ _ hS (lv_sub hl [2] rfl) h
          · replace h := ie h cc
            refine lv_aload_n hx hb dX7_runCommands_95 rfl (lv_at hl 2 rfl) ?_
            refine r_get X hS (T := TX7) (k := 7) (hw.1 μ13).1 rfl hiX7 (by decide) mf32 rfl dX7_runCommands_96 ?_
            refine lv_if_ne (tgt := 106) hx hb dX7_runCommands_99 (by decide) (fun cc => ?_) (fun cc => ?_)
            · replace h := ie h cc
              exact hb106 (f_X7_runCommands_b62 q fuel62) ih62 x1 μ13 _ _ _ hS (lv_sub hl [2] rfl) h
            · replace h := it h cc
              refine lv_iconst (v := 1) hx hb dX7_runCommands_102 (by decide) ?_
              refine lv_goto (tgt := 107) hx hb dX7_runCommands_103 (by decide) ?_
              exact hb107 (f_X7_runCommands_b62 q fuel62) ih62 1 x1 μ13 _ _ _ hS (lv_sub hl [2] rfl) h
  have hb14 : ∀ (fu : Nat)  (μ : Mem) (H : Heap) (locs : List Loc) (ls : Array Slot), HS D A (w μ) s.heap H locs → lv_has ls 4 [(0, .ref (ad q))] → f_X7_runCommands_b14 q fu μ = some (r, μ') → W p l e (headSpec wsX7_runCommands (rmk 8 188)).room s m args below meth c H locs 0 0 (MQ below (PI D A (w μ') r) args s 0 0 A) (F0 m 14 ls []) := by
    intro fu
    induction fu with
    | zero =>
      intro μ H locs ls hS hl h
      rw [f_X7_runCommands_b14] at h
      cases h
    | succ fuel14 ih14 =>
      intro μ H locs ls hS hl h
      rw [f_X7_runCommands_b14] at h
      refine lv_aload_n hx hb dX7_runCommands_14 rfl (lv_at hl 0 rfl) ?_
      refine r_get X hS (T := TX7) (k := 9) (hw.1 μ).1 rfl hiX7 (by decide) mf220 rfl dX7_runCommands_15 ?_
      refine lv_aload_n hx hb dX7_runCommands_18 rfl (lv_at hl 0 rfl) ?_
      refine r_get X hS (T := TX7) (k := 5) (hw.1 μ).1 rfl hiX7 (by decide) mf211 rfl dX7_runCommands_19 ?_
      refine lv_icmp_ge (tgt := 47) hx hb dX7_runCommands_22 (by decide) (fun cc => ?_) (fun cc => ?_)
      · replace h := it h cc
        refine lv_aload_n hx hb dX7_runCommands_47 rfl (lv_at hl 0 rfl) ?_
        obtain ⟨μ4, eμ4, h⟩ := ob h
        refine r_cv hS (r_runV (As := []) (rest := []) X hS (c_X7_hold l hE (w := w) (ad := ad) (μ := μ) (D := D) (cI := cI) (cG := cG) (cL := cL) hw eμ4) (cwV 0 X.1.2.2.2.2 gX7_runCommands_X7_hold rfl rfl rfl (by decide +kernel) ⟨Nat.le_of_ble_eq_true rfl, Nat.le_of_ble_eq_true rfl⟩) (q0 := q) (ci := 5) rfl (hw.1 μ).1 rfl hl.1 rfl (Nat.le_of_ble_eq_true rfl) dX7_runCommands_48 ⟨Nat.zero_le _, Nat.zero_le _⟩) (fun H locs hS => ?_)
        refine lv_aload_n hx hb dX7_runCommands_51 rfl (lv_at hl 0 rfl) ?_
        refine lv_iconst (v := 0) hx hb dX7_runCommands_52 (by decide) ?_
        obtain ⟨μ5, eμ5, h⟩ := ob h
        refine r_putp (w := w) X hS (T := TX7) (k := 9) eμ5 hw.1 rfl hiX7 tyX7 tyX7_ok nmX7 (by decide) mf220 rfl rfl rfl (Nat.le_of_ble_eq_true rfl) rfl dX7_runCommands_53 (fun H locs hS => ?_)
        refine lv_iconst (v := 0) hx hb dX7_runCommands_56 (by decide) ?_
        refine lv_istore_n (lv' := [(1, .int 0), (0, .ref (ad q))]) hx hb dX7_runCommands_57 rfl hl (by decide) rfl (fun ls hl => ?_)
        refine lv_aload_n hx hb dX7_runCommands_58 rfl (lv_at hl 1 rfl) ?_
        obtain ⟨μ6, eμ6, h⟩ := ob h
        refine r_cv hS (r_runV (As := []) (rest := []) X hS (c_X7_spaces l hE (w := w) (ad := ad) (μ := μ5) (D := D) (cI := cI) (cG := cG) (cL := cL) hw eμ6) (cwV 0 X.1.2.2.2.2 gX7_runCommands_X7_spaces rfl rfl rfl (by decide +kernel) ⟨Nat.le_of_ble_eq_true rfl, Nat.le_of_ble_eq_true rfl⟩) (q0 := q) (ci := 5) rfl (hw.1 μ5).1 rfl hl.1 rfl (Nat.le_of_ble_eq_true rfl) dX7_runCommands_59 ⟨Nat.zero_le _, Nat.zero_le _⟩) (fun H locs hS => ?_)
        exact hb62 FU 0 μ6 _ _ _ hS (lv_sub hl [1, 0] rfl) h
      · replace h := ie h cc
        refine lv_aload_n hx hb dX7_runCommands_25 rfl (lv_at hl 0 rfl) ?_
        obtain ⟨v15, μ16, ev15, h⟩ := ob2 h
        refine r_ci hS (r_runV (As := []) (rest := []) X hS (c_X7_readCommand l hE (w := w) (ad := ad) (μ := μ) (D := D) (cI := cI) (cG := cG) (cL := cL) hw ev15) (cwV 0 X.1.2.2.2.2 gX7_runCommands_X7_readCommand rfl rfl rfl (by decide +kernel) ⟨Nat.le_of_ble_eq_true rfl, Nat.le_of_ble_eq_true rfl⟩) (q0 := q) (ci := 5) rfl (hw.1 μ).1 rfl hl.1 rfl (Nat.le_of_ble_eq_true rfl) dX7_runCommands_26 ⟨Nat.zero_le _, Nat.zero_le _⟩) (fun H locs hS => ?_)
        refine lv_if_ne (tgt := 40) hx hb dX7_runCommands_29 (by decide) (fun cc => ?_) (fun cc => ?_)
        · replace h := ie h cc
          refine lv_aload_n hx hb dX7_runCommands_40 rfl (lv_at hl 0 rfl) ?_
          obtain ⟨μ17, eμ17, h⟩ := ob h
          refine r_cv hS (r_runV (As := []) (rest := []) X hS (c_X7_spaces l hE (w := w) (ad := ad) (μ := μ16) (D := D) (cI := cI) (cG := cG) (cL := cL) hw eμ17) (cwV 0 X.1.2.2.2.2 gX7_runCommands_X7_spaces rfl rfl rfl (by decide +kernel) ⟨Nat.le_of_ble_eq_true rfl, Nat.le_of_ble_eq_true rfl⟩) (q0 := q) (ci := 5) rfl (hw.1 μ16).1 rfl hl.1 rfl (Nat.le_of_ble_eq_true rfl) dX7_runCommands_41 ⟨Nat.zero_le _, Nat.zero_le _⟩) (fun H locs hS => ?_)
          refine lv_goto (tgt := 14) hx hb dX7_runCommands_44 (by decide) ?_
          exact ih14 μ17 _ _ _ hS (lv_sub hl [0] rfl) h
        · replace h := it h cc
          refine lv_bipush (v := (-10)) hx hb dX7_runCommands_32 (by decide) ?_
          refine lv_aload_n hx hb dX7_runCommands_34 rfl (lv_at hl 0 rfl) ?_
          refine r_get X hS (T := TX7) (k := 9) (hw.1 μ16).1 rfl hiX7 (by decide) mf220 rfl dX7_runCommands_35 ?_
          refine lv_isub hx hb dX7_runCommands_38 ?_
          obtain ⟨rfl, rfl⟩ := pr2 h
          exact r_iret X hS hr hlk dX7_runCommands_39
  unfold f_X7_runCommands at h
  refine lv_aload_n hx hb dX7_runCommands_0 rfl (lv_at hl 0 rfl) ?_
  refine lv_iconst (v := 0) hx hb dX7_runCommands_1 (by decide) ?_
  obtain ⟨μ1, eμ1, h⟩ := ob h
  refine r_putp (w := w) X hS (T := TX7) (k := 6) eμ1 hw.1 rfl hiX7 tyX7 tyX7_ok nmX7 (by decide) mf28 rfl rfl rfl (Nat.le_of_ble_eq_true rfl) rfl dX7_runCommands_2 (fun H locs hS => ?_)
  refine lv_aload_n hx hb dX7_runCommands_5 rfl (lv_at hl 0 rfl) ?_
  refine lv_iconst (v := 0) hx hb dX7_runCommands_6 (by decide) ?_
  obtain ⟨μ2, eμ2, h⟩ := ob h
  refine r_putp (w := w) X hS (T := TX7) (k := 9) eμ2 hw.1 rfl hiX7 tyX7 tyX7_ok nmX7 (by decide) mf220 rfl rfl rfl (Nat.le_of_ble_eq_true rfl) rfl dX7_runCommands_7 (fun H locs hS => ?_)
  refine lv_aload_n hx hb dX7_runCommands_10 rfl (lv_at hl 0 rfl) ?_
  obtain ⟨μ3, eμ3, h⟩ := ob h
  refine r_cv hS (r_runV (As := []) (rest := []) X hS (c_X7_spaces l hE (w := w) (ad := ad) (μ := μ2) (D := D) (cI := cI) (cG := cG) (cL := cL) hw eμ3) (cwV 0 X.1.2.2.2.2 gX7_runCommands_X7_spaces rfl rfl rfl (by decide +kernel) ⟨Nat.le_of_ble_eq_true rfl, Nat.le_of_ble_eq_true rfl⟩) (q0 := q) (ci := 5) rfl (hw.1 μ2).1 rfl hl.1 rfl (Nat.le_of_ble_eq_true rfl) dX7_runCommands_11 ⟨Nat.zero_le _, Nat.zero_le _⟩) (fun H locs hS => ?_)
  exact hb14 FU μ3 _ _ _ hS (lv_sub hl [0] rfl) h
def f_X7_undo (q : Nat) (μ : Mem) : Option (Int32 × Mem) := (pf μ q 6 0).bind (fun μ1 => (if (μ1 q 3) = 0 then bn2 (f_X7_fails q 1 μ1) (fun v4 μ5 => (some (v4, μ5))) else (pf μ1 q 3 ((μ1 q 3) - 1)).bind (fun μ2 => (f_X7_bring (q + 3) 1880 (470 * (μ2 q 3)) (q + 1) 470 0 μ2).bind (fun μ3 => (some (μ3 q 3, μ3))))))
set_option maxHeartbeats 4000000 in
set_option maxRecDepth 100000 in
theorem c_X7_undo (l : Launch) {D : va_G} {cI cG cL : ClassId} {A : Nat → Prop} {EN : State → Heap → Prop} (hE : EnOK EN A) {w : Mem → va_W} {ad : Nat → Nat} {hh : Int64} {q : Nat} {μ : Mem} {r : Int32} {μ' : Mem} (hw : ModelAt cI w ad hh q) (h : f_X7_undo q μ = some (r, μ')) : Met l yX7_undo wsX7_undo (rmk 1 24) (WPre D (tyl cI cG cL) A EN (w μ) [.ref (ad q)]) (PI D A (w μ') r) 0 0 A := by
  have hiX7 : ∀ w ∈ u_ws RX7 TX7 13, w ∈ wsX7_undo := by decide +kernel
  have mf28 : Cond.fieldLink RX7 28 (TX7 6).1 (TX7 6).2.1 (TX7 6).2.2.1 ∈ wsX7_undo := by decide +kernel
  have mf39 : Cond.fieldLink RX7 39 (TX7 3).1 (TX7 3).2.1 (TX7 3).2.2.1 ∈ wsX7_undo := by decide +kernel
  have mf16 : Cond.fieldLink RX7 16 (TX7 2).1 (TX7 2).2.1 (TX7 2).2.2.1 ∈ wsX7_undo := by decide +kernel
  have mf7 : Cond.fieldLink RX7 7 (TX7 0).1 (TX7 0).2.1 (TX7 0).2.2.1 ∈ wsX7_undo := by decide +kernel
  refine met_start (cc := cX7_undo) (nL := 1) (ret := (some .int)) (own := RX7) hE (by decide) rfl rfl (Nat.le_of_ble_eq_true rfl) (fun p e s m args below meth c ls X hS hl hr hlk => ?_)
  have hx := X.1.1
  have hb := X.1.2.1
  replace hl : lv_has ls 1 [(0, .ref (ad q))] := hl
  unfold f_X7_undo at h
  refine lv_aload_n hx hb dX7_undo_0 rfl (lv_at hl 0 rfl) ?_
  refine lv_iconst (v := 0) hx hb dX7_undo_1 (by decide) ?_
  obtain ⟨μ1, eμ1, h⟩ := ob h
  refine r_putp (w := w) X hS (T := TX7) (k := 6) eμ1 hw.1 rfl hiX7 tyX7 tyX7_ok nmX7 (by decide) mf28 rfl rfl rfl (Nat.le_of_ble_eq_true rfl) rfl dX7_undo_2 (fun H locs hS => ?_)
  refine lv_aload_n hx hb dX7_undo_5 rfl (lv_at hl 0 rfl) ?_
  refine r_get X hS (T := TX7) (k := 3) (hw.1 μ1).1 rfl hiX7 (by decide) mf39 rfl dX7_undo_6 ?_
  refine lv_if_ne (tgt := 18) hx hb dX7_undo_9 (by decide) (fun cc => ?_) (fun cc => ?_)
  · replace h := ie h cc
    refine lv_aload_n hx hb dX7_undo_18 rfl (lv_at hl 0 rfl) ?_
    refine lv_dup hx hb dX7_undo_19 rfl ?_
    refine r_get X hS (T := TX7) (k := 3) (hw.1 μ1).1 rfl hiX7 (by decide) mf39 rfl dX7_undo_20 ?_
    refine lv_iconst (v := 1) hx hb dX7_undo_23 (by decide) ?_
    refine lv_isub hx hb dX7_undo_24 ?_
    obtain ⟨μ2, eμ2, h⟩ := ob h
    refine r_putp (w := w) X hS (T := TX7) (k := 3) eμ2 hw.1 rfl hiX7 tyX7 tyX7_ok nmX7 (by decide) mf39 rfl rfl rfl (Nat.le_of_ble_eq_true rfl) rfl dX7_undo_25 (fun H locs hS => ?_)
    refine lv_aload_n hx hb dX7_undo_28 rfl (lv_at hl 0 rfl) ?_
    refine r_get X hS (T := TX7) (k := 2) (hw.1 μ2).1 rfl hiX7 (by decide) mf16 rfl dX7_undo_29 ?_
    refine lv_sipush (v := 470) hx hb dX7_undo_32 (by decide) ?_
    refine lv_aload_n hx hb dX7_undo_35 rfl (lv_at hl 0 rfl) ?_
    refine r_get X hS (T := TX7) (k := 3) (hw.1 μ2).1 rfl hiX7 (by decide) mf39 rfl dX7_undo_36 ?_
    refine lv_imul hx hb dX7_undo_39 ?_
    refine lv_aload_n hx hb dX7_undo_40 rfl (lv_at hl 0 rfl) ?_
    refine r_get X hS (T := TX7) (k := 0) (hw.1 μ2).1 rfl hiX7 (by decide) mf7 rfl dX7_undo_41 ?_
    refine lv_iconst (v := 0) hx hb dX7_undo_44 (by decide) ?_
    obtain ⟨μ3, eμ3, h⟩ := ob h
    refine r_cv hS (r_runS (As := [.ref (ad (q + 3)), .int (470 * (μ2 q 3)), .ref (ad (q + 1)), .int 0]) (rest := []) X hS (c_X7_bring l hE (w := w) (ad := ad) (μ := μ2) (D := D) (cI := cI) (cG := cG) (cL := cL) hw.2.2.2.1 hw.2.1 eμ3) (va_cwS 4 X.1.2.2.2.2 gX7_undo_X7_bring rfl rfl rfl (by decide +kernel) ⟨Nat.le_of_ble_eq_true rfl, Nat.le_of_ble_eq_true rfl⟩) rfl hl.1 rfl (Nat.le_of_ble_eq_true rfl) dX7_undo_45 ⟨Nat.zero_le _, Nat.zero_le _⟩) (fun H locs hS => ?_)
    refine lv_aload_n hx hb dX7_undo_48 rfl (lv_at hl 0 rfl) ?_
    refine r_get X hS (T := TX7) (k := 3) (hw.1 μ3).1 rfl hiX7 (by decide) mf39 rfl dX7_undo_49 ?_
    obtain ⟨rfl, rfl⟩ := pr2 h
    exact r_iret X hS hr hlk dX7_undo_52
  · replace h := it h cc
    refine lv_aload_n hx hb dX7_undo_12 rfl (lv_at hl 0 rfl) ?_
    refine lv_iconst (v := 1) hx hb dX7_undo_13 (by decide) ?_
    obtain ⟨v4, μ5, ev4, h⟩ := ob2 h
    refine r_ci hS (r_runV (As := [.int 1]) (rest := []) X hS (c_X7_fails l hE (w := w) (ad := ad) (μ := μ1) (D := D) (cI := cI) (cG := cG) (cL := cL) hw ev4) (cwV 1 X.1.2.2.2.2 gX7_undo_X7_fails rfl rfl rfl (by decide +kernel) ⟨Nat.le_of_ble_eq_true rfl, Nat.le_of_ble_eq_true rfl⟩) (q0 := q) (ci := 5) rfl (hw.1 μ1).1 rfl hl.1 rfl (Nat.le_of_ble_eq_true rfl) dX7_undo_14 ⟨Nat.zero_le _, Nat.zero_le _⟩) (fun H locs hS => ?_)
    obtain ⟨rfl, rfl⟩ := pr2 h
    exact r_iret X hS hr hlk dX7_undo_17
def f_X7_mix (q : Nat) (a1 : Int32) (μ : Mem) (hh : Int64) : Option Int64 := (some ((31 * hh) + a1.toInt64))
set_option maxHeartbeats 4000000 in
set_option maxRecDepth 100000 in
theorem c_X7_mix (l : Launch) {D : va_G} {cI cG cL : ClassId} {A : Nat → Prop} {EN : State → Heap → Prop} (hE : EnOK EN A) {w : Int64 → Mem → va_W} {ad : Nat → Nat} {q : Nat} {a1 : Int32} {μ : Mem} {hh : Int64}  {hh' : Int64} (hw : ∀ h, ModelAt cI (w h) ad h q) (hwh : ∀ (h h1 : Int64) (μ : Mem), (w h μ).set q (ad q, .inr (5, fsModel ad q h1 (μ q))) = w h1 μ) (h : f_X7_mix q a1 μ hh = some hh') : Met l yX7_mix wsX7_mix (rmk 0 0) (WPre D (tyl cI cG cL) A EN (w hh μ) [.ref (ad q), .int a1]) (PV D A (w hh' μ)) 0 0 A := by
  have hiX7 : ∀ w ∈ u_ws RX7 TX7 13, w ∈ wsX7_mix := by decide +kernel
  have mc267 : Cond.constantLong RX7 267 31 ∈ wsX7_mix := by decide +kernel
  have mf269 : Cond.fieldLink RX7 269 (TX7 12).1 (TX7 12).2.1 (TX7 12).2.2.1 ∈ wsX7_mix := by decide +kernel
  refine met_start (cc := cX7_mix) (nL := 2) (ret := none) (own := RX7) hE (by decide) rfl rfl (Nat.le_of_ble_eq_true rfl) (fun p e s m args below meth c ls X hS hl hr hlk => ?_)
  have hx := X.1.1
  have hb := X.1.2.1
  replace hl : lv_has ls 2 [(0, .ref (ad q)), (1, .int a1)] := hl
  unfold f_X7_mix at h
  refine lv_aload_n hx hb dX7_mix_0 rfl (lv_at hl 0 rfl) ?_
  refine lv_ldc2 (v := 31) hx hb X.1.2.2.2.1 (X.1.2.2.2.2 _ mc267) dX7_mix_1 ?_
  refine lv_aload_n hx hb dX7_mix_4 rfl (lv_at hl 0 rfl) ?_
  refine r_get X hS (T := TX7) (k := 12) ((hw hh).1 μ).1 rfl hiX7 (by decide) mf269 rfl dX7_mix_5 ?_
  refine lv_lmul hx hb dX7_mix_8 ?_
  refine lv_iload_n hx hb dX7_mix_9 rfl (lv_at hl 1 rfl) ?_
  refine lv_i2l (v := a1.toInt64) hx hb dX7_mix_10 rfl ?_
  refine lv_ladd hx hb dX7_mix_11 ?_
  refine r_puth X hS (h1 := (31 * hh) + a1.toInt64) (hw hh) hwh hiX7 mf269 dX7_mix_12 (fun H locs hS => ?_)
  cases h
  exact r_vret X hS hr hlk dX7_mix_15
def f_X7_mixRest_b128 (q : Nat)  (μ : Mem) (hh : Int64) : Option Int64 := (some hh)
def f_X7_mixRest_b91 (q : Nat)  : Nat → Int32 → Mem → Int64 → Option Int64
  | 0, _, _, _ => none
  | fuel91 + 1, x1, μ, hh => (if 100 ≤ x1 then f_X7_mixRest_b128 q μ hh else (rd 470 (μ (q + 1)) 466).bind (fun v5 => (if v5 = 1 then (f_X7_drafts q μ).bind (fun v6 => (f_X7_valueBy q v6 x1 μ).bind (fun v7 => (f_X7_mix q v7 μ hh).bind (fun y8 => f_X7_mixRest_b91 q fuel91 (x1 + 1) μ y8))) else f_X7_mixRest_b128 q μ hh)))
def f_X7_mixRest_b54 (q : Nat) (k75 : Int32 → Mem → Int64 → Option Int64) : Nat → Int32 → Int32 → Mem → Int64 → Option Int64
  | 0, _, _, _, _ => none
  | fuel54 + 1, x1, x2, μ, hh => (if 4 ≤ x2 then k75 x1 μ hh else (f_X7_tellEntry q x1 x2 μ).bind (fun v9 => (f_X7_mix q v9 μ hh).bind (fun y10 => f_X7_mixRest_b54 q k75 fuel54 x1 (x2 + 1) μ y10)))
def f_X7_mixRest_b40 (q : Nat)  : Nat → Int32 → Mem → Int64 → Option Int64
  | 0, _, _, _ => none
  | fuel40 + 1, x1, μ, hh => (f_X7_now q μ).bind (fun v1 => (f_X7_entriesBy q v1 μ).bind (fun v2 => (if v2 ≤ x1 then (f_X7_tellNext q μ).bind (fun v3 => (f_X7_mix q v3 μ hh).bind (fun y4 => f_X7_mixRest_b91 q FU 0 μ y4)) else f_X7_mixRest_b54 q (fun z12 _ y11 => f_X7_mixRest_b40 q fuel40 (z12 + 1) μ y11) FU x1 0 μ hh)))
def f_X7_mixRest_b10 (q : Nat) (k32 : Int32 → Mem → Int64 → Option Int64) : Nat → Int32 → Int32 → Mem → Int64 → Option Int64
  | 0, _, _, _, _ => none
  | fuel10 + 1, x1, x2, μ, hh => (if 6 ≤ x2 then k32 x1 μ hh else (f_X7_tellBed q x1 x2 μ).bind (fun v13 => (f_X7_mix q v13 μ hh).bind (fun y14 => f_X7_mixRest_b10 q k32 fuel10 x1 (x2 + 1) μ y14)))
def f_X7_mixRest_b2 (q : Nat)  : Nat → Int32 → Mem → Int64 → Option Int64
  | 0, _, _, _ => none
  | fuel2 + 1, x1, μ, hh => (if 32 ≤ x1 then f_X7_mixRest_b40 q FU 0 μ hh else f_X7_mixRest_b10 q (fun z16 _ y15 => f_X7_mixRest_b2 q fuel2 (z16 + 1) μ y15) FU x1 0 μ hh)
def f_X7_mixRest (q : Nat) (μ : Mem) (hh : Int64) : Option Int64 := f_X7_mixRest_b2 q FU 0 μ hh
set_option maxHeartbeats 4000000 in
set_option maxRecDepth 100000 in
theorem c_X7_mixRest (l : Launch) {D : va_G} {cI cG cL : ClassId} {A : Nat → Prop} {EN : State → Heap → Prop} (hE : EnOK EN A) {w : Int64 → Mem → va_W} {ad : Nat → Nat} {q : Nat} {μ : Mem} {hh : Int64}  {hh' : Int64} (hw : ∀ h, ModelAt cI (w h) ad h q) (hwh : ∀ (h h1 : Int64) (μ : Mem), (w h μ).set q (ad q, .inr (5, fsModel ad q h1 (μ q))) = w h1 μ) (h : f_X7_mixRest q μ hh = some hh') : Met l yX7_mixRest wsX7_mixRest (rmk 5 111) (WPre D (tyl cI cG cL) A EN (w hh μ) [.ref (ad q)]) (PV D A (w hh' μ)) 0 0 A := by
  have hiX7 : ∀ w ∈ u_ws RX7 TX7 13, w ∈ wsX7_mixRest := by decide +kernel
  have mf7 : Cond.fieldLink RX7 7 (TX7 0).1 (TX7 0).2.1 (TX7 0).2.2.1 ∈ wsX7_mixRest := by decide +kernel
  refine met_start (cc := cX7_mixRest) (nL := 3) (ret := none) (own := RX7) hE (by decide) rfl rfl (Nat.le_of_ble_eq_true rfl) (fun p e s m args below meth c ls X hS hl hr hlk => ?_)
  have hx := X.1.1
  have hb := X.1.2.1
  replace hl : lv_has ls 3 [(0, .ref (ad q))] := hl
  have hb128 : ∀  (hh : Int64) (H : Heap) (locs : List Loc) (ls : Array Slot), HS D A (w hh μ) s.heap H locs → lv_has ls 3 [] → f_X7_mixRest_b128 q μ hh = some hh' → W p l e (headSpec wsX7_mixRest (rmk 5 111)).room s m args below meth c H locs 0 0 (MQ below (PV D A (w hh' μ)) args s 0 0 A) (F0 m 128 ls []) := by
    intro hh H locs ls hS hl h
    unfold f_X7_mixRest_b128 at h
    cases h
    exact r_vret X hS hr hlk dX7_mixRest_128
  have hb91 : ∀ (fu : Nat) (x1 : Int32) (hh : Int64) (H : Heap) (locs : List Loc) (ls : Array Slot), HS D A (w hh μ) s.heap H locs → lv_has ls 3 [(0, .ref (ad q)), (1, .int x1)] → f_X7_mixRest_b91 q fu x1 μ hh = some hh' → W p l e (headSpec wsX7_mixRest (rmk 5 111)).room s m args below meth c H locs 0 0 (MQ below (PV D A (w hh' μ)) args s 0 0 A) (F0 m 91 ls []) := by
    intro fu
    induction fu with
    | zero =>
      intro x1 hh H locs ls hS hl h
      rw [f_X7_mixRest_b91] at h
      cases h
    | succ fuel91 ih91 =>
      intro x1 hh H locs ls hS hl h
      rw [f_X7_mixRest_b91] at h
      refine lv_iload_n hx hb dX7_mixRest_91 rfl (lv_at hl 1 rfl) ?_
      refine lv_bipush (v := 100) hx hb dX7_mixRest_92 (by decide) ?_
      refine lv_icmp_ge (tgt := 128) hx hb dX7_mixRest_94 (by decide) (fun cc => ?_) (fun cc => ?_)
      · replace h := it h cc
        exact hb128 hh _ _ _ hS (lv_sub hl [] rfl) h
      · replace h := ie h cc
        refine lv_aload_n hx hb dX7_mixRest_97 rfl (lv_at hl 0 rfl) ?_
        refine r_get X hS (T := TX7) (k := 0) ((hw hh).1 μ).1 rfl hiX7 (by decide) mf7 rfl dX7_mixRest_98 ?_
        refine lv_sipush (v := 466) hx hb dX7_mixRest_101 (by decide) ?_
        obtain ⟨v5, ev5, h⟩ := ob h
        refine r_iald X hS ((hw hh).2.1 μ).1 ev5 dX7_mixRest_104 ?_
        refine lv_iconst (v := 1) hx hb dX7_mixRest_105 (by decide) ?_
        refine lv_icmp_ne (tgt := 128) hx hb dX7_mixRest_106 (by decide) (fun cc => ?_) (fun cc => ?_)
        · replace h := ie h cc
          exact hb128 hh _ _ _ hS (lv_sub hl [] rfl) h
        · replace h := it h cc
          refine lv_aload_n hx hb dX7_mixRest_109 rfl (lv_at hl 0 rfl) ?_
          refine lv_aload_n hx hb dX7_mixRest_110 rfl (lv_at hl 0 rfl) ?_
          refine lv_aload_n hx hb dX7_mixRest_111 rfl (lv_at hl 0 rfl) ?_
          obtain ⟨v6, ev6, h⟩ := ob h
          refine r_ci hS (r_runV (As := []) (rest := [.ref (ad q), .ref (ad q)]) X hS (c_X7_drafts l hE (w := w hh) (ad := ad) (μ := μ) (D := D) (cI := cI) (cG := cG) (cL := cL) (hw hh) ev6) (cwV 0 X.1.2.2.2.2 gX7_mixRest_X7_drafts rfl rfl rfl (by decide +kernel) ⟨Nat.le_of_ble_eq_true rfl, Nat.le_of_ble_eq_true rfl⟩) (q0 := q) (ci := 5) rfl ((hw hh).1 μ).1 rfl hl.1 rfl (Nat.le_of_ble_eq_true rfl) dX7_mixRest_112 ⟨Nat.zero_le _, Nat.zero_le _⟩) (fun H locs hS => ?_)
          refine lv_iload_n hx hb dX7_mixRest_115 rfl (lv_at hl 1 rfl) ?_
          obtain ⟨v7, ev7, h⟩ := ob h
          refine r_ci hS (r_runV (As := [.int v6, .int x1]) (rest := [.ref (ad q)]) X hS (c_X7_valueBy l hE (w := w hh) (ad := ad) (μ := μ) (D := D) (cI := cI) (cG := cG) (cL := cL) (hw hh) ev7) (cwV 2 X.1.2.2.2.2 gX7_mixRest_X7_valueBy rfl rfl rfl (by decide +kernel) ⟨Nat.le_of_ble_eq_true rfl, Nat.le_of_ble_eq_true rfl⟩) (q0 := q) (ci := 5) rfl ((hw hh).1 μ).1 rfl hl.1 rfl (Nat.le_of_ble_eq_true rfl) dX7_mixRest_116 ⟨Nat.zero_le _, Nat.zero_le _⟩) (fun H locs hS => ?_)
          obtain ⟨y8, ey8, h⟩ := ob h
          refine r_cv hS (r_runV (As := [.int v7]) (rest := []) X hS (c_X7_mix l hE (w := w) (ad := ad) (μ := μ) (D := D) (cI := cI) (cG := cG) (cL := cL) hw hwh ey8) (cwV 1 X.1.2.2.2.2 gX7_mixRest_X7_mix rfl rfl rfl (by decide +kernel) ⟨Nat.le_of_ble_eq_true rfl, Nat.le_of_ble_eq_true rfl⟩) (q0 := q) (ci := 5) rfl ((hw hh).1 μ).1 rfl hl.1 rfl (Nat.le_of_ble_eq_true rfl) dX7_mixRest_119 ⟨Nat.zero_le _, Nat.zero_le _⟩) (fun H locs hS => ?_)
          refine lv_iinc (v := x1 + 1) (lv' := [(1, .int (x1 + 1)), (0, .ref (ad q))]) hx hb dX7_mixRest_122 hl (k := 1) rfl rfl (by decide) rfl (fun ls hl => ?_)
          refine lv_goto (tgt := 91) hx hb dX7_mixRest_125 (by decide) ?_
          exact ih91 (x1 + 1) y8 _ _ _ hS (lv_sub hl [1, 0] rfl) h
  have hb54 : ∀ (k75 : Int32 → Mem → Int64 → Option Int64), (∀ (x1 : Int32) (hh : Int64) (H : Heap) (locs : List Loc) (ls : Array Slot), HS D A (w hh μ) s.heap H locs → lv_has ls 3 [(0, .ref (ad q)), (1, .int x1)] → k75 x1 μ hh = some hh' → W p l e (headSpec wsX7_mixRest (rmk 5 111)).room s m args below meth c H locs 0 0 (MQ below (PV D A (w hh' μ)) args s 0 0 A) (F0 m 75 ls [])) → ∀ (fu : Nat) (x1 : Int32) (x2 : Int32) (hh : Int64) (H : Heap) (locs : List Loc) (ls : Array Slot), HS D A (w hh μ) s.heap H locs → lv_has ls 3 [(0, .ref (ad q)), (1, .int x1), (2, .int x2)] → f_X7_mixRest_b54 q k75 fu x1 x2 μ hh = some hh' → W p l e (headSpec wsX7_mixRest (rmk 5 111)).room s m args below meth c H locs 0 0 (MQ below (PV D A (w hh' μ)) args s 0 0 A) (F0 m 54 ls []) := by
    intro k75 hk75 fu
    induction fu with
    | zero =>
      intro x1 x2 hh H locs ls hS hl h
      rw [f_X7_mixRest_b54] at h
      cases h
    | succ fuel54 ih54 =>
      intro x1 x2 hh H locs ls hS hl h
      rw [f_X7_mixRest_b54] at h
      refine lv_iload_n hx hb dX7_mixRest_54 rfl (lv_at hl 2 rfl) ?_
      refine lv_iconst (v := 4) hx hb dX7_mixRest_55 (by decide) ?_
      refine lv_icmp_ge (tgt := 75) hx hb dX7_mixRest_56 (by decide) (fun cc => ?_) (fun cc => ?_)
      · replace h := it h cc
        exact hk75 x1 hh _ _ _ hS (lv_sub hl [0, 1] rfl) h
      · replace h := ie h cc
        refine lv_aload_n hx hb dX7_mixRest_59 rfl (lv_at hl 0 rfl) ?_
        refine lv_aload_n hx hb dX7_mixRest_60 rfl (lv_at hl 0 rfl) ?_
        refine lv_iload_n hx hb dX7_mixRest_61 rfl (lv_at hl 1 rfl) ?_
        refine lv_iload_n hx hb dX7_mixRest_62 rfl (lv_at hl 2 rfl) ?_
        obtain ⟨v9, ev9, h⟩ := ob h
        refine r_ci hS (r_runV (As := [.int x1, .int x2]) (rest := [.ref (ad q)]) X hS (c_X7_tellEntry l hE (w := w hh) (ad := ad) (μ := μ) (D := D) (cI := cI) (cG := cG) (cL := cL) (hw hh) ev9) (cwV 2 X.1.2.2.2.2 gX7_mixRest_X7_tellEntry rfl rfl rfl (by decide +kernel) ⟨Nat.le_of_ble_eq_true rfl, Nat.le_of_ble_eq_true rfl⟩) (q0 := q) (ci := 5) rfl ((hw hh).1 μ).1 rfl hl.1 rfl (Nat.le_of_ble_eq_true rfl) dX7_mixRest_63 ⟨Nat.zero_le _, Nat.zero_le _⟩) (fun H locs hS => ?_)
        obtain ⟨y10, ey10, h⟩ := ob h
        refine r_cv hS (r_runV (As := [.int v9]) (rest := []) X hS (c_X7_mix l hE (w := w) (ad := ad) (μ := μ) (D := D) (cI := cI) (cG := cG) (cL := cL) hw hwh ey10) (cwV 1 X.1.2.2.2.2 gX7_mixRest_X7_mix rfl rfl rfl (by decide +kernel) ⟨Nat.le_of_ble_eq_true rfl, Nat.le_of_ble_eq_true rfl⟩) (q0 := q) (ci := 5) rfl ((hw hh).1 μ).1 rfl hl.1 rfl (Nat.le_of_ble_eq_true rfl) dX7_mixRest_66 ⟨Nat.zero_le _, Nat.zero_le _⟩) (fun H locs hS => ?_)
        refine lv_iinc (v := x2 + 1) (lv' := [(2, .int (x2 + 1)), (0, .ref (ad q)), (1, .int x1)]) hx hb dX7_mixRest_69 hl (k := 2) rfl rfl (by decide) rfl (fun ls hl => ?_)
        refine lv_goto (tgt := 54) hx hb dX7_mixRest_72 (by decide) ?_
        exact ih54 x1 (x2 + 1) y10 _ _ _ hS (lv_sub hl [1, 2, 0] rfl) h
  have hb40 : ∀ (fu : Nat) (x1 : Int32) (hh : Int64) (H : Heap) (locs : List Loc) (ls : Array Slot), HS D A (w hh μ) s.heap H locs → lv_has ls 3 [(0, .ref (ad q)), (1, .int x1)] → f_X7_mixRest_b40 q fu x1 μ hh = some hh' → W p l e (headSpec wsX7_mixRest (rmk 5 111)).room s m args below meth c H locs 0 0 (MQ below (PV D A (w hh' μ)) args s 0 0 A) (F0 m 40 ls []) := by
    intro fu
    induction fu with
    | zero =>
      intro x1 hh H locs ls hS hl h
      rw [f_X7_mixRest_b40] at h
      cases h
    | succ fuel40 ih40 =>
      intro x1 hh H locs ls hS hl h
      rw [f_X7_mixRest_b40] at h
      refine lv_iload_n hx hb dX7_mixRest_40 rfl (lv_at hl 1 rfl) ?_
      refine lv_aload_n hx hb dX7_mixRest_41 rfl (lv_at hl 0 rfl) ?_
      refine lv_aload_n hx hb dX7_mixRest_42 rfl (lv_at hl 0 rfl) ?_
      obtain ⟨v1, ev1, h⟩ := ob h
      refine r_ci hS (r_runV (As := []) (rest := [.ref (ad q), .int x1]) X hS (c_X7_now l hE (w := w hh) (ad := ad) (μ := μ) (D := D) (cI := cI) (cG := cG) (cL := cL) (hw hh) ev1) (cwV 0 X.1.2.2.2.2 gX7_mixRest_X7_now rfl rfl rfl (by decide +kernel) ⟨Nat.le_of_ble_eq_true rfl, Nat.le_of_ble_eq_true rfl⟩) (q0 := q) (ci := 5) rfl ((hw hh).1 μ).1 rfl hl.1 rfl (Nat.le_of_ble_eq_true rfl) dX7_mixRest_43 ⟨Nat.zero_le _, Nat.zero_le _⟩) (fun H locs hS => ?_)
      obtain ⟨v2, ev2, h⟩ := ob h
      refine r_ci hS (r_runV (As := [.int v1]) (rest := [.int x1]) X hS (c_X7_entriesBy l hE (w := w hh) (ad := ad) (μ := μ) (D := D) (cI := cI) (cG := cG) (cL := cL) (hw hh) ev2) (cwV 1 X.1.2.2.2.2 gX7_mixRest_X7_entriesBy rfl rfl rfl (by decide +kernel) ⟨Nat.le_of_ble_eq_true rfl, Nat.le_of_ble_eq_true rfl⟩) (q0 := q) (ci := 5) rfl ((hw hh).1 μ).1 rfl hl.1 rfl (Nat.le_of_ble_eq_true rfl) dX7_mixRest_46 ⟨Nat.zero_le _, Nat.zero_le _⟩) (fun H locs hS => ?_)
      refine lv_icmp_ge (tgt := 81) hx hb dX7_mixRest_49 (by decide) (fun cc => ?_) (fun cc => ?_)
      · replace h := it h cc
        refine lv_aload_n hx hb dX7_mixRest_81 rfl (lv_at hl 0 rfl) ?_
        refine lv_aload_n hx hb dX7_mixRest_82 rfl (lv_at hl 0 rfl) ?_
        obtain ⟨v3, ev3, h⟩ := ob h
        refine r_ci hS (r_runV (As := []) (rest := [.ref (ad q)]) X hS (c_X7_tellNext l hE (w := w hh) (ad := ad) (μ := μ) (D := D) (cI := cI) (cG := cG) (cL := cL) (hw hh) ev3) (cwV 0 X.1.2.2.2.2 gX7_mixRest_X7_tellNext rfl rfl rfl (by decide +kernel) ⟨Nat.le_of_ble_eq_true rfl, Nat.le_of_ble_eq_true rfl⟩) (q0 := q) (ci := 5) rfl ((hw hh).1 μ).1 rfl hl.1 rfl (Nat.le_of_ble_eq_true rfl) dX7_mixRest_83 ⟨Nat.zero_le _, Nat.zero_le _⟩) (fun H locs hS => ?_)
        obtain ⟨y4, ey4, h⟩ := ob h
        refine r_cv hS (r_runV (As := [.int v3]) (rest := []) X hS (c_X7_mix l hE (w := w) (ad := ad) (μ := μ) (D := D) (cI := cI) (cG := cG) (cL := cL) hw hwh ey4) (cwV 1 X.1.2.2.2.2 gX7_mixRest_X7_mix rfl rfl rfl (by decide +kernel) ⟨Nat.le_of_ble_eq_true rfl, Nat.le_of_ble_eq_true rfl⟩) (q0 := q) (ci := 5) rfl ((hw hh).1 μ).1 rfl hl.1 rfl (Nat.le_of_ble_eq_true rfl) dX7_mixRest_86 ⟨Nat.zero_le _, Nat.zero_le _⟩) (fun H locs hS => ?_)
        refine lv_iconst (v := 0) hx hb dX7_mixRest_89 (by decide) ?_
        refine lv_istore_n (lv' := [(1, .int 0), (0, .ref (ad q))]) hx hb dX7_mixRest_90 rfl hl (by decide) rfl (fun ls hl => ?_)
        exact hb91 FU 0 y4 _ _ _ hS (lv_sub hl [1, 0] rfl) h
      · replace h := ie h cc
        refine lv_iconst (v := 0) hx hb dX7_mixRest_52 (by decide) ?_
        refine lv_istore_n (lv' := [(2, .int 0), (0, .ref (ad q)), (1, .int x1)]) hx hb dX7_mixRest_53 rfl hl (by decide) rfl (fun ls hl => ?_)
        refine hb54 _ ?_ FU x1 0 hh _ _ _ hS (lv_sub hl [1, 2, 0] rfl) h
        intro z12 y11 H locs ls hS hl h
        refine lv_iinc (v := z12 + 1) (lv' := [(1, .int (z12 + 1)), (0, .ref (ad q))]) hx hb dX7_mixRest_75 hl (k := 1) rfl rfl (by decide) rfl (fun ls hl => ?_)
        refine lv_goto (tgt := 40) hx hb dX7_mixRest_78 (by decide) ?_
        exact ih40 (z12 + 1) y11 _ _ _ hS (lv_sub hl [1, 0] rfl) h
  have hb10 : ∀ (k32 : Int32 → Mem → Int64 → Option Int64), (∀ (x1 : Int32) (hh : Int64) (H : Heap) (locs : List Loc) (ls : Array Slot), HS D A (w hh μ) s.heap H locs → lv_has ls 3 [(0, .ref (ad q)), (1, .int x1)] → k32 x1 μ hh = some hh' → W p l e (headSpec wsX7_mixRest (rmk 5 111)).room s m args below meth c H locs 0 0 (MQ below (PV D A (w hh' μ)) args s 0 0 A) (F0 m 32 ls [])) → ∀ (fu : Nat) (x1 : Int32) (x2 : Int32) (hh : Int64) (H : Heap) (locs : List Loc) (ls : Array Slot), HS D A (w hh μ) s.heap H locs → lv_has ls 3 [(0, .ref (ad q)), (1, .int x1), (2, .int x2)] → f_X7_mixRest_b10 q k32 fu x1 x2 μ hh = some hh' → W p l e (headSpec wsX7_mixRest (rmk 5 111)).room s m args below meth c H locs 0 0 (MQ below (PV D A (w hh' μ)) args s 0 0 A) (F0 m 10 ls []) := by
    intro k32 hk32 fu
    induction fu with
    | zero =>
      intro x1 x2 hh H locs ls hS hl h
      rw [f_X7_mixRest_b10] at h
      cases h
    | succ fuel10 ih10 =>
      intro x1 x2 hh H locs ls hS hl h
      rw [f_X7_mixRest_b10] at h
      refine lv_iload_n hx hb dX7_mixRest_10 rfl (lv_at hl 2 rfl) ?_
      refine lv_bipush (v := 6) hx hb dX7_mixRest_11 (by decide) ?_
      refine lv_icmp_ge (tgt := 32) hx hb dX7_mixRest_13 (by decide) (fun cc => ?_) (fun cc => ?_)
      · replace h := it h cc
        exact hk32 x1 hh _ _ _ hS (lv_sub hl [0, 1] rfl) h
      · replace h := ie h cc
        refine lv_aload_n hx hb dX7_mixRest_16 rfl (lv_at hl 0 rfl) ?_
        refine lv_aload_n hx hb dX7_mixRest_17 rfl (lv_at hl 0 rfl) ?_
        refine lv_iload_n hx hb dX7_mixRest_18 rfl (lv_at hl 1 rfl) ?_
        refine lv_iload_n hx hb dX7_mixRest_19 rfl (lv_at hl 2 rfl) ?_
        obtain ⟨v13, ev13, h⟩ := ob h
        refine r_ci hS (r_runV (As := [.int x1, .int x2]) (rest := [.ref (ad q)]) X hS (c_X7_tellBed l hE (w := w hh) (ad := ad) (μ := μ) (D := D) (cI := cI) (cG := cG) (cL := cL) (hw hh) ev13) (cwV 2 X.1.2.2.2.2 gX7_mixRest_X7_tellBed rfl rfl rfl (by decide +kernel) ⟨Nat.le_of_ble_eq_true rfl, Nat.le_of_ble_eq_true rfl⟩) (q0 := q) (ci := 5) rfl ((hw hh).1 μ).1 rfl hl.1 rfl (Nat.le_of_ble_eq_true rfl) dX7_mixRest_20 ⟨Nat.zero_le _, Nat.zero_le _⟩) (fun H locs hS => ?_)
        obtain ⟨y14, ey14, h⟩ := ob h
        refine r_cv hS (r_runV (As := [.int v13]) (rest := []) X hS (c_X7_mix l hE (w := w) (ad := ad) (μ := μ) (D := D) (cI := cI) (cG := cG) (cL := cL) hw hwh ey14) (cwV 1 X.1.2.2.2.2 gX7_mixRest_X7_mix rfl rfl rfl (by decide +kernel) ⟨Nat.le_of_ble_eq_true rfl, Nat.le_of_ble_eq_true rfl⟩) (q0 := q) (ci := 5) rfl ((hw hh).1 μ).1 rfl hl.1 rfl (Nat.le_of_ble_eq_true rfl) dX7_mixRest_23 ⟨Nat.zero_le _, Nat.zero_le _⟩) (fun H locs hS => ?_)
        refine lv_iinc (v := x2 + 1) (lv' := [(2, .int (x2 + 1)), (0, .ref (ad q)), (1, .int x1)]) hx hb dX7_mixRest_26 hl (k := 2) rfl rfl (by decide) rfl (fun ls hl => ?_)
        refine lv_goto (tgt := 10) hx hb dX7_mixRest_29 (by decide) ?_
        exact ih10 x1 (x2 + 1) y14 _ _ _ hS (lv_sub hl [1, 2, 0] rfl) h
  have hb2 : ∀ (fu : Nat) (x1 : Int32) (hh : Int64) (H : Heap) (locs : List Loc) (ls : Array Slot), HS D A (w hh μ) s.heap H locs → lv_has ls 3 [(0, .ref (ad q)), (1, .int x1)] → f_X7_mixRest_b2 q fu x1 μ hh = some hh' → W p l e (headSpec wsX7_mixRest (rmk 5 111)).room s m args below meth c H locs 0 0 (MQ below (PV D A (w hh' μ)) args s 0 0 A) (F0 m 2 ls []) := by
    intro fu
    induction fu with
    | zero =>
      intro x1 hh H locs ls hS hl h
      rw [f_X7_mixRest_b2] at h
      cases h
    | succ fuel2 ih2 =>
      intro x1 hh H locs ls hS hl h
      rw [f_X7_mixRest_b2] at h
      refine lv_iload_n hx hb dX7_mixRest_2 rfl (lv_at hl 1 rfl) ?_
      refine lv_bipush (v := 32) hx hb dX7_mixRest_3 (by decide) ?_
      refine lv_icmp_ge (tgt := 38) hx hb dX7_mixRest_5 (by decide) (fun cc => ?_) (fun cc => ?_)
      · replace h := it h cc
        refine lv_iconst (v := 0) hx hb dX7_mixRest_38 (by decide) ?_
        refine lv_istore_n (lv' := [(1, .int 0), (0, .ref (ad q))]) hx hb dX7_mixRest_39 rfl hl (by decide) rfl (fun ls hl => ?_)
        exact hb40 FU 0 hh _ _ _ hS (lv_sub hl [1, 0] rfl) h
      · replace h := ie h cc
        refine lv_iconst (v := 0) hx hb dX7_mixRest_8 (by decide) ?_
        refine lv_istore_n (lv' := [(2, .int 0), (0, .ref (ad q)), (1, .int x1)]) hx hb dX7_mixRest_9 rfl hl (by decide) rfl (fun ls hl => ?_)
        refine hb10 _ ?_ FU x1 0 hh _ _ _ hS (lv_sub hl [1, 2, 0] rfl) h
        intro z16 y15 H locs ls hS hl h
        refine lv_iinc (v := z16 + 1) (lv' := [(1, .int (z16 + 1)), (0, .ref (ad q))]) hx hb dX7_mixRest_32 hl (k := 1) rfl rfl (by decide) rfl (fun ls hl => ?_)
        refine lv_goto (tgt := 2) hx hb dX7_mixRest_35 (by decide) ?_
        exact ih2 (z16 + 1) y15 _ _ _ hS (lv_sub hl [1, 0] rfl) h
  unfold f_X7_mixRest at h
  refine lv_iconst (v := 0) hx hb dX7_mixRest_0 (by decide) ?_
  refine lv_istore_n (lv' := [(1, .int 0), (0, .ref (ad q))]) hx hb dX7_mixRest_1 rfl hl (by decide) rfl (fun ls hl => ?_)
  exact hb2 FU 0 hh _ _ _ hS (lv_sub hl [1, 0] rfl) h
def f_X7_digest_b88 (q : Nat) (k109 : Int32 → Mem → Int64 → Option (Int64 × Mem × Int64)) : Nat → Int32 → Int32 → Mem → Int64 → Option (Int64 × Mem × Int64)
  | 0, _, _, _, _ => none
  | fuel88 + 1, x1, x2, μ, hh => (if 3 ≤ x2 then k109 x1 μ hh else (f_X7_tellReader q x1 x2 μ).bind (fun v4 => (f_X7_mix q v4 μ hh).bind (fun y5 => f_X7_digest_b88 q k109 fuel88 x1 (x2 + 1) μ y5)))
def f_X7_digest_b81 (q : Nat)  : Nat → Int32 → Mem → Int64 → Option (Int64 × Mem × Int64)
  | 0, _, _, _ => none
  | fuel81 + 1, x1, μ, hh => (if 4 ≤ x1 then (f_X7_mixRest q μ hh).bind (fun y3 => (some (y3, μ, y3))) else f_X7_digest_b88 q (fun z8 μ6 y7 => f_X7_digest_b81 q fuel81 (z8 + 1) μ6 y7) FU x1 0 μ hh)
def f_X7_digest_b52 (q : Nat) (k73 : Int32 → Mem → Int64 → Option (Int64 × Mem × Int64)) : Nat → Int32 → Int32 → Mem → Int64 → Option (Int64 × Mem × Int64)
  | 0, _, _, _, _ => none
  | fuel52 + 1, x1, x2, μ, hh => (if 4 ≤ x2 then k73 x1 μ hh else (f_X7_tellRoot q x1 x2 μ).bind (fun v9 => (f_X7_mix q v9 μ hh).bind (fun y10 => f_X7_digest_b52 q k73 fuel52 x1 (x2 + 1) μ y10)))
def f_X7_digest_b45 (q : Nat)  : Nat → Int32 → Mem → Int64 → Option (Int64 × Mem × Int64)
  | 0, _, _, _ => none
  | fuel45 + 1, x1, μ, hh => (if 2 ≤ x1 then f_X7_digest_b81 q FU 0 μ hh else f_X7_digest_b52 q (fun z13 μ11 y12 => f_X7_digest_b45 q fuel45 (z13 + 1) μ11 y12) FU x1 0 μ hh)
def f_X7_digest_b22 (q : Nat)  : Nat → Int32 → Mem → Int64 → Option (Int64 × Mem × Int64)
  | 0, _, _, _ => none
  | fuel22 + 1, x1, μ, hh => (if 15 ≤ x1 then f_X7_digest_b45 q FU 0 μ hh else (f_X7_tell q x1 μ).bind (fun v14 => (f_X7_mix q v14 μ hh).bind (fun y15 => f_X7_digest_b22 q fuel22 (x1 + 1) μ y15)))
def f_X7_digest (q : Nat) (μ : Mem) (hh : Int64) : Option (Int64 × Mem × Int64) := (pf μ q 6 0).bind (fun μ1 => (f_X7_mix q (μ1 q 3) μ1 43518).bind (fun y2 => f_X7_digest_b22 q FU 0 μ1 y2))
set_option maxHeartbeats 4000000 in
set_option maxRecDepth 100000 in
theorem c_X7_digest (l : Launch) {D : va_G} {cI cG cL : ClassId} {A : Nat → Prop} {EN : State → Heap → Prop} (hE : EnOK EN A) {w : Int64 → Mem → va_W} {ad : Nat → Nat} {q : Nat} {μ : Mem} {hh : Int64} {r : Int64} {μ' : Mem} {hh' : Int64} (hw : ∀ h, ModelAt cI (w h) ad h q) (hwh : ∀ (h h1 : Int64) (μ : Mem), (w h μ).set q (ad q, .inr (5, fsModel ad q h1 (μ q))) = w h1 μ) (h : f_X7_digest q μ hh = some (r, μ', hh')) : Met l yX7_digest wsX7_digest (rmk 6 133) (WPre D (tyl cI cG cL) A EN (w hh μ) [.ref (ad q)]) (PL D A (w hh' μ') r) 0 0 A := by
  have hiX7 : ∀ w ∈ u_ws RX7 TX7 13, w ∈ wsX7_digest := by decide +kernel
  have mf28 : Cond.fieldLink RX7 28 (TX7 6).1 (TX7 6).2.1 (TX7 6).2.2.1 ∈ wsX7_digest := by decide +kernel
  have mc276 : Cond.constantLong RX7 276 43518 ∈ wsX7_digest := by decide +kernel
  have mf269 : Cond.fieldLink RX7 269 (TX7 12).1 (TX7 12).2.1 (TX7 12).2.2.1 ∈ wsX7_digest := by decide +kernel
  have mf39 : Cond.fieldLink RX7 39 (TX7 3).1 (TX7 3).2.1 (TX7 3).2.2.1 ∈ wsX7_digest := by decide +kernel
  refine met_start (cc := cX7_digest) (nL := 3) (ret := (some .long)) (own := RX7) hE (by decide) rfl rfl (Nat.le_of_ble_eq_true rfl) (fun p e s m args below meth c ls X hS hl hr hlk => ?_)
  have hx := X.1.1
  have hb := X.1.2.1
  replace hl : lv_has ls 3 [(0, .ref (ad q))] := hl
  have hb88 : ∀ (k109 : Int32 → Mem → Int64 → Option (Int64 × Mem × Int64)), (∀ (x1 : Int32) (μ : Mem) (hh : Int64) (H : Heap) (locs : List Loc) (ls : Array Slot), HS D A (w hh μ) s.heap H locs → lv_has ls 3 [(0, .ref (ad q)), (1, .int x1)] → k109 x1 μ hh = some (r, μ', hh') → W p l e (headSpec wsX7_digest (rmk 6 133)).room s m args below meth c H locs 0 0 (MQ below (PL D A (w hh' μ') r) args s 0 0 A) (F0 m 109 ls [])) → ∀ (fu : Nat) (x1 : Int32) (x2 : Int32) (μ : Mem) (hh : Int64) (H : Heap) (locs : List Loc) (ls : Array Slot), HS D A (w hh μ) s.heap H locs → lv_has ls 3 [(0, .ref (ad q)), (1, .int x1), (2, .int x2)] → f_X7_digest_b88 q k109 fu x1 x2 μ hh = some (r, μ', hh') → W p l e (headSpec wsX7_digest (rmk 6 133)).room s m args below meth c H locs 0 0 (MQ below (PL D A (w hh' μ') r) args s 0 0 A) (F0 m 88 ls []) := by
    intro k109 hk109 fu
    induction fu with
    | zero =>
      intro x1 x2 μ hh H locs ls hS hl h
      rw [f_X7_digest_b88] at h
      cases h
    | succ fuel88 ih88 =>
      intro x1 x2 μ hh H locs ls hS hl h
      rw [f_X7_digest_b88] at h
      refine lv_iload_n hx hb dX7_digest_88 rfl (lv_at hl 2 rfl) ?_
      refine lv_iconst (v := 3) hx hb dX7_digest_89 (by decide) ?_
      refine lv_icmp_ge (tgt := 109) hx hb dX7_digest_90 (by decide) (fun cc => ?_) (fun cc => ?_)
      · replace h := it h cc
        exact hk109 x1 μ hh _ _ _ hS (lv_sub hl [0, 1] rfl) h
      · replace h := ie h cc
        refine lv_aload_n hx hb dX7_digest_93 rfl (lv_at hl 0 rfl) ?_
        refine lv_aload_n hx hb dX7_digest_94 rfl (lv_at hl 0 rfl) ?_
        refine lv_iload_n hx hb dX7_digest_95 rfl (lv_at hl 1 rfl) ?_
        refine lv_iload_n hx hb dX7_digest_96 rfl (lv_at hl 2 rfl) ?_
        obtain ⟨v4, ev4, h⟩ := ob h
        refine r_ci hS (r_runV (As := [.int x1, .int x2]) (rest := [.ref (ad q)]) X hS (c_X7_tellReader l hE (w := w hh) (ad := ad) (μ := μ) (D := D) (cI := cI) (cG := cG) (cL := cL) (hw hh) ev4) (cwV 2 X.1.2.2.2.2 gX7_digest_X7_tellReader rfl rfl rfl (by decide +kernel) ⟨Nat.le_of_ble_eq_true rfl, Nat.le_of_ble_eq_true rfl⟩) (q0 := q) (ci := 5) rfl ((hw hh).1 μ).1 rfl hl.1 rfl (Nat.le_of_ble_eq_true rfl) dX7_digest_97 ⟨Nat.zero_le _, Nat.zero_le _⟩) (fun H locs hS => ?_)
        obtain ⟨y5, ey5, h⟩ := ob h
        refine r_cv hS (r_runV (As := [.int v4]) (rest := []) X hS (c_X7_mix l hE (w := w) (ad := ad) (μ := μ) (D := D) (cI := cI) (cG := cG) (cL := cL) hw hwh ey5) (cwV 1 X.1.2.2.2.2 gX7_digest_X7_mix rfl rfl rfl (by decide +kernel) ⟨Nat.le_of_ble_eq_true rfl, Nat.le_of_ble_eq_true rfl⟩) (q0 := q) (ci := 5) rfl ((hw hh).1 μ).1 rfl hl.1 rfl (Nat.le_of_ble_eq_true rfl) dX7_digest_100 ⟨Nat.zero_le _, Nat.zero_le _⟩) (fun H locs hS => ?_)
        refine lv_iinc (v := x2 + 1) (lv' := [(2, .int (x2 + 1)), (0, .ref (ad q)), (1, .int x1)]) hx hb dX7_digest_103 hl (k := 2) rfl rfl (by decide) rfl (fun ls hl => ?_)
        refine lv_goto (tgt := 88) hx hb dX7_digest_106 (by decide) ?_
        exact ih88 x1 (x2 + 1) μ y5 _ _ _ hS (lv_sub hl [1, 2, 0] rfl) h
  have hb81 : ∀ (fu : Nat) (x1 : Int32) (μ : Mem) (hh : Int64) (H : Heap) (locs : List Loc) (ls : Array Slot), HS D A (w hh μ) s.heap H locs → lv_has ls 3 [(0, .ref (ad q)), (1, .int x1)] → f_X7_digest_b81 q fu x1 μ hh = some (r, μ', hh') → W p l e (headSpec wsX7_digest (rmk 6 133)).room s m args below meth c H locs 0 0 (MQ below (PL D A (w hh' μ') r) args s 0 0 A) (F0 m 81 ls []) := by
    intro fu
    induction fu with
    | zero =>
      intro x1 μ hh H locs ls hS hl h
      rw [f_X7_digest_b81] at h
      cases h
    | succ fuel81 ih81 =>
      intro x1 μ hh H locs ls hS hl h
      rw [f_X7_digest_b81] at h
      refine lv_iload_n hx hb dX7_digest_81 rfl (lv_at hl 1 rfl) ?_
      refine lv_iconst (v := 4) hx hb dX7_digest_82 (by decide) ?_
      refine lv_icmp_ge (tgt := 115) hx hb dX7_digest_83 (by decide) (fun cc => ?_) (fun cc => ?_)
      · replace h := it h cc
        refine lv_aload_n hx hb dX7_digest_115 rfl (lv_at hl 0 rfl) ?_
        obtain ⟨y3, ey3, h⟩ := ob h
        refine r_cv hS (r_runV (As := []) (rest := []) X hS (c_X7_mixRest l hE (w := w) (ad := ad) (μ := μ) (D := D) (cI := cI) (cG := cG) (cL := cL) hw hwh ey3) (cwV 0 X.1.2.2.2.2 gX7_digest_X7_mixRest rfl rfl rfl (by decide +kernel) ⟨Nat.le_of_ble_eq_true rfl, Nat.le_of_ble_eq_true rfl⟩) (q0 := q) (ci := 5) rfl ((hw hh).1 μ).1 rfl hl.1 rfl (Nat.le_of_ble_eq_true rfl) dX7_digest_116 ⟨Nat.zero_le _, Nat.zero_le _⟩) (fun H locs hS => ?_)
        refine lv_aload_n hx hb dX7_digest_119 rfl (lv_at hl 0 rfl) ?_
        refine r_get X hS (T := TX7) (k := 12) ((hw y3).1 μ).1 rfl hiX7 (by decide) mf269 rfl dX7_digest_120 ?_
        cases h
        exact r_lret X hS hr hlk dX7_digest_123
      · replace h := ie h cc
        refine lv_iconst (v := 0) hx hb dX7_digest_86 (by decide) ?_
        refine lv_istore_n (lv' := [(2, .int 0), (0, .ref (ad q)), (1, .int x1)]) hx hb dX7_digest_87 rfl hl (by decide) rfl (fun ls hl => ?_)
        refine hb88 _ ?_ FU x1 0 μ hh _ _ _ hS (lv_sub hl [1, 2, 0] rfl) h
        intro z8 μ6 y7 H locs ls hS hl h
        refine lv_iinc (v := z8 + 1) (lv' := [(1, .int (z8 + 1)), (0, .ref (ad q))]) hx hb dX7_digest_109 hl (k := 1) rfl rfl (by decide) rfl (fun ls hl => ?_)
        refine lv_goto (tgt := 81) hx hb dX7_digest_112 (by decide) ?_
        exact ih81 (z8 + 1) μ6 y7 _ _ _ hS (lv_sub hl [1, 0] rfl) h
  have hb52 : ∀ (k73 : Int32 → Mem → Int64 → Option (Int64 × Mem × Int64)), (∀ (x1 : Int32) (μ : Mem) (hh : Int64) (H : Heap) (locs : List Loc) (ls : Array Slot), HS D A (w hh μ) s.heap H locs → lv_has ls 3 [(0, .ref (ad q)), (1, .int x1)] → k73 x1 μ hh = some (r, μ', hh') → W p l e (headSpec wsX7_digest (rmk 6 133)).room s m args below meth c H locs 0 0 (MQ below (PL D A (w hh' μ') r) args s 0 0 A) (F0 m 73 ls [])) → ∀ (fu : Nat) (x1 : Int32) (x2 : Int32) (μ : Mem) (hh : Int64) (H : Heap) (locs : List Loc) (ls : Array Slot), HS D A (w hh μ) s.heap H locs → lv_has ls 3 [(0, .ref (ad q)), (1, .int x1), (2, .int x2)] → f_X7_digest_b52 q k73 fu x1 x2 μ hh = some (r, μ', hh') → W p l e (headSpec wsX7_digest (rmk 6 133)).room s m args below meth c H locs 0 0 (MQ below (PL D A (w hh' μ') r) args s 0 0 A) (F0 m 52 ls []) := by
    intro k73 hk73 fu
    induction fu with
    | zero =>
      intro x1 x2 μ hh H locs ls hS hl h
      rw [f_X7_digest_b52] at h
      cases h
    | succ fuel52 ih52 =>
      intro x1 x2 μ hh H locs ls hS hl h
      rw [f_X7_digest_b52] at h
      refine lv_iload_n hx hb dX7_digest_52 rfl (lv_at hl 2 rfl) ?_
      refine lv_iconst (v := 4) hx hb dX7_digest_53 (by decide) ?_
      refine lv_icmp_ge (tgt := 73) hx hb dX7_digest_54 (by decide) (fun cc => ?_) (fun cc => ?_)
      · replace h := it h cc
        exact hk73 x1 μ hh _ _ _ hS (lv_sub hl [0, 1] rfl) h
      · replace h := ie h cc
        refine lv_aload_n hx hb dX7_digest_57 rfl (lv_at hl 0 rfl) ?_
        refine lv_aload_n hx hb dX7_digest_58 rfl (lv_at hl 0 rfl) ?_
        refine lv_iload_n hx hb dX7_digest_59 rfl (lv_at hl 1 rfl) ?_
        refine lv_iload_n hx hb dX7_digest_60 rfl (lv_at hl 2 rfl) ?_
        obtain ⟨v9, ev9, h⟩ := ob h
        refine r_ci hS (r_runV (As := [.int x1, .int x2]) (rest := [.ref (ad q)]) X hS (c_X7_tellRoot l hE (w := w hh) (ad := ad) (μ := μ) (D := D) (cI := cI) (cG := cG) (cL := cL) (hw hh) ev9) (cwV 2 X.1.2.2.2.2 gX7_digest_X7_tellRoot rfl rfl rfl (by decide +kernel) ⟨Nat.le_of_ble_eq_true rfl, Nat.le_of_ble_eq_true rfl⟩) (q0 := q) (ci := 5) rfl ((hw hh).1 μ).1 rfl hl.1 rfl (Nat.le_of_ble_eq_true rfl) dX7_digest_61 ⟨Nat.zero_le _, Nat.zero_le _⟩) (fun H locs hS => ?_)
        obtain ⟨y10, ey10, h⟩ := ob h
        refine r_cv hS (r_runV (As := [.int v9]) (rest := []) X hS (c_X7_mix l hE (w := w) (ad := ad) (μ := μ) (D := D) (cI := cI) (cG := cG) (cL := cL) hw hwh ey10) (cwV 1 X.1.2.2.2.2 gX7_digest_X7_mix rfl rfl rfl (by decide +kernel) ⟨Nat.le_of_ble_eq_true rfl, Nat.le_of_ble_eq_true rfl⟩) (q0 := q) (ci := 5) rfl ((hw hh).1 μ).1 rfl hl.1 rfl (Nat.le_of_ble_eq_true rfl) dX7_digest_64 ⟨Nat.zero_le _, Nat.zero_le _⟩) (fun H locs hS => ?_)
        refine lv_iinc (v := x2 + 1) (lv' := [(2, .int (x2 + 1)), (0, .ref (ad q)), (1, .int x1)]) hx hb dX7_digest_67 hl (k := 2) rfl rfl (by decide) rfl (fun ls hl => ?_)
        refine lv_goto (tgt := 52) hx hb dX7_digest_70 (by decide) ?_
        exact ih52 x1 (x2 + 1) μ y10 _ _ _ hS (lv_sub hl [1, 2, 0] rfl) h
  have hb45 : ∀ (fu : Nat) (x1 : Int32) (μ : Mem) (hh : Int64) (H : Heap) (locs : List Loc) (ls : Array Slot), HS D A (w hh μ) s.heap H locs → lv_has ls 3 [(0, .ref (ad q)), (1, .int x1)] → f_X7_digest_b45 q fu x1 μ hh = some (r, μ', hh') → W p l e (headSpec wsX7_digest (rmk 6 133)).room s m args below meth c H locs 0 0 (MQ below (PL D A (w hh' μ') r) args s 0 0 A) (F0 m 45 ls []) := by
    intro fu
    induction fu with
    | zero =>
      intro x1 μ hh H locs ls hS hl h
      rw [f_X7_digest_b45] at h
      cases h
    | succ fuel45 ih45 =>
      intro x1 μ hh H locs ls hS hl h
      rw [f_X7_digest_b45] at h
      refine lv_iload_n hx hb dX7_digest_45 rfl (lv_at hl 1 rfl) ?_
      refine lv_iconst (v := 2) hx hb dX7_digest_46 (by decide) ?_
      refine lv_icmp_ge (tgt := 79) hx hb dX7_digest_47 (by decide) (fun cc => ?_) (fun cc => ?_)
      · replace h := it h cc
        refine lv_iconst (v := 0) hx hb dX7_digest_79 (by decide) ?_
        refine lv_istore_n (lv' := [(1, .int 0), (0, .ref (ad q))]) hx hb dX7_digest_80 rfl hl (by decide) rfl (fun ls hl => ?_)
        exact hb81 FU 0 μ hh _ _ _ hS (lv_sub hl [1, 0] rfl) h
      · replace h := ie h cc
        refine lv_iconst (v := 0) hx hb dX7_digest_50 (by decide) ?_
        refine lv_istore_n (lv' := [(2, .int 0), (0, .ref (ad q)), (1, .int x1)]) hx hb dX7_digest_51 rfl hl (by decide) rfl (fun ls hl => ?_)
        refine hb52 _ ?_ FU x1 0 μ hh _ _ _ hS (lv_sub hl [1, 2, 0] rfl) h
        intro z13 μ11 y12 H locs ls hS hl h
        refine lv_iinc (v := z13 + 1) (lv' := [(1, .int (z13 + 1)), (0, .ref (ad q))]) hx hb dX7_digest_73 hl (k := 1) rfl rfl (by decide) rfl (fun ls hl => ?_)
        refine lv_goto (tgt := 45) hx hb dX7_digest_76 (by decide) ?_
        exact ih45 (z13 + 1) μ11 y12 _ _ _ hS (lv_sub hl [1, 0] rfl) h
  have hb22 : ∀ (fu : Nat) (x1 : Int32) (μ : Mem) (hh : Int64) (H : Heap) (locs : List Loc) (ls : Array Slot), HS D A (w hh μ) s.heap H locs → lv_has ls 3 [(0, .ref (ad q)), (1, .int x1)] → f_X7_digest_b22 q fu x1 μ hh = some (r, μ', hh') → W p l e (headSpec wsX7_digest (rmk 6 133)).room s m args below meth c H locs 0 0 (MQ below (PL D A (w hh' μ') r) args s 0 0 A) (F0 m 22 ls []) := by
    intro fu
    induction fu with
    | zero =>
      intro x1 μ hh H locs ls hS hl h
      rw [f_X7_digest_b22] at h
      cases h
    | succ fuel22 ih22 =>
      intro x1 μ hh H locs ls hS hl h
      rw [f_X7_digest_b22] at h
      refine lv_iload_n hx hb dX7_digest_22 rfl (lv_at hl 1 rfl) ?_
      refine lv_bipush (v := 15) hx hb dX7_digest_23 (by decide) ?_
      refine lv_icmp_ge (tgt := 43) hx hb dX7_digest_25 (by decide) (fun cc => ?_) (fun cc => ?_)
      · replace h := it h cc
        refine lv_iconst (v := 0) hx hb dX7_digest_43 (by decide) ?_
        refine lv_istore_n (lv' := [(1, .int 0), (0, .ref (ad q))]) hx hb dX7_digest_44 rfl hl (by decide) rfl (fun ls hl => ?_)
        exact hb45 FU 0 μ hh _ _ _ hS (lv_sub hl [1, 0] rfl) h
      · replace h := ie h cc
        refine lv_aload_n hx hb dX7_digest_28 rfl (lv_at hl 0 rfl) ?_
        refine lv_aload_n hx hb dX7_digest_29 rfl (lv_at hl 0 rfl) ?_
        refine lv_iload_n hx hb dX7_digest_30 rfl (lv_at hl 1 rfl) ?_
        obtain ⟨v14, ev14, h⟩ := ob h
        refine r_ci hS (r_runV (As := [.int x1]) (rest := [.ref (ad q)]) X hS (c_X7_tell l hE (w := w hh) (ad := ad) (μ := μ) (D := D) (cI := cI) (cG := cG) (cL := cL) (hw hh) ev14) (cwV 1 X.1.2.2.2.2 gX7_digest_X7_tell rfl rfl rfl (by decide +kernel) ⟨Nat.le_of_ble_eq_true rfl, Nat.le_of_ble_eq_true rfl⟩) (q0 := q) (ci := 5) rfl ((hw hh).1 μ).1 rfl hl.1 rfl (Nat.le_of_ble_eq_true rfl) dX7_digest_31 ⟨Nat.zero_le _, Nat.zero_le _⟩) (fun H locs hS => ?_)
        obtain ⟨y15, ey15, h⟩ := ob h
        refine r_cv hS (r_runV (As := [.int v14]) (rest := []) X hS (c_X7_mix l hE (w := w) (ad := ad) (μ := μ) (D := D) (cI := cI) (cG := cG) (cL := cL) hw hwh ey15) (cwV 1 X.1.2.2.2.2 gX7_digest_X7_mix rfl rfl rfl (by decide +kernel) ⟨Nat.le_of_ble_eq_true rfl, Nat.le_of_ble_eq_true rfl⟩) (q0 := q) (ci := 5) rfl ((hw hh).1 μ).1 rfl hl.1 rfl (Nat.le_of_ble_eq_true rfl) dX7_digest_34 ⟨Nat.zero_le _, Nat.zero_le _⟩) (fun H locs hS => ?_)
        refine lv_iinc (v := x1 + 1) (lv' := [(1, .int (x1 + 1)), (0, .ref (ad q))]) hx hb dX7_digest_37 hl (k := 1) rfl rfl (by decide) rfl (fun ls hl => ?_)
        refine lv_goto (tgt := 22) hx hb dX7_digest_40 (by decide) ?_
        exact ih22 (x1 + 1) μ y15 _ _ _ hS (lv_sub hl [1, 0] rfl) h
  unfold f_X7_digest at h
  refine lv_aload_n hx hb dX7_digest_0 rfl (lv_at hl 0 rfl) ?_
  refine lv_iconst (v := 0) hx hb dX7_digest_1 (by decide) ?_
  obtain ⟨μ1, eμ1, h⟩ := ob h
  refine r_putp (w := w hh) X hS (T := TX7) (k := 6) eμ1 (hw hh).1 rfl hiX7 tyX7 tyX7_ok nmX7 (by decide) mf28 rfl rfl rfl (Nat.le_of_ble_eq_true rfl) rfl dX7_digest_2 (fun H locs hS => ?_)
  refine lv_aload_n hx hb dX7_digest_5 rfl (lv_at hl 0 rfl) ?_
  refine lv_ldc2 (v := 43518) hx hb X.1.2.2.2.1 (X.1.2.2.2.2 _ mc276) dX7_digest_6 ?_
  refine r_puth X hS (h1 := 43518) (hw hh) hwh hiX7 mf269 dX7_digest_9 (fun H locs hS => ?_)
  refine lv_aload_n hx hb dX7_digest_12 rfl (lv_at hl 0 rfl) ?_
  refine lv_aload_n hx hb dX7_digest_13 rfl (lv_at hl 0 rfl) ?_
  refine r_get X hS (T := TX7) (k := 3) ((hw 43518).1 μ1).1 rfl hiX7 (by decide) mf39 rfl dX7_digest_14 ?_
  obtain ⟨y2, ey2, h⟩ := ob h
  refine r_cv hS (r_runV (As := [.int (μ1 q 3)]) (rest := []) X hS (c_X7_mix l hE (w := w) (ad := ad) (μ := μ1) (D := D) (cI := cI) (cG := cG) (cL := cL) hw hwh ey2) (cwV 1 X.1.2.2.2.2 gX7_digest_X7_mix rfl rfl rfl (by decide +kernel) ⟨Nat.le_of_ble_eq_true rfl, Nat.le_of_ble_eq_true rfl⟩) (q0 := q) (ci := 5) rfl ((hw 43518).1 μ1).1 rfl hl.1 rfl (Nat.le_of_ble_eq_true rfl) dX7_digest_17 ⟨Nat.zero_le _, Nat.zero_le _⟩) (fun H locs hS => ?_)
  refine lv_iconst (v := 0) hx hb dX7_digest_20 (by decide) ?_
  refine lv_istore_n (lv' := [(1, .int 0), (0, .ref (ad q))]) hx hb dX7_digest_21 rfl hl (by decide) rfl (fun ls hl => ?_)
  exact hb22 FU 0 μ1 y2 _ _ _ hS (lv_sub hl [1, 0] rfl) h
