def f_X5_save_b56 (q : Nat) (q1 : Nat)  (μ : Mem) : Option Mem := (some μ)
def f_X5_save_b39 (q : Nat) (q1 : Nat) (s0 : Int32) (μ : Mem) : Option Mem := (pf μ q 2 s0).bind (fun μ3 => (pf μ3 q 1 (if 4 < ((μ3 q 1) + 1) then 4 else ((μ3 q 1) + 1))).bind (fun μ4 => f_X5_save_b56 q q1 μ4))
def f_X5_save (q : Nat) (q1 : Nat) (μ : Mem) : Option Mem := (f_X5_stateAt q (μ q 2)).bind (fun v1 => (f_X4_copyFrom v1 q1 μ).bind (fun μ2 => (if 4 ≤ ((μ2 q 2) + 1) then f_X5_save_b39 q q1 0 μ2 else f_X5_save_b39 q q1 ((μ2 q 2) + 1) μ2)))
set_option maxHeartbeats 4000000 in
set_option maxRecDepth 100000 in
theorem c_X5_save (l : Launch) {D : va_G} {cI cG cL : ClassId} {A : Nat → Prop} {EN : State → Heap → Prop} (hE : EnOK EN A) {w : Mem → va_W} {ad : Nat → Nat} {q : Nat} {q1 : Nat} {μ : Mem}  {μ' : Mem} (hw : HistAt cI cG w ad q) (hw1 : GardenAt cI w ad q1) (h : f_X5_save q q1 μ = some μ') : Met l yX5_save wsX5_save (rmk 3 64) (WPre D (tyl cI cG cL) A EN (w μ) [.ref (ad q), .ref (ad q1)]) (PV D A (w μ')) 0 0 A := by
  have hiX5 : ∀ w ∈ u_ws RX5 TX5 3, w ∈ wsX5_save := by decide +kernel
  have mf21 : Cond.fieldLink RX5 21 (TX5 2).1 (TX5 2).2.1 (TX5 2).2.2.1 ∈ wsX5_save := by decide +kernel
  have mf17 : Cond.fieldLink RX5 17 (TX5 1).1 (TX5 1).2.1 (TX5 1).2.2.1 ∈ wsX5_save := by decide +kernel
  have mm33 : Cond.methodLink RX5 33 Lib.Math.min.name ∈ wsX5_save := by decide +kernel
  have mmst : Cond.static Lib.Math.min.name ∈ wsX5_save := by decide +kernel
  have mmini : Cond.initialized "java/lang/Math" ∈ wsX5_save := by decide +kernel
  have mmcode : Cond.code Lib.Math.min.name Lib.Math.min.code 2 (some .int) ∈ wsX5_save := by decide +kernel
  refine met_start (cc := cX5_save) (nL := 3) (ret := none) (own := RX5) hE (by decide) rfl rfl (Nat.le_of_ble_eq_true rfl) (fun p e s m args below meth c ls X hS hl hr hlk => ?_)
  have hx := X.1.1
  have hb := X.1.2.1
  replace hl : lv_has ls 3 [(0, .ref (ad q)), (1, .ref (ad q1))] := hl
  have hb56 : ∀  (μ : Mem) (H : Heap) (locs : List Loc) (ls : Array Slot), HS D A (w μ) s.heap H locs → lv_has ls 3 [] → f_X5_save_b56 q q1 μ = some μ' → W p l e (headSpec wsX5_save (rmk 3 64)).room s m args below meth c H locs 0 0 (MQ below (PV D A (w μ')) args s 0 0 A) (F0 m 56 ls []) := by
    intro μ H locs ls hS hl h
    unfold f_X5_save_b56 at h
    cases h
    exact r_vret X hS hr hlk dX5_save_56
  have hb39 : ∀ (s0 : Int32) (μ : Mem) (H : Heap) (locs : List Loc) (ls : Array Slot), HS D A (w μ) s.heap H locs → lv_has ls 3 [(0, .ref (ad q))] → f_X5_save_b39 q q1 s0 μ = some μ' → W p l e (headSpec wsX5_save (rmk 3 64)).room s m args below meth c H locs 0 0 (MQ below (PV D A (w μ')) args s 0 0 A) (F0 m 39 ls [.int s0, .ref (ad q)]) := by
    intro s0 μ H locs ls hS hl h
    unfold f_X5_save_b39 at h
    obtain ⟨μ3, eμ3, h⟩ := ob h
    refine r_putp (w := w) X hS (T := TX5) (k := 2) eμ3 hw.1 rfl hiX5 tyX5 tyX5_ok nmX5 (by decide) mf21 rfl rfl rfl (Nat.le_of_ble_eq_true rfl) rfl dX5_save_39 (fun H locs hS => ?_)
    refine lv_aload_n hx hb dX5_save_42 rfl (lv_at hl 0 rfl) ?_
    refine lv_aload_n hx hb dX5_save_43 rfl (lv_at hl 0 rfl) ?_
    refine r_get X hS (T := TX5) (k := 1) (hw.1 μ3).1 rfl hiX5 (by decide) mf17 rfl dX5_save_44 ?_
    refine lv_iconst (v := 1) hx hb dX5_save_47 (by decide) ?_
    refine lv_iadd hx hb dX5_save_48 ?_
    refine lv_iconst (v := 4) hx hb dX5_save_49 (by decide) ?_
    refine va_mmin hx hb (X.1.2.2.1.trans hl.1.symm) X.1.2.2.2.1 (X.1.2.2.2.2 _ mm33) (X.1.2.2.2.2 _ mmst) (X.1.2.2.2.2 _ mmini) (X.1.2.2.2.2 _ mmcode) (Nat.le_of_ble_eq_true rfl) (Nat.le_of_ble_eq_true rfl) (Nat.zero_le _) (Nat.zero_le _) dX5_save_50 ?_
    obtain ⟨μ4, eμ4, h⟩ := ob h
    refine r_putp (w := w) X hS (T := TX5) (k := 1) eμ4 hw.1 rfl hiX5 tyX5 tyX5_ok nmX5 (by decide) mf17 rfl rfl rfl (Nat.le_of_ble_eq_true rfl) rfl dX5_save_53 (fun H locs hS => ?_)
    exact hb56 μ4 _ _ _ hS (lv_sub hl [] rfl) h
  unfold f_X5_save at h
  refine lv_aload_n hx hb dX5_save_0 rfl (lv_at hl 0 rfl) ?_
  refine lv_aload_n hx hb dX5_save_1 rfl (lv_at hl 0 rfl) ?_
  refine r_get X hS (T := TX5) (k := 2) (hw.1 μ).1 rfl hiX5 (by decide) mf21 rfl dX5_save_2 ?_
  obtain ⟨v1, ev1, h⟩ := ob h
  refine r_cr hS (r_runV (As := [.int (μ q 2)]) (rest := []) X hS (c_X5_stateAt l hE (w := w) (ad := ad) (μ := μ) (D := D) (cI := cI) (cG := cG) (cL := cL) hw ev1) (cwV 1 X.1.2.2.2.2 gX5_save_X5_stateAt rfl rfl rfl (by decide +kernel) ⟨Nat.le_of_ble_eq_true rfl, Nat.le_of_ble_eq_true rfl⟩) (q0 := q) (ci := 3) rfl (hw.1 μ).1 rfl hl.1 rfl (Nat.le_of_ble_eq_true rfl) dX5_save_5 ⟨Nat.zero_le _, Nat.zero_le _⟩) (fun H locs hS => ?_)
  refine lv_astore_n (lv' := [(2, .ref (ad v1)), (0, .ref (ad q)), (1, .ref (ad q1))]) hx hb dX5_save_8 rfl hl (by decide) rfl (fun ls hl => ?_)
  refine lv_aload_n hx hb dX5_save_9 rfl (lv_at hl 0 rfl) ?_
  refine lv_ifnull hx hb dX5_save_10 ?_
  refine lv_aload_n hx hb dX5_save_13 rfl (lv_at hl 0 rfl) ?_
  refine lv_aload_n hx hb dX5_save_14 rfl (lv_at hl 2 rfl) ?_
  obtain ⟨μ2, eμ2, h⟩ := ob h
  refine r_cv hS (r_runV (As := [.ref (ad q1)]) (rest := []) X hS (c_X4_copyFrom l hE (w := w) (ad := ad) (μ := μ) (D := D) (cI := cI) (cG := cG) (cL := cL) (st_ok (cI := cI) (cG := cG) hw ev1) hw1 eμ2) (cwV 1 X.1.2.2.2.2 gX5_save_X4_copyFrom rfl rfl rfl (by decide +kernel) ⟨Nat.le_of_ble_eq_true rfl, Nat.le_of_ble_eq_true rfl⟩) (q0 := v1) (ci := 2) rfl ((st_ok (cI := cI) (cG := cG) hw ev1).1 μ).1 rfl hl.1 rfl (Nat.le_of_ble_eq_true rfl) dX5_save_15 ⟨Nat.zero_le _, Nat.zero_le _⟩) (fun H locs hS => ?_)
  refine lv_aload_n hx hb dX5_save_18 rfl (lv_at hl 1 rfl) ?_
  refine lv_aload_n hx hb dX5_save_19 rfl (lv_at hl 1 rfl) ?_
  refine r_get X hS (T := TX5) (k := 2) (hw.1 μ2).1 rfl hiX5 (by decide) mf21 rfl dX5_save_20 ?_
  refine lv_iconst (v := 1) hx hb dX5_save_23 (by decide) ?_
  refine lv_iadd hx hb dX5_save_24 ?_
  refine lv_iconst (v := 4) hx hb dX5_save_25 (by decide) ?_
  refine lv_icmp_ge (tgt := 38) hx hb dX5_save_26 (by decide) (fun cc => ?_) (fun cc => ?_)
  · replace h := it h cc
    refine lv_iconst (v := 0) hx hb dX5_save_38 (by decide) ?_
    exact hb39 0 μ2 _ _ _ hS (lv_sub hl [1] rfl) h
  · replace h := ie h cc
    refine lv_aload_n hx hb dX5_save_29 rfl (lv_at hl 1 rfl) ?_
    refine r_get X hS (T := TX5) (k := 2) (hw.1 μ2).1 rfl hiX5 (by decide) mf21 rfl dX5_save_30 ?_
    refine lv_iconst (v := 1) hx hb dX5_save_33 (by decide) ?_
    refine lv_iadd hx hb dX5_save_34 ?_
    refine lv_goto (tgt := 39) hx hb dX5_save_35 (by decide) ?_
    exact hb39 ((μ2 q 2) + 1) μ2 _ _ _ hS (lv_sub hl [1] rfl) h
def f_X5_restore_b55 (q : Nat) (q1 : Nat)  (μ : Mem) : Option (Int32 × Mem) := (some (μ q 1, μ))
def f_X5_restore_b17 (q : Nat) (q1 : Nat) (s0 : Int32) (μ : Mem) : Option (Int32 × Mem) := (f_X5_stateAt q s0).bind (fun v1 => (if (μ q 1) ≤ 0 then f_X5_restore_b55 q q1 μ else (f_X4_copyFrom q1 v1 μ).bind (fun μ2 => (pf μ2 q 2 s0).bind (fun μ3 => (pf μ3 q 1 ((μ3 q 1) - 1)).bind (fun μ4 => f_X5_restore_b55 q q1 μ4)))))
def f_X5_restore (q : Nat) (q1 : Nat) (μ : Mem) : Option (Int32 × Mem) := (if (μ q 2) ≤ 0 then f_X5_restore_b17 q q1 3 μ else f_X5_restore_b17 q q1 ((μ q 2) - 1) μ)
set_option maxHeartbeats 4000000 in
set_option maxRecDepth 100000 in
theorem c_X5_restore (l : Launch) {D : va_G} {cI cG cL : ClassId} {A : Nat → Prop} {EN : State → Heap → Prop} (hE : EnOK EN A) {w : Mem → va_W} {ad : Nat → Nat} {q : Nat} {q1 : Nat} {μ : Mem} {r : Int32} {μ' : Mem} (hw : HistAt cI cG w ad q) (hw1 : GardenAt cI w ad q1) (h : f_X5_restore q q1 μ = some (r, μ')) : Met l yX5_restore wsX5_restore (rmk 3 64) (WPre D (tyl cI cG cL) A EN (w μ) [.ref (ad q), .ref (ad q1)]) (PI D A (w μ') r) 0 0 A := by
  have hiX5 : ∀ w ∈ u_ws RX5 TX5 3, w ∈ wsX5_restore := by decide +kernel
  have mf21 : Cond.fieldLink RX5 21 (TX5 2).1 (TX5 2).2.1 (TX5 2).2.2.1 ∈ wsX5_restore := by decide +kernel
  have mf17 : Cond.fieldLink RX5 17 (TX5 1).1 (TX5 1).2.1 (TX5 1).2.2.1 ∈ wsX5_restore := by decide +kernel
  refine met_start (cc := cX5_restore) (nL := 4) (ret := (some .int)) (own := RX5) hE (by decide) rfl rfl (Nat.le_of_ble_eq_true rfl) (fun p e s m args below meth c ls X hS hl hr hlk => ?_)
  have hx := X.1.1
  have hb := X.1.2.1
  replace hl : lv_has ls 4 [(0, .ref (ad q)), (1, .ref (ad q1))] := hl
  have hb55 : ∀  (μ : Mem) (H : Heap) (locs : List Loc) (ls : Array Slot), HS D A (w μ) s.heap H locs → lv_has ls 4 [(0, .ref (ad q))] → f_X5_restore_b55 q q1 μ = some (r, μ') → W p l e (headSpec wsX5_restore (rmk 3 64)).room s m args below meth c H locs 0 0 (MQ below (PI D A (w μ') r) args s 0 0 A) (F0 m 55 ls []) := by
    intro μ H locs ls hS hl h
    unfold f_X5_restore_b55 at h
    refine lv_aload_n hx hb dX5_restore_55 rfl (lv_at hl 0 rfl) ?_
    refine r_get X hS (T := TX5) (k := 1) (hw.1 μ).1 rfl hiX5 (by decide) mf17 rfl dX5_restore_56 ?_
    obtain ⟨rfl, rfl⟩ := pr2 h
    exact r_iret X hS hr hlk dX5_restore_59
  have hb17 : ∀ (s0 : Int32) (μ : Mem) (H : Heap) (locs : List Loc) (ls : Array Slot), HS D A (w μ) s.heap H locs → lv_has ls 4 [(0, .ref (ad q)), (1, .ref (ad q1))] → f_X5_restore_b17 q q1 s0 μ = some (r, μ') → W p l e (headSpec wsX5_restore (rmk 3 64)).room s m args below meth c H locs 0 0 (MQ below (PI D A (w μ') r) args s 0 0 A) (F0 m 17 ls [.int s0]) := by
    intro s0 μ H locs ls hS hl h
    unfold f_X5_restore_b17 at h
    refine lv_istore_n (lv' := [(2, .int s0), (0, .ref (ad q)), (1, .ref (ad q1))]) hx hb dX5_restore_17 rfl hl (by decide) rfl (fun ls hl => ?_)
    refine lv_aload_n hx hb dX5_restore_18 rfl (lv_at hl 1 rfl) ?_
    refine lv_iload_n hx hb dX5_restore_19 rfl (lv_at hl 0 rfl) ?_
    obtain ⟨v1, ev1, h⟩ := ob h
    refine r_cr hS (r_runV (As := [.int s0]) (rest := []) X hS (c_X5_stateAt l hE (w := w) (ad := ad) (μ := μ) (D := D) (cI := cI) (cG := cG) (cL := cL) hw ev1) (cwV 1 X.1.2.2.2.2 gX5_restore_X5_stateAt rfl rfl rfl (by decide +kernel) ⟨Nat.le_of_ble_eq_true rfl, Nat.le_of_ble_eq_true rfl⟩) (q0 := q) (ci := 3) rfl (hw.1 μ).1 rfl hl.1 rfl (Nat.le_of_ble_eq_true rfl) dX5_restore_20 ⟨Nat.zero_le _, Nat.zero_le _⟩) (fun H locs hS => ?_)
    refine lv_astore_n (lv' := [(3, .ref (ad v1)), (2, .int s0), (0, .ref (ad q)), (1, .ref (ad q1))]) hx hb dX5_restore_23 rfl hl (by decide) rfl (fun ls hl => ?_)
    refine lv_aload_n hx hb dX5_restore_24 rfl (lv_at hl 0 rfl) ?_
    refine lv_ifnull hx hb dX5_restore_25 ?_
    refine lv_aload_n hx hb dX5_restore_28 rfl (lv_at hl 2 rfl) ?_
    refine r_get X hS (T := TX5) (k := 1) (hw.1 μ).1 rfl hiX5 (by decide) mf17 rfl dX5_restore_29 ?_
    refine lv_if_le (tgt := 55) hx hb dX5_restore_32 (by decide) (fun cc => ?_) (fun cc => ?_)
    · replace h := it h cc
      exact hb55 μ _ _ _ hS (lv_sub hl [2] rfl) h
    · replace h := ie h cc
      refine lv_aload_n hx hb dX5_restore_35 rfl (lv_at hl 3 rfl) ?_
      refine lv_aload_n hx hb dX5_restore_36 rfl (lv_at hl 0 rfl) ?_
      obtain ⟨μ2, eμ2, h⟩ := ob h
      refine r_cv hS (r_runV (As := [.ref (ad v1)]) (rest := []) X hS (c_X4_copyFrom l hE (w := w) (ad := ad) (μ := μ) (D := D) (cI := cI) (cG := cG) (cL := cL) hw1 (st_ok (cI := cI) (cG := cG) hw ev1) eμ2) (cwV 1 X.1.2.2.2.2 gX5_restore_X4_copyFrom rfl rfl rfl (by decide +kernel) ⟨Nat.le_of_ble_eq_true rfl, Nat.le_of_ble_eq_true rfl⟩) (q0 := q1) (ci := 2) rfl (hw1.1 μ).1 rfl hl.1 rfl (Nat.le_of_ble_eq_true rfl) dX5_restore_37 ⟨Nat.zero_le _, Nat.zero_le _⟩) (fun H locs hS => ?_)
      refine lv_aload_n hx hb dX5_restore_40 rfl (lv_at hl 2 rfl) ?_
      refine lv_iload_n hx hb dX5_restore_41 rfl (lv_at hl 1 rfl) ?_
      obtain ⟨μ3, eμ3, h⟩ := ob h
      refine r_putp (w := w) X hS (T := TX5) (k := 2) eμ3 hw.1 rfl hiX5 tyX5 tyX5_ok nmX5 (by decide) mf21 rfl rfl rfl (Nat.le_of_ble_eq_true rfl) rfl dX5_restore_42 (fun H locs hS => ?_)
      refine lv_aload_n hx hb dX5_restore_45 rfl (lv_at hl 2 rfl) ?_
      refine lv_dup hx hb dX5_restore_46 rfl ?_
      refine r_get X hS (T := TX5) (k := 1) (hw.1 μ3).1 rfl hiX5 (by decide) mf17 rfl dX5_restore_47 ?_
      refine lv_iconst (v := 1) hx hb dX5_restore_50 (by decide) ?_
      refine lv_isub hx hb dX5_restore_51 ?_
      obtain ⟨μ4, eμ4, h⟩ := ob h
      refine r_putp (w := w) X hS (T := TX5) (k := 1) eμ4 hw.1 rfl hiX5 tyX5 tyX5_ok nmX5 (by decide) mf17 rfl rfl rfl (Nat.le_of_ble_eq_true rfl) rfl dX5_restore_52 (fun H locs hS => ?_)
      exact hb55 μ4 _ _ _ hS (lv_sub hl [2] rfl) h
  unfold f_X5_restore at h
  refine lv_aload_n hx hb dX5_restore_0 rfl (lv_at hl 0 rfl) ?_
  refine r_get X hS (T := TX5) (k := 2) (hw.1 μ).1 rfl hiX5 (by decide) mf21 rfl dX5_restore_1 ?_
  refine lv_if_le (tgt := 16) hx hb dX5_restore_4 (by decide) (fun cc => ?_) (fun cc => ?_)
  · replace h := it h cc
    refine lv_iconst (v := 3) hx hb dX5_restore_16 (by decide) ?_
    exact hb17 3 μ _ _ _ hS (lv_sub hl [0, 1] rfl) h
  · replace h := ie h cc
    refine lv_aload_n hx hb dX5_restore_7 rfl (lv_at hl 0 rfl) ?_
    refine r_get X hS (T := TX5) (k := 2) (hw.1 μ).1 rfl hiX5 (by decide) mf21 rfl dX5_restore_8 ?_
    refine lv_iconst (v := 1) hx hb dX5_restore_11 (by decide) ?_
    refine lv_isub hx hb dX5_restore_12 ?_
    refine lv_goto (tgt := 17) hx hb dX5_restore_13 (by decide) ?_
    exact hb17 ((μ q 2) - 1) μ _ _ _ hS (lv_sub hl [0, 1] rfl) h
