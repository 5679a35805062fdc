def f_X7_ownLeaf (q : Nat) (a1 : Int32) (a2 : Int32) (μ : Mem) : Option (Int32 × Mem) := (f_X7_leafAt q a1 a2 μ).bind (fun v1 => (f_X7_of q v1 4 μ).bind (fun v2 => (if v2 = 1 then (some (v1, μ)) else bn2 (f_X7_dig q 0 μ) (fun v3 μ4 => (f_X7_copies q v1 v3 μ4).bind (fun μ5 => (f_X7_leaves q v1 μ5).bind (fun μ6 => (f_X7_lay q a1 (6 + a2) v3 μ6).bind (fun μ7 => (some (v3, μ7)))))))))
set_option maxHeartbeats 4000000 in
set_option maxRecDepth 100000 in
theorem c_X7_ownLeaf (l : Launch) {D : va_G} {cI cG cL : ClassId} {A : Nat → Prop} {EN : State → Heap → Prop} (hE : EnOK EN A) {w : Mem → va_W} {ad : Nat → Nat} {hh : Int64} {q : Nat} {a1 : Int32} {a2 : Int32} {μ : Mem} {r : Int32} {μ' : Mem} (hw : ModelAt cI w ad hh q) (h : f_X7_ownLeaf q a1 a2 μ = some (r, μ')) : Met l yX7_ownLeaf wsX7_ownLeaf (rmk 5 112) (WPre D (tyl cI cG cL) A EN (w μ) [.ref (ad q), .int a1, .int a2]) (PI D A (w μ') r) 0 0 A := by
  refine met_start (cc := cX7_ownLeaf) (nL := 5) (ret := (some .int)) (own := RX7) hE (by decide) rfl rfl (Nat.le_of_ble_eq_true rfl) (fun p e s m args below meth c ls X hS hl hr hlk => ?_)
  have hx := X.1.1
  have hb := X.1.2.1
  replace hl : lv_has ls 5 [(0, .ref (ad q)), (1, .int a1), (2, .int a2)] := hl
  unfold f_X7_ownLeaf at h
  refine lv_aload_n hx hb dX7_ownLeaf_0 rfl (lv_at hl 0 rfl) ?_
  refine lv_iload_n hx hb dX7_ownLeaf_1 rfl (lv_at hl 1 rfl) ?_
  refine lv_iload_n hx hb dX7_ownLeaf_2 rfl (lv_at hl 2 rfl) ?_
  obtain ⟨v1, ev1, h⟩ := ob h
  refine r_ci hS (r_runV (As := [.int a1, .int a2]) (rest := []) X hS (c_X7_leafAt l hE (w := w) (ad := ad) (μ := μ) (D := D) (cI := cI) (cG := cG) (cL := cL) hw ev1) (cwV 2 X.1.2.2.2.2 gX7_ownLeaf_X7_leafAt rfl rfl rfl (by decide +kernel) ⟨Nat.le_of_ble_eq_true rfl, Nat.le_of_ble_eq_true rfl⟩) (q0 := q) (ci := 5) rfl (hw.1 μ).1 rfl hl.1 rfl (Nat.le_of_ble_eq_true rfl) dX7_ownLeaf_3 ⟨Nat.zero_le _, Nat.zero_le _⟩) (fun H locs hS => ?_)
  refine lv_istore_n (lv' := [(3, .int v1), (0, .ref (ad q)), (1, .int a1), (2, .int a2)]) hx hb dX7_ownLeaf_6 rfl hl (by decide) rfl (fun ls hl => ?_)
  refine lv_aload_n hx hb dX7_ownLeaf_7 rfl (lv_at hl 1 rfl) ?_
  refine lv_iload_n hx hb dX7_ownLeaf_8 rfl (lv_at hl 0 rfl) ?_
  refine lv_iconst (v := 4) hx hb dX7_ownLeaf_9 (by decide) ?_
  obtain ⟨v2, ev2, h⟩ := ob h
  refine r_ci hS (r_runV (As := [.int v1, .int 4]) (rest := []) X hS (c_X7_of l hE (w := w) (ad := ad) (μ := μ) (D := D) (cI := cI) (cG := cG) (cL := cL) hw ev2) (cwV 2 X.1.2.2.2.2 gX7_ownLeaf_X7_of rfl rfl rfl (by decide +kernel) ⟨Nat.le_of_ble_eq_true rfl, Nat.le_of_ble_eq_true rfl⟩) (q0 := q) (ci := 5) rfl (hw.1 μ).1 rfl hl.1 rfl (Nat.le_of_ble_eq_true rfl) dX7_ownLeaf_10 ⟨Nat.zero_le _, Nat.zero_le _⟩) (fun H locs hS => ?_)
  refine lv_iconst (v := 1) hx hb dX7_ownLeaf_13 (by decide) ?_
  refine lv_icmp_ne (tgt := 19) hx hb dX7_ownLeaf_14 (by decide) (fun cc => ?_) (fun cc => ?_)
  · replace h := ie h cc
    refine lv_aload_n hx hb dX7_ownLeaf_19 rfl (lv_at hl 1 rfl) ?_
    refine lv_iconst (v := 0) hx hb dX7_ownLeaf_20 (by decide) ?_
    obtain ⟨v3, μ4, ev3, h⟩ := ob2 h
    refine r_ci hS (r_runV (As := [.int 0]) (rest := []) X hS (c_X7_dig l hE (w := w) (ad := ad) (μ := μ) (D := D) (cI := cI) (cG := cG) (cL := cL) hw ev3) (cwV 1 X.1.2.2.2.2 gX7_ownLeaf_X7_dig rfl rfl rfl (by decide +kernel) ⟨Nat.le_of_ble_eq_true rfl, Nat.le_of_ble_eq_true rfl⟩) (q0 := q) (ci := 5) rfl (hw.1 μ).1 rfl hl.1 rfl (Nat.le_of_ble_eq_true rfl) dX7_ownLeaf_21 ⟨Nat.zero_le _, Nat.zero_le _⟩) (fun H locs hS => ?_)
    refine lv_istore (lv' := [(4, .int v3), (3, .int v1), (0, .ref (ad q)), (1, .int a1), (2, .int a2)]) hx hb dX7_ownLeaf_24 hl (by decide) rfl (fun ls hl => ?_)
    refine lv_aload_n hx hb dX7_ownLeaf_26 rfl (lv_at hl 2 rfl) ?_
    refine lv_iload_n hx hb dX7_ownLeaf_27 rfl (lv_at hl 1 rfl) ?_
    refine lv_iload hx hb dX7_ownLeaf_28 (lv_at hl 0 rfl) ?_
    obtain ⟨μ5, eμ5, h⟩ := ob h
    refine r_cv hS (r_runV (As := [.int v1, .int v3]) (rest := []) X hS (c_X7_copies l hE (w := w) (ad := ad) (μ := μ4) (D := D) (cI := cI) (cG := cG) (cL := cL) hw eμ5) (cwV 2 X.1.2.2.2.2 gX7_ownLeaf_X7_copies rfl rfl rfl (by decide +kernel) ⟨Nat.le_of_ble_eq_true rfl, Nat.le_of_ble_eq_true rfl⟩) (q0 := q) (ci := 5) rfl (hw.1 μ4).1 rfl hl.1 rfl (Nat.le_of_ble_eq_true rfl) dX7_ownLeaf_30 ⟨Nat.zero_le _, Nat.zero_le _⟩) (fun H locs hS => ?_)
    refine lv_aload_n hx hb dX7_ownLeaf_33 rfl (lv_at hl 2 rfl) ?_
    refine lv_iload_n hx hb dX7_ownLeaf_34 rfl (lv_at hl 1 rfl) ?_
    obtain ⟨μ6, eμ6, h⟩ := ob h
    refine r_cv hS (r_runV (As := [.int v1]) (rest := []) X hS (c_X7_leaves l hE (w := w) (ad := ad) (μ := μ5) (D := D) (cI := cI) (cG := cG) (cL := cL) hw eμ6) (cwV 1 X.1.2.2.2.2 gX7_ownLeaf_X7_leaves rfl rfl rfl (by decide +kernel) ⟨Nat.le_of_ble_eq_true rfl, Nat.le_of_ble_eq_true rfl⟩) (q0 := q) (ci := 5) rfl (hw.1 μ5).1 rfl hl.1 rfl (Nat.le_of_ble_eq_true rfl) dX7_ownLeaf_35 ⟨Nat.zero_le _, Nat.zero_le _⟩) (fun H locs hS => ?_)
    refine lv_aload_n hx hb dX7_ownLeaf_38 rfl (lv_at hl 2 rfl) ?_
    refine lv_iload_n hx hb dX7_ownLeaf_39 rfl (lv_at hl 3 rfl) ?_
    refine lv_bipush (v := 6) hx hb dX7_ownLeaf_40 (by decide) ?_
    refine lv_iload_n hx hb dX7_ownLeaf_42 rfl (lv_at hl 4 rfl) ?_
    refine lv_iadd hx hb dX7_ownLeaf_43 ?_
    refine lv_iload hx hb dX7_ownLeaf_44 (lv_at hl 0 rfl) ?_
    obtain ⟨μ7, eμ7, h⟩ := ob h
    refine r_cv hS (r_runV (As := [.int a1, .int (6 + a2), .int v3]) (rest := []) X hS (c_X7_lay l hE (w := w) (ad := ad) (μ := μ6) (D := D) (cI := cI) (cG := cG) (cL := cL) hw eμ7) (cwV 3 X.1.2.2.2.2 gX7_ownLeaf_X7_lay rfl rfl rfl (by decide +kernel) ⟨Nat.le_of_ble_eq_true rfl, Nat.le_of_ble_eq_true rfl⟩) (q0 := q) (ci := 5) rfl (hw.1 μ6).1 rfl hl.1 rfl (Nat.le_of_ble_eq_true rfl) dX7_ownLeaf_46 ⟨Nat.zero_le _, Nat.zero_le _⟩) (fun H locs hS => ?_)
    refine lv_iload hx hb dX7_ownLeaf_49 (lv_at hl 0 rfl) ?_
    obtain ⟨rfl, rfl⟩ := pr2 h
    exact r_iret X hS hr hlk dX7_ownLeaf_51
  · replace h := it h cc
    refine lv_iload_n hx hb dX7_ownLeaf_17 rfl (lv_at hl 0 rfl) ?_
    obtain ⟨rfl, rfl⟩ := pr2 h
    exact r_iret X hS hr hlk dX7_ownLeaf_18
def f_X7_insertLeaf_b8 (q : Nat)  : Nat → Int32 → Int32 → Int32 → Int32 → Mem → Option Mem
  | 0, _, _, _, _, _ => none
  | fuel8 + 1, x1, x2, x3, x4, μ => (if x4 ≤ x2 then (f_X7_lay q x1 (6 + x2) x3 μ).bind (fun μ2 => (f_X7_of q x1 2 μ2).bind (fun v3 => (f_X7_lay q x1 2 (v3 + 1) μ2).bind (fun μ4 => (some μ4)))) else (f_X7_leafAt q x1 (x4 - 1) μ).bind (fun v5 => (f_X7_lay q x1 (6 + x4) v5 μ).bind (fun μ6 => f_X7_insertLeaf_b8 q fuel8 x1 x2 x3 (x4 + (-1)) μ6)))
def f_X7_insertLeaf (q : Nat) (a1 : Int32) (a2 : Int32) (a3 : Int32) (μ : Mem) : Option Mem := (f_X7_of q a1 2 μ).bind (fun v1 => f_X7_insertLeaf_b8 q FU a1 a2 a3 v1 μ)
set_option maxHeartbeats 4000000 in
set_option maxRecDepth 100000 in
theorem c_X7_insertLeaf (l : Launch) {D : va_G} {cI cG cL : ClassId} {A : Nat → Prop} {EN : State → Heap → Prop} (hE : EnOK EN A) {w : Mem → va_W} {ad : Nat → Nat} {hh : Int64} {q : Nat} {a1 : Int32} {a2 : Int32} {a3 : Int32} {μ : Mem}  {μ' : Mem} (hw : ModelAt cI w ad hh q) (h : f_X7_insertLeaf q a1 a2 a3 μ = some μ') : Met l yX7_insertLeaf wsX7_insertLeaf (rmk 2 44) (WPre D (tyl cI cG cL) A EN (w μ) [.ref (ad q), .int a1, .int a2, .int a3]) (PV D A (w μ')) 0 0 A := by
  refine met_start (cc := cX7_insertLeaf) (nL := 5) (ret := none) (own := RX7) hE (by decide) rfl rfl (Nat.le_of_ble_eq_true rfl) (fun p e s m args below meth c ls X hS hl hr hlk => ?_)
  have hx := X.1.1
  have hb := X.1.2.1
  replace hl : lv_has ls 5 [(0, .ref (ad q)), (1, .int a1), (2, .int a2), (3, .int a3)] := hl
  have hb8 : ∀ (fu : Nat) (x1 : Int32) (x2 : Int32) (x3 : Int32) (x4 : Int32) (μ : Mem) (H : Heap) (locs : List Loc) (ls : Array Slot), HS D A (w μ) s.heap H locs → lv_has ls 5 [(0, .ref (ad q)), (1, .int x1), (2, .int x2), (3, .int x3), (4, .int x4)] → f_X7_insertLeaf_b8 q fu x1 x2 x3 x4 μ = some μ' → W p l e (headSpec wsX7_insertLeaf (rmk 2 44)).room s m args below meth c H locs 0 0 (MQ below (PV D A (w μ')) args s 0 0 A) (F0 m 8 ls []) := by
    intro fu
    induction fu with
    | zero =>
      intro x1 x2 x3 x4 μ H locs ls hS hl h
      rw [f_X7_insertLeaf_b8] at h
      cases h
    | succ fuel8 ih8 =>
      intro x1 x2 x3 x4 μ H locs ls hS hl h
      rw [f_X7_insertLeaf_b8] at h
      refine lv_iload hx hb dX7_insertLeaf_8 (lv_at hl 4 rfl) ?_
      refine lv_iload_n hx hb dX7_insertLeaf_10 rfl (lv_at hl 2 rfl) ?_
      refine lv_icmp_le (tgt := 39) hx hb dX7_insertLeaf_11 (by decide) (fun cc => ?_) (fun cc => ?_)
      · replace h := it h cc
        refine lv_aload_n hx hb dX7_insertLeaf_39 rfl (lv_at hl 0 rfl) ?_
        refine lv_iload_n hx hb dX7_insertLeaf_40 rfl (lv_at hl 1 rfl) ?_
        refine lv_bipush (v := 6) hx hb dX7_insertLeaf_41 (by decide) ?_
        refine lv_iload_n hx hb dX7_insertLeaf_43 rfl (lv_at hl 2 rfl) ?_
        refine lv_iadd hx hb dX7_insertLeaf_44 ?_
        refine lv_iload_n hx hb dX7_insertLeaf_45 rfl (lv_at hl 3 rfl) ?_
        obtain ⟨μ2, eμ2, h⟩ := ob h
        refine r_cv hS (r_runV (As := [.int x1, .int (6 + x2), .int x3]) (rest := []) X hS (c_X7_lay l hE (w := w) (ad := ad) (μ := μ) (D := D) (cI := cI) (cG := cG) (cL := cL) hw eμ2) (cwV 3 X.1.2.2.2.2 gX7_insertLeaf_X7_lay rfl rfl rfl (by decide +kernel) ⟨Nat.le_of_ble_eq_true rfl, Nat.le_of_ble_eq_true rfl⟩) (q0 := q) (ci := 5) rfl (hw.1 μ).1 rfl hl.1 rfl (Nat.le_of_ble_eq_true rfl) dX7_insertLeaf_46 ⟨Nat.zero_le _, Nat.zero_le _⟩) (fun H locs hS => ?_)
        refine lv_aload_n hx hb dX7_insertLeaf_49 rfl (lv_at hl 0 rfl) ?_
        refine lv_iload_n hx hb dX7_insertLeaf_50 rfl (lv_at hl 1 rfl) ?_
        refine lv_iconst (v := 2) hx hb dX7_insertLeaf_51 (by decide) ?_
        refine lv_aload_n hx hb dX7_insertLeaf_52 rfl (lv_at hl 0 rfl) ?_
        refine lv_iload_n hx hb dX7_insertLeaf_53 rfl (lv_at hl 1 rfl) ?_
        refine lv_iconst (v := 2) hx hb dX7_insertLeaf_54 (by decide) ?_
        obtain ⟨v3, ev3, h⟩ := ob h
        refine r_ci hS (r_runV (As := [.int x1, .int 2]) (rest := [.int 2, .int x1, .ref (ad q)]) X hS (c_X7_of l hE (w := w) (ad := ad) (μ := μ2) (D := D) (cI := cI) (cG := cG) (cL := cL) hw ev3) (cwV 2 X.1.2.2.2.2 gX7_insertLeaf_X7_of rfl rfl rfl (by decide +kernel) ⟨Nat.le_of_ble_eq_true rfl, Nat.le_of_ble_eq_true rfl⟩) (q0 := q) (ci := 5) rfl (hw.1 μ2).1 rfl hl.1 rfl (Nat.le_of_ble_eq_true rfl) dX7_insertLeaf_55 ⟨Nat.zero_le _, Nat.zero_le _⟩) (fun H locs hS => ?_)
        refine lv_iconst (v := 1) hx hb dX7_insertLeaf_58 (by decide) ?_
        refine lv_iadd hx hb dX7_insertLeaf_59 ?_
        obtain ⟨μ4, eμ4, h⟩ := ob h
        refine r_cv hS (r_runV (As := [.int x1, .int 2, .int (v3 + 1)]) (rest := []) X hS (c_X7_lay l hE (w := w) (ad := ad) (μ := μ2) (D := D) (cI := cI) (cG := cG) (cL := cL) hw eμ4) (cwV 3 X.1.2.2.2.2 gX7_insertLeaf_X7_lay rfl rfl rfl (by decide +kernel) ⟨Nat.le_of_ble_eq_true rfl, Nat.le_of_ble_eq_true rfl⟩) (q0 := q) (ci := 5) rfl (hw.1 μ2).1 rfl hl.1 rfl (Nat.le_of_ble_eq_true rfl) dX7_insertLeaf_60 ⟨Nat.zero_le _, Nat.zero_le _⟩) (fun H locs hS => ?_)
        cases h
        exact r_vret X hS hr hlk dX7_insertLeaf_63
      · replace h := ie h cc
        refine lv_aload_n hx hb dX7_insertLeaf_14 rfl (lv_at hl 0 rfl) ?_
        refine lv_iload_n hx hb dX7_insertLeaf_15 rfl (lv_at hl 1 rfl) ?_
        refine lv_bipush (v := 6) hx hb dX7_insertLeaf_16 (by decide) ?_
        refine lv_iload hx hb dX7_insertLeaf_18 (lv_at hl 4 rfl) ?_
        refine lv_iadd hx hb dX7_insertLeaf_20 ?_
        refine lv_aload_n hx hb dX7_insertLeaf_21 rfl (lv_at hl 0 rfl) ?_
        refine lv_iload_n hx hb dX7_insertLeaf_22 rfl (lv_at hl 1 rfl) ?_
        refine lv_iload hx hb dX7_insertLeaf_23 (lv_at hl 4 rfl) ?_
        refine lv_iconst (v := 1) hx hb dX7_insertLeaf_25 (by decide) ?_
        refine lv_isub hx hb dX7_insertLeaf_26 ?_
        obtain ⟨v5, ev5, h⟩ := ob h
        refine r_ci hS (r_runV (As := [.int x1, .int (x4 - 1)]) (rest := [.int (6 + x4), .int x1, .ref (ad q)]) X hS (c_X7_leafAt l hE (w := w) (ad := ad) (μ := μ) (D := D) (cI := cI) (cG := cG) (cL := cL) hw ev5) (cwV 2 X.1.2.2.2.2 gX7_insertLeaf_X7_leafAt rfl rfl rfl (by decide +kernel) ⟨Nat.le_of_ble_eq_true rfl, Nat.le_of_ble_eq_true rfl⟩) (q0 := q) (ci := 5) rfl (hw.1 μ).1 rfl hl.1 rfl (Nat.le_of_ble_eq_true rfl) dX7_insertLeaf_27 ⟨Nat.zero_le _, Nat.zero_le _⟩) (fun H locs hS => ?_)
        obtain ⟨μ6, eμ6, h⟩ := ob h
        refine r_cv hS (r_runV (As := [.int x1, .int (6 + x4), .int v5]) (rest := []) X hS (c_X7_lay l hE (w := w) (ad := ad) (μ := μ) (D := D) (cI := cI) (cG := cG) (cL := cL) hw eμ6) (cwV 3 X.1.2.2.2.2 gX7_insertLeaf_X7_lay rfl rfl rfl (by decide +kernel) ⟨Nat.le_of_ble_eq_true rfl, Nat.le_of_ble_eq_true rfl⟩) (q0 := q) (ci := 5) rfl (hw.1 μ).1 rfl hl.1 rfl (Nat.le_of_ble_eq_true rfl) dX7_insertLeaf_30 ⟨Nat.zero_le _, Nat.zero_le _⟩) (fun H locs hS => ?_)
        refine lv_iinc (v := x4 + (-1)) (lv' := [(4, .int (x4 + (-1))), (0, .ref (ad q)), (1, .int x1), (2, .int x2), (3, .int x3)]) hx hb dX7_insertLeaf_33 hl (k := 4) rfl rfl (by decide) rfl (fun ls hl => ?_)
        refine lv_goto (tgt := 8) hx hb dX7_insertLeaf_36 (by decide) ?_
        exact ih8 x1 x2 x3 (x4 + (-1)) μ6 _ _ _ hS (lv_sub hl [1, 2, 3, 4, 0] rfl) h
  unfold f_X7_insertLeaf at h
  refine lv_aload_n hx hb dX7_insertLeaf_0 rfl (lv_at hl 0 rfl) ?_
  refine lv_iload_n hx hb dX7_insertLeaf_1 rfl (lv_at hl 1 rfl) ?_
  refine lv_iconst (v := 2) hx hb dX7_insertLeaf_2 (by decide) ?_
  obtain ⟨v1, ev1, h⟩ := ob h
  refine r_ci hS (r_runV (As := [.int a1, .int 2]) (rest := []) X hS (c_X7_of l hE (w := w) (ad := ad) (μ := μ) (D := D) (cI := cI) (cG := cG) (cL := cL) hw ev1) (cwV 2 X.1.2.2.2.2 gX7_insertLeaf_X7_of rfl rfl rfl (by decide +kernel) ⟨Nat.le_of_ble_eq_true rfl, Nat.le_of_ble_eq_true rfl⟩) (q0 := q) (ci := 5) rfl (hw.1 μ).1 rfl hl.1 rfl (Nat.le_of_ble_eq_true rfl) dX7_insertLeaf_3 ⟨Nat.zero_le _, Nat.zero_le _⟩) (fun H locs hS => ?_)
  refine lv_istore (lv' := [(4, .int v1), (0, .ref (ad q)), (1, .int a1), (2, .int a2), (3, .int a3)]) hx hb dX7_insertLeaf_6 hl (by decide) rfl (fun ls hl => ?_)
  exact hb8 FU a1 a2 a3 v1 μ _ _ _ hS (lv_sub hl [1, 2, 3, 4, 0] rfl) h
def f_X7_setEntry (q : Nat) (a1 : Int32) (a2 : Int32) (a3 : Int32) (a4 : Int32) (μ : Mem) : Option Mem := (f_X7_lay q a1 (6 + (2 * a2)) a3 μ).bind (fun μ1 => (f_X7_lay q a1 ((6 + (2 * a2)) + 1) a4 μ1).bind (fun μ2 => (some μ2)))
set_option maxHeartbeats 4000000 in
set_option maxRecDepth 100000 in
theorem c_X7_setEntry (l : Launch) {D : va_G} {cI cG cL : ClassId} {A : Nat → Prop} {EN : State → Heap → Prop} (hE : EnOK EN A) {w : Mem → va_W} {ad : Nat → Nat} {hh : Int64} {q : Nat} {a1 : Int32} {a2 : Int32} {a3 : Int32} {a4 : Int32} {μ : Mem}  {μ' : Mem} (hw : ModelAt cI w ad hh q) (h : f_X7_setEntry q a1 a2 a3 a4 μ = some μ') : Met l yX7_setEntry wsX7_setEntry (rmk 1 23) (WPre D (tyl cI cG cL) A EN (w μ) [.ref (ad q), .int a1, .int a2, .int a3, .int a4]) (PV D A (w μ')) 0 0 A := by
  refine met_start (cc := cX7_setEntry) (nL := 5) (ret := none) (own := RX7) hE (by decide) rfl rfl (Nat.le_of_ble_eq_true rfl) (fun p e s m args below meth c ls X hS hl hr hlk => ?_)
  have hx := X.1.1
  have hb := X.1.2.1
  replace hl : lv_has ls 5 [(0, .ref (ad q)), (1, .int a1), (2, .int a2), (3, .int a3), (4, .int a4)] := hl
  unfold f_X7_setEntry at h
  refine lv_aload_n hx hb dX7_setEntry_0 rfl (lv_at hl 0 rfl) ?_
  refine lv_iload_n hx hb dX7_setEntry_1 rfl (lv_at hl 1 rfl) ?_
  refine lv_bipush (v := 6) hx hb dX7_setEntry_2 (by decide) ?_
  refine lv_iconst (v := 2) hx hb dX7_setEntry_4 (by decide) ?_
  refine lv_iload_n hx hb dX7_setEntry_5 rfl (lv_at hl 2 rfl) ?_
  refine lv_imul hx hb dX7_setEntry_6 ?_
  refine lv_iadd hx hb dX7_setEntry_7 ?_
  refine lv_iload_n hx hb dX7_setEntry_8 rfl (lv_at hl 3 rfl) ?_
  obtain ⟨μ1, eμ1, h⟩ := ob h
  refine r_cv hS (r_runV (As := [.int a1, .int (6 + (2 * a2)), .int a3]) (rest := []) X hS (c_X7_lay l hE (w := w) (ad := ad) (μ := μ) (D := D) (cI := cI) (cG := cG) (cL := cL) hw eμ1) (cwV 3 X.1.2.2.2.2 gX7_setEntry_X7_lay rfl rfl rfl (by decide +kernel) ⟨Nat.le_of_ble_eq_true rfl, Nat.le_of_ble_eq_true rfl⟩) (q0 := q) (ci := 5) rfl (hw.1 μ).1 rfl hl.1 rfl (Nat.le_of_ble_eq_true rfl) dX7_setEntry_9 ⟨Nat.zero_le _, Nat.zero_le _⟩) (fun H locs hS => ?_)
  refine lv_aload_n hx hb dX7_setEntry_12 rfl (lv_at hl 0 rfl) ?_
  refine lv_iload_n hx hb dX7_setEntry_13 rfl (lv_at hl 1 rfl) ?_
  refine lv_bipush (v := 6) hx hb dX7_setEntry_14 (by decide) ?_
  refine lv_iconst (v := 2) hx hb dX7_setEntry_16 (by decide) ?_
  refine lv_iload_n hx hb dX7_setEntry_17 rfl (lv_at hl 2 rfl) ?_
  refine lv_imul hx hb dX7_setEntry_18 ?_
  refine lv_iadd hx hb dX7_setEntry_19 ?_
  refine lv_iconst (v := 1) hx hb dX7_setEntry_20 (by decide) ?_
  refine lv_iadd hx hb dX7_setEntry_21 ?_
  refine lv_iload hx hb dX7_setEntry_22 (lv_at hl 4 rfl) ?_
  obtain ⟨μ2, eμ2, h⟩ := ob h
  refine r_cv hS (r_runV (As := [.int a1, .int ((6 + (2 * a2)) + 1), .int a4]) (rest := []) X hS (c_X7_lay l hE (w := w) (ad := ad) (μ := μ1) (D := D) (cI := cI) (cG := cG) (cL := cL) hw eμ2) (cwV 3 X.1.2.2.2.2 gX7_setEntry_X7_lay rfl rfl rfl (by decide +kernel) ⟨Nat.le_of_ble_eq_true rfl, Nat.le_of_ble_eq_true rfl⟩) (q0 := q) (ci := 5) rfl (hw.1 μ1).1 rfl hl.1 rfl (Nat.le_of_ble_eq_true rfl) dX7_setEntry_24 ⟨Nat.zero_le _, Nat.zero_le _⟩) (fun H locs hS => ?_)
  cases h
  exact r_vret X hS hr hlk dX7_setEntry_27
def f_X7_splits_b175 (q : Nat) (k141 : Int32 → Int32 → Int32 → Int32 → Int32 → Mem → Option Mem) (x1 : Int32) (x2 : Int32) (x3 : Int32) (x7 : Int32) (x8 : Int32) (s0 : Int32) (s1 : Int32) (μ : Mem) : Option Mem := (rd 10 (μ (q + 5)) (2 * x8)).bind (fun v6 => (rd 10 (μ (q + 5)) ((2 * x8) + 1)).bind (fun v7 => (f_X7_setEntry q s1 s0 v6 v7 μ).bind (fun μ8 => k141 x1 x2 x3 x7 (x8 + 1) μ8)))
def f_X7_splits_b160 (q : Nat) (k141 : Int32 → Int32 → Int32 → Int32 → Int32 → Mem → Option Mem) (x1 : Int32) (x2 : Int32) (x3 : Int32) (x7 : Int32) (x8 : Int32) (s0 : Int32) (μ : Mem) : Option Mem := (if 3 ≤ x8 then f_X7_splits_b175 q k141 x1 x2 x3 x7 x8 (x8 - 3) s0 μ else f_X7_splits_b175 q k141 x1 x2 x3 x7 x8 x8 s0 μ)
def f_X7_splits_b141 (q : Nat)  : Nat → Int32 → Int32 → Int32 → Int32 → Int32 → Mem → Option Mem
  | 0, _, _, _, _, _, _ => none
  | fuel141 + 1, x1, x2, x3, x7, x8, μ => (if 5 ≤ x8 then (f_X7_lay q x3 2 3 μ).bind (fun μ3 => (f_X7_lay q x7 2 2 μ3).bind (fun μ4 => (f_X7_insertLeaf q x1 (x2 + 1) x7 μ4).bind (fun μ5 => (some μ5)))) else (if 3 ≤ x8 then f_X7_splits_b160 q (f_X7_splits_b141 q fuel141) x1 x2 x3 x7 x8 x7 μ else f_X7_splits_b160 q (f_X7_splits_b141 q fuel141) x1 x2 x3 x7 x8 x3 μ))
def f_X7_splits_b124 (q : Nat) (k43 : Int32 → Int32 → Int32 → Int32 → Int32 → Int32 → Int32 → Mem → Option Mem) (x1 : Int32) (x2 : Int32) (x3 : Int32) (x4 : Int32) (x5 : Int32) (x6 : Int32) (x7 : Int32) (s0 : Int32) (s1 : Int32) (μ : Mem) : Option Mem := (wr μ (q + 5) 10 s1 s0).bind (fun μ12 => k43 x1 x2 x3 x4 x5 x6 (x7 + 1) μ12)
def f_X7_splits_b94 (q : Nat) (k43 : Int32 → Int32 → Int32 → Int32 → Int32 → Int32 → Int32 → Mem → Option Mem) (x1 : Int32) (x2 : Int32) (x3 : Int32) (x4 : Int32) (x5 : Int32) (x6 : Int32) (x7 : Int32) (x8 : Int32) (s0 : Int32) (s1 : Int32) (μ : Mem) : Option Mem := (wr μ (q + 5) 10 s1 s0).bind (fun μ10 => (if x7 = x6 then f_X7_splits_b124 q k43 x1 x2 x3 x4 x5 x6 x7 x5 ((2 * x7) + 1) μ10 else (f_X7_valueAt q x3 x8 μ10).bind (fun v11 => f_X7_splits_b124 q k43 x1 x2 x3 x4 x5 x6 x7 v11 ((2 * x7) + 1) μ10)))
def f_X7_splits_b65 (q : Nat) (k43 : Int32 → Int32 → Int32 → Int32 → Int32 → Int32 → Int32 → Mem → Option Mem) (x1 : Int32) (x2 : Int32) (x3 : Int32) (x4 : Int32) (x5 : Int32) (x6 : Int32) (x7 : Int32) (s0 : Int32) (μ : Mem) : Option Mem := (if x7 = x6 then f_X7_splits_b94 q k43 x1 x2 x3 x4 x5 x6 x7 s0 x4 (2 * x7) μ else (f_X7_keyAt q x3 s0 μ).bind (fun v9 => f_X7_splits_b94 q k43 x1 x2 x3 x4 x5 x6 x7 s0 v9 (2 * x7) μ))
def f_X7_splits_b43 (q : Nat)  : Nat → Int32 → Int32 → Int32 → Int32 → Int32 → Int32 → Int32 → Mem → Option Mem
  | 0, _, _, _, _, _, _, _, _ => none
  | fuel43 + 1, x1, x2, x3, x4, x5, x6, x7, μ => (if 5 ≤ x7 then bn2 (f_X7_dig q 0 μ) (fun v1 μ2 => f_X7_splits_b141 q FU x1 x2 x3 v1 0 μ2) else (if x6 ≤ x7 then f_X7_splits_b65 q (f_X7_splits_b43 q fuel43) x1 x2 x3 x4 x5 x6 x7 (x7 - 1) μ else f_X7_splits_b65 q (f_X7_splits_b43 q fuel43) x1 x2 x3 x4 x5 x6 x7 x7 μ))
def f_X7_splits_b31 (q : Nat) (k6 : Int32 → Int32 → Int32 → Int32 → Int32 → Int32 → Int32 → Mem → Option Mem) (x1 : Int32) (x2 : Int32) (x3 : Int32) (x4 : Int32) (x5 : Int32) (x7 : Int32) (s0 : Int32) (s1 : Int32) (μ : Mem) : Option Mem := k6 x1 x2 x3 x4 x5 (s1 + s0) (x7 + 1) μ
def f_X7_splits_b6 (q : Nat)  : Nat → Int32 → Int32 → Int32 → Int32 → Int32 → Int32 → Int32 → Mem → Option Mem
  | 0, _, _, _, _, _, _, _, _ => none
  | fuel6 + 1, x1, x2, x3, x4, x5, x6, x7, μ => (if 4 ≤ x7 then f_X7_splits_b43 q FU x1 x2 x3 x4 x5 x6 0 μ else (f_X7_keyAt q x3 x7 μ).bind (fun v13 => (if x4 ≤ v13 then f_X7_splits_b31 q (f_X7_splits_b6 q fuel6) x1 x2 x3 x4 x5 x7 0 x6 μ else f_X7_splits_b31 q (f_X7_splits_b6 q fuel6) x1 x2 x3 x4 x5 x7 1 x6 μ)))
def f_X7_splits (q : Nat) (a1 : Int32) (a2 : Int32) (a3 : Int32) (a4 : Int32) (a5 : Int32) (μ : Mem) : Option Mem := f_X7_splits_b6 q FU a1 a2 a3 a4 a5 0 0 μ
set_option maxHeartbeats 4000000 in
set_option maxRecDepth 100000 in
theorem c_X7_splits (l : Launch) {D : va_G} {cI cG cL : ClassId} {A : Nat → Prop} {EN : State → Heap → Prop} (hE : EnOK EN A) {w : Mem → va_W} {ad : Nat → Nat} {hh : Int64} {q : Nat} {a1 : Int32} {a2 : Int32} {a3 : Int32} {a4 : Int32} {a5 : Int32} {μ : Mem}  {μ' : Mem} (hw : ModelAt cI w ad hh q) (h : f_X7_splits q a1 a2 a3 a4 a5 μ = some μ') : Met l yX7_splits wsX7_splits (rmk 5 112) (WPre D (tyl cI cG cL) A EN (w μ) [.ref (ad q), .int a1, .int a2, .int a3, .int a4, .int a5]) (PV D A (w μ')) 0 0 A := by
  have hiX7 : ∀ w ∈ u_ws RX7 TX7 13, w ∈ wsX7_splits := by decide +kernel
  have mf22 : Cond.fieldLink RX7 22 (TX7 8).1 (TX7 8).2.1 (TX7 8).2.2.1 ∈ wsX7_splits := by decide +kernel
  refine met_start (cc := cX7_splits) (nL := 9) (ret := none) (own := RX7) hE (by decide) rfl rfl (Nat.le_of_ble_eq_true rfl) (fun p e s m args below meth c ls X hS hl hr hlk => ?_)
  have hx := X.1.1
  have hb := X.1.2.1
  replace hl : lv_has ls 9 [(0, .ref (ad q)), (1, .int a1), (2, .int a2), (3, .int a3), (4, .int a4), (5, .int a5)] := hl
  have hb175 : ∀ (k141 : Int32 → Int32 → Int32 → Int32 → Int32 → Mem → Option Mem), (∀ (x1 : Int32) (x2 : Int32) (x3 : Int32) (x7 : Int32) (x8 : Int32) (μ : Mem) (H : Heap) (locs : List Loc) (ls : Array Slot), HS D A (w μ) s.heap H locs → lv_has ls 9 [(0, .ref (ad q)), (1, .int x1), (2, .int x2), (3, .int x3), (7, .int x7), (8, .int x8)] → k141 x1 x2 x3 x7 x8 μ = some μ' → W p l e (headSpec wsX7_splits (rmk 5 112)).room s m args below meth c H locs 0 0 (MQ below (PV D A (w μ')) args s 0 0 A) (F0 m 141 ls [])) → ∀ (x1 : Int32) (x2 : Int32) (x3 : Int32) (x7 : Int32) (x8 : Int32) (s0 : Int32) (s1 : Int32) (μ : Mem) (H : Heap) (locs : List Loc) (ls : Array Slot), HS D A (w μ) s.heap H locs → lv_has ls 9 [(0, .ref (ad q)), (1, .int x1), (2, .int x2), (3, .int x3), (7, .int x7), (8, .int x8)] → f_X7_splits_b175 q k141 x1 x2 x3 x7 x8 s0 s1 μ = some μ' → W p l e (headSpec wsX7_splits (rmk 5 112)).room s m args below meth c H locs 0 0 (MQ below (PV D A (w μ')) args s 0 0 A) (F0 m 175 ls [.int s0, .int s1, .ref (ad q)]) := by
    intro k141 hk141 x1 x2 x3 x7 x8 s0 s1 μ H locs ls hS hl h
    unfold f_X7_splits_b175 at h
    refine lv_aload_n hx hb dX7_splits_175 rfl (lv_at hl 0 rfl) ?_
    refine r_get X hS (T := TX7) (k := 8) (hw.1 μ).1 rfl hiX7 (by decide) mf22 rfl dX7_splits_176 ?_
    refine lv_iconst (v := 2) hx hb dX7_splits_179 (by decide) ?_
    refine lv_iload hx hb dX7_splits_180 (lv_at hl 5 rfl) ?_
    refine lv_imul hx hb dX7_splits_182 ?_
    obtain ⟨v6, ev6, h⟩ := ob h
    refine r_iald X hS (hw.2.2.2.2.2.1 μ).1 ev6 dX7_splits_183 ?_
    refine lv_aload_n hx hb dX7_splits_184 rfl (lv_at hl 0 rfl) ?_
    refine r_get X hS (T := TX7) (k := 8) (hw.1 μ).1 rfl hiX7 (by decide) mf22 rfl dX7_splits_185 ?_
    refine lv_iconst (v := 2) hx hb dX7_splits_188 (by decide) ?_
    refine lv_iload hx hb dX7_splits_189 (lv_at hl 5 rfl) ?_
    refine lv_imul hx hb dX7_splits_191 ?_
    refine lv_iconst (v := 1) hx hb dX7_splits_192 (by decide) ?_
    refine lv_iadd hx hb dX7_splits_193 ?_
    obtain ⟨v7, ev7, h⟩ := ob h
    refine r_iald X hS (hw.2.2.2.2.2.1 μ).1 ev7 dX7_splits_194 ?_
    obtain ⟨μ8, eμ8, h⟩ := ob h
    refine r_cv hS (r_runV (As := [.int s1, .int s0, .int v6, .int v7]) (rest := []) X hS (c_X7_setEntry l hE (w := w) (ad := ad) (μ := μ) (D := D) (cI := cI) (cG := cG) (cL := cL) hw eμ8) (cwV 4 X.1.2.2.2.2 gX7_splits_X7_setEntry rfl rfl rfl (by decide +kernel) ⟨Nat.le_of_ble_eq_true rfl, Nat.le_of_ble_eq_true rfl⟩) (q0 := q) (ci := 5) rfl (hw.1 μ).1 rfl hl.1 rfl (Nat.le_of_ble_eq_true rfl) dX7_splits_195 ⟨Nat.zero_le _, Nat.zero_le _⟩) (fun H locs hS => ?_)
    refine lv_iinc (v := x8 + 1) (lv' := [(8, .int (x8 + 1)), (0, .ref (ad q)), (1, .int x1), (2, .int x2), (3, .int x3), (7, .int x7)]) hx hb dX7_splits_198 hl (k := 5) rfl rfl (by decide) rfl (fun ls hl => ?_)
    refine lv_goto (tgt := 141) hx hb dX7_splits_201 (by decide) ?_
    exact hk141 x1 x2 x3 x7 (x8 + 1) μ8 _ _ _ hS (lv_sub hl [1, 2, 3, 4, 5, 0] rfl) h
  have hb160 : ∀ (k141 : Int32 → Int32 → Int32 → Int32 → Int32 → Mem → Option Mem), (∀ (x1 : Int32) (x2 : Int32) (x3 : Int32) (x7 : Int32) (x8 : Int32) (μ : Mem) (H : Heap) (locs : List Loc) (ls : Array Slot), HS D A (w μ) s.heap H locs → lv_has ls 9 [(0, .ref (ad q)), (1, .int x1), (2, .int x2), (3, .int x3), (7, .int x7), (8, .int x8)] → k141 x1 x2 x3 x7 x8 μ = some μ' → W p l e (headSpec wsX7_splits (rmk 5 112)).room s m args below meth c H locs 0 0 (MQ below (PV D A (w μ')) args s 0 0 A) (F0 m 141 ls [])) → ∀ (x1 : Int32) (x2 : Int32) (x3 : Int32) (x7 : Int32) (x8 : Int32) (s0 : Int32) (μ : Mem) (H : Heap) (locs : List Loc) (ls : Array Slot), HS D A (w μ) s.heap H locs → lv_has ls 9 [(0, .ref (ad q)), (1, .int x1), (2, .int x2), (3, .int x3), (7, .int x7), (8, .int x8)] → f_X7_splits_b160 q k141 x1 x2 x3 x7 x8 s0 μ = some μ' → W p l e (headSpec wsX7_splits (rmk 5 112)).room s m args below meth c H locs 0 0 (MQ below (PV D A (w μ')) args s 0 0 A) (F0 m 160 ls [.int s0, .ref (ad q)]) := by
    intro k141 hk141 x1 x2 x3 x7 x8 s0 μ H locs ls hS hl h
    unfold f_X7_splits_b160 at h
    refine lv_iload hx hb dX7_splits_160 (lv_at hl 5 rfl) ?_
    refine lv_iconst (v := 3) hx hb dX7_splits_162 (by decide) ?_
    refine lv_icmp_ge (tgt := 171) hx hb dX7_splits_163 (by decide) (fun cc => ?_) (fun cc => ?_)
    · replace h := it h cc
      refine lv_iload hx hb dX7_splits_171 (lv_at hl 5 rfl) ?_
      refine lv_iconst (v := 3) hx hb dX7_splits_173 (by decide) ?_
      refine lv_isub hx hb dX7_splits_174 ?_
      exact hb175 k141 hk141 x1 x2 x3 x7 x8 (x8 - 3) s0 μ _ _ _ hS (lv_sub hl [0, 1, 2, 3, 4, 5] rfl) h
    · replace h := ie h cc
      refine lv_iload hx hb dX7_splits_166 (lv_at hl 5 rfl) ?_
      refine lv_goto (tgt := 175) hx hb dX7_splits_168 (by decide) ?_
      exact hb175 k141 hk141 x1 x2 x3 x7 x8 x8 s0 μ _ _ _ hS (lv_sub hl [0, 1, 2, 3, 4, 5] rfl) h
  have hb141 : ∀ (fu : Nat) (x1 : Int32) (x2 : Int32) (x3 : Int32) (x7 : Int32) (x8 : Int32) (μ : Mem) (H : Heap) (locs : List Loc) (ls : Array Slot), HS D A (w μ) s.heap H locs → lv_has ls 9 [(0, .ref (ad q)), (1, .int x1), (2, .int x2), (3, .int x3), (7, .int x7), (8, .int x8)] → f_X7_splits_b141 q fu x1 x2 x3 x7 x8 μ = some μ' → W p l e (headSpec wsX7_splits (rmk 5 112)).room s m args below meth c H locs 0 0 (MQ below (PV D A (w μ')) args s 0 0 A) (F0 m 141 ls []) := by
    intro fu
    induction fu with
    | zero =>
      intro x1 x2 x3 x7 x8 μ H locs ls hS hl h
      rw [f_X7_splits_b141] at h
      cases h
    | succ fuel141 ih141 =>
      intro x1 x2 x3 x7 x8 μ H locs ls hS hl h
      rw [f_X7_splits_b141] at h
      refine lv_iload hx hb dX7_splits_141 (lv_at hl 5 rfl) ?_
      refine lv_iconst (v := 5) hx hb dX7_splits_143 (by decide) ?_
      refine lv_icmp_ge (tgt := 204) hx hb dX7_splits_144 (by decide) (fun cc => ?_) (fun cc => ?_)
      · replace h := it h cc
        refine lv_aload_n hx hb dX7_splits_204 rfl (lv_at hl 0 rfl) ?_
        refine lv_iload_n hx hb dX7_splits_205 rfl (lv_at hl 3 rfl) ?_
        refine lv_iconst (v := 2) hx hb dX7_splits_206 (by decide) ?_
        refine lv_iconst (v := 3) hx hb dX7_splits_207 (by decide) ?_
        obtain ⟨μ3, eμ3, h⟩ := ob h
        refine r_cv hS (r_runV (As := [.int x3, .int 2, .int 3]) (rest := []) X hS (c_X7_lay l hE (w := w) (ad := ad) (μ := μ) (D := D) (cI := cI) (cG := cG) (cL := cL) hw eμ3) (cwV 3 X.1.2.2.2.2 gX7_splits_X7_lay rfl rfl rfl (by decide +kernel) ⟨Nat.le_of_ble_eq_true rfl, Nat.le_of_ble_eq_true rfl⟩) (q0 := q) (ci := 5) rfl (hw.1 μ).1 rfl hl.1 rfl (Nat.le_of_ble_eq_true rfl) dX7_splits_208 ⟨Nat.zero_le _, Nat.zero_le _⟩) (fun H locs hS => ?_)
        refine lv_aload_n hx hb dX7_splits_211 rfl (lv_at hl 0 rfl) ?_
        refine lv_iload hx hb dX7_splits_212 (lv_at hl 4 rfl) ?_
        refine lv_iconst (v := 2) hx hb dX7_splits_214 (by decide) ?_
        refine lv_iconst (v := 2) hx hb dX7_splits_215 (by decide) ?_
        obtain ⟨μ4, eμ4, h⟩ := ob h
        refine r_cv hS (r_runV (As := [.int x7, .int 2, .int 2]) (rest := []) X hS (c_X7_lay l hE (w := w) (ad := ad) (μ := μ3) (D := D) (cI := cI) (cG := cG) (cL := cL) hw eμ4) (cwV 3 X.1.2.2.2.2 gX7_splits_X7_lay rfl rfl rfl (by decide +kernel) ⟨Nat.le_of_ble_eq_true rfl, Nat.le_of_ble_eq_true rfl⟩) (q0 := q) (ci := 5) rfl (hw.1 μ3).1 rfl hl.1 rfl (Nat.le_of_ble_eq_true rfl) dX7_splits_216 ⟨Nat.zero_le _, Nat.zero_le _⟩) (fun H locs hS => ?_)
        refine lv_aload_n hx hb dX7_splits_219 rfl (lv_at hl 0 rfl) ?_
        refine lv_iload_n hx hb dX7_splits_220 rfl (lv_at hl 1 rfl) ?_
        refine lv_iload_n hx hb dX7_splits_221 rfl (lv_at hl 2 rfl) ?_
        refine lv_iconst (v := 1) hx hb dX7_splits_222 (by decide) ?_
        refine lv_iadd hx hb dX7_splits_223 ?_
        refine lv_iload hx hb dX7_splits_224 (lv_at hl 4 rfl) ?_
        obtain ⟨μ5, eμ5, h⟩ := ob h
        refine r_cv hS (r_runV (As := [.int x1, .int (x2 + 1), .int x7]) (rest := []) X hS (c_X7_insertLeaf l hE (w := w) (ad := ad) (μ := μ4) (D := D) (cI := cI) (cG := cG) (cL := cL) hw eμ5) (cwV 3 X.1.2.2.2.2 gX7_splits_X7_insertLeaf rfl rfl rfl (by decide +kernel) ⟨Nat.le_of_ble_eq_true rfl, Nat.le_of_ble_eq_true rfl⟩) (q0 := q) (ci := 5) rfl (hw.1 μ4).1 rfl hl.1 rfl (Nat.le_of_ble_eq_true rfl) dX7_splits_226 ⟨Nat.zero_le _, Nat.zero_le _⟩) (fun H locs hS => ?_)
        cases h
        exact r_vret X hS hr hlk dX7_splits_229
      · replace h := ie h cc
        refine lv_aload_n hx hb dX7_splits_147 rfl (lv_at hl 0 rfl) ?_
        refine lv_iload hx hb dX7_splits_148 (lv_at hl 5 rfl) ?_
        refine lv_iconst (v := 3) hx hb dX7_splits_150 (by decide) ?_
        refine lv_icmp_ge (tgt := 158) hx hb dX7_splits_151 (by decide) (fun cc => ?_) (fun cc => ?_)
        · replace h := it h cc
          refine lv_iload hx hb dX7_splits_158 (lv_at hl 4 rfl) ?_
          exact hb160 (f_X7_splits_b141 q fuel141) ih141 x1 x2 x3 x7 x8 x7 μ _ _ _ hS (lv_sub hl [0, 1, 2, 3, 4, 5] rfl) h
        · replace h := ie h cc
          refine lv_iload_n hx hb dX7_splits_154 rfl (lv_at hl 3 rfl) ?_
          refine lv_goto (tgt := 160) hx hb dX7_splits_155 (by decide) ?_
          exact hb160 (f_X7_splits_b141 q fuel141) ih141 x1 x2 x3 x7 x8 x3 μ _ _ _ hS (lv_sub hl [0, 1, 2, 3, 4, 5] rfl) h
  have hb124 : ∀ (k43 : Int32 → Int32 → Int32 → Int32 → Int32 → Int32 → Int32 → Mem → Option Mem), (∀ (x1 : Int32) (x2 : Int32) (x3 : Int32) (x4 : Int32) (x5 : Int32) (x6 : Int32) (x7 : Int32) (μ : Mem) (H : Heap) (locs : List Loc) (ls : Array Slot), HS D A (w μ) s.heap H locs → lv_has ls 9 [(0, .ref (ad q)), (1, .int x1), (2, .int x2), (3, .int x3), (4, .int x4), (5, .int x5), (6, .int x6), (7, .int x7)] → k43 x1 x2 x3 x4 x5 x6 x7 μ = some μ' → W p l e (headSpec wsX7_splits (rmk 5 112)).room s m args below meth c H locs 0 0 (MQ below (PV D A (w μ')) args s 0 0 A) (F0 m 43 ls [])) → ∀ (x1 : Int32) (x2 : Int32) (x3 : Int32) (x4 : Int32) (x5 : Int32) (x6 : Int32) (x7 : Int32) (s0 : Int32) (s1 : Int32) (μ : Mem) (H : Heap) (locs : List Loc) (ls : Array Slot), HS D A (w μ) s.heap H locs → lv_has ls 9 [(0, .ref (ad q)), (1, .int x1), (2, .int x2), (3, .int x3), (4, .int x4), (5, .int x5), (6, .int x6), (7, .int x7)] → f_X7_splits_b124 q k43 x1 x2 x3 x4 x5 x6 x7 s0 s1 μ = some μ' → W p l e (headSpec wsX7_splits (rmk 5 112)).room s m args below meth c H locs 0 0 (MQ below (PV D A (w μ')) args s 0 0 A) (F0 m 124 ls [.int s0, .int s1, .ref (ad (q + 5))]) := by
    intro k43 hk43 x1 x2 x3 x4 x5 x6 x7 s0 s1 μ H locs ls hS hl h
    unfold f_X7_splits_b124 at h
    obtain ⟨μ12, eμ12, h⟩ := ob h
    refine r_iast X hS hw.2.2.2.2.2.1 eμ12 dX7_splits_124 (fun H locs hS => ?_)
    refine lv_iinc (v := x7 + 1) (lv' := [(7, .int (x7 + 1)), (0, .ref (ad q)), (1, .int x1), (2, .int x2), (3, .int x3), (4, .int x4), (5, .int x5), (6, .int x6)]) hx hb dX7_splits_125 hl (k := 7) rfl rfl (by decide) rfl (fun ls hl => ?_)
    refine lv_goto (tgt := 43) hx hb dX7_splits_128 (by decide) ?_
    exact hk43 x1 x2 x3 x4 x5 x6 (x7 + 1) μ12 _ _ _ hS (lv_sub hl [1, 2, 3, 4, 5, 6, 7, 0] rfl) h
  have hb94 : ∀ (k43 : Int32 → Int32 → Int32 → Int32 → Int32 → Int32 → Int32 → Mem → Option Mem), (∀ (x1 : Int32) (x2 : Int32) (x3 : Int32) (x4 : Int32) (x5 : Int32) (x6 : Int32) (x7 : Int32) (μ : Mem) (H : Heap) (locs : List Loc) (ls : Array Slot), HS D A (w μ) s.heap H locs → lv_has ls 9 [(0, .ref (ad q)), (1, .int x1), (2, .int x2), (3, .int x3), (4, .int x4), (5, .int x5), (6, .int x6), (7, .int x7)] → k43 x1 x2 x3 x4 x5 x6 x7 μ = some μ' → W p l e (headSpec wsX7_splits (rmk 5 112)).room s m args below meth c H locs 0 0 (MQ below (PV D A (w μ')) args s 0 0 A) (F0 m 43 ls [])) → ∀ (x1 : Int32) (x2 : Int32) (x3 : Int32) (x4 : Int32) (x5 : Int32) (x6 : Int32) (x7 : Int32) (x8 : Int32) (s0 : Int32) (s1 : Int32) (μ : Mem) (H : Heap) (locs : List Loc) (ls : Array Slot), HS D A (w μ) s.heap H locs → lv_has ls 9 [(0, .ref (ad q)), (1, .int x1), (2, .int x2), (3, .int x3), (4, .int x4), (5, .int x5), (6, .int x6), (7, .int x7), (8, .int x8)] → f_X7_splits_b94 q k43 x1 x2 x3 x4 x5 x6 x7 x8 s0 s1 μ = some μ' → W p l e (headSpec wsX7_splits (rmk 5 112)).room s m args below meth c H locs 0 0 (MQ below (PV D A (w μ')) args s 0 0 A) (F0 m 94 ls [.int s0, .int s1, .ref (ad (q + 5))]) := by
    intro k43 hk43 x1 x2 x3 x4 x5 x6 x7 x8 s0 s1 μ H locs ls hS hl h
    unfold f_X7_splits_b94 at h
    obtain ⟨μ10, eμ10, h⟩ := ob h
    refine r_iast X hS hw.2.2.2.2.2.1 eμ10 dX7_splits_94 (fun H locs hS => ?_)
    refine lv_aload_n hx hb dX7_splits_95 rfl (lv_at hl 0 rfl) ?_
    refine r_get X hS (T := TX7) (k := 8) (hw.1 μ10).1 rfl hiX7 (by decide) mf22 rfl dX7_splits_96 ?_
    refine lv_iconst (v := 2) hx hb dX7_splits_99 (by decide) ?_
    refine lv_iload hx hb dX7_splits_100 (lv_at hl 7 rfl) ?_
    refine lv_imul hx hb dX7_splits_102 ?_
    refine lv_iconst (v := 1) hx hb dX7_splits_103 (by decide) ?_
    refine lv_iadd hx hb dX7_splits_104 ?_
    refine lv_iload hx hb dX7_splits_105 (lv_at hl 7 rfl) ?_
    refine lv_iload hx hb dX7_splits_107 (lv_at hl 6 rfl) ?_
    refine lv_icmp_ne (tgt := 117) hx hb dX7_splits_109 (by decide) (fun cc => ?_) (fun cc => ?_)
    · replace h := ie h cc
      refine lv_aload_n hx hb dX7_splits_117 rfl (lv_at hl 0 rfl) ?_
      refine lv_iload_n hx hb dX7_splits_118 rfl (lv_at hl 3 rfl) ?_
      refine lv_iload hx hb dX7_splits_119 (lv_at hl 8 rfl) ?_
      obtain ⟨v11, ev11, h⟩ := ob h
      refine r_ci hS (r_runV (As := [.int x3, .int x8]) (rest := [.int ((2 * x7) + 1), .ref (ad (q + 5))]) X hS (c_X7_valueAt l hE (w := w) (ad := ad) (μ := μ10) (D := D) (cI := cI) (cG := cG) (cL := cL) hw ev11) (cwV 2 X.1.2.2.2.2 gX7_splits_X7_valueAt rfl rfl rfl (by decide +kernel) ⟨Nat.le_of_ble_eq_true rfl, Nat.le_of_ble_eq_true rfl⟩) (q0 := q) (ci := 5) rfl (hw.1 μ10).1 rfl hl.1 rfl (Nat.le_of_ble_eq_true rfl) dX7_splits_121 ⟨Nat.zero_le _, Nat.zero_le _⟩) (fun H locs hS => ?_)
      exact hb124 k43 hk43 x1 x2 x3 x4 x5 x6 x7 v11 ((2 * x7) + 1) μ10 _ _ _ hS (lv_sub hl [0, 1, 2, 3, 4, 5, 6, 7] rfl) h
    · replace h := it h cc
      refine lv_iload hx hb dX7_splits_112 (lv_at hl 5 rfl) ?_
      refine lv_goto (tgt := 124) hx hb dX7_splits_114 (by decide) ?_
      exact hb124 k43 hk43 x1 x2 x3 x4 x5 x6 x7 x5 ((2 * x7) + 1) μ10 _ _ _ hS (lv_sub hl [0, 1, 2, 3, 4, 5, 6, 7] rfl) h
  have hb65 : ∀ (k43 : Int32 → Int32 → Int32 → Int32 → Int32 → Int32 → Int32 → Mem → Option Mem), (∀ (x1 : Int32) (x2 : Int32) (x3 : Int32) (x4 : Int32) (x5 : Int32) (x6 : Int32) (x7 : Int32) (μ : Mem) (H : Heap) (locs : List Loc) (ls : Array Slot), HS D A (w μ) s.heap H locs → lv_has ls 9 [(0, .ref (ad q)), (1, .int x1), (2, .int x2), (3, .int x3), (4, .int x4), (5, .int x5), (6, .int x6), (7, .int x7)] → k43 x1 x2 x3 x4 x5 x6 x7 μ = some μ' → W p l e (headSpec wsX7_splits (rmk 5 112)).room s m args below meth c H locs 0 0 (MQ below (PV D A (w μ')) args s 0 0 A) (F0 m 43 ls [])) → ∀ (x1 : Int32) (x2 : Int32) (x3 : Int32) (x4 : Int32) (x5 : Int32) (x6 : Int32) (x7 : Int32) (s0 : Int32) (μ : Mem) (H : Heap) (locs : List Loc) (ls : Array Slot), HS D A (w μ) s.heap H locs → lv_has ls 9 [(0, .ref (ad q)), (1, .int x1), (2, .int x2), (3, .int x3), (4, .int x4), (5, .int x5), (6, .int x6), (7, .int x7)] → f_X7_splits_b65 q k43 x1 x2 x3 x4 x5 x6 x7 s0 μ = some μ' → W p l e (headSpec wsX7_splits (rmk 5 112)).room s m args below meth c H locs 0 0 (MQ below (PV D A (w μ')) args s 0 0 A) (F0 m 65 ls [.int s0]) := by
    intro k43 hk43 x1 x2 x3 x4 x5 x6 x7 s0 μ H locs ls hS hl h
    unfold f_X7_splits_b65 at h
    refine lv_istore (lv' := [(8, .int s0), (0, .ref (ad q)), (1, .int x1), (2, .int x2), (3, .int x3), (4, .int x4), (5, .int x5), (6, .int x6), (7, .int x7)]) hx hb dX7_splits_65 hl (by decide) rfl (fun ls hl => ?_)
    refine lv_aload_n hx hb dX7_splits_67 rfl (lv_at hl 1 rfl) ?_
    refine r_get X hS (T := TX7) (k := 8) (hw.1 μ).1 rfl hiX7 (by decide) mf22 rfl dX7_splits_68 ?_
    refine lv_iconst (v := 2) hx hb dX7_splits_71 (by decide) ?_
    refine lv_iload hx hb dX7_splits_72 (lv_at hl 8 rfl) ?_
    refine lv_imul hx hb dX7_splits_74 ?_
    refine lv_iload hx hb dX7_splits_75 (lv_at hl 8 rfl) ?_
    refine lv_iload hx hb dX7_splits_77 (lv_at hl 7 rfl) ?_
    refine lv_icmp_ne (tgt := 87) hx hb dX7_splits_79 (by decide) (fun cc => ?_) (fun cc => ?_)
    · replace h := ie h cc
      refine lv_aload_n hx hb dX7_splits_87 rfl (lv_at hl 1 rfl) ?_
      refine lv_iload_n hx hb dX7_splits_88 rfl (lv_at hl 4 rfl) ?_
      refine lv_iload hx hb dX7_splits_89 (lv_at hl 0 rfl) ?_
      obtain ⟨v9, ev9, h⟩ := ob h
      refine r_ci hS (r_runV (As := [.int x3, .int s0]) (rest := [.int (2 * x7), .ref (ad (q + 5))]) X hS (c_X7_keyAt l hE (w := w) (ad := ad) (μ := μ) (D := D) (cI := cI) (cG := cG) (cL := cL) hw ev9) (cwV 2 X.1.2.2.2.2 gX7_splits_X7_keyAt rfl rfl rfl (by decide +kernel) ⟨Nat.le_of_ble_eq_true rfl, Nat.le_of_ble_eq_true rfl⟩) (q0 := q) (ci := 5) rfl (hw.1 μ).1 rfl hl.1 rfl (Nat.le_of_ble_eq_true rfl) dX7_splits_91 ⟨Nat.zero_le _, Nat.zero_le _⟩) (fun H locs hS => ?_)
      exact hb94 k43 hk43 x1 x2 x3 x4 x5 x6 x7 s0 v9 (2 * x7) μ _ _ _ hS (lv_sub hl [1, 2, 3, 4, 5, 6, 7, 8, 0] rfl) h
    · replace h := it h cc
      refine lv_iload hx hb dX7_splits_82 (lv_at hl 5 rfl) ?_
      refine lv_goto (tgt := 94) hx hb dX7_splits_84 (by decide) ?_
      exact hb94 k43 hk43 x1 x2 x3 x4 x5 x6 x7 s0 x4 (2 * x7) μ _ _ _ hS (lv_sub hl [1, 2, 3, 4, 5, 6, 7, 8, 0] rfl) h
  have hb43 : ∀ (fu : Nat) (x1 : Int32) (x2 : Int32) (x3 : Int32) (x4 : Int32) (x5 : Int32) (x6 : Int32) (x7 : Int32) (μ : Mem) (H : Heap) (locs : List Loc) (ls : Array Slot), HS D A (w μ) s.heap H locs → lv_has ls 9 [(0, .ref (ad q)), (1, .int x1), (2, .int x2), (3, .int x3), (4, .int x4), (5, .int x5), (6, .int x6), (7, .int x7)] → f_X7_splits_b43 q fu x1 x2 x3 x4 x5 x6 x7 μ = some μ' → W p l e (headSpec wsX7_splits (rmk 5 112)).room s m args below meth c H locs 0 0 (MQ below (PV D A (w μ')) args s 0 0 A) (F0 m 43 ls []) := by
    intro fu
    induction fu with
    | zero =>
      intro x1 x2 x3 x4 x5 x6 x7 μ H locs ls hS hl h
      rw [f_X7_splits_b43] at h
      cases h
    | succ fuel43 ih43 =>
      intro x1 x2 x3 x4 x5 x6 x7 μ H locs ls hS hl h
      rw [f_X7_splits_b43] at h
      refine lv_iload hx hb dX7_splits_43 (lv_at hl 7 rfl) ?_
      refine lv_iconst (v := 5) hx hb dX7_splits_45 (by decide) ?_
      refine lv_icmp_ge (tgt := 131) hx hb dX7_splits_46 (by decide) (fun cc => ?_) (fun cc => ?_)
      · replace h := it h cc
        refine lv_aload_n hx hb dX7_splits_131 rfl (lv_at hl 0 rfl) ?_
        refine lv_iconst (v := 0) hx hb dX7_splits_132 (by decide) ?_
        obtain ⟨v1, μ2, ev1, h⟩ := ob2 h
        refine r_ci hS (r_runV (As := [.int 0]) (rest := []) X hS (c_X7_dig l hE (w := w) (ad := ad) (μ := μ) (D := D) (cI := cI) (cG := cG) (cL := cL) hw ev1) (cwV 1 X.1.2.2.2.2 gX7_splits_X7_dig rfl rfl rfl (by decide +kernel) ⟨Nat.le_of_ble_eq_true rfl, Nat.le_of_ble_eq_true rfl⟩) (q0 := q) (ci := 5) rfl (hw.1 μ).1 rfl hl.1 rfl (Nat.le_of_ble_eq_true rfl) dX7_splits_133 ⟨Nat.zero_le _, Nat.zero_le _⟩) (fun H locs hS => ?_)
        refine lv_istore (lv' := [(7, .int v1), (0, .ref (ad q)), (1, .int x1), (2, .int x2), (3, .int x3), (4, .int x4), (5, .int x5), (6, .int x6)]) hx hb dX7_splits_136 hl (by decide) rfl (fun ls hl => ?_)
        refine lv_iconst (v := 0) hx hb dX7_splits_138 (by decide) ?_
        refine lv_istore (lv' := [(8, .int 0), (7, .int v1), (0, .ref (ad q)), (1, .int x1), (2, .int x2), (3, .int x3), (4, .int x4), (5, .int x5), (6, .int x6)]) hx hb dX7_splits_139 hl (by decide) rfl (fun ls hl => ?_)
        exact hb141 FU x1 x2 x3 v1 0 μ2 _ _ _ hS (lv_sub hl [2, 3, 4, 5, 1, 0] rfl) h
      · replace h := ie h cc
        refine lv_iload hx hb dX7_splits_49 (lv_at hl 7 rfl) ?_
        refine lv_iload hx hb dX7_splits_51 (lv_at hl 6 rfl) ?_
        refine lv_icmp_ge (tgt := 61) hx hb dX7_splits_53 (by decide) (fun cc => ?_) (fun cc => ?_)
        · replace h := it h cc
          refine lv_iload hx hb dX7_splits_61 (lv_at hl 7 rfl) ?_
          refine lv_iconst (v := 1) hx hb dX7_splits_63 (by decide) ?_
          refine lv_isub hx hb dX7_splits_64 ?_
          exact hb65 (f_X7_splits_b43 q fuel43) ih43 x1 x2 x3 x4 x5 x6 x7 (x7 - 1) μ _ _ _ hS (lv_sub hl [0, 1, 2, 3, 4, 5, 6, 7] rfl) h
        · replace h := ie h cc
          refine lv_iload hx hb dX7_splits_56 (lv_at hl 7 rfl) ?_
          refine lv_goto (tgt := 65) hx hb dX7_splits_58 (by decide) ?_
          exact hb65 (f_X7_splits_b43 q fuel43) ih43 x1 x2 x3 x4 x5 x6 x7 x7 μ _ _ _ hS (lv_sub hl [0, 1, 2, 3, 4, 5, 6, 7] rfl) h
  have hb31 : ∀ (k6 : Int32 → Int32 → Int32 → Int32 → Int32 → Int32 → Int32 → Mem → Option Mem), (∀ (x1 : Int32) (x2 : Int32) (x3 : Int32) (x4 : Int32) (x5 : Int32) (x6 : Int32) (x7 : Int32) (μ : Mem) (H : Heap) (locs : List Loc) (ls : Array Slot), HS D A (w μ) s.heap H locs → lv_has ls 9 [(0, .ref (ad q)), (1, .int x1), (2, .int x2), (3, .int x3), (4, .int x4), (5, .int x5), (6, .int x6), (7, .int x7)] → k6 x1 x2 x3 x4 x5 x6 x7 μ = some μ' → W p l e (headSpec wsX7_splits (rmk 5 112)).room s m args below meth c H locs 0 0 (MQ below (PV D A (w μ')) args s 0 0 A) (F0 m 6 ls [])) → ∀ (x1 : Int32) (x2 : Int32) (x3 : Int32) (x4 : Int32) (x5 : Int32) (x7 : Int32) (s0 : Int32) (s1 : Int32) (μ : Mem) (H : Heap) (locs : List Loc) (ls : Array Slot), HS D A (w μ) s.heap H locs → lv_has ls 9 [(0, .ref (ad q)), (1, .int x1), (2, .int x2), (3, .int x3), (4, .int x4), (5, .int x5), (7, .int x7)] → f_X7_splits_b31 q k6 x1 x2 x3 x4 x5 x7 s0 s1 μ = some μ' → W p l e (headSpec wsX7_splits (rmk 5 112)).room s m args below meth c H locs 0 0 (MQ below (PV D A (w μ')) args s 0 0 A) (F0 m 31 ls [.int s0, .int s1]) := by
    intro k6 hk6 x1 x2 x3 x4 x5 x7 s0 s1 μ H locs ls hS hl h
    unfold f_X7_splits_b31 at h
    refine lv_iadd hx hb dX7_splits_31 ?_
    refine lv_istore (lv' := [(6, .int (s1 + s0)), (0, .ref (ad q)), (1, .int x1), (2, .int x2), (3, .int x3), (4, .int x4), (5, .int x5), (7, .int x7)]) hx hb dX7_splits_32 hl (by decide) rfl (fun ls hl => ?_)
    refine lv_iinc (v := x7 + 1) (lv' := [(7, .int (x7 + 1)), (6, .int (s1 + s0)), (0, .ref (ad q)), (1, .int x1), (2, .int x2), (3, .int x3), (4, .int x4), (5, .int x5)]) hx hb dX7_splits_34 hl (k := 7) rfl rfl (by decide) rfl (fun ls hl => ?_)
    refine lv_goto (tgt := 6) hx hb dX7_splits_37 (by decide) ?_
    exact hk6 x1 x2 x3 x4 x5 (s1 + s0) (x7 + 1) μ _ _ _ hS (lv_sub hl [2, 3, 4, 5, 6, 7, 1, 0] rfl) h
  have hb6 : ∀ (fu : Nat) (x1 : Int32) (x2 : Int32) (x3 : Int32) (x4 : Int32) (x5 : Int32) (x6 : Int32) (x7 : Int32) (μ : Mem) (H : Heap) (locs : List Loc) (ls : Array Slot), HS D A (w μ) s.heap H locs → lv_has ls 9 [(0, .ref (ad q)), (1, .int x1), (2, .int x2), (3, .int x3), (4, .int x4), (5, .int x5), (6, .int x6), (7, .int x7)] → f_X7_splits_b6 q fu x1 x2 x3 x4 x5 x6 x7 μ = some μ' → W p l e (headSpec wsX7_splits (rmk 5 112)).room s m args below meth c H locs 0 0 (MQ below (PV D A (w μ')) args s 0 0 A) (F0 m 6 ls []) := by
    intro fu
    induction fu with
    | zero =>
      intro x1 x2 x3 x4 x5 x6 x7 μ H locs ls hS hl h
      rw [f_X7_splits_b6] at h
      cases h
    | succ fuel6 ih6 =>
      intro x1 x2 x3 x4 x5 x6 x7 μ H locs ls hS hl h
      rw [f_X7_splits_b6] at h
      refine lv_iload hx hb dX7_splits_6 (lv_at hl 7 rfl) ?_
      refine lv_iconst (v := 4) hx hb dX7_splits_8 (by decide) ?_
      refine lv_icmp_ge (tgt := 40) hx hb dX7_splits_9 (by decide) (fun cc => ?_) (fun cc => ?_)
      · replace h := it h cc
        refine lv_iconst (v := 0) hx hb dX7_splits_40 (by decide) ?_
        refine lv_istore (lv' := [(7, .int 0), (0, .ref (ad q)), (1, .int x1), (2, .int x2), (3, .int x3), (4, .int x4), (5, .int x5), (6, .int x6)]) hx hb dX7_splits_41 hl (by decide) rfl (fun ls hl => ?_)
        exact hb43 FU x1 x2 x3 x4 x5 x6 0 μ _ _ _ hS (lv_sub hl [1, 2, 3, 4, 5, 6, 7, 0] rfl) h
      · replace h := ie h cc
        refine lv_iload hx hb dX7_splits_12 (lv_at hl 6 rfl) ?_
        refine lv_aload_n hx hb dX7_splits_14 rfl (lv_at hl 0 rfl) ?_
        refine lv_iload_n hx hb dX7_splits_15 rfl (lv_at hl 3 rfl) ?_
        refine lv_iload hx hb dX7_splits_16 (lv_at hl 7 rfl) ?_
        obtain ⟨v13, ev13, h⟩ := ob h
        refine r_ci hS (r_runV (As := [.int x3, .int x7]) (rest := [.int x6]) X hS (c_X7_keyAt l hE (w := w) (ad := ad) (μ := μ) (D := D) (cI := cI) (cG := cG) (cL := cL) hw ev13) (cwV 2 X.1.2.2.2.2 gX7_splits_X7_keyAt rfl rfl rfl (by decide +kernel) ⟨Nat.le_of_ble_eq_true rfl, Nat.le_of_ble_eq_true rfl⟩) (q0 := q) (ci := 5) rfl (hw.1 μ).1 rfl hl.1 rfl (Nat.le_of_ble_eq_true rfl) dX7_splits_18 ⟨Nat.zero_le _, Nat.zero_le _⟩) (fun H locs hS => ?_)
        refine lv_iload hx hb dX7_splits_21 (lv_at hl 4 rfl) ?_
        refine lv_icmp_ge (tgt := 30) hx hb dX7_splits_23 (by decide) (fun cc => ?_) (fun cc => ?_)
        · replace h := it h cc
          refine lv_iconst (v := 0) hx hb dX7_splits_30 (by decide) ?_
          exact hb31 (f_X7_splits_b6 q fuel6) ih6 x1 x2 x3 x4 x5 x7 0 x6 μ _ _ _ hS (lv_sub hl [0, 1, 2, 3, 4, 5, 7] rfl) h
        · replace h := ie h cc
          refine lv_iconst (v := 1) hx hb dX7_splits_26 (by decide) ?_
          refine lv_goto (tgt := 31) hx hb dX7_splits_27 (by decide) ?_
          exact hb31 (f_X7_splits_b6 q fuel6) ih6 x1 x2 x3 x4 x5 x7 1 x6 μ _ _ _ hS (lv_sub hl [0, 1, 2, 3, 4, 5, 7] rfl) h
  unfold f_X7_splits at h
  refine lv_iconst (v := 0) hx hb dX7_splits_0 (by decide) ?_
  refine lv_istore (lv' := [(6, .int 0), (0, .ref (ad q)), (1, .int a1), (2, .int a2), (3, .int a3), (4, .int a4), (5, .int a5)]) hx hb dX7_splits_1 hl (by decide) rfl (fun ls hl => ?_)
  refine lv_iconst (v := 0) hx hb dX7_splits_3 (by decide) ?_
  refine lv_istore (lv' := [(7, .int 0), (6, .int 0), (0, .ref (ad q)), (1, .int a1), (2, .int a2), (3, .int a3), (4, .int a4), (5, .int a5)]) hx hb dX7_splits_4 hl (by decide) rfl (fun ls hl => ?_)
  exact hb6 FU a1 a2 a3 a4 a5 0 0 μ _ _ _ hS (lv_sub hl [2, 3, 4, 5, 6, 7, 1, 0] rfl) h
def f_X7_inserts_b57 (q : Nat) (x1 : Int32) (x2 : Int32) (x3 : Int32) (x4 : Int32) (μ : Mem) : Option Mem := (f_X7_setEntry q x1 x4 x2 x3 μ).bind (fun μ2 => (f_X7_of q x1 2 μ2).bind (fun v3 => (f_X7_lay q x1 2 (v3 + 1) μ2).bind (fun μ4 => (some μ4))))
def f_X7_inserts_b8 (q : Nat)  : Nat → Int32 → Int32 → Int32 → Int32 → Mem → Option Mem
  | 0, _, _, _, _, _ => none
  | fuel8 + 1, x1, x2, x3, x4, μ => (if x4 ≤ 0 then f_X7_inserts_b57 q x1 x2 x3 x4 μ else (f_X7_keyAt q x1 (x4 - 1) μ).bind (fun v5 => (if v5 ≤ x2 then f_X7_inserts_b57 q x1 x2 x3 x4 μ else (f_X7_keyAt q x1 (x4 - 1) μ).bind (fun v6 => (f_X7_valueAt q x1 (x4 - 1) μ).bind (fun v7 => (f_X7_setEntry q x1 x4 v6 v7 μ).bind (fun μ8 => f_X7_inserts_b8 q fuel8 x1 x2 x3 (x4 + (-1)) μ8))))))
def f_X7_inserts (q : Nat) (a1 : Int32) (a2 : Int32) (a3 : Int32) (μ : Mem) : Option Mem := (f_X7_of q a1 2 μ).bind (fun v1 => f_X7_inserts_b8 q FU a1 a2 a3 v1 μ)
set_option maxHeartbeats 4000000 in
set_option maxRecDepth 100000 in
theorem c_X7_inserts (l : Launch) {D : va_G} {cI cG cL : ClassId} {A : Nat → Prop} {EN : State → Heap → Prop} (hE : EnOK EN A) {w : Mem → va_W} {ad : Nat → Nat} {hh : Int64} {q : Nat} {a1 : Int32} {a2 : Int32} {a3 : Int32} {μ : Mem}  {μ' : Mem} (hw : ModelAt cI w ad hh q) (h : f_X7_inserts q a1 a2 a3 μ = some μ') : Met l yX7_inserts wsX7_inserts (rmk 2 47) (WPre D (tyl cI cG cL) A EN (w μ) [.ref (ad q), .int a1, .int a2, .int a3]) (PV D A (w μ')) 0 0 A := by
  refine met_start (cc := cX7_inserts) (nL := 5) (ret := none) (own := RX7) hE (by decide) rfl rfl (Nat.le_of_ble_eq_true rfl) (fun p e s m args below meth c ls X hS hl hr hlk => ?_)
  have hx := X.1.1
  have hb := X.1.2.1
  replace hl : lv_has ls 5 [(0, .ref (ad q)), (1, .int a1), (2, .int a2), (3, .int a3)] := hl
  have hb57 : ∀ (x1 : Int32) (x2 : Int32) (x3 : Int32) (x4 : Int32) (μ : Mem) (H : Heap) (locs : List Loc) (ls : Array Slot), HS D A (w μ) s.heap H locs → lv_has ls 5 [(0, .ref (ad q)), (1, .int x1), (2, .int x2), (3, .int x3), (4, .int x4)] → f_X7_inserts_b57 q x1 x2 x3 x4 μ = some μ' → W p l e (headSpec wsX7_inserts (rmk 2 47)).room s m args below meth c H locs 0 0 (MQ below (PV D A (w μ')) args s 0 0 A) (F0 m 57 ls []) := by
    intro x1 x2 x3 x4 μ H locs ls hS hl h
    unfold f_X7_inserts_b57 at h
    refine lv_aload_n hx hb dX7_inserts_57 rfl (lv_at hl 0 rfl) ?_
    refine lv_iload_n hx hb dX7_inserts_58 rfl (lv_at hl 1 rfl) ?_
    refine lv_iload hx hb dX7_inserts_59 (lv_at hl 4 rfl) ?_
    refine lv_iload_n hx hb dX7_inserts_61 rfl (lv_at hl 2 rfl) ?_
    refine lv_iload_n hx hb dX7_inserts_62 rfl (lv_at hl 3 rfl) ?_
    obtain ⟨μ2, eμ2, h⟩ := ob h
    refine r_cv hS (r_runV (As := [.int x1, .int x4, .int x2, .int x3]) (rest := []) X hS (c_X7_setEntry l hE (w := w) (ad := ad) (μ := μ) (D := D) (cI := cI) (cG := cG) (cL := cL) hw eμ2) (cwV 4 X.1.2.2.2.2 gX7_inserts_X7_setEntry rfl rfl rfl (by decide +kernel) ⟨Nat.le_of_ble_eq_true rfl, Nat.le_of_ble_eq_true rfl⟩) (q0 := q) (ci := 5) rfl (hw.1 μ).1 rfl hl.1 rfl (Nat.le_of_ble_eq_true rfl) dX7_inserts_63 ⟨Nat.zero_le _, Nat.zero_le _⟩) (fun H locs hS => ?_)
    refine lv_aload_n hx hb dX7_inserts_66 rfl (lv_at hl 0 rfl) ?_
    refine lv_iload_n hx hb dX7_inserts_67 rfl (lv_at hl 1 rfl) ?_
    refine lv_iconst (v := 2) hx hb dX7_inserts_68 (by decide) ?_
    refine lv_aload_n hx hb dX7_inserts_69 rfl (lv_at hl 0 rfl) ?_
    refine lv_iload_n hx hb dX7_inserts_70 rfl (lv_at hl 1 rfl) ?_
    refine lv_iconst (v := 2) hx hb dX7_inserts_71 (by decide) ?_
    obtain ⟨v3, ev3, h⟩ := ob h
    refine r_ci hS (r_runV (As := [.int x1, .int 2]) (rest := [.int 2, .int x1, .ref (ad q)]) X hS (c_X7_of l hE (w := w) (ad := ad) (μ := μ2) (D := D) (cI := cI) (cG := cG) (cL := cL) hw ev3) (cwV 2 X.1.2.2.2.2 gX7_inserts_X7_of rfl rfl rfl (by decide +kernel) ⟨Nat.le_of_ble_eq_true rfl, Nat.le_of_ble_eq_true rfl⟩) (q0 := q) (ci := 5) rfl (hw.1 μ2).1 rfl hl.1 rfl (Nat.le_of_ble_eq_true rfl) dX7_inserts_72 ⟨Nat.zero_le _, Nat.zero_le _⟩) (fun H locs hS => ?_)
    refine lv_iconst (v := 1) hx hb dX7_inserts_75 (by decide) ?_
    refine lv_iadd hx hb dX7_inserts_76 ?_
    obtain ⟨μ4, eμ4, h⟩ := ob h
    refine r_cv hS (r_runV (As := [.int x1, .int 2, .int (v3 + 1)]) (rest := []) X hS (c_X7_lay l hE (w := w) (ad := ad) (μ := μ2) (D := D) (cI := cI) (cG := cG) (cL := cL) hw eμ4) (cwV 3 X.1.2.2.2.2 gX7_inserts_X7_lay rfl rfl rfl (by decide +kernel) ⟨Nat.le_of_ble_eq_true rfl, Nat.le_of_ble_eq_true rfl⟩) (q0 := q) (ci := 5) rfl (hw.1 μ2).1 rfl hl.1 rfl (Nat.le_of_ble_eq_true rfl) dX7_inserts_77 ⟨Nat.zero_le _, Nat.zero_le _⟩) (fun H locs hS => ?_)
    cases h
    exact r_vret X hS hr hlk dX7_inserts_80
  have hb8 : ∀ (fu : Nat) (x1 : Int32) (x2 : Int32) (x3 : Int32) (x4 : Int32) (μ : Mem) (H : Heap) (locs : List Loc) (ls : Array Slot), HS D A (w μ) s.heap H locs → lv_has ls 5 [(0, .ref (ad q)), (1, .int x1), (2, .int x2), (3, .int x3), (4, .int x4)] → f_X7_inserts_b8 q fu x1 x2 x3 x4 μ = some μ' → W p l e (headSpec wsX7_inserts (rmk 2 47)).room s m args below meth c H locs 0 0 (MQ below (PV D A (w μ')) args s 0 0 A) (F0 m 8 ls []) := by
    intro fu
    induction fu with
    | zero =>
      intro x1 x2 x3 x4 μ H locs ls hS hl h
      rw [f_X7_inserts_b8] at h
      cases h
    | succ fuel8 ih8 =>
      intro x1 x2 x3 x4 μ H locs ls hS hl h
      rw [f_X7_inserts_b8] at h
      refine lv_iload hx hb dX7_inserts_8 (lv_at hl 4 rfl) ?_
      refine lv_if_le (tgt := 57) hx hb dX7_inserts_10 (by decide) (fun cc => ?_) (fun cc => ?_)
      · replace h := it h cc
        exact hb57 x1 x2 x3 x4 μ _ _ _ hS (lv_sub hl [0, 1, 2, 3, 4] rfl) h
      · replace h := ie h cc
        refine lv_aload_n hx hb dX7_inserts_13 rfl (lv_at hl 0 rfl) ?_
        refine lv_iload_n hx hb dX7_inserts_14 rfl (lv_at hl 1 rfl) ?_
        refine lv_iload hx hb dX7_inserts_15 (lv_at hl 4 rfl) ?_
        refine lv_iconst (v := 1) hx hb dX7_inserts_17 (by decide) ?_
        refine lv_isub hx hb dX7_inserts_18 ?_
        obtain ⟨v5, ev5, h⟩ := ob h
        refine r_ci hS (r_runV (As := [.int x1, .int (x4 - 1)]) (rest := []) X hS (c_X7_keyAt l hE (w := w) (ad := ad) (μ := μ) (D := D) (cI := cI) (cG := cG) (cL := cL) hw ev5) (cwV 2 X.1.2.2.2.2 gX7_inserts_X7_keyAt rfl rfl rfl (by decide +kernel) ⟨Nat.le_of_ble_eq_true rfl, Nat.le_of_ble_eq_true rfl⟩) (q0 := q) (ci := 5) rfl (hw.1 μ).1 rfl hl.1 rfl (Nat.le_of_ble_eq_true rfl) dX7_inserts_19 ⟨Nat.zero_le _, Nat.zero_le _⟩) (fun H locs hS => ?_)
        refine lv_iload_n hx hb dX7_inserts_22 rfl (lv_at hl 2 rfl) ?_
        refine lv_icmp_le (tgt := 57) hx hb dX7_inserts_23 (by decide) (fun cc => ?_) (fun cc => ?_)
        · replace h := it h cc
          exact hb57 x1 x2 x3 x4 μ _ _ _ hS (lv_sub hl [0, 1, 2, 3, 4] rfl) h
        · replace h := ie h cc
          refine lv_aload_n hx hb dX7_inserts_26 rfl (lv_at hl 0 rfl) ?_
          refine lv_iload_n hx hb dX7_inserts_27 rfl (lv_at hl 1 rfl) ?_
          refine lv_iload hx hb dX7_inserts_28 (lv_at hl 4 rfl) ?_
          refine lv_aload_n hx hb dX7_inserts_30 rfl (lv_at hl 0 rfl) ?_
          refine lv_iload_n hx hb dX7_inserts_31 rfl (lv_at hl 1 rfl) ?_
          refine lv_iload hx hb dX7_inserts_32 (lv_at hl 4 rfl) ?_
          refine lv_iconst (v := 1) hx hb dX7_inserts_34 (by decide) ?_
          refine lv_isub hx hb dX7_inserts_35 ?_
          obtain ⟨v6, ev6, h⟩ := ob h
          refine r_ci hS (r_runV (As := [.int x1, .int (x4 - 1)]) (rest := [.int x4, .int x1, .ref (ad q)]) X hS (c_X7_keyAt l hE (w := w) (ad := ad) (μ := μ) (D := D) (cI := cI) (cG := cG) (cL := cL) hw ev6) (cwV 2 X.1.2.2.2.2 gX7_inserts_X7_keyAt rfl rfl rfl (by decide +kernel) ⟨Nat.le_of_ble_eq_true rfl, Nat.le_of_ble_eq_true rfl⟩) (q0 := q) (ci := 5) rfl (hw.1 μ).1 rfl hl.1 rfl (Nat.le_of_ble_eq_true rfl) dX7_inserts_36 ⟨Nat.zero_le _, Nat.zero_le _⟩) (fun H locs hS => ?_)
          refine lv_aload_n hx hb dX7_inserts_39 rfl (lv_at hl 0 rfl) ?_
          refine lv_iload_n hx hb dX7_inserts_40 rfl (lv_at hl 1 rfl) ?_
          refine lv_iload hx hb dX7_inserts_41 (lv_at hl 4 rfl) ?_
          refine lv_iconst (v := 1) hx hb dX7_inserts_43 (by decide) ?_
          refine lv_isub hx hb dX7_inserts_44 ?_
          obtain ⟨v7, ev7, h⟩ := ob h
          refine r_ci hS (r_runV (As := [.int x1, .int (x4 - 1)]) (rest := [.int v6, .int x4, .int x1, .ref (ad q)]) X hS (c_X7_valueAt l hE (w := w) (ad := ad) (μ := μ) (D := D) (cI := cI) (cG := cG) (cL := cL) hw ev7) (cwV 2 X.1.2.2.2.2 gX7_inserts_X7_valueAt rfl rfl rfl (by decide +kernel) ⟨Nat.le_of_ble_eq_true rfl, Nat.le_of_ble_eq_true rfl⟩) (q0 := q) (ci := 5) rfl (hw.1 μ).1 rfl hl.1 rfl (Nat.le_of_ble_eq_true rfl) dX7_inserts_45 ⟨Nat.zero_le _, Nat.zero_le _⟩) (fun H locs hS => ?_)
          obtain ⟨μ8, eμ8, h⟩ := ob h
          refine r_cv hS (r_runV (As := [.int x1, .int x4, .int v6, .int v7]) (rest := []) X hS (c_X7_setEntry l hE (w := w) (ad := ad) (μ := μ) (D := D) (cI := cI) (cG := cG) (cL := cL) hw eμ8) (cwV 4 X.1.2.2.2.2 gX7_inserts_X7_setEntry rfl rfl rfl (by decide +kernel) ⟨Nat.le_of_ble_eq_true rfl, Nat.le_of_ble_eq_true rfl⟩) (q0 := q) (ci := 5) rfl (hw.1 μ).1 rfl hl.1 rfl (Nat.le_of_ble_eq_true rfl) dX7_inserts_48 ⟨Nat.zero_le _, Nat.zero_le _⟩) (fun H locs hS => ?_)
          refine lv_iinc (v := x4 + (-1)) (lv' := [(4, .int (x4 + (-1))), (0, .ref (ad q)), (1, .int x1), (2, .int x2), (3, .int x3)]) hx hb dX7_inserts_51 hl (k := 4) rfl rfl (by decide) rfl (fun ls hl => ?_)
          refine lv_goto (tgt := 8) hx hb dX7_inserts_54 (by decide) ?_
          exact ih8 x1 x2 x3 (x4 + (-1)) μ8 _ _ _ hS (lv_sub hl [1, 2, 3, 4, 0] rfl) h
  unfold f_X7_inserts at h
  refine lv_aload_n hx hb dX7_inserts_0 rfl (lv_at hl 0 rfl) ?_
  refine lv_iload_n hx hb dX7_inserts_1 rfl (lv_at hl 1 rfl) ?_
  refine lv_iconst (v := 2) hx hb dX7_inserts_2 (by decide) ?_
  obtain ⟨v1, ev1, h⟩ := ob h
  refine r_ci hS (r_runV (As := [.int a1, .int 2]) (rest := []) X hS (c_X7_of l hE (w := w) (ad := ad) (μ := μ) (D := D) (cI := cI) (cG := cG) (cL := cL) hw ev1) (cwV 2 X.1.2.2.2.2 gX7_inserts_X7_of rfl rfl rfl (by decide +kernel) ⟨Nat.le_of_ble_eq_true rfl, Nat.le_of_ble_eq_true rfl⟩) (q0 := q) (ci := 5) rfl (hw.1 μ).1 rfl hl.1 rfl (Nat.le_of_ble_eq_true rfl) dX7_inserts_3 ⟨Nat.zero_le _, Nat.zero_le _⟩) (fun H locs hS => ?_)
  refine lv_istore (lv' := [(4, .int v1), (0, .ref (ad q)), (1, .int a1), (2, .int a2), (3, .int a3)]) hx hb dX7_inserts_6 hl (by decide) rfl (fun ls hl => ?_)
  exact hb8 FU a1 a2 a3 v1 μ _ _ _ hS (lv_sub hl [1, 2, 3, 4, 0] rfl) h
def f_X7_doPut_b23 (q : Nat)  (μ : Mem) : Option (Int32 × Mem) := bn2 (f_X7_refuse q 1 μ) (fun v2 μ3 => (some (v2, μ3)))
def f_X7_doPut_b67 (q : Nat)  (μ : Mem) : Option (Int32 × Mem) := bn2 (f_X7_refuse q 2 μ) (fun v7 μ8 => (some (v7, μ8)))
def f_X7_doPut_b202 (q : Nat)  (μ : Mem) : Option (Int32 × Mem) := (some ((-1000), μ))
def f_X7_doPut_b51 (q : Nat) (x1 : Int32) (x2 : Int32) (s0 : Int32) (μ : Mem) : Option (Int32 × Mem) := (if s0 = (-1000) then f_X7_doPut_b67 q μ else (f_X7_manyToDig q μ).bind (fun v9 => (if s0 ≤ v9 then bn2 (f_X7_directory q μ) (fun v10 μ11 => (f_X7_placeFor q v10 x1 μ11).bind (fun v12 => (if (0 : Int32) ≤ v12 then bn2 (f_X7_ownLeaf q v10 v12 μ11) (fun v13 μ14 => (f_X7_placeIn q v13 x1 μ14).bind (fun v15 => (if v15 < 0 then (f_X7_of q v13 2 μ14).bind (fun v16 => (if v16 = 4 then (f_X7_splits q v10 v12 v13 x1 x2 μ14).bind (fun μ18 => f_X7_doPut_b202 q μ18) else (f_X7_inserts q v13 x1 x2 μ14).bind (fun μ17 => f_X7_doPut_b202 q μ17))) else (f_X7_valueAt q v13 v15 μ14).bind (fun v19 => (f_X7_setEntry q v13 v15 x1 x2 μ14).bind (fun μ20 => (some (v19, μ20))))))) else bn2 (f_X7_dig q 0 μ11) (fun v21 μ22 => (f_X7_inserts q v21 x1 x2 μ22).bind (fun μ23 => (f_X7_insertLeaf q v10 0 v21 μ23).bind (fun μ24 => (some ((-1000), μ24)))))))) else f_X7_doPut_b67 q μ)))
def f_X7_doPut (q : Nat) (a1 : Int32) (a2 : Int32) (μ : Mem) : Option (Int32 × Mem) := (f_X7_in a1 0 99).bind (fun v1 => (if v1 = 0 then f_X7_doPut_b23 q μ else (f_X7_in a2 (-999) 999).bind (fun v4 => (if v4 = 0 then f_X7_doPut_b23 q μ else (rd 470 (μ (q + 1)) 466).bind (fun v5 => (if v5 = 0 then f_X7_doPut_b51 q a1 a2 (-1000) μ else (f_X7_bedsOf q a1 μ).bind (fun v6 => f_X7_doPut_b51 q a1 a2 v6 μ)))))))
set_option maxHeartbeats 4000000 in
set_option maxRecDepth 100000 in
theorem c_X7_doPut (l : Launch) {D : va_G} {cI cG cL : ClassId} {A : Nat → Prop} {EN : State → Heap → Prop} (hE : EnOK EN A) {w : Mem → va_W} {ad : Nat → Nat} {hh : Int64} {q : Nat} {a1 : Int32} {a2 : Int32} {μ : Mem} {r : Int32} {μ' : Mem} (hw : ModelAt cI w ad hh q) (h : f_X7_doPut q a1 a2 μ = some (r, μ')) : Met l yX7_doPut wsX7_doPut (rmk 6 140) (WPre D (tyl cI cG cL) A EN (w μ) [.ref (ad q), .int a1, .int a2]) (PI D A (w μ') r) 0 0 A := by
  have hiX7 : ∀ w ∈ u_ws RX7 TX7 13, w ∈ wsX7_doPut := by decide +kernel
  have mf7 : Cond.fieldLink RX7 7 (TX7 0).1 (TX7 0).2.1 (TX7 0).2.2.1 ∈ wsX7_doPut := by decide +kernel
  refine met_start (cc := cX7_doPut) (nL := 9) (ret := (some .int)) (own := RX7) hE (by decide) rfl rfl (Nat.le_of_ble_eq_true rfl) (fun p e s m args below meth c ls X hS hl hr hlk => ?_)
  have hx := X.1.1
  have hb := X.1.2.1
  replace hl : lv_has ls 9 [(0, .ref (ad q)), (1, .int a1), (2, .int a2)] := hl
  have hb23 : ∀  (μ : Mem) (H : Heap) (locs : List Loc) (ls : Array Slot), HS D A (w μ) s.heap H locs → lv_has ls 9 [(0, .ref (ad q))] → f_X7_doPut_b23 q μ = some (r, μ') → W p l e (headSpec wsX7_doPut (rmk 6 140)).room s m args below meth c H locs 0 0 (MQ below (PI D A (w μ') r) args s 0 0 A) (F0 m 23 ls []) := by
    intro μ H locs ls hS hl h
    unfold f_X7_doPut_b23 at h
    refine lv_aload_n hx hb dX7_doPut_23 rfl (lv_at hl 0 rfl) ?_
    refine lv_iconst (v := 1) hx hb dX7_doPut_24 (by decide) ?_
    obtain ⟨v2, μ3, ev2, h⟩ := ob2 h
    refine r_ci hS (r_runV (As := [.int 1]) (rest := []) X hS (c_X7_refuse l hE (w := w) (ad := ad) (μ := μ) (D := D) (cI := cI) (cG := cG) (cL := cL) hw ev2) (cwV 1 X.1.2.2.2.2 gX7_doPut_X7_refuse rfl rfl rfl (by decide +kernel) ⟨Nat.le_of_ble_eq_true rfl, Nat.le_of_ble_eq_true rfl⟩) (q0 := q) (ci := 5) rfl (hw.1 μ).1 rfl hl.1 rfl (Nat.le_of_ble_eq_true rfl) dX7_doPut_25 ⟨Nat.zero_le _, Nat.zero_le _⟩) (fun H locs hS => ?_)
    obtain ⟨rfl, rfl⟩ := pr2 h
    exact r_iret X hS hr hlk dX7_doPut_28
  have hb67 : ∀  (μ : Mem) (H : Heap) (locs : List Loc) (ls : Array Slot), HS D A (w μ) s.heap H locs → lv_has ls 9 [(0, .ref (ad q))] → f_X7_doPut_b67 q μ = some (r, μ') → W p l e (headSpec wsX7_doPut (rmk 6 140)).room s m args below meth c H locs 0 0 (MQ below (PI D A (w μ') r) args s 0 0 A) (F0 m 67 ls []) := by
    intro μ H locs ls hS hl h
    unfold f_X7_doPut_b67 at h
    refine lv_aload_n hx hb dX7_doPut_67 rfl (lv_at hl 0 rfl) ?_
    refine lv_iconst (v := 2) hx hb dX7_doPut_68 (by decide) ?_
    obtain ⟨v7, μ8, ev7, h⟩ := ob2 h
    refine r_ci hS (r_runV (As := [.int 2]) (rest := []) X hS (c_X7_refuse l hE (w := w) (ad := ad) (μ := μ) (D := D) (cI := cI) (cG := cG) (cL := cL) hw ev7) (cwV 1 X.1.2.2.2.2 gX7_doPut_X7_refuse rfl rfl rfl (by decide +kernel) ⟨Nat.le_of_ble_eq_true rfl, Nat.le_of_ble_eq_true rfl⟩) (q0 := q) (ci := 5) rfl (hw.1 μ).1 rfl hl.1 rfl (Nat.le_of_ble_eq_true rfl) dX7_doPut_69 ⟨Nat.zero_le _, Nat.zero_le _⟩) (fun H locs hS => ?_)
    obtain ⟨rfl, rfl⟩ := pr2 h
    exact r_iret X hS hr hlk dX7_doPut_72
  have hb202 : ∀  (μ : Mem) (H : Heap) (locs : List Loc) (ls : Array Slot), HS D A (w μ) s.heap H locs → lv_has ls 9 [] → f_X7_doPut_b202 q μ = some (r, μ') → W p l e (headSpec wsX7_doPut (rmk 6 140)).room s m args below meth c H locs 0 0 (MQ below (PI D A (w μ') r) args s 0 0 A) (F0 m 202 ls []) := by
    intro μ H locs ls hS hl h
    unfold f_X7_doPut_b202 at h
    refine lv_sipush (v := (-1000)) hx hb dX7_doPut_202 (by decide) ?_
    obtain ⟨rfl, rfl⟩ := pr2 h
    exact r_iret X hS hr hlk dX7_doPut_205
  have hb51 : ∀ (x1 : Int32) (x2 : Int32) (s0 : Int32) (μ : Mem) (H : Heap) (locs : List Loc) (ls : Array Slot), HS D A (w μ) s.heap H locs → lv_has ls 9 [(0, .ref (ad q)), (1, .int x1), (2, .int x2)] → f_X7_doPut_b51 q x1 x2 s0 μ = some (r, μ') → W p l e (headSpec wsX7_doPut (rmk 6 140)).room s m args below meth c H locs 0 0 (MQ below (PI D A (w μ') r) args s 0 0 A) (F0 m 51 ls [.int s0]) := by
    intro x1 x2 s0 μ H locs ls hS hl h
    unfold f_X7_doPut_b51 at h
    refine lv_istore_n (lv' := [(3, .int s0), (0, .ref (ad q)), (1, .int x1), (2, .int x2)]) hx hb dX7_doPut_51 rfl hl (by decide) rfl (fun ls hl => ?_)
    refine lv_iload_n hx hb dX7_doPut_52 rfl (lv_at hl 0 rfl) ?_
    refine lv_sipush (v := (-1000)) hx hb dX7_doPut_53 (by decide) ?_
    refine lv_icmp_eq (tgt := 67) hx hb dX7_doPut_56 (by decide) (fun cc => ?_) (fun cc => ?_)
    · replace h := it h cc
      exact hb67 μ _ _ _ hS (lv_sub hl [1] rfl) h
    · replace h := ie h cc
      refine lv_iload_n hx hb dX7_doPut_59 rfl (lv_at hl 0 rfl) ?_
      refine lv_aload_n hx hb dX7_doPut_60 rfl (lv_at hl 1 rfl) ?_
      obtain ⟨v9, ev9, h⟩ := ob h
      refine r_ci hS (r_runV (As := []) (rest := [.int s0]) X hS (c_X7_manyToDig l hE (w := w) (ad := ad) (μ := μ) (D := D) (cI := cI) (cG := cG) (cL := cL) hw ev9) (cwV 0 X.1.2.2.2.2 gX7_doPut_X7_manyToDig rfl rfl rfl (by decide +kernel) ⟨Nat.le_of_ble_eq_true rfl, Nat.le_of_ble_eq_true rfl⟩) (q0 := q) (ci := 5) rfl (hw.1 μ).1 rfl hl.1 rfl (Nat.le_of_ble_eq_true rfl) dX7_doPut_61 ⟨Nat.zero_le _, Nat.zero_le _⟩) (fun H locs hS => ?_)
      refine lv_icmp_le (tgt := 73) hx hb dX7_doPut_64 (by decide) (fun cc => ?_) (fun cc => ?_)
      · replace h := it h cc
        refine lv_aload_n hx hb dX7_doPut_73 rfl (lv_at hl 1 rfl) ?_
        obtain ⟨v10, μ11, ev10, h⟩ := ob2 h
        refine r_ci hS (r_runV (As := []) (rest := []) X hS (c_X7_directory l hE (w := w) (ad := ad) (μ := μ) (D := D) (cI := cI) (cG := cG) (cL := cL) hw ev10) (cwV 0 X.1.2.2.2.2 gX7_doPut_X7_directory rfl rfl rfl (by decide +kernel) ⟨Nat.le_of_ble_eq_true rfl, Nat.le_of_ble_eq_true rfl⟩) (q0 := q) (ci := 5) rfl (hw.1 μ).1 rfl hl.1 rfl (Nat.le_of_ble_eq_true rfl) dX7_doPut_74 ⟨Nat.zero_le _, Nat.zero_le _⟩) (fun H locs hS => ?_)
        refine lv_istore (lv' := [(4, .int v10), (3, .int s0), (0, .ref (ad q)), (1, .int x1), (2, .int x2)]) hx hb dX7_doPut_77 hl (by decide) rfl (fun ls hl => ?_)
        refine lv_aload_n hx hb dX7_doPut_79 rfl (lv_at hl 2 rfl) ?_
        refine lv_iload hx hb dX7_doPut_80 (lv_at hl 0 rfl) ?_
        refine lv_iload_n hx hb dX7_doPut_82 rfl (lv_at hl 3 rfl) ?_
        obtain ⟨v12, ev12, h⟩ := ob h
        refine r_ci hS (r_runV (As := [.int v10, .int x1]) (rest := []) X hS (c_X7_placeFor l hE (w := w) (ad := ad) (μ := μ11) (D := D) (cI := cI) (cG := cG) (cL := cL) hw ev12) (cwV 2 X.1.2.2.2.2 gX7_doPut_X7_placeFor rfl rfl rfl (by decide +kernel) ⟨Nat.le_of_ble_eq_true rfl, Nat.le_of_ble_eq_true rfl⟩) (q0 := q) (ci := 5) rfl (hw.1 μ11).1 rfl hl.1 rfl (Nat.le_of_ble_eq_true rfl) dX7_doPut_83 ⟨Nat.zero_le _, Nat.zero_le _⟩) (fun H locs hS => ?_)
        refine lv_istore (lv' := [(5, .int v12), (4, .int v10), (3, .int s0), (0, .ref (ad q)), (1, .int x1), (2, .int x2)]) hx hb dX7_doPut_86 hl (by decide) rfl (fun ls hl => ?_)
        refine lv_iload hx hb dX7_doPut_88 (lv_at hl 0 rfl) ?_
        refine lv_if_ge (tgt := 121) hx hb dX7_doPut_90 (by decide) (fun cc => ?_) (fun cc => ?_)
        · replace h := it h cc
          refine lv_aload_n hx hb dX7_doPut_121 rfl (lv_at hl 3 rfl) ?_
          refine lv_iload hx hb dX7_doPut_122 (lv_at hl 1 rfl) ?_
          refine lv_iload hx hb dX7_doPut_124 (lv_at hl 0 rfl) ?_
          obtain ⟨v13, μ14, ev13, h⟩ := ob2 h
          refine r_ci hS (r_runV (As := [.int v10, .int v12]) (rest := []) X hS (c_X7_ownLeaf l hE (w := w) (ad := ad) (μ := μ11) (D := D) (cI := cI) (cG := cG) (cL := cL) hw ev13) (cwV 2 X.1.2.2.2.2 gX7_doPut_X7_ownLeaf rfl rfl rfl (by decide +kernel) ⟨Nat.le_of_ble_eq_true rfl, Nat.le_of_ble_eq_true rfl⟩) (q0 := q) (ci := 5) rfl (hw.1 μ11).1 rfl hl.1 rfl (Nat.le_of_ble_eq_true rfl) dX7_doPut_126 ⟨Nat.zero_le _, Nat.zero_le _⟩) (fun H locs hS => ?_)
          refine lv_istore (lv' := [(6, .int v13), (5, .int v12), (4, .int v10), (3, .int s0), (0, .ref (ad q)), (1, .int x1), (2, .int x2)]) hx hb dX7_doPut_129 hl (by decide) rfl (fun ls hl => ?_)
          refine lv_aload_n hx hb dX7_doPut_131 rfl (lv_at hl 4 rfl) ?_
          refine lv_iload hx hb dX7_doPut_132 (lv_at hl 0 rfl) ?_
          refine lv_iload_n hx hb dX7_doPut_134 rfl (lv_at hl 5 rfl) ?_
          obtain ⟨v15, ev15, h⟩ := ob h
          refine r_ci hS (r_runV (As := [.int v13, .int x1]) (rest := []) X hS (c_X7_placeIn l hE (w := w) (ad := ad) (μ := μ14) (D := D) (cI := cI) (cG := cG) (cL := cL) hw ev15) (cwV 2 X.1.2.2.2.2 gX7_doPut_X7_placeIn rfl rfl rfl (by decide +kernel) ⟨Nat.le_of_ble_eq_true rfl, Nat.le_of_ble_eq_true rfl⟩) (q0 := q) (ci := 5) rfl (hw.1 μ14).1 rfl hl.1 rfl (Nat.le_of_ble_eq_true rfl) dX7_doPut_135 ⟨Nat.zero_le _, Nat.zero_le _⟩) (fun H locs hS => ?_)
          refine lv_istore (lv' := [(7, .int v15), (6, .int v13), (5, .int v12), (4, .int v10), (3, .int s0), (0, .ref (ad q)), (1, .int x1), (2, .int x2)]) hx hb dX7_doPut_138 hl (by decide) rfl (fun ls hl => ?_)
          refine lv_iload hx hb dX7_doPut_140 (lv_at hl 0 rfl) ?_
          refine lv_if_lt (tgt := 168) hx hb dX7_doPut_142 (by decide) (fun cc => ?_) (fun cc => ?_)
          · replace h := it h cc
            refine lv_aload_n hx hb dX7_doPut_168 rfl (lv_at hl 5 rfl) ?_
            refine lv_iload hx hb dX7_doPut_169 (lv_at hl 1 rfl) ?_
            refine lv_iconst (v := 2) hx hb dX7_doPut_171 (by decide) ?_
            obtain ⟨v16, ev16, h⟩ := ob h
            refine r_ci hS (r_runV (As := [.int v13, .int 2]) (rest := []) X hS (c_X7_of l hE (w := w) (ad := ad) (μ := μ14) (D := D) (cI := cI) (cG := cG) (cL := cL) hw ev16) (cwV 2 X.1.2.2.2.2 gX7_doPut_X7_of rfl rfl rfl (by decide +kernel) ⟨Nat.le_of_ble_eq_true rfl, Nat.le_of_ble_eq_true rfl⟩) (q0 := q) (ci := 5) rfl (hw.1 μ14).1 rfl hl.1 rfl (Nat.le_of_ble_eq_true rfl) dX7_doPut_172 ⟨Nat.zero_le _, Nat.zero_le _⟩) (fun H locs hS => ?_)
            refine lv_iconst (v := 4) hx hb dX7_doPut_175 (by decide) ?_
            refine lv_icmp_ne (tgt := 194) hx hb dX7_doPut_176 (by decide) (fun cc => ?_) (fun cc => ?_)
            · replace h := ie h cc
              refine lv_aload_n hx hb dX7_doPut_194 rfl (lv_at hl 5 rfl) ?_
              refine lv_iload hx hb dX7_doPut_195 (lv_at hl 1 rfl) ?_
              refine lv_iload_n hx hb dX7_doPut_197 rfl (lv_at hl 6 rfl) ?_
              refine lv_iload_n hx hb dX7_doPut_198 rfl (lv_at hl 7 rfl) ?_
              obtain ⟨μ17, eμ17, h⟩ := ob h
              refine r_cv hS (r_runV (As := [.int v13, .int x1, .int x2]) (rest := []) X hS (c_X7_inserts l hE (w := w) (ad := ad) (μ := μ14) (D := D) (cI := cI) (cG := cG) (cL := cL) hw eμ17) (cwV 3 X.1.2.2.2.2 gX7_doPut_X7_inserts rfl rfl rfl (by decide +kernel) ⟨Nat.le_of_ble_eq_true rfl, Nat.le_of_ble_eq_true rfl⟩) (q0 := q) (ci := 5) rfl (hw.1 μ14).1 rfl hl.1 rfl (Nat.le_of_ble_eq_true rfl) dX7_doPut_199 ⟨Nat.zero_le _, Nat.zero_le _⟩) (fun H locs hS => ?_)
              exact hb202 μ17 _ _ _ hS (lv_sub hl [] rfl) h
            · replace h := it h cc
              refine lv_aload_n hx hb dX7_doPut_179 rfl (lv_at hl 5 rfl) ?_
              refine lv_iload hx hb dX7_doPut_180 (lv_at hl 3 rfl) ?_
              refine lv_iload hx hb dX7_doPut_182 (lv_at hl 2 rfl) ?_
              refine lv_iload hx hb dX7_doPut_184 (lv_at hl 1 rfl) ?_
              refine lv_iload_n hx hb dX7_doPut_186 rfl (lv_at hl 6 rfl) ?_
              refine lv_iload_n hx hb dX7_doPut_187 rfl (lv_at hl 7 rfl) ?_
              obtain ⟨μ18, eμ18, h⟩ := ob h
              refine r_cv hS (r_runV (As := [.int v10, .int v12, .int v13, .int x1, .int x2]) (rest := []) X hS (c_X7_splits l hE (w := w) (ad := ad) (μ := μ14) (D := D) (cI := cI) (cG := cG) (cL := cL) hw eμ18) (cwV 5 X.1.2.2.2.2 gX7_doPut_X7_splits rfl rfl rfl (by decide +kernel) ⟨Nat.le_of_ble_eq_true rfl, Nat.le_of_ble_eq_true rfl⟩) (q0 := q) (ci := 5) rfl (hw.1 μ14).1 rfl hl.1 rfl (Nat.le_of_ble_eq_true rfl) dX7_doPut_188 ⟨Nat.zero_le _, Nat.zero_le _⟩) (fun H locs hS => ?_)
              refine lv_goto (tgt := 202) hx hb dX7_doPut_191 (by decide) ?_
              exact hb202 μ18 _ _ _ hS (lv_sub hl [] rfl) h
          · replace h := ie h cc
            refine lv_aload_n hx hb dX7_doPut_145 rfl (lv_at hl 5 rfl) ?_
            refine lv_iload hx hb dX7_doPut_146 (lv_at hl 1 rfl) ?_
            refine lv_iload hx hb dX7_doPut_148 (lv_at hl 0 rfl) ?_
            obtain ⟨v19, ev19, h⟩ := ob h
            refine r_ci hS (r_runV (As := [.int v13, .int v15]) (rest := []) X hS (c_X7_valueAt l hE (w := w) (ad := ad) (μ := μ14) (D := D) (cI := cI) (cG := cG) (cL := cL) hw ev19) (cwV 2 X.1.2.2.2.2 gX7_doPut_X7_valueAt rfl rfl rfl (by decide +kernel) ⟨Nat.le_of_ble_eq_true rfl, Nat.le_of_ble_eq_true rfl⟩) (q0 := q) (ci := 5) rfl (hw.1 μ14).1 rfl hl.1 rfl (Nat.le_of_ble_eq_true rfl) dX7_doPut_150 ⟨Nat.zero_le _, Nat.zero_le _⟩) (fun H locs hS => ?_)
            refine lv_istore (lv' := [(8, .int v19), (7, .int v15), (6, .int v13), (5, .int v12), (4, .int v10), (3, .int s0), (0, .ref (ad q)), (1, .int x1), (2, .int x2)]) hx hb dX7_doPut_153 hl (by decide) rfl (fun ls hl => ?_)
            refine lv_aload_n hx hb dX7_doPut_155 rfl (lv_at hl 6 rfl) ?_
            refine lv_iload hx hb dX7_doPut_156 (lv_at hl 2 rfl) ?_
            refine lv_iload hx hb dX7_doPut_158 (lv_at hl 1 rfl) ?_
            refine lv_iload_n hx hb dX7_doPut_160 rfl (lv_at hl 7 rfl) ?_
            refine lv_iload_n hx hb dX7_doPut_161 rfl (lv_at hl 8 rfl) ?_
            obtain ⟨μ20, eμ20, h⟩ := ob h
            refine r_cv hS (r_runV (As := [.int v13, .int v15, .int x1, .int x2]) (rest := []) X hS (c_X7_setEntry l hE (w := w) (ad := ad) (μ := μ14) (D := D) (cI := cI) (cG := cG) (cL := cL) hw eμ20) (cwV 4 X.1.2.2.2.2 gX7_doPut_X7_setEntry rfl rfl rfl (by decide +kernel) ⟨Nat.le_of_ble_eq_true rfl, Nat.le_of_ble_eq_true rfl⟩) (q0 := q) (ci := 5) rfl (hw.1 μ14).1 rfl hl.1 rfl (Nat.le_of_ble_eq_true rfl) dX7_doPut_162 ⟨Nat.zero_le _, Nat.zero_le _⟩) (fun H locs hS => ?_)
            refine lv_iload hx hb dX7_doPut_165 (lv_at hl 0 rfl) ?_
            obtain ⟨rfl, rfl⟩ := pr2 h
            exact r_iret X hS hr hlk dX7_doPut_167
        · replace h := ie h cc
          refine lv_aload_n hx hb dX7_doPut_93 rfl (lv_at hl 3 rfl) ?_
          refine lv_iconst (v := 0) hx hb dX7_doPut_94 (by decide) ?_
          obtain ⟨v21, μ22, ev21, h⟩ := ob2 h
          refine r_ci hS (r_runV (As := [.int 0]) (rest := []) X hS (c_X7_dig l hE (w := w) (ad := ad) (μ := μ11) (D := D) (cI := cI) (cG := cG) (cL := cL) hw ev21) (cwV 1 X.1.2.2.2.2 gX7_doPut_X7_dig rfl rfl rfl (by decide +kernel) ⟨Nat.le_of_ble_eq_true rfl, Nat.le_of_ble_eq_true rfl⟩) (q0 := q) (ci := 5) rfl (hw.1 μ11).1 rfl hl.1 rfl (Nat.le_of_ble_eq_true rfl) dX7_doPut_95 ⟨Nat.zero_le _, Nat.zero_le _⟩) (fun H locs hS => ?_)
          refine lv_istore (lv' := [(6, .int v21), (5, .int v12), (4, .int v10), (3, .int s0), (0, .ref (ad q)), (1, .int x1), (2, .int x2)]) hx hb dX7_doPut_98 hl (by decide) rfl (fun ls hl => ?_)
          refine lv_aload_n hx hb dX7_doPut_100 rfl (lv_at hl 4 rfl) ?_
          refine lv_iload hx hb dX7_doPut_101 (lv_at hl 0 rfl) ?_
          refine lv_iload_n hx hb dX7_doPut_103 rfl (lv_at hl 5 rfl) ?_
          refine lv_iload_n hx hb dX7_doPut_104 rfl (lv_at hl 6 rfl) ?_
          obtain ⟨μ23, eμ23, h⟩ := ob h
          refine r_cv hS (r_runV (As := [.int v21, .int x1, .int x2]) (rest := []) X hS (c_X7_inserts l hE (w := w) (ad := ad) (μ := μ22) (D := D) (cI := cI) (cG := cG) (cL := cL) hw eμ23) (cwV 3 X.1.2.2.2.2 gX7_doPut_X7_inserts rfl rfl rfl (by decide +kernel) ⟨Nat.le_of_ble_eq_true rfl, Nat.le_of_ble_eq_true rfl⟩) (q0 := q) (ci := 5) rfl (hw.1 μ22).1 rfl hl.1 rfl (Nat.le_of_ble_eq_true rfl) dX7_doPut_105 ⟨Nat.zero_le _, Nat.zero_le _⟩) (fun H locs hS => ?_)
          refine lv_aload_n hx hb dX7_doPut_108 rfl (lv_at hl 4 rfl) ?_
          refine lv_iload hx hb dX7_doPut_109 (lv_at hl 2 rfl) ?_
          refine lv_iconst (v := 0) hx hb dX7_doPut_111 (by decide) ?_
          refine lv_iload hx hb dX7_doPut_112 (lv_at hl 0 rfl) ?_
          obtain ⟨μ24, eμ24, h⟩ := ob h
          refine r_cv hS (r_runV (As := [.int v10, .int 0, .int v21]) (rest := []) X hS (c_X7_insertLeaf l hE (w := w) (ad := ad) (μ := μ23) (D := D) (cI := cI) (cG := cG) (cL := cL) hw eμ24) (cwV 3 X.1.2.2.2.2 gX7_doPut_X7_insertLeaf rfl rfl rfl (by decide +kernel) ⟨Nat.le_of_ble_eq_true rfl, Nat.le_of_ble_eq_true rfl⟩) (q0 := q) (ci := 5) rfl (hw.1 μ23).1 rfl hl.1 rfl (Nat.le_of_ble_eq_true rfl) dX7_doPut_114 ⟨Nat.zero_le _, Nat.zero_le _⟩) (fun H locs hS => ?_)
          refine lv_sipush (v := (-1000)) hx hb dX7_doPut_117 (by decide) ?_
          obtain ⟨rfl, rfl⟩ := pr2 h
          exact r_iret X hS hr hlk dX7_doPut_120
      · replace h := ie h cc
        exact hb67 μ _ _ _ hS (lv_sub hl [1] rfl) h
  unfold f_X7_doPut at h
  refine lv_iload_n hx hb dX7_doPut_0 rfl (lv_at hl 1 rfl) ?_
  refine lv_iconst (v := 0) hx hb dX7_doPut_1 (by decide) ?_
  refine lv_bipush (v := 99) hx hb dX7_doPut_2 (by decide) ?_
  obtain ⟨v1, ev1, h⟩ := ob h
  refine r_ci hS (r_runS (As := [.int a1, .int 0, .int 99]) (rest := []) X hS (c_X7_in l hE (w := w) (ad := ad) (μ := μ) (D := D) (cI := cI) (cG := cG) (cL := cL) ev1) (va_cwS 3 X.1.2.2.2.2 gX7_doPut_X7_in rfl rfl rfl (by decide +kernel) ⟨Nat.le_of_ble_eq_true rfl, Nat.le_of_ble_eq_true rfl⟩) rfl hl.1 rfl (Nat.le_of_ble_eq_true rfl) dX7_doPut_4 ⟨Nat.zero_le _, Nat.zero_le _⟩) (fun H locs hS => ?_)
  refine lv_if_eq (tgt := 23) hx hb dX7_doPut_7 (by decide) (fun cc => ?_) (fun cc => ?_)
  · replace h := it h cc
    exact hb23 μ _ _ _ hS (lv_sub hl [0] rfl) h
  · replace h := ie h cc
    refine lv_iload_n hx hb dX7_doPut_10 rfl (lv_at hl 2 rfl) ?_
    refine lv_sipush (v := (-999)) hx hb dX7_doPut_11 (by decide) ?_
    refine lv_sipush (v := 999) hx hb dX7_doPut_14 (by decide) ?_
    obtain ⟨v4, ev4, h⟩ := ob h
    refine r_ci hS (r_runS (As := [.int a2, .int (-999), .int 999]) (rest := []) X hS (c_X7_in l hE (w := w) (ad := ad) (μ := μ) (D := D) (cI := cI) (cG := cG) (cL := cL) ev4) (va_cwS 3 X.1.2.2.2.2 gX7_doPut_X7_in rfl rfl rfl (by decide +kernel) ⟨Nat.le_of_ble_eq_true rfl, Nat.le_of_ble_eq_true rfl⟩) rfl hl.1 rfl (Nat.le_of_ble_eq_true rfl) dX7_doPut_17 ⟨Nat.zero_le _, Nat.zero_le _⟩) (fun H locs hS => ?_)
    refine lv_if_ne (tgt := 29) hx hb dX7_doPut_20 (by decide) (fun cc => ?_) (fun cc => ?_)
    · replace h := ie h cc
      refine lv_aload_n hx hb dX7_doPut_29 rfl (lv_at hl 0 rfl) ?_
      refine r_get X hS (T := TX7) (k := 0) (hw.1 μ).1 rfl hiX7 (by decide) mf7 rfl dX7_doPut_30 ?_
      refine lv_sipush (v := 466) hx hb dX7_doPut_33 (by decide) ?_
      obtain ⟨v5, ev5, h⟩ := ob h
      refine r_iald X hS (hw.2.1 μ).1 ev5 dX7_doPut_36 ?_
      refine lv_if_ne (tgt := 46) hx hb dX7_doPut_37 (by decide) (fun cc => ?_) (fun cc => ?_)
      · replace h := ie h cc
        refine lv_aload_n hx hb dX7_doPut_46 rfl (lv_at hl 0 rfl) ?_
        refine lv_iload_n hx hb dX7_doPut_47 rfl (lv_at hl 1 rfl) ?_
        obtain ⟨v6, ev6, h⟩ := ob h
        refine r_ci hS (r_runV (As := [.int a1]) (rest := []) X hS (c_X7_bedsOf l hE (w := w) (ad := ad) (μ := μ) (D := D) (cI := cI) (cG := cG) (cL := cL) hw ev6) (cwV 1 X.1.2.2.2.2 gX7_doPut_X7_bedsOf rfl rfl rfl (by decide +kernel) ⟨Nat.le_of_ble_eq_true rfl, Nat.le_of_ble_eq_true rfl⟩) (q0 := q) (ci := 5) rfl (hw.1 μ).1 rfl hl.1 rfl (Nat.le_of_ble_eq_true rfl) dX7_doPut_48 ⟨Nat.zero_le _, Nat.zero_le _⟩) (fun H locs hS => ?_)
        exact hb51 a1 a2 v6 μ _ _ _ hS (lv_sub hl [0, 1, 2] rfl) h
      · replace h := it h cc
        refine lv_sipush (v := (-1000)) hx hb dX7_doPut_40 (by decide) ?_
        refine lv_goto (tgt := 51) hx hb dX7_doPut_43 (by decide) ?_
        exact hb51 a1 a2 (-1000) μ _ _ _ hS (lv_sub hl [0, 1, 2] rfl) h
    · replace h := it h cc
      exact hb23 μ _ _ _ hS (lv_sub hl [0] rfl) h
def f_X7_doRemove_b247 (q : Nat)  : Nat → Int32 → Int32 → Int32 → Mem → Option (Int32 × Mem)
  | 0, _, _, _, _ => none
  | fuel247 + 1, x2, x8, x9, μ => (f_X7_of q x8 2 μ).bind (fun v17 => (if v17 ≤ (x9 + 1) then (f_X7_of q x8 2 μ).bind (fun v18 => (f_X7_lay q x8 2 (v18 - 1) μ).bind (fun μ19 => (some (x2, μ19)))) else (f_X7_keyAt q x8 (x9 + 1) μ).bind (fun v20 => (f_X7_valueAt q x8 (x9 + 1) μ).bind (fun v21 => (f_X7_setEntry q x8 x9 v20 v21 μ).bind (fun μ22 => f_X7_doRemove_b247 q fuel247 x2 x8 (x9 + 1) μ22)))))
def f_X7_doRemove_b170 (q : Nat)  : Nat → Int32 → Int32 → Int32 → Mem → Option (Int32 × Mem)
  | 0, _, _, _, _ => none
  | fuel170 + 1, x2, x7, x8, μ => (f_X7_of q x7 2 μ).bind (fun v24 => (if v24 ≤ (x8 + 1) then (f_X7_of q x7 2 μ).bind (fun v25 => (f_X7_lay q x7 2 (v25 - 1) μ).bind (fun μ26 => (some (x2, μ26)))) else (f_X7_leafAt q x7 (x8 + 1) μ).bind (fun v27 => (f_X7_lay q x7 (6 + x8) v27 μ).bind (fun μ28 => f_X7_doRemove_b170 q fuel170 x2 x7 (x8 + 1) μ28))))
def f_X7_doRemove_b132 (q : Nat) (x1 : Int32) (x2 : Int32) (x3 : Int32) (x4 : Int32) (x5 : Int32) (s0 : Int32) (s1 : Int32) (μ : Mem) : Option (Int32 × Mem) := (f_X7_manyToDig q μ).bind (fun v11 => (if (s1 + s0) ≤ v11 then bn2 (f_X7_directory q μ) (fun v12 μ13 => (if x5 = 0 then bn2 (f_X7_ownLeaf q v12 x3 μ13) (fun v14 μ15 => (f_X7_placeIn q v14 x1 μ15).bind (fun v16 => f_X7_doRemove_b247 q FU x2 v14 v16 μ15)) else (f_X7_leaves q x4 μ13).bind (fun μ23 => f_X7_doRemove_b170 q FU x2 v12 x3 μ23))) else bn2 (f_X7_refuse q 2 μ) (fun v29 μ30 => (some (v29, μ30)))))
def f_X7_doRemove_b127 (q : Nat) (x1 : Int32) (x2 : Int32) (x3 : Int32) (x4 : Int32) (x5 : Int32) (s0 : Int32) (μ : Mem) : Option (Int32 × Mem) := f_X7_doRemove_b132 q x1 x2 x3 x4 x5 0 s0 μ
def f_X7_doRemove_b111 (q : Nat) (x1 : Int32) (x2 : Int32) (x3 : Int32) (x4 : Int32) (x5 : Int32) (s0 : Int32) (μ : Mem) : Option (Int32 × Mem) := (if x5 = 0 then (f_X7_of q x4 4 μ).bind (fun v31 => (if v31 = 1 then f_X7_doRemove_b127 q x1 x2 x3 x4 x5 s0 μ else f_X7_doRemove_b132 q x1 x2 x3 x4 x5 1 s0 μ)) else f_X7_doRemove_b127 q x1 x2 x3 x4 x5 s0 μ)
def f_X7_doRemove_b93 (q : Nat) (x1 : Int32) (x2 : Int32) (x3 : Int32) (x4 : Int32) (s0 : Int32) (μ : Mem) : Option (Int32 × Mem) := (rd 470 (μ (q + 1)) 467).bind (fun v10 => (if (0 : Int32) ≤ v10 then f_X7_doRemove_b111 q x1 x2 x3 x4 s0 0 μ else f_X7_doRemove_b111 q x1 x2 x3 x4 s0 1 μ))
def f_X7_doRemove_b42 (q : Nat) (x1 : Int32) (s0 : Int32) (μ : Mem) : Option (Int32 × Mem) := (if s0 = (-1000) then bn2 (f_X7_refuse q 2 μ) (fun v32 μ33 => (some (v32, μ33))) else (f_X7_drafts q μ).bind (fun v5 => (f_X7_placeFor q v5 x1 μ).bind (fun v6 => (f_X7_drafts q μ).bind (fun v7 => (f_X7_leafAt q v7 v6 μ).bind (fun v8 => (f_X7_of q v8 2 μ).bind (fun v9 => (if v9 = 1 then f_X7_doRemove_b93 q x1 s0 v6 v8 1 μ else f_X7_doRemove_b93 q x1 s0 v6 v8 0 μ)))))))
def f_X7_doRemove (q : Nat) (a1 : Int32) (μ : Mem) : Option (Int32 × Mem) := (f_X7_in a1 0 99).bind (fun v1 => (if v1 = 0 then bn2 (f_X7_refuse q 1 μ) (fun v34 μ35 => (some (v34, μ35))) else (rd 470 (μ (q + 1)) 466).bind (fun v2 => (if v2 = 0 then f_X7_doRemove_b42 q a1 (-1000) μ else (f_X7_drafts q μ).bind (fun v3 => (f_X7_valueBy q v3 a1 μ).bind (fun v4 => f_X7_doRemove_b42 q a1 v4 μ))))))
set_option maxHeartbeats 4000000 in
set_option maxRecDepth 100000 in
theorem c_X7_doRemove (l : Launch) {D : va_G} {cI cG cL : ClassId} {A : Nat → Prop} {EN : State → Heap → Prop} (hE : EnOK EN A) {w : Mem → va_W} {ad : Nat → Nat} {hh : Int64} {q : Nat} {a1 : Int32} {μ : Mem} {r : Int32} {μ' : Mem} (hw : ModelAt cI w ad hh q) (h : f_X7_doRemove q a1 μ = some (r, μ')) : Met l yX7_doRemove wsX7_doRemove (rmk 6 136) (WPre D (tyl cI cG cL) A EN (w μ) [.ref (ad q), .int a1]) (PI D A (w μ') r) 0 0 A := by
  have hiX7 : ∀ w ∈ u_ws RX7 TX7 13, w ∈ wsX7_doRemove := by decide +kernel
  have mf7 : Cond.fieldLink RX7 7 (TX7 0).1 (TX7 0).2.1 (TX7 0).2.2.1 ∈ wsX7_doRemove := by decide +kernel
  refine met_start (cc := cX7_doRemove) (nL := 10) (ret := (some .int)) (own := RX7) hE (by decide) rfl rfl (Nat.le_of_ble_eq_true rfl) (fun p e s m args below meth c ls X hS hl hr hlk => ?_)
  have hx := X.1.1
  have hb := X.1.2.1
  replace hl : lv_has ls 10 [(0, .ref (ad q)), (1, .int a1)] := hl
  have hb247 : ∀ (fu : Nat) (x2 : Int32) (x8 : Int32) (x9 : Int32) (μ : Mem) (H : Heap) (locs : List Loc) (ls : Array Slot), HS D A (w μ) s.heap H locs → lv_has ls 10 [(0, .ref (ad q)), (2, .int x2), (8, .int x8), (9, .int x9)] → f_X7_doRemove_b247 q fu x2 x8 x9 μ = some (r, μ') → W p l e (headSpec wsX7_doRemove (rmk 6 136)).room s m args below meth c H locs 0 0 (MQ below (PI D A (w μ') r) args s 0 0 A) (F0 m 247 ls []) := by
    intro fu
    induction fu with
    | zero =>
      intro x2 x8 x9 μ H locs ls hS hl h
      rw [f_X7_doRemove_b247] at h
      cases h
    | succ fuel247 ih247 =>
      intro x2 x8 x9 μ H locs ls hS hl h
      rw [f_X7_doRemove_b247] at h
      refine lv_iload hx hb dX7_doRemove_247 (lv_at hl 3 rfl) ?_
      refine lv_iconst (v := 1) hx hb dX7_doRemove_249 (by decide) ?_
      refine lv_iadd hx hb dX7_doRemove_250 ?_
      refine lv_aload_n hx hb dX7_doRemove_251 rfl (lv_at hl 0 rfl) ?_
      refine lv_iload hx hb dX7_doRemove_252 (lv_at hl 2 rfl) ?_
      refine lv_iconst (v := 2) hx hb dX7_doRemove_254 (by decide) ?_
      obtain ⟨v17, ev17, h⟩ := ob h
      refine r_ci hS (r_runV (As := [.int x8, .int 2]) (rest := [.int (x9 + 1)]) X hS (c_X7_of l hE (w := w) (ad := ad) (μ := μ) (D := D) (cI := cI) (cG := cG) (cL := cL) hw ev17) (cwV 2 X.1.2.2.2.2 gX7_doRemove_X7_of rfl rfl rfl (by decide +kernel) ⟨Nat.le_of_ble_eq_true rfl, Nat.le_of_ble_eq_true rfl⟩) (q0 := q) (ci := 5) rfl (hw.1 μ).1 rfl hl.1 rfl (Nat.le_of_ble_eq_true rfl) dX7_doRemove_255 ⟨Nat.zero_le _, Nat.zero_le _⟩) (fun H locs hS => ?_)
      refine lv_icmp_ge (tgt := 295) hx hb dX7_doRemove_258 (by decide) (fun cc => ?_) (fun cc => ?_)
      · replace h := it h cc
        refine lv_aload_n hx hb dX7_doRemove_295 rfl (lv_at hl 0 rfl) ?_
        refine lv_iload hx hb dX7_doRemove_296 (lv_at hl 2 rfl) ?_
        refine lv_iconst (v := 2) hx hb dX7_doRemove_298 (by decide) ?_
        refine lv_aload_n hx hb dX7_doRemove_299 rfl (lv_at hl 0 rfl) ?_
        refine lv_iload hx hb dX7_doRemove_300 (lv_at hl 2 rfl) ?_
        refine lv_iconst (v := 2) hx hb dX7_doRemove_302 (by decide) ?_
        obtain ⟨v18, ev18, h⟩ := ob h
        refine r_ci hS (r_runV (As := [.int x8, .int 2]) (rest := [.int 2, .int x8, .ref (ad q)]) X hS (c_X7_of l hE (w := w) (ad := ad) (μ := μ) (D := D) (cI := cI) (cG := cG) (cL := cL) hw ev18) (cwV 2 X.1.2.2.2.2 gX7_doRemove_X7_of rfl rfl rfl (by decide +kernel) ⟨Nat.le_of_ble_eq_true rfl, Nat.le_of_ble_eq_true rfl⟩) (q0 := q) (ci := 5) rfl (hw.1 μ).1 rfl hl.1 rfl (Nat.le_of_ble_eq_true rfl) dX7_doRemove_303 ⟨Nat.zero_le _, Nat.zero_le _⟩) (fun H locs hS => ?_)
        refine lv_iconst (v := 1) hx hb dX7_doRemove_306 (by decide) ?_
        refine lv_isub hx hb dX7_doRemove_307 ?_
        obtain ⟨μ19, eμ19, h⟩ := ob h
        refine r_cv hS (r_runV (As := [.int x8, .int 2, .int (v18 - 1)]) (rest := []) X hS (c_X7_lay l hE (w := w) (ad := ad) (μ := μ) (D := D) (cI := cI) (cG := cG) (cL := cL) hw eμ19) (cwV 3 X.1.2.2.2.2 gX7_doRemove_X7_lay rfl rfl rfl (by decide +kernel) ⟨Nat.le_of_ble_eq_true rfl, Nat.le_of_ble_eq_true rfl⟩) (q0 := q) (ci := 5) rfl (hw.1 μ).1 rfl hl.1 rfl (Nat.le_of_ble_eq_true rfl) dX7_doRemove_308 ⟨Nat.zero_le _, Nat.zero_le _⟩) (fun H locs hS => ?_)
        refine lv_iload_n hx hb dX7_doRemove_311 rfl (lv_at hl 1 rfl) ?_
        obtain ⟨rfl, rfl⟩ := pr2 h
        exact r_iret X hS hr hlk dX7_doRemove_312
      · replace h := ie h cc
        refine lv_aload_n hx hb dX7_doRemove_261 rfl (lv_at hl 0 rfl) ?_
        refine lv_iload hx hb dX7_doRemove_262 (lv_at hl 2 rfl) ?_
        refine lv_iload hx hb dX7_doRemove_264 (lv_at hl 3 rfl) ?_
        refine lv_aload_n hx hb dX7_doRemove_266 rfl (lv_at hl 0 rfl) ?_
        refine lv_iload hx hb dX7_doRemove_267 (lv_at hl 2 rfl) ?_
        refine lv_iload hx hb dX7_doRemove_269 (lv_at hl 3 rfl) ?_
        refine lv_iconst (v := 1) hx hb dX7_doRemove_271 (by decide) ?_
        refine lv_iadd hx hb dX7_doRemove_272 ?_
        obtain ⟨v20, ev20, h⟩ := ob h
        refine r_ci hS (r_runV (As := [.int x8, .int (x9 + 1)]) (rest := [.int x9, .int x8, .ref (ad q)]) X hS (c_X7_keyAt l hE (w := w) (ad := ad) (μ := μ) (D := D) (cI := cI) (cG := cG) (cL := cL) hw ev20) (cwV 2 X.1.2.2.2.2 gX7_doRemove_X7_keyAt rfl rfl rfl (by decide +kernel) ⟨Nat.le_of_ble_eq_true rfl, Nat.le_of_ble_eq_true rfl⟩) (q0 := q) (ci := 5) rfl (hw.1 μ).1 rfl hl.1 rfl (Nat.le_of_ble_eq_true rfl) dX7_doRemove_273 ⟨Nat.zero_le _, Nat.zero_le _⟩) (fun H locs hS => ?_)
        refine lv_aload_n hx hb dX7_doRemove_276 rfl (lv_at hl 0 rfl) ?_
        refine lv_iload hx hb dX7_doRemove_277 (lv_at hl 2 rfl) ?_
        refine lv_iload hx hb dX7_doRemove_279 (lv_at hl 3 rfl) ?_
        refine lv_iconst (v := 1) hx hb dX7_doRemove_281 (by decide) ?_
        refine lv_iadd hx hb dX7_doRemove_282 ?_
        obtain ⟨v21, ev21, h⟩ := ob h
        refine r_ci hS (r_runV (As := [.int x8, .int (x9 + 1)]) (rest := [.int v20, .int x9, .int x8, .ref (ad q)]) X hS (c_X7_valueAt l hE (w := w) (ad := ad) (μ := μ) (D := D) (cI := cI) (cG := cG) (cL := cL) hw ev21) (cwV 2 X.1.2.2.2.2 gX7_doRemove_X7_valueAt rfl rfl rfl (by decide +kernel) ⟨Nat.le_of_ble_eq_true rfl, Nat.le_of_ble_eq_true rfl⟩) (q0 := q) (ci := 5) rfl (hw.1 μ).1 rfl hl.1 rfl (Nat.le_of_ble_eq_true rfl) dX7_doRemove_283 ⟨Nat.zero_le _, Nat.zero_le _⟩) (fun H locs hS => ?_)
        obtain ⟨μ22, eμ22, h⟩ := ob h
        refine r_cv hS (r_runV (As := [.int x8, .int x9, .int v20, .int v21]) (rest := []) X hS (c_X7_setEntry l hE (w := w) (ad := ad) (μ := μ) (D := D) (cI := cI) (cG := cG) (cL := cL) hw eμ22) (cwV 4 X.1.2.2.2.2 gX7_doRemove_X7_setEntry rfl rfl rfl (by decide +kernel) ⟨Nat.le_of_ble_eq_true rfl, Nat.le_of_ble_eq_true rfl⟩) (q0 := q) (ci := 5) rfl (hw.1 μ).1 rfl hl.1 rfl (Nat.le_of_ble_eq_true rfl) dX7_doRemove_286 ⟨Nat.zero_le _, Nat.zero_le _⟩) (fun H locs hS => ?_)
        refine lv_iinc (v := x9 + 1) (lv' := [(9, .int (x9 + 1)), (0, .ref (ad q)), (2, .int x2), (8, .int x8)]) hx hb dX7_doRemove_289 hl (k := 3) rfl rfl (by decide) rfl (fun ls hl => ?_)
        refine lv_goto (tgt := 247) hx hb dX7_doRemove_292 (by decide) ?_
        exact ih247 x2 x8 (x9 + 1) μ22 _ _ _ hS (lv_sub hl [1, 2, 3, 0] rfl) h
  have hb170 : ∀ (fu : Nat) (x2 : Int32) (x7 : Int32) (x8 : Int32) (μ : Mem) (H : Heap) (locs : List Loc) (ls : Array Slot), HS D A (w μ) s.heap H locs → lv_has ls 10 [(0, .ref (ad q)), (2, .int x2), (7, .int x7), (8, .int x8)] → f_X7_doRemove_b170 q fu x2 x7 x8 μ = some (r, μ') → W p l e (headSpec wsX7_doRemove (rmk 6 136)).room s m args below meth c H locs 0 0 (MQ below (PI D A (w μ') r) args s 0 0 A) (F0 m 170 ls []) := by
    intro fu
    induction fu with
    | zero =>
      intro x2 x7 x8 μ H locs ls hS hl h
      rw [f_X7_doRemove_b170] at h
      cases h
    | succ fuel170 ih170 =>
      intro x2 x7 x8 μ H locs ls hS hl h
      rw [f_X7_doRemove_b170] at h
      refine lv_iload hx hb dX7_doRemove_170 (lv_at hl 3 rfl) ?_
      refine lv_iconst (v := 1) hx hb dX7_doRemove_172 (by decide) ?_
      refine lv_iadd hx hb dX7_doRemove_173 ?_
      refine lv_aload_n hx hb dX7_doRemove_174 rfl (lv_at hl 0 rfl) ?_
      refine lv_iload hx hb dX7_doRemove_175 (lv_at hl 2 rfl) ?_
      refine lv_iconst (v := 2) hx hb dX7_doRemove_177 (by decide) ?_
      obtain ⟨v24, ev24, h⟩ := ob h
      refine r_ci hS (r_runV (As := [.int x7, .int 2]) (rest := [.int (x8 + 1)]) X hS (c_X7_of l hE (w := w) (ad := ad) (μ := μ) (D := D) (cI := cI) (cG := cG) (cL := cL) hw ev24) (cwV 2 X.1.2.2.2.2 gX7_doRemove_X7_of rfl rfl rfl (by decide +kernel) ⟨Nat.le_of_ble_eq_true rfl, Nat.le_of_ble_eq_true rfl⟩) (q0 := q) (ci := 5) rfl (hw.1 μ).1 rfl hl.1 rfl (Nat.le_of_ble_eq_true rfl) dX7_doRemove_178 ⟨Nat.zero_le _, Nat.zero_le _⟩) (fun H locs hS => ?_)
      refine lv_icmp_ge (tgt := 211) hx hb dX7_doRemove_181 (by decide) (fun cc => ?_) (fun cc => ?_)
      · replace h := it h cc
        refine lv_aload_n hx hb dX7_doRemove_211 rfl (lv_at hl 0 rfl) ?_
        refine lv_iload hx hb dX7_doRemove_212 (lv_at hl 2 rfl) ?_
        refine lv_iconst (v := 2) hx hb dX7_doRemove_214 (by decide) ?_
        refine lv_aload_n hx hb dX7_doRemove_215 rfl (lv_at hl 0 rfl) ?_
        refine lv_iload hx hb dX7_doRemove_216 (lv_at hl 2 rfl) ?_
        refine lv_iconst (v := 2) hx hb dX7_doRemove_218 (by decide) ?_
        obtain ⟨v25, ev25, h⟩ := ob h
        refine r_ci hS (r_runV (As := [.int x7, .int 2]) (rest := [.int 2, .int x7, .ref (ad q)]) X hS (c_X7_of l hE (w := w) (ad := ad) (μ := μ) (D := D) (cI := cI) (cG := cG) (cL := cL) hw ev25) (cwV 2 X.1.2.2.2.2 gX7_doRemove_X7_of rfl rfl rfl (by decide +kernel) ⟨Nat.le_of_ble_eq_true rfl, Nat.le_of_ble_eq_true rfl⟩) (q0 := q) (ci := 5) rfl (hw.1 μ).1 rfl hl.1 rfl (Nat.le_of_ble_eq_true rfl) dX7_doRemove_219 ⟨Nat.zero_le _, Nat.zero_le _⟩) (fun H locs hS => ?_)
        refine lv_iconst (v := 1) hx hb dX7_doRemove_222 (by decide) ?_
        refine lv_isub hx hb dX7_doRemove_223 ?_
        obtain ⟨μ26, eμ26, h⟩ := ob h
        refine r_cv hS (r_runV (As := [.int x7, .int 2, .int (v25 - 1)]) (rest := []) X hS (c_X7_lay l hE (w := w) (ad := ad) (μ := μ) (D := D) (cI := cI) (cG := cG) (cL := cL) hw eμ26) (cwV 3 X.1.2.2.2.2 gX7_doRemove_X7_lay rfl rfl rfl (by decide +kernel) ⟨Nat.le_of_ble_eq_true rfl, Nat.le_of_ble_eq_true rfl⟩) (q0 := q) (ci := 5) rfl (hw.1 μ).1 rfl hl.1 rfl (Nat.le_of_ble_eq_true rfl) dX7_doRemove_224 ⟨Nat.zero_le _, Nat.zero_le _⟩) (fun H locs hS => ?_)
        refine lv_iload_n hx hb dX7_doRemove_227 rfl (lv_at hl 1 rfl) ?_
        obtain ⟨rfl, rfl⟩ := pr2 h
        exact r_iret X hS hr hlk dX7_doRemove_228
      · replace h := ie h cc
        refine lv_aload_n hx hb dX7_doRemove_184 rfl (lv_at hl 0 rfl) ?_
        refine lv_iload hx hb dX7_doRemove_185 (lv_at hl 2 rfl) ?_
        refine lv_bipush (v := 6) hx hb dX7_doRemove_187 (by decide) ?_
        refine lv_iload hx hb dX7_doRemove_189 (lv_at hl 3 rfl) ?_
        refine lv_iadd hx hb dX7_doRemove_191 ?_
        refine lv_aload_n hx hb dX7_doRemove_192 rfl (lv_at hl 0 rfl) ?_
        refine lv_iload hx hb dX7_doRemove_193 (lv_at hl 2 rfl) ?_
        refine lv_iload hx hb dX7_doRemove_195 (lv_at hl 3 rfl) ?_
        refine lv_iconst (v := 1) hx hb dX7_doRemove_197 (by decide) ?_
        refine lv_iadd hx hb dX7_doRemove_198 ?_
        obtain ⟨v27, ev27, h⟩ := ob h
        refine r_ci hS (r_runV (As := [.int x7, .int (x8 + 1)]) (rest := [.int (6 + x8), .int x7, .ref (ad q)]) X hS (c_X7_leafAt l hE (w := w) (ad := ad) (μ := μ) (D := D) (cI := cI) (cG := cG) (cL := cL) hw ev27) (cwV 2 X.1.2.2.2.2 gX7_doRemove_X7_leafAt rfl rfl rfl (by decide +kernel) ⟨Nat.le_of_ble_eq_true rfl, Nat.le_of_ble_eq_true rfl⟩) (q0 := q) (ci := 5) rfl (hw.1 μ).1 rfl hl.1 rfl (Nat.le_of_ble_eq_true rfl) dX7_doRemove_199 ⟨Nat.zero_le _, Nat.zero_le _⟩) (fun H locs hS => ?_)
        obtain ⟨μ28, eμ28, h⟩ := ob h
        refine r_cv hS (r_runV (As := [.int x7, .int (6 + x8), .int v27]) (rest := []) X hS (c_X7_lay l hE (w := w) (ad := ad) (μ := μ) (D := D) (cI := cI) (cG := cG) (cL := cL) hw eμ28) (cwV 3 X.1.2.2.2.2 gX7_doRemove_X7_lay rfl rfl rfl (by decide +kernel) ⟨Nat.le_of_ble_eq_true rfl, Nat.le_of_ble_eq_true rfl⟩) (q0 := q) (ci := 5) rfl (hw.1 μ).1 rfl hl.1 rfl (Nat.le_of_ble_eq_true rfl) dX7_doRemove_202 ⟨Nat.zero_le _, Nat.zero_le _⟩) (fun H locs hS => ?_)
        refine lv_iinc (v := x8 + 1) (lv' := [(8, .int (x8 + 1)), (0, .ref (ad q)), (2, .int x2), (7, .int x7)]) hx hb dX7_doRemove_205 hl (k := 3) rfl rfl (by decide) rfl (fun ls hl => ?_)
        refine lv_goto (tgt := 170) hx hb dX7_doRemove_208 (by decide) ?_
        exact ih170 x2 x7 (x8 + 1) μ28 _ _ _ hS (lv_sub hl [1, 2, 3, 0] rfl) h
  have hb132 : ∀ (x1 : Int32) (x2 : Int32) (x3 : Int32) (x4 : Int32) (x5 : Int32) (s0 : Int32) (s1 : Int32) (μ : Mem) (H : Heap) (locs : List Loc) (ls : Array Slot), HS D A (w μ) s.heap H locs → lv_has ls 10 [(0, .ref (ad q)), (1, .int x1), (2, .int x2), (3, .int x3), (4, .int x4), (5, .int x5)] → f_X7_doRemove_b132 q x1 x2 x3 x4 x5 s0 s1 μ = some (r, μ') → W p l e (headSpec wsX7_doRemove (rmk 6 136)).room s m args below meth c H locs 0 0 (MQ below (PI D A (w μ') r) args s 0 0 A) (F0 m 132 ls [.int s0, .int s1]) := by
    intro x1 x2 x3 x4 x5 s0 s1 μ H locs ls hS hl h
    unfold f_X7_doRemove_b132 at h
    refine lv_iadd hx hb dX7_doRemove_132 ?_
    refine lv_istore (lv' := [(6, .int (s1 + s0)), (0, .ref (ad q)), (1, .int x1), (2, .int x2), (3, .int x3), (4, .int x4), (5, .int x5)]) hx hb dX7_doRemove_133 hl (by decide) rfl (fun ls hl => ?_)
    refine lv_iload hx hb dX7_doRemove_135 (lv_at hl 0 rfl) ?_
    refine lv_aload_n hx hb dX7_doRemove_137 rfl (lv_at hl 1 rfl) ?_
    obtain ⟨v11, ev11, h⟩ := ob h
    refine r_ci hS (r_runV (As := []) (rest := [.int (s1 + s0)]) X hS (c_X7_manyToDig l hE (w := w) (ad := ad) (μ := μ) (D := D) (cI := cI) (cG := cG) (cL := cL) hw ev11) (cwV 0 X.1.2.2.2.2 gX7_doRemove_X7_manyToDig rfl rfl rfl (by decide +kernel) ⟨Nat.le_of_ble_eq_true rfl, Nat.le_of_ble_eq_true rfl⟩) (q0 := q) (ci := 5) rfl (hw.1 μ).1 rfl hl.1 rfl (Nat.le_of_ble_eq_true rfl) dX7_doRemove_138 ⟨Nat.zero_le _, Nat.zero_le _⟩) (fun H locs hS => ?_)
    refine lv_icmp_le (tgt := 150) hx hb dX7_doRemove_141 (by decide) (fun cc => ?_) (fun cc => ?_)
    · replace h := it h cc
      refine lv_aload_n hx hb dX7_doRemove_150 rfl (lv_at hl 1 rfl) ?_
      obtain ⟨v12, μ13, ev12, h⟩ := ob2 h
      refine r_ci hS (r_runV (As := []) (rest := []) X hS (c_X7_directory l hE (w := w) (ad := ad) (μ := μ) (D := D) (cI := cI) (cG := cG) (cL := cL) hw ev12) (cwV 0 X.1.2.2.2.2 gX7_doRemove_X7_directory rfl rfl rfl (by decide +kernel) ⟨Nat.le_of_ble_eq_true rfl, Nat.le_of_ble_eq_true rfl⟩) (q0 := q) (ci := 5) rfl (hw.1 μ).1 rfl hl.1 rfl (Nat.le_of_ble_eq_true rfl) dX7_doRemove_151 ⟨Nat.zero_le _, Nat.zero_le _⟩) (fun H locs hS => ?_)
      refine lv_istore (lv' := [(7, .int v12), (6, .int (s1 + s0)), (0, .ref (ad q)), (1, .int x1), (2, .int x2), (3, .int x3), (4, .int x4), (5, .int x5)]) hx hb dX7_doRemove_154 hl (by decide) rfl (fun ls hl => ?_)
      refine lv_iload hx hb dX7_doRemove_156 (lv_at hl 7 rfl) ?_
      refine lv_if_eq (tgt := 229) hx hb dX7_doRemove_158 (by decide) (fun cc => ?_) (fun cc => ?_)
      · replace h := it h cc
        refine lv_aload_n hx hb dX7_doRemove_229 rfl (lv_at hl 2 rfl) ?_
        refine lv_iload hx hb dX7_doRemove_230 (lv_at hl 0 rfl) ?_
        refine lv_iload_n hx hb dX7_doRemove_232 rfl (lv_at hl 5 rfl) ?_
        obtain ⟨v14, μ15, ev14, h⟩ := ob2 h
        refine r_ci hS (r_runV (As := [.int v12, .int x3]) (rest := []) X hS (c_X7_ownLeaf l hE (w := w) (ad := ad) (μ := μ13) (D := D) (cI := cI) (cG := cG) (cL := cL) hw ev14) (cwV 2 X.1.2.2.2.2 gX7_doRemove_X7_ownLeaf rfl rfl rfl (by decide +kernel) ⟨Nat.le_of_ble_eq_true rfl, Nat.le_of_ble_eq_true rfl⟩) (q0 := q) (ci := 5) rfl (hw.1 μ13).1 rfl hl.1 rfl (Nat.le_of_ble_eq_true rfl) dX7_doRemove_233 ⟨Nat.zero_le _, Nat.zero_le _⟩) (fun H locs hS => ?_)
        refine lv_istore (lv' := [(8, .int v14), (7, .int v12), (6, .int (s1 + s0)), (0, .ref (ad q)), (1, .int x1), (2, .int x2), (3, .int x3), (4, .int x4), (5, .int x5)]) hx hb dX7_doRemove_236 hl (by decide) rfl (fun ls hl => ?_)
        refine lv_aload_n hx hb dX7_doRemove_238 rfl (lv_at hl 3 rfl) ?_
        refine lv_iload hx hb dX7_doRemove_239 (lv_at hl 0 rfl) ?_
        refine lv_iload_n hx hb dX7_doRemove_241 rfl (lv_at hl 4 rfl) ?_
        obtain ⟨v16, ev16, h⟩ := ob h
        refine r_ci hS (r_runV (As := [.int v14, .int x1]) (rest := []) X hS (c_X7_placeIn l hE (w := w) (ad := ad) (μ := μ15) (D := D) (cI := cI) (cG := cG) (cL := cL) hw ev16) (cwV 2 X.1.2.2.2.2 gX7_doRemove_X7_placeIn rfl rfl rfl (by decide +kernel) ⟨Nat.le_of_ble_eq_true rfl, Nat.le_of_ble_eq_true rfl⟩) (q0 := q) (ci := 5) rfl (hw.1 μ15).1 rfl hl.1 rfl (Nat.le_of_ble_eq_true rfl) dX7_doRemove_242 ⟨Nat.zero_le _, Nat.zero_le _⟩) (fun H locs hS => ?_)
        refine lv_istore (lv' := [(9, .int v16), (8, .int v14), (7, .int v12), (6, .int (s1 + s0)), (0, .ref (ad q)), (1, .int x1), (2, .int x2), (3, .int x3), (4, .int x4), (5, .int x5)]) hx hb dX7_doRemove_245 hl (by decide) rfl (fun ls hl => ?_)
        exact hb247 FU x2 v14 v16 μ15 _ _ _ hS (lv_sub hl [4, 6, 1, 0] rfl) h
      · replace h := ie h cc
        refine lv_aload_n hx hb dX7_doRemove_161 rfl (lv_at hl 2 rfl) ?_
        refine lv_iload hx hb dX7_doRemove_162 (lv_at hl 6 rfl) ?_
        obtain ⟨μ23, eμ23, h⟩ := ob h
        refine r_cv hS (r_runV (As := [.int x4]) (rest := []) X hS (c_X7_leaves l hE (w := w) (ad := ad) (μ := μ13) (D := D) (cI := cI) (cG := cG) (cL := cL) hw eμ23) (cwV 1 X.1.2.2.2.2 gX7_doRemove_X7_leaves rfl rfl rfl (by decide +kernel) ⟨Nat.le_of_ble_eq_true rfl, Nat.le_of_ble_eq_true rfl⟩) (q0 := q) (ci := 5) rfl (hw.1 μ13).1 rfl hl.1 rfl (Nat.le_of_ble_eq_true rfl) dX7_doRemove_164 ⟨Nat.zero_le _, Nat.zero_le _⟩) (fun H locs hS => ?_)
        refine lv_iload_n hx hb dX7_doRemove_167 rfl (lv_at hl 5 rfl) ?_
        refine lv_istore (lv' := [(8, .int x3), (7, .int v12), (6, .int (s1 + s0)), (0, .ref (ad q)), (1, .int x1), (2, .int x2), (3, .int x3), (4, .int x4), (5, .int x5)]) hx hb dX7_doRemove_168 hl (by decide) rfl (fun ls hl => ?_)
        exact hb170 FU x2 v12 x3 μ23 _ _ _ hS (lv_sub hl [3, 5, 1, 0] rfl) h
    · replace h := ie h cc
      refine lv_aload_n hx hb dX7_doRemove_144 rfl (lv_at hl 1 rfl) ?_
      refine lv_iconst (v := 2) hx hb dX7_doRemove_145 (by decide) ?_
      obtain ⟨v29, μ30, ev29, h⟩ := ob2 h
      refine r_ci hS (r_runV (As := [.int 2]) (rest := []) X hS (c_X7_refuse l hE (w := w) (ad := ad) (μ := μ) (D := D) (cI := cI) (cG := cG) (cL := cL) hw ev29) (cwV 1 X.1.2.2.2.2 gX7_doRemove_X7_refuse rfl rfl rfl (by decide +kernel) ⟨Nat.le_of_ble_eq_true rfl, Nat.le_of_ble_eq_true rfl⟩) (q0 := q) (ci := 5) rfl (hw.1 μ).1 rfl hl.1 rfl (Nat.le_of_ble_eq_true rfl) dX7_doRemove_146 ⟨Nat.zero_le _, Nat.zero_le _⟩) (fun H locs hS => ?_)
      obtain ⟨rfl, rfl⟩ := pr2 h
      exact r_iret X hS hr hlk dX7_doRemove_149
  have hb127 : ∀ (x1 : Int32) (x2 : Int32) (x3 : Int32) (x4 : Int32) (x5 : Int32) (s0 : Int32) (μ : Mem) (H : Heap) (locs : List Loc) (ls : Array Slot), HS D A (w μ) s.heap H locs → lv_has ls 10 [(0, .ref (ad q)), (1, .int x1), (2, .int x2), (3, .int x3), (4, .int x4), (5, .int x5)] → f_X7_doRemove_b127 q x1 x2 x3 x4 x5 s0 μ = some (r, μ') → W p l e (headSpec wsX7_doRemove (rmk 6 136)).room s m args below meth c H locs 0 0 (MQ below (PI D A (w μ') r) args s 0 0 A) (F0 m 127 ls [.int s0]) := by
    intro x1 x2 x3 x4 x5 s0 μ H locs ls hS hl h
    unfold f_X7_doRemove_b127 at h
    refine lv_iconst (v := 0) hx hb dX7_doRemove_127 (by decide) ?_
    refine lv_goto (tgt := 132) hx hb dX7_doRemove_128 (by decide) ?_
    exact hb132 x1 x2 x3 x4 x5 0 s0 μ _ _ _ hS (lv_sub hl [0, 1, 2, 3, 4, 5] rfl) h
  have hb111 : ∀ (x1 : Int32) (x2 : Int32) (x3 : Int32) (x4 : Int32) (x5 : Int32) (s0 : Int32) (μ : Mem) (H : Heap) (locs : List Loc) (ls : Array Slot), HS D A (w μ) s.heap H locs → lv_has ls 10 [(0, .ref (ad q)), (1, .int x1), (2, .int x2), (3, .int x3), (4, .int x4), (5, .int x5)] → f_X7_doRemove_b111 q x1 x2 x3 x4 x5 s0 μ = some (r, μ') → W p l e (headSpec wsX7_doRemove (rmk 6 136)).room s m args below meth c H locs 0 0 (MQ below (PI D A (w μ') r) args s 0 0 A) (F0 m 111 ls [.int s0]) := by
    intro x1 x2 x3 x4 x5 s0 μ H locs ls hS hl h
    unfold f_X7_doRemove_b111 at h
    refine lv_iload hx hb dX7_doRemove_111 (lv_at hl 5 rfl) ?_
    refine lv_if_ne (tgt := 127) hx hb dX7_doRemove_113 (by decide) (fun cc => ?_) (fun cc => ?_)
    · replace h := ie h cc
      exact hb127 x1 x2 x3 x4 x5 s0 μ _ _ _ hS (lv_sub hl [0, 1, 2, 3, 4, 5] rfl) h
    · replace h := it h cc
      refine lv_aload_n hx hb dX7_doRemove_116 rfl (lv_at hl 0 rfl) ?_
      refine lv_iload hx hb dX7_doRemove_117 (lv_at hl 4 rfl) ?_
      refine lv_iconst (v := 4) hx hb dX7_doRemove_119 (by decide) ?_
      obtain ⟨v31, ev31, h⟩ := ob h
      refine r_ci hS (r_runV (As := [.int x4, .int 4]) (rest := [.int s0]) X hS (c_X7_of l hE (w := w) (ad := ad) (μ := μ) (D := D) (cI := cI) (cG := cG) (cL := cL) hw ev31) (cwV 2 X.1.2.2.2.2 gX7_doRemove_X7_of rfl rfl rfl (by decide +kernel) ⟨Nat.le_of_ble_eq_true rfl, Nat.le_of_ble_eq_true rfl⟩) (q0 := q) (ci := 5) rfl (hw.1 μ).1 rfl hl.1 rfl (Nat.le_of_ble_eq_true rfl) dX7_doRemove_120 ⟨Nat.zero_le _, Nat.zero_le _⟩) (fun H locs hS => ?_)
      refine lv_iconst (v := 1) hx hb dX7_doRemove_123 (by decide) ?_
      refine lv_icmp_ne (tgt := 131) hx hb dX7_doRemove_124 (by decide) (fun cc => ?_) (fun cc => ?_)
      · replace h := ie h cc
        refine lv_iconst (v := 1) hx hb dX7_doRemove_131 (by decide) ?_
        exact hb132 x1 x2 x3 x4 x5 1 s0 μ _ _ _ hS (lv_sub hl [0, 1, 2, 3, 4, 5] rfl) h
      · replace h := it h cc
        exact hb127 x1 x2 x3 x4 x5 s0 μ _ _ _ hS (lv_sub hl [0, 1, 2, 3, 4, 5] rfl) h
  have hb93 : ∀ (x1 : Int32) (x2 : Int32) (x3 : Int32) (x4 : Int32) (s0 : Int32) (μ : Mem) (H : Heap) (locs : List Loc) (ls : Array Slot), HS D A (w μ) s.heap H locs → lv_has ls 10 [(0, .ref (ad q)), (1, .int x1), (2, .int x2), (3, .int x3), (4, .int x4)] → f_X7_doRemove_b93 q x1 x2 x3 x4 s0 μ = some (r, μ') → W p l e (headSpec wsX7_doRemove (rmk 6 136)).room s m args below meth c H locs 0 0 (MQ below (PI D A (w μ') r) args s 0 0 A) (F0 m 93 ls [.int s0]) := by
    intro x1 x2 x3 x4 s0 μ H locs ls hS hl h
    unfold f_X7_doRemove_b93 at h
    refine lv_istore (lv' := [(5, .int s0), (0, .ref (ad q)), (1, .int x1), (2, .int x2), (3, .int x3), (4, .int x4)]) hx hb dX7_doRemove_93 hl (by decide) rfl (fun ls hl => ?_)
    refine lv_aload_n hx hb dX7_doRemove_95 rfl (lv_at hl 1 rfl) ?_
    refine r_get X hS (T := TX7) (k := 0) (hw.1 μ).1 rfl hiX7 (by decide) mf7 rfl dX7_doRemove_96 ?_
    refine lv_sipush (v := 467) hx hb dX7_doRemove_99 (by decide) ?_
    obtain ⟨v10, ev10, h⟩ := ob h
    refine r_iald X hS (hw.2.1 μ).1 ev10 dX7_doRemove_102 ?_
    refine lv_if_ge (tgt := 110) hx hb dX7_doRemove_103 (by decide) (fun cc => ?_) (fun cc => ?_)
    · replace h := it h cc
      refine lv_iconst (v := 0) hx hb dX7_doRemove_110 (by decide) ?_
      exact hb111 x1 x2 x3 x4 s0 0 μ _ _ _ hS (lv_sub hl [1, 2, 3, 4, 5, 0] rfl) h
    · replace h := ie h cc
      refine lv_iconst (v := 1) hx hb dX7_doRemove_106 (by decide) ?_
      refine lv_goto (tgt := 111) hx hb dX7_doRemove_107 (by decide) ?_
      exact hb111 x1 x2 x3 x4 s0 1 μ _ _ _ hS (lv_sub hl [1, 2, 3, 4, 5, 0] rfl) h
  have hb42 : ∀ (x1 : Int32) (s0 : Int32) (μ : Mem) (H : Heap) (locs : List Loc) (ls : Array Slot), HS D A (w μ) s.heap H locs → lv_has ls 10 [(0, .ref (ad q)), (1, .int x1)] → f_X7_doRemove_b42 q x1 s0 μ = some (r, μ') → W p l e (headSpec wsX7_doRemove (rmk 6 136)).room s m args below meth c H locs 0 0 (MQ below (PI D A (w μ') r) args s 0 0 A) (F0 m 42 ls [.int s0]) := by
    intro x1 s0 μ H locs ls hS hl h
    unfold f_X7_doRemove_b42 at h
    refine lv_istore_n (lv' := [(2, .int s0), (0, .ref (ad q)), (1, .int x1)]) hx hb dX7_doRemove_42 rfl hl (by decide) rfl (fun ls hl => ?_)
    refine lv_iload_n hx hb dX7_doRemove_43 rfl (lv_at hl 0 rfl) ?_
    refine lv_sipush (v := (-1000)) hx hb dX7_doRemove_44 (by decide) ?_
    refine lv_icmp_ne (tgt := 56) hx hb dX7_doRemove_47 (by decide) (fun cc => ?_) (fun cc => ?_)
    · replace h := ie h cc
      refine lv_aload_n hx hb dX7_doRemove_56 rfl (lv_at hl 1 rfl) ?_
      refine lv_aload_n hx hb dX7_doRemove_57 rfl (lv_at hl 1 rfl) ?_
      obtain ⟨v5, ev5, h⟩ := ob h
      refine r_ci hS (r_runV (As := []) (rest := [.ref (ad q)]) X hS (c_X7_drafts l hE (w := w) (ad := ad) (μ := μ) (D := D) (cI := cI) (cG := cG) (cL := cL) hw ev5) (cwV 0 X.1.2.2.2.2 gX7_doRemove_X7_drafts rfl rfl rfl (by decide +kernel) ⟨Nat.le_of_ble_eq_true rfl, Nat.le_of_ble_eq_true rfl⟩) (q0 := q) (ci := 5) rfl (hw.1 μ).1 rfl hl.1 rfl (Nat.le_of_ble_eq_true rfl) dX7_doRemove_58 ⟨Nat.zero_le _, Nat.zero_le _⟩) (fun H locs hS => ?_)
      refine lv_iload_n hx hb dX7_doRemove_61 rfl (lv_at hl 2 rfl) ?_
      obtain ⟨v6, ev6, h⟩ := ob h
      refine r_ci hS (r_runV (As := [.int v5, .int x1]) (rest := []) X hS (c_X7_placeFor l hE (w := w) (ad := ad) (μ := μ) (D := D) (cI := cI) (cG := cG) (cL := cL) hw ev6) (cwV 2 X.1.2.2.2.2 gX7_doRemove_X7_placeFor rfl rfl rfl (by decide +kernel) ⟨Nat.le_of_ble_eq_true rfl, Nat.le_of_ble_eq_true rfl⟩) (q0 := q) (ci := 5) rfl (hw.1 μ).1 rfl hl.1 rfl (Nat.le_of_ble_eq_true rfl) dX7_doRemove_62 ⟨Nat.zero_le _, Nat.zero_le _⟩) (fun H locs hS => ?_)
      refine lv_istore_n (lv' := [(3, .int v6), (2, .int s0), (0, .ref (ad q)), (1, .int x1)]) hx hb dX7_doRemove_65 rfl hl (by decide) rfl (fun ls hl => ?_)
      refine lv_aload_n hx hb dX7_doRemove_66 rfl (lv_at hl 2 rfl) ?_
      refine lv_aload_n hx hb dX7_doRemove_67 rfl (lv_at hl 2 rfl) ?_
      obtain ⟨v7, ev7, h⟩ := ob h
      refine r_ci hS (r_runV (As := []) (rest := [.ref (ad q)]) X hS (c_X7_drafts l hE (w := w) (ad := ad) (μ := μ) (D := D) (cI := cI) (cG := cG) (cL := cL) hw ev7) (cwV 0 X.1.2.2.2.2 gX7_doRemove_X7_drafts rfl rfl rfl (by decide +kernel) ⟨Nat.le_of_ble_eq_true rfl, Nat.le_of_ble_eq_true rfl⟩) (q0 := q) (ci := 5) rfl (hw.1 μ).1 rfl hl.1 rfl (Nat.le_of_ble_eq_true rfl) dX7_doRemove_68 ⟨Nat.zero_le _, Nat.zero_le _⟩) (fun H locs hS => ?_)
      refine lv_iload_n hx hb dX7_doRemove_71 rfl (lv_at hl 0 rfl) ?_
      obtain ⟨v8, ev8, h⟩ := ob h
      refine r_ci hS (r_runV (As := [.int v7, .int v6]) (rest := []) X hS (c_X7_leafAt l hE (w := w) (ad := ad) (μ := μ) (D := D) (cI := cI) (cG := cG) (cL := cL) hw ev8) (cwV 2 X.1.2.2.2.2 gX7_doRemove_X7_leafAt rfl rfl rfl (by decide +kernel) ⟨Nat.le_of_ble_eq_true rfl, Nat.le_of_ble_eq_true rfl⟩) (q0 := q) (ci := 5) rfl (hw.1 μ).1 rfl hl.1 rfl (Nat.le_of_ble_eq_true rfl) dX7_doRemove_72 ⟨Nat.zero_le _, Nat.zero_le _⟩) (fun H locs hS => ?_)
      refine lv_istore (lv' := [(4, .int v8), (3, .int v6), (2, .int s0), (0, .ref (ad q)), (1, .int x1)]) hx hb dX7_doRemove_75 hl (by decide) rfl (fun ls hl => ?_)
      refine lv_aload_n hx hb dX7_doRemove_77 rfl (lv_at hl 3 rfl) ?_
      refine lv_iload hx hb dX7_doRemove_78 (lv_at hl 0 rfl) ?_
      refine lv_iconst (v := 2) hx hb dX7_doRemove_80 (by decide) ?_
      obtain ⟨v9, ev9, h⟩ := ob h
      refine r_ci hS (r_runV (As := [.int v8, .int 2]) (rest := []) X hS (c_X7_of l hE (w := w) (ad := ad) (μ := μ) (D := D) (cI := cI) (cG := cG) (cL := cL) hw ev9) (cwV 2 X.1.2.2.2.2 gX7_doRemove_X7_of rfl rfl rfl (by decide +kernel) ⟨Nat.le_of_ble_eq_true rfl, Nat.le_of_ble_eq_true rfl⟩) (q0 := q) (ci := 5) rfl (hw.1 μ).1 rfl hl.1 rfl (Nat.le_of_ble_eq_true rfl) dX7_doRemove_81 ⟨Nat.zero_le _, Nat.zero_le _⟩) (fun H locs hS => ?_)
      refine lv_iconst (v := 1) hx hb dX7_doRemove_84 (by decide) ?_
      refine lv_icmp_ne (tgt := 92) hx hb dX7_doRemove_85 (by decide) (fun cc => ?_) (fun cc => ?_)
      · replace h := ie h cc
        refine lv_iconst (v := 0) hx hb dX7_doRemove_92 (by decide) ?_
        exact hb93 x1 s0 v6 v8 0 μ _ _ _ hS (lv_sub hl [3, 4, 2, 1, 0] rfl) h
      · replace h := it h cc
        refine lv_iconst (v := 1) hx hb dX7_doRemove_88 (by decide) ?_
        refine lv_goto (tgt := 93) hx hb dX7_doRemove_89 (by decide) ?_
        exact hb93 x1 s0 v6 v8 1 μ _ _ _ hS (lv_sub hl [3, 4, 2, 1, 0] rfl) h
    · replace h := it h cc
      refine lv_aload_n hx hb dX7_doRemove_50 rfl (lv_at hl 1 rfl) ?_
      refine lv_iconst (v := 2) hx hb dX7_doRemove_51 (by decide) ?_
      obtain ⟨v32, μ33, ev32, h⟩ := ob2 h
      refine r_ci hS (r_runV (As := [.int 2]) (rest := []) X hS (c_X7_refuse l hE (w := w) (ad := ad) (μ := μ) (D := D) (cI := cI) (cG := cG) (cL := cL) hw ev32) (cwV 1 X.1.2.2.2.2 gX7_doRemove_X7_refuse rfl rfl rfl (by decide +kernel) ⟨Nat.le_of_ble_eq_true rfl, Nat.le_of_ble_eq_true rfl⟩) (q0 := q) (ci := 5) rfl (hw.1 μ).1 rfl hl.1 rfl (Nat.le_of_ble_eq_true rfl) dX7_doRemove_52 ⟨Nat.zero_le _, Nat.zero_le _⟩) (fun H locs hS => ?_)
      obtain ⟨rfl, rfl⟩ := pr2 h
      exact r_iret X hS hr hlk dX7_doRemove_55
  unfold f_X7_doRemove at h
  refine lv_iload_n hx hb dX7_doRemove_0 rfl (lv_at hl 1 rfl) ?_
  refine lv_iconst (v := 0) hx hb dX7_doRemove_1 (by decide) ?_
  refine lv_bipush (v := 99) hx hb dX7_doRemove_2 (by decide) ?_
  obtain ⟨v1, ev1, h⟩ := ob h
  refine r_ci hS (r_runS (As := [.int a1, .int 0, .int 99]) (rest := []) X hS (c_X7_in l hE (w := w) (ad := ad) (μ := μ) (D := D) (cI := cI) (cG := cG) (cL := cL) ev1) (va_cwS 3 X.1.2.2.2.2 gX7_doRemove_X7_in rfl rfl rfl (by decide +kernel) ⟨Nat.le_of_ble_eq_true rfl, Nat.le_of_ble_eq_true rfl⟩) rfl hl.1 rfl (Nat.le_of_ble_eq_true rfl) dX7_doRemove_4 ⟨Nat.zero_le _, Nat.zero_le _⟩) (fun H locs hS => ?_)
  refine lv_if_ne (tgt := 16) hx hb dX7_doRemove_7 (by decide) (fun cc => ?_) (fun cc => ?_)
  · replace h := ie h cc
    refine lv_aload_n hx hb dX7_doRemove_16 rfl (lv_at hl 0 rfl) ?_
    refine r_get X hS (T := TX7) (k := 0) (hw.1 μ).1 rfl hiX7 (by decide) mf7 rfl dX7_doRemove_17 ?_
    refine lv_sipush (v := 466) hx hb dX7_doRemove_20 (by decide) ?_
    obtain ⟨v2, ev2, h⟩ := ob h
    refine r_iald X hS (hw.2.1 μ).1 ev2 dX7_doRemove_23 ?_
    refine lv_if_ne (tgt := 33) hx hb dX7_doRemove_24 (by decide) (fun cc => ?_) (fun cc => ?_)
    · replace h := ie h cc
      refine lv_aload_n hx hb dX7_doRemove_33 rfl (lv_at hl 0 rfl) ?_
      refine lv_aload_n hx hb dX7_doRemove_34 rfl (lv_at hl 0 rfl) ?_
      obtain ⟨v3, ev3, h⟩ := ob h
      refine r_ci hS (r_runV (As := []) (rest := [.ref (ad q)]) X hS (c_X7_drafts l hE (w := w) (ad := ad) (μ := μ) (D := D) (cI := cI) (cG := cG) (cL := cL) hw ev3) (cwV 0 X.1.2.2.2.2 gX7_doRemove_X7_drafts rfl rfl rfl (by decide +kernel) ⟨Nat.le_of_ble_eq_true rfl, Nat.le_of_ble_eq_true rfl⟩) (q0 := q) (ci := 5) rfl (hw.1 μ).1 rfl hl.1 rfl (Nat.le_of_ble_eq_true rfl) dX7_doRemove_35 ⟨Nat.zero_le _, Nat.zero_le _⟩) (fun H locs hS => ?_)
      refine lv_iload_n hx hb dX7_doRemove_38 rfl (lv_at hl 1 rfl) ?_
      obtain ⟨v4, ev4, h⟩ := ob h
      refine r_ci hS (r_runV (As := [.int v3, .int a1]) (rest := []) X hS (c_X7_valueBy l hE (w := w) (ad := ad) (μ := μ) (D := D) (cI := cI) (cG := cG) (cL := cL) hw ev4) (cwV 2 X.1.2.2.2.2 gX7_doRemove_X7_valueBy rfl rfl rfl (by decide +kernel) ⟨Nat.le_of_ble_eq_true rfl, Nat.le_of_ble_eq_true rfl⟩) (q0 := q) (ci := 5) rfl (hw.1 μ).1 rfl hl.1 rfl (Nat.le_of_ble_eq_true rfl) dX7_doRemove_39 ⟨Nat.zero_le _, Nat.zero_le _⟩) (fun H locs hS => ?_)
      exact hb42 a1 v4 μ _ _ _ hS (lv_sub hl [0, 1] rfl) h
    · replace h := it h cc
      refine lv_sipush (v := (-1000)) hx hb dX7_doRemove_27 (by decide) ?_
      refine lv_goto (tgt := 42) hx hb dX7_doRemove_30 (by decide) ?_
      exact hb42 a1 (-1000) μ _ _ _ hS (lv_sub hl [0, 1] rfl) h
  · replace h := it h cc
    refine lv_aload_n hx hb dX7_doRemove_10 rfl (lv_at hl 0 rfl) ?_
    refine lv_iconst (v := 1) hx hb dX7_doRemove_11 (by decide) ?_
    obtain ⟨v34, μ35, ev34, h⟩ := ob2 h
    refine r_ci hS (r_runV (As := [.int 1]) (rest := []) X hS (c_X7_refuse l hE (w := w) (ad := ad) (μ := μ) (D := D) (cI := cI) (cG := cG) (cL := cL) hw ev34) (cwV 1 X.1.2.2.2.2 gX7_doRemove_X7_refuse rfl rfl rfl (by decide +kernel) ⟨Nat.le_of_ble_eq_true rfl, Nat.le_of_ble_eq_true rfl⟩) (q0 := q) (ci := 5) rfl (hw.1 μ).1 rfl hl.1 rfl (Nat.le_of_ble_eq_true rfl) dX7_doRemove_12 ⟨Nat.zero_le _, Nat.zero_le _⟩) (fun H locs hS => ?_)
    obtain ⟨rfl, rfl⟩ := pr2 h
    exact r_iret X hS hr hlk dX7_doRemove_15
def f_X7_doBegin (q : Nat) (μ : Mem) : Option (Int32 × Mem) := (rd 470 (μ (q + 1)) 466).bind (fun v1 => (if v1 = 1 then bn2 (f_X7_refuse q 1 μ) (fun v6 μ7 => (some (v6, μ7))) else (wr μ (q + 1) 470 466 1).bind (fun μ2 => (wr μ2 (q + 1) 470 467 (-1)).bind (fun μ3 => (f_X7_current q μ3).bind (fun v4 => (f_X7_ofRoot q v4 0 μ3).bind (fun v5 => (some (v5, μ3))))))))
set_option maxHeartbeats 4000000 in
set_option maxRecDepth 100000 in
theorem c_X7_doBegin (l : Launch) {D : va_G} {cI cG cL : ClassId} {A : Nat → Prop} {EN : State → Heap → Prop} (hE : EnOK EN A) {w : Mem → va_W} {ad : Nat → Nat} {hh : Int64} {q : Nat} {μ : Mem} {r : Int32} {μ' : Mem} (hw : ModelAt cI w ad hh q) (h : f_X7_doBegin q μ = some (r, μ')) : Met l yX7_doBegin wsX7_doBegin (rmk 1 22) (WPre D (tyl cI cG cL) A EN (w μ) [.ref (ad q)]) (PI D A (w μ') r) 0 0 A := by
  have hiX7 : ∀ w ∈ u_ws RX7 TX7 13, w ∈ wsX7_doBegin := by decide +kernel
  have mf7 : Cond.fieldLink RX7 7 (TX7 0).1 (TX7 0).2.1 (TX7 0).2.2.1 ∈ wsX7_doBegin := by decide +kernel
  refine met_start (cc := cX7_doBegin) (nL := 1) (ret := (some .int)) (own := RX7) hE (by decide) rfl rfl (Nat.le_of_ble_eq_true rfl) (fun p e s m args below meth c ls X hS hl hr hlk => ?_)
  have hx := X.1.1
  have hb := X.1.2.1
  replace hl : lv_has ls 1 [(0, .ref (ad q))] := hl
  unfold f_X7_doBegin at h
  refine lv_aload_n hx hb dX7_doBegin_0 rfl (lv_at hl 0 rfl) ?_
  refine r_get X hS (T := TX7) (k := 0) (hw.1 μ).1 rfl hiX7 (by decide) mf7 rfl dX7_doBegin_1 ?_
  refine lv_sipush (v := 466) hx hb dX7_doBegin_4 (by decide) ?_
  obtain ⟨v1, ev1, h⟩ := ob h
  refine r_iald X hS (hw.2.1 μ).1 ev1 dX7_doBegin_7 ?_
  refine lv_iconst (v := 1) hx hb dX7_doBegin_8 (by decide) ?_
  refine lv_icmp_ne (tgt := 18) hx hb dX7_doBegin_9 (by decide) (fun cc => ?_) (fun cc => ?_)
  · replace h := ie h cc
    refine lv_aload_n hx hb dX7_doBegin_18 rfl (lv_at hl 0 rfl) ?_
    refine r_get X hS (T := TX7) (k := 0) (hw.1 μ).1 rfl hiX7 (by decide) mf7 rfl dX7_doBegin_19 ?_
    refine lv_sipush (v := 466) hx hb dX7_doBegin_22 (by decide) ?_
    refine lv_iconst (v := 1) hx hb dX7_doBegin_25 (by decide) ?_
    obtain ⟨μ2, eμ2, h⟩ := ob h
    refine r_iast X hS hw.2.1 eμ2 dX7_doBegin_26 (fun H locs hS => ?_)
    refine lv_aload_n hx hb dX7_doBegin_27 rfl (lv_at hl 0 rfl) ?_
    refine r_get X hS (T := TX7) (k := 0) (hw.1 μ2).1 rfl hiX7 (by decide) mf7 rfl dX7_doBegin_28 ?_
    refine lv_sipush (v := 467) hx hb dX7_doBegin_31 (by decide) ?_
    refine lv_iconst (v := (-1)) hx hb dX7_doBegin_34 (by decide) ?_
    obtain ⟨μ3, eμ3, h⟩ := ob h
    refine r_iast X hS hw.2.1 eμ3 dX7_doBegin_35 (fun H locs hS => ?_)
    refine lv_aload_n hx hb dX7_doBegin_36 rfl (lv_at hl 0 rfl) ?_
    refine lv_aload_n hx hb dX7_doBegin_37 rfl (lv_at hl 0 rfl) ?_
    obtain ⟨v4, ev4, h⟩ := ob h
    refine r_ci hS (r_runV (As := []) (rest := [.ref (ad q)]) X hS (c_X7_current l hE (w := w) (ad := ad) (μ := μ3) (D := D) (cI := cI) (cG := cG) (cL := cL) hw ev4) (cwV 0 X.1.2.2.2.2 gX7_doBegin_X7_current rfl rfl rfl (by decide +kernel) ⟨Nat.le_of_ble_eq_true rfl, Nat.le_of_ble_eq_true rfl⟩) (q0 := q) (ci := 5) rfl (hw.1 μ3).1 rfl hl.1 rfl (Nat.le_of_ble_eq_true rfl) dX7_doBegin_38 ⟨Nat.zero_le _, Nat.zero_le _⟩) (fun H locs hS => ?_)
    refine lv_iconst (v := 0) hx hb dX7_doBegin_41 (by decide) ?_
    obtain ⟨v5, ev5, h⟩ := ob h
    refine r_ci hS (r_runV (As := [.int v4, .int 0]) (rest := []) X hS (c_X7_ofRoot l hE (w := w) (ad := ad) (μ := μ3) (D := D) (cI := cI) (cG := cG) (cL := cL) hw ev5) (cwV 2 X.1.2.2.2.2 gX7_doBegin_X7_ofRoot rfl rfl rfl (by decide +kernel) ⟨Nat.le_of_ble_eq_true rfl, Nat.le_of_ble_eq_true rfl⟩) (q0 := q) (ci := 5) rfl (hw.1 μ3).1 rfl hl.1 rfl (Nat.le_of_ble_eq_true rfl) dX7_doBegin_42 ⟨Nat.zero_le _, Nat.zero_le _⟩) (fun H locs hS => ?_)
    obtain ⟨rfl, rfl⟩ := pr2 h
    exact r_iret X hS hr hlk dX7_doBegin_45
  · replace h := it h cc
    refine lv_aload_n hx hb dX7_doBegin_12 rfl (lv_at hl 0 rfl) ?_
    refine lv_iconst (v := 1) hx hb dX7_doBegin_13 (by decide) ?_
    obtain ⟨v6, μ7, ev6, h⟩ := ob2 h
    refine r_ci hS (r_runV (As := [.int 1]) (rest := []) X hS (c_X7_refuse l hE (w := w) (ad := ad) (μ := μ) (D := D) (cI := cI) (cG := cG) (cL := cL) hw ev6) (cwV 1 X.1.2.2.2.2 gX7_doBegin_X7_refuse rfl rfl rfl (by decide +kernel) ⟨Nat.le_of_ble_eq_true rfl, Nat.le_of_ble_eq_true rfl⟩) (q0 := q) (ci := 5) rfl (hw.1 μ).1 rfl hl.1 rfl (Nat.le_of_ble_eq_true rfl) dX7_doBegin_14 ⟨Nat.zero_le _, Nat.zero_le _⟩) (fun H locs hS => ?_)
    obtain ⟨rfl, rfl⟩ := pr2 h
    exact r_iret X hS hr hlk dX7_doBegin_17
def f_X7_begin (q : Nat) (μ : Mem) : Option (Int32 × Mem) := (f_X7_hold q μ).bind (fun μ1 => bn2 (f_X7_doBegin q μ1) (fun v2 μ3 => bn2 (f_X7_ends q v2 μ3) (fun v4 μ5 => (some (v4, μ5)))))
set_option maxHeartbeats 4000000 in
set_option maxRecDepth 100000 in
theorem c_X7_begin (l : Launch) {D : va_G} {cI cG cL : ClassId} {A : Nat → Prop} {EN : State → Heap → Prop} (hE : EnOK EN A) {w : Mem → va_W} {ad : Nat → Nat} {hh : Int64} {q : Nat} {μ : Mem} {r : Int32} {μ' : Mem} (hw : ModelAt cI w ad hh q) (h : f_X7_begin q μ = some (r, μ')) : Met l yX7_begin wsX7_begin (rmk 2 46) (WPre D (tyl cI cG cL) A EN (w μ) [.ref (ad q)]) (PI D A (w μ') r) 0 0 A := by
  refine met_start (cc := cX7_begin) (nL := 1) (ret := (some .int)) (own := RX7) hE (by decide) rfl rfl (Nat.le_of_ble_eq_true rfl) (fun p e s m args below meth c ls X hS hl hr hlk => ?_)
  have hx := X.1.1
  have hb := X.1.2.1
  replace hl : lv_has ls 1 [(0, .ref (ad q))] := hl
  unfold f_X7_begin at h
  refine lv_aload_n hx hb dX7_begin_0 rfl (lv_at hl 0 rfl) ?_
  obtain ⟨μ1, eμ1, h⟩ := ob h
  refine r_cv hS (r_runV (As := []) (rest := []) X hS (c_X7_hold l hE (w := w) (ad := ad) (μ := μ) (D := D) (cI := cI) (cG := cG) (cL := cL) hw eμ1) (cwV 0 X.1.2.2.2.2 gX7_begin_X7_hold rfl rfl rfl (by decide +kernel) ⟨Nat.le_of_ble_eq_true rfl, Nat.le_of_ble_eq_true rfl⟩) (q0 := q) (ci := 5) rfl (hw.1 μ).1 rfl hl.1 rfl (Nat.le_of_ble_eq_true rfl) dX7_begin_1 ⟨Nat.zero_le _, Nat.zero_le _⟩) (fun H locs hS => ?_)
  refine lv_aload_n hx hb dX7_begin_4 rfl (lv_at hl 0 rfl) ?_
  refine lv_aload_n hx hb dX7_begin_5 rfl (lv_at hl 0 rfl) ?_
  obtain ⟨v2, μ3, ev2, h⟩ := ob2 h
  refine r_ci hS (r_runV (As := []) (rest := [.ref (ad q)]) X hS (c_X7_doBegin l hE (w := w) (ad := ad) (μ := μ1) (D := D) (cI := cI) (cG := cG) (cL := cL) hw ev2) (cwV 0 X.1.2.2.2.2 gX7_begin_X7_doBegin rfl rfl rfl (by decide +kernel) ⟨Nat.le_of_ble_eq_true rfl, Nat.le_of_ble_eq_true rfl⟩) (q0 := q) (ci := 5) rfl (hw.1 μ1).1 rfl hl.1 rfl (Nat.le_of_ble_eq_true rfl) dX7_begin_6 ⟨Nat.zero_le _, Nat.zero_le _⟩) (fun H locs hS => ?_)
  obtain ⟨v4, μ5, ev4, h⟩ := ob2 h
  refine r_ci hS (r_runV (As := [.int v2]) (rest := []) X hS (c_X7_ends l hE (w := w) (ad := ad) (μ := μ3) (D := D) (cI := cI) (cG := cG) (cL := cL) hw ev4) (cwV 1 X.1.2.2.2.2 gX7_begin_X7_ends rfl rfl rfl (by decide +kernel) ⟨Nat.le_of_ble_eq_true rfl, Nat.le_of_ble_eq_true rfl⟩) (q0 := q) (ci := 5) rfl (hw.1 μ3).1 rfl hl.1 rfl (Nat.le_of_ble_eq_true rfl) dX7_begin_9 ⟨Nat.zero_le _, Nat.zero_le _⟩) (fun H locs hS => ?_)
  obtain ⟨rfl, rfl⟩ := pr2 h
  exact r_iret X hS hr hlk dX7_begin_12
def f_X7_put (q : Nat) (a1 : Int32) (a2 : Int32) (μ : Mem) : Option (Int32 × Mem) := (f_X7_hold q μ).bind (fun μ1 => bn2 (f_X7_doPut q a1 a2 μ1) (fun v2 μ3 => bn2 (f_X7_ends q v2 μ3) (fun v4 μ5 => (some (v4, μ5)))))
set_option maxHeartbeats 4000000 in
set_option maxRecDepth 100000 in
theorem c_X7_put (l : Launch) {D : va_G} {cI cG cL : ClassId} {A : Nat → Prop} {EN : State → Heap → Prop} (hE : EnOK EN A) {w : Mem → va_W} {ad : Nat → Nat} {hh : Int64} {q : Nat} {a1 : Int32} {a2 : Int32} {μ : Mem} {r : Int32} {μ' : Mem} (hw : ModelAt cI w ad hh q) (h : f_X7_put q a1 a2 μ = some (r, μ')) : Met l yX7_put wsX7_put (rmk 7 168) (WPre D (tyl cI cG cL) A EN (w μ) [.ref (ad q), .int a1, .int a2]) (PI D A (w μ') r) 0 0 A := by
  refine met_start (cc := cX7_put) (nL := 3) (ret := (some .int)) (own := RX7) hE (by decide) rfl rfl (Nat.le_of_ble_eq_true rfl) (fun p e s m args below meth c ls X hS hl hr hlk => ?_)
  have hx := X.1.1
  have hb := X.1.2.1
  replace hl : lv_has ls 3 [(0, .ref (ad q)), (1, .int a1), (2, .int a2)] := hl
  unfold f_X7_put at h
  refine lv_aload_n hx hb dX7_put_0 rfl (lv_at hl 0 rfl) ?_
  obtain ⟨μ1, eμ1, h⟩ := ob h
  refine r_cv hS (r_runV (As := []) (rest := []) X hS (c_X7_hold l hE (w := w) (ad := ad) (μ := μ) (D := D) (cI := cI) (cG := cG) (cL := cL) hw eμ1) (cwV 0 X.1.2.2.2.2 gX7_put_X7_hold rfl rfl rfl (by decide +kernel) ⟨Nat.le_of_ble_eq_true rfl, Nat.le_of_ble_eq_true rfl⟩) (q0 := q) (ci := 5) rfl (hw.1 μ).1 rfl hl.1 rfl (Nat.le_of_ble_eq_true rfl) dX7_put_1 ⟨Nat.zero_le _, Nat.zero_le _⟩) (fun H locs hS => ?_)
  refine lv_aload_n hx hb dX7_put_4 rfl (lv_at hl 0 rfl) ?_
  refine lv_aload_n hx hb dX7_put_5 rfl (lv_at hl 0 rfl) ?_
  refine lv_iload_n hx hb dX7_put_6 rfl (lv_at hl 1 rfl) ?_
  refine lv_iload_n hx hb dX7_put_7 rfl (lv_at hl 2 rfl) ?_
  obtain ⟨v2, μ3, ev2, h⟩ := ob2 h
  refine r_ci hS (r_runV (As := [.int a1, .int a2]) (rest := [.ref (ad q)]) X hS (c_X7_doPut l hE (w := w) (ad := ad) (μ := μ1) (D := D) (cI := cI) (cG := cG) (cL := cL) hw ev2) (cwV 2 X.1.2.2.2.2 gX7_put_X7_doPut rfl rfl rfl (by decide +kernel) ⟨Nat.le_of_ble_eq_true rfl, Nat.le_of_ble_eq_true rfl⟩) (q0 := q) (ci := 5) rfl (hw.1 μ1).1 rfl hl.1 rfl (Nat.le_of_ble_eq_true rfl) dX7_put_8 ⟨Nat.zero_le _, Nat.zero_le _⟩) (fun H locs hS => ?_)
  obtain ⟨v4, μ5, ev4, h⟩ := ob2 h
  refine r_ci hS (r_runV (As := [.int v2]) (rest := []) X hS (c_X7_ends l hE (w := w) (ad := ad) (μ := μ3) (D := D) (cI := cI) (cG := cG) (cL := cL) hw ev4) (cwV 1 X.1.2.2.2.2 gX7_put_X7_ends rfl rfl rfl (by decide +kernel) ⟨Nat.le_of_ble_eq_true rfl, Nat.le_of_ble_eq_true rfl⟩) (q0 := q) (ci := 5) rfl (hw.1 μ3).1 rfl hl.1 rfl (Nat.le_of_ble_eq_true rfl) dX7_put_11 ⟨Nat.zero_le _, Nat.zero_le _⟩) (fun H locs hS => ?_)
  obtain ⟨rfl, rfl⟩ := pr2 h
  exact r_iret X hS hr hlk dX7_put_14
def f_X7_remove (q : Nat) (a1 : Int32) (μ : Mem) : Option (Int32 × Mem) := (f_X7_hold q μ).bind (fun μ1 => bn2 (f_X7_doRemove q a1 μ1) (fun v2 μ3 => bn2 (f_X7_ends q v2 μ3) (fun v4 μ5 => (some (v4, μ5)))))
set_option maxHeartbeats 4000000 in
set_option maxRecDepth 100000 in
theorem c_X7_remove (l : Launch) {D : va_G} {cI cG cL : ClassId} {A : Nat → Prop} {EN : State → Heap → Prop} (hE : EnOK EN A) {w : Mem → va_W} {ad : Nat → Nat} {hh : Int64} {q : Nat} {a1 : Int32} {μ : Mem} {r : Int32} {μ' : Mem} (hw : ModelAt cI w ad hh q) (h : f_X7_remove q a1 μ = some (r, μ')) : Met l yX7_remove wsX7_remove (rmk 7 165) (WPre D (tyl cI cG cL) A EN (w μ) [.ref (ad q), .int a1]) (PI D A (w μ') r) 0 0 A := by
  refine met_start (cc := cX7_remove) (nL := 2) (ret := (some .int)) (own := RX7) hE (by decide) rfl rfl (Nat.le_of_ble_eq_true rfl) (fun p e s m args below meth c ls X hS hl hr hlk => ?_)
  have hx := X.1.1
  have hb := X.1.2.1
  replace hl : lv_has ls 2 [(0, .ref (ad q)), (1, .int a1)] := hl
  unfold f_X7_remove at h
  refine lv_aload_n hx hb dX7_remove_0 rfl (lv_at hl 0 rfl) ?_
  obtain ⟨μ1, eμ1, h⟩ := ob h
  refine r_cv hS (r_runV (As := []) (rest := []) X hS (c_X7_hold l hE (w := w) (ad := ad) (μ := μ) (D := D) (cI := cI) (cG := cG) (cL := cL) hw eμ1) (cwV 0 X.1.2.2.2.2 gX7_remove_X7_hold rfl rfl rfl (by decide +kernel) ⟨Nat.le_of_ble_eq_true rfl, Nat.le_of_ble_eq_true rfl⟩) (q0 := q) (ci := 5) rfl (hw.1 μ).1 rfl hl.1 rfl (Nat.le_of_ble_eq_true rfl) dX7_remove_1 ⟨Nat.zero_le _, Nat.zero_le _⟩) (fun H locs hS => ?_)
  refine lv_aload_n hx hb dX7_remove_4 rfl (lv_at hl 0 rfl) ?_
  refine lv_aload_n hx hb dX7_remove_5 rfl (lv_at hl 0 rfl) ?_
  refine lv_iload_n hx hb dX7_remove_6 rfl (lv_at hl 1 rfl) ?_
  obtain ⟨v2, μ3, ev2, h⟩ := ob2 h
  refine r_ci hS (r_runV (As := [.int a1]) (rest := [.ref (ad q)]) X hS (c_X7_doRemove l hE (w := w) (ad := ad) (μ := μ1) (D := D) (cI := cI) (cG := cG) (cL := cL) hw ev2) (cwV 1 X.1.2.2.2.2 gX7_remove_X7_doRemove rfl rfl rfl (by decide +kernel) ⟨Nat.le_of_ble_eq_true rfl, Nat.le_of_ble_eq_true rfl⟩) (q0 := q) (ci := 5) rfl (hw.1 μ1).1 rfl hl.1 rfl (Nat.le_of_ble_eq_true rfl) dX7_remove_7 ⟨Nat.zero_le _, Nat.zero_le _⟩) (fun H locs hS => ?_)
  obtain ⟨v4, μ5, ev4, h⟩ := ob2 h
  refine r_ci hS (r_runV (As := [.int v2]) (rest := []) X hS (c_X7_ends l hE (w := w) (ad := ad) (μ := μ3) (D := D) (cI := cI) (cG := cG) (cL := cL) hw ev4) (cwV 1 X.1.2.2.2.2 gX7_remove_X7_ends rfl rfl rfl (by decide +kernel) ⟨Nat.le_of_ble_eq_true rfl, Nat.le_of_ble_eq_true rfl⟩) (q0 := q) (ci := 5) rfl (hw.1 μ3).1 rfl hl.1 rfl (Nat.le_of_ble_eq_true rfl) dX7_remove_10 ⟨Nat.zero_le _, Nat.zero_le _⟩) (fun H locs hS => ?_)
  obtain ⟨rfl, rfl⟩ := pr2 h
  exact r_iret X hS hr hlk dX7_remove_13
def f_X7_drops_b35 (q : Nat) (k4 : Int32 → Int32 → Mem → Option (Int32 × Mem)) (x1 : Int32) (x2 : Int32) (μ : Mem) : Option (Int32 × Mem) := k4 x1 (x2 + 1) μ
def f_X7_drops_b4 (q : Nat)  : Nat → Int32 → Int32 → Mem → Option (Int32 × Mem)
  | 0, _, _, _ => none
  | fuel4 + 1, x1, x2, μ => (if 32 ≤ x2 then (wr μ (q + 1) 470 466 0).bind (fun μ1 => (wr μ1 (q + 1) 470 467 (-1)).bind (fun μ2 => (some (x1, μ2)))) else (f_X7_lay q x2 5 0 μ).bind (fun μ3 => (f_X7_of q x2 4 μ3).bind (fun v4 => (if v4 = 1 then (f_X7_becomesWild q x2 μ3).bind (fun μ5 => f_X7_drops_b35 q (f_X7_drops_b4 q fuel4) (x1 + 1) x2 μ5) else f_X7_drops_b35 q (f_X7_drops_b4 q fuel4) x1 x2 μ3))))
def f_X7_drops (q : Nat) (μ : Mem) : Option (Int32 × Mem) := f_X7_drops_b4 q FU 0 0 μ
set_option maxHeartbeats 4000000 in
set_option maxRecDepth 100000 in
theorem c_X7_drops (l : Launch) {D : va_G} {cI cG cL : ClassId} {A : Nat → Prop} {EN : State → Heap → Prop} (hE : EnOK EN A) {w : Mem → va_W} {ad : Nat → Nat} {hh : Int64} {q : Nat} {μ : Mem} {r : Int32} {μ' : Mem} (hw : ModelAt cI w ad hh q) (h : f_X7_drops q μ = some (r, μ')) : Met l yX7_drops wsX7_drops (rmk 2 45) (WPre D (tyl cI cG cL) A EN (w μ) [.ref (ad q)]) (PI D A (w μ') r) 0 0 A := by
  have hiX7 : ∀ w ∈ u_ws RX7 TX7 13, w ∈ wsX7_drops := by decide +kernel
  have mf7 : Cond.fieldLink RX7 7 (TX7 0).1 (TX7 0).2.1 (TX7 0).2.2.1 ∈ wsX7_drops := by decide +kernel
  refine met_start (cc := cX7_drops) (nL := 3) (ret := (some .int)) (own := RX7) hE (by decide) rfl rfl (Nat.le_of_ble_eq_true rfl) (fun p e s m args below meth c ls X hS hl hr hlk => ?_)
  have hx := X.1.1
  have hb := X.1.2.1
  replace hl : lv_has ls 3 [(0, .ref (ad q))] := hl
  have hb35 : ∀ (k4 : Int32 → Int32 → Mem → Option (Int32 × Mem)), (∀ (x1 : Int32) (x2 : Int32) (μ : Mem) (H : Heap) (locs : List Loc) (ls : Array Slot), HS D A (w μ) s.heap H locs → lv_has ls 3 [(0, .ref (ad q)), (1, .int x1), (2, .int x2)] → k4 x1 x2 μ = some (r, μ') → W p l e (headSpec wsX7_drops (rmk 2 45)).room s m args below meth c H locs 0 0 (MQ below (PI D A (w μ') r) args s 0 0 A) (F0 m 4 ls [])) → ∀ (x1 : Int32) (x2 : Int32) (μ : Mem) (H : Heap) (locs : List Loc) (ls : Array Slot), HS D A (w μ) s.heap H locs → lv_has ls 3 [(0, .ref (ad q)), (1, .int x1), (2, .int x2)] → f_X7_drops_b35 q k4 x1 x2 μ = some (r, μ') → W p l e (headSpec wsX7_drops (rmk 2 45)).room s m args below meth c H locs 0 0 (MQ below (PI D A (w μ') r) args s 0 0 A) (F0 m 35 ls []) := by
    intro k4 hk4 x1 x2 μ H locs ls hS hl h
    unfold f_X7_drops_b35 at h
    refine lv_iinc (v := x2 + 1) (lv' := [(2, .int (x2 + 1)), (0, .ref (ad q)), (1, .int x1)]) hx hb dX7_drops_35 hl (k := 2) rfl rfl (by decide) rfl (fun ls hl => ?_)
    refine lv_goto (tgt := 4) hx hb dX7_drops_38 (by decide) ?_
    exact hk4 x1 (x2 + 1) μ _ _ _ hS (lv_sub hl [1, 2, 0] rfl) h
  have hb4 : ∀ (fu : Nat) (x1 : Int32) (x2 : Int32) (μ : Mem) (H : Heap) (locs : List Loc) (ls : Array Slot), HS D A (w μ) s.heap H locs → lv_has ls 3 [(0, .ref (ad q)), (1, .int x1), (2, .int x2)] → f_X7_drops_b4 q fu x1 x2 μ = some (r, μ') → W p l e (headSpec wsX7_drops (rmk 2 45)).room s m args below meth c H locs 0 0 (MQ below (PI D A (w μ') r) args s 0 0 A) (F0 m 4 ls []) := by
    intro fu
    induction fu with
    | zero =>
      intro x1 x2 μ H locs ls hS hl h
      rw [f_X7_drops_b4] at h
      cases h
    | succ fuel4 ih4 =>
      intro x1 x2 μ H locs ls hS hl h
      rw [f_X7_drops_b4] at h
      refine lv_iload_n hx hb dX7_drops_4 rfl (lv_at hl 2 rfl) ?_
      refine lv_bipush (v := 32) hx hb dX7_drops_5 (by decide) ?_
      refine lv_icmp_ge (tgt := 41) hx hb dX7_drops_7 (by decide) (fun cc => ?_) (fun cc => ?_)
      · replace h := it h cc
        refine lv_aload_n hx hb dX7_drops_41 rfl (lv_at hl 0 rfl) ?_
        refine r_get X hS (T := TX7) (k := 0) (hw.1 μ).1 rfl hiX7 (by decide) mf7 rfl dX7_drops_42 ?_
        refine lv_sipush (v := 466) hx hb dX7_drops_45 (by decide) ?_
        refine lv_iconst (v := 0) hx hb dX7_drops_48 (by decide) ?_
        obtain ⟨μ1, eμ1, h⟩ := ob h
        refine r_iast X hS hw.2.1 eμ1 dX7_drops_49 (fun H locs hS => ?_)
        refine lv_aload_n hx hb dX7_drops_50 rfl (lv_at hl 0 rfl) ?_
        refine r_get X hS (T := TX7) (k := 0) (hw.1 μ1).1 rfl hiX7 (by decide) mf7 rfl dX7_drops_51 ?_
        refine lv_sipush (v := 467) hx hb dX7_drops_54 (by decide) ?_
        refine lv_iconst (v := (-1)) hx hb dX7_drops_57 (by decide) ?_
        obtain ⟨μ2, eμ2, h⟩ := ob h
        refine r_iast X hS hw.2.1 eμ2 dX7_drops_58 (fun H locs hS => ?_)
        refine lv_iload_n hx hb dX7_drops_59 rfl (lv_at hl 1 rfl) ?_
        obtain ⟨rfl, rfl⟩ := pr2 h
        exact r_iret X hS hr hlk dX7_drops_60
      · replace h := ie h cc
        refine lv_aload_n hx hb dX7_drops_10 rfl (lv_at hl 0 rfl) ?_
        refine lv_iload_n hx hb dX7_drops_11 rfl (lv_at hl 2 rfl) ?_
        refine lv_iconst (v := 5) hx hb dX7_drops_12 (by decide) ?_
        refine lv_iconst (v := 0) hx hb dX7_drops_13 (by decide) ?_
        obtain ⟨μ3, eμ3, h⟩ := ob h
        refine r_cv hS (r_runV (As := [.int x2, .int 5, .int 0]) (rest := []) X hS (c_X7_lay l hE (w := w) (ad := ad) (μ := μ) (D := D) (cI := cI) (cG := cG) (cL := cL) hw eμ3) (cwV 3 X.1.2.2.2.2 gX7_drops_X7_lay rfl rfl rfl (by decide +kernel) ⟨Nat.le_of_ble_eq_true rfl, Nat.le_of_ble_eq_true rfl⟩) (q0 := q) (ci := 5) rfl (hw.1 μ).1 rfl hl.1 rfl (Nat.le_of_ble_eq_true rfl) dX7_drops_14 ⟨Nat.zero_le _, Nat.zero_le _⟩) (fun H locs hS => ?_)
        refine lv_aload_n hx hb dX7_drops_17 rfl (lv_at hl 0 rfl) ?_
        refine lv_iload_n hx hb dX7_drops_18 rfl (lv_at hl 2 rfl) ?_
        refine lv_iconst (v := 4) hx hb dX7_drops_19 (by decide) ?_
        obtain ⟨v4, ev4, h⟩ := ob h
        refine r_ci hS (r_runV (As := [.int x2, .int 4]) (rest := []) X hS (c_X7_of l hE (w := w) (ad := ad) (μ := μ3) (D := D) (cI := cI) (cG := cG) (cL := cL) hw ev4) (cwV 2 X.1.2.2.2.2 gX7_drops_X7_of rfl rfl rfl (by decide +kernel) ⟨Nat.le_of_ble_eq_true rfl, Nat.le_of_ble_eq_true rfl⟩) (q0 := q) (ci := 5) rfl (hw.1 μ3).1 rfl hl.1 rfl (Nat.le_of_ble_eq_true rfl) dX7_drops_20 ⟨Nat.zero_le _, Nat.zero_le _⟩) (fun H locs hS => ?_)
        refine lv_iconst (v := 1) hx hb dX7_drops_23 (by decide) ?_
        refine lv_icmp_ne (tgt := 35) hx hb dX7_drops_24 (by decide) (fun cc => ?_) (fun cc => ?_)
        · replace h := ie h cc
          exact hb35 (f_X7_drops_b4 q fuel4) ih4 x1 x2 μ3 _ _ _ hS (lv_sub hl [0, 1, 2] rfl) h
        · replace h := it h cc
          refine lv_aload_n hx hb dX7_drops_27 rfl (lv_at hl 0 rfl) ?_
          refine lv_iload_n hx hb dX7_drops_28 rfl (lv_at hl 2 rfl) ?_
          obtain ⟨μ5, eμ5, h⟩ := ob h
          refine r_cv hS (r_runV (As := [.int x2]) (rest := []) X hS (c_X7_becomesWild l hE (w := w) (ad := ad) (μ := μ3) (D := D) (cI := cI) (cG := cG) (cL := cL) hw eμ5) (cwV 1 X.1.2.2.2.2 gX7_drops_X7_becomesWild rfl rfl rfl (by decide +kernel) ⟨Nat.le_of_ble_eq_true rfl, Nat.le_of_ble_eq_true rfl⟩) (q0 := q) (ci := 5) rfl (hw.1 μ3).1 rfl hl.1 rfl (Nat.le_of_ble_eq_true rfl) dX7_drops_29 ⟨Nat.zero_le _, Nat.zero_le _⟩) (fun H locs hS => ?_)
          refine lv_iinc (v := x1 + 1) (lv' := [(1, .int (x1 + 1)), (0, .ref (ad q)), (2, .int x2)]) hx hb dX7_drops_32 hl (k := 1) rfl rfl (by decide) rfl (fun ls hl => ?_)
          exact hb35 (f_X7_drops_b4 q fuel4) ih4 (x1 + 1) x2 μ5 _ _ _ hS (lv_sub hl [1, 0, 2] rfl) h
  unfold f_X7_drops at h
  refine lv_iconst (v := 0) hx hb dX7_drops_0 (by decide) ?_
  refine lv_istore_n (lv' := [(1, .int 0), (0, .ref (ad q))]) hx hb dX7_drops_1 rfl hl (by decide) rfl (fun ls hl => ?_)
  refine lv_iconst (v := 0) hx hb dX7_drops_2 (by decide) ?_
  refine lv_istore_n (lv' := [(2, .int 0), (1, .int 0), (0, .ref (ad q))]) hx hb dX7_drops_3 rfl hl (by decide) rfl (fun ls hl => ?_)
  exact hb4 FU 0 0 μ _ _ _ hS (lv_sub hl [2, 1, 0] rfl) h
def f_X7_frees_b37 (q : Nat) (k4 : Int32 → Int32 → Int32 → Mem → Option (Int32 × Mem)) (x1 : Int32) (x2 : Int32) (x3 : Int32) (μ : Mem) : Option (Int32 × Mem) := (f_X7_lay q x3 5 0 μ).bind (fun μ4 => (f_X7_lay q x3 4 0 μ4).bind (fun μ5 => k4 x1 x2 (x3 + 1) μ5))
def f_X7_frees_b4 (q : Nat)  : Nat → Int32 → Int32 → Int32 → Mem → Option (Int32 × Mem)
  | 0, _, _, _, _ => none
  | fuel4 + 1, x1, x2, x3, μ => (if 32 ≤ x3 then (wr μ (q + 1) 470 466 0).bind (fun μ1 => (wr μ1 (q + 1) 470 467 (-1)).bind (fun μ2 => (some (x2, μ2)))) else (f_X7_of q x3 5 μ).bind (fun v3 => (if v3 = 1 then (f_X7_lay q x3 0 2 μ).bind (fun μ6 => (f_X7_lay q x3 3 x1 μ6).bind (fun μ7 => f_X7_frees_b37 q (f_X7_frees_b4 q fuel4) x1 (x2 + 1) x3 μ7)) else f_X7_frees_b37 q (f_X7_frees_b4 q fuel4) x1 x2 x3 μ)))
def f_X7_frees (q : Nat) (a1 : Int32) (μ : Mem) : Option (Int32 × Mem) := f_X7_frees_b4 q FU a1 0 0 μ
set_option maxHeartbeats 4000000 in
set_option maxRecDepth 100000 in
theorem c_X7_frees (l : Launch) {D : va_G} {cI cG cL : ClassId} {A : Nat → Prop} {EN : State → Heap → Prop} (hE : EnOK EN A) {w : Mem → va_W} {ad : Nat → Nat} {hh : Int64} {q : Nat} {a1 : Int32} {μ : Mem} {r : Int32} {μ' : Mem} (hw : ModelAt cI w ad hh q) (h : f_X7_frees q a1 μ = some (r, μ')) : Met l yX7_frees wsX7_frees (rmk 1 23) (WPre D (tyl cI cG cL) A EN (w μ) [.ref (ad q), .int a1]) (PI D A (w μ') r) 0 0 A := by
  have hiX7 : ∀ w ∈ u_ws RX7 TX7 13, w ∈ wsX7_frees := by decide +kernel
  have mf7 : Cond.fieldLink RX7 7 (TX7 0).1 (TX7 0).2.1 (TX7 0).2.2.1 ∈ wsX7_frees := by decide +kernel
  refine met_start (cc := cX7_frees) (nL := 4) (ret := (some .int)) (own := RX7) hE (by decide) rfl rfl (Nat.le_of_ble_eq_true rfl) (fun p e s m args below meth c ls X hS hl hr hlk => ?_)
  have hx := X.1.1
  have hb := X.1.2.1
  replace hl : lv_has ls 4 [(0, .ref (ad q)), (1, .int a1)] := hl
  have hb37 : ∀ (k4 : Int32 → Int32 → Int32 → Mem → Option (Int32 × Mem)), (∀ (x1 : Int32) (x2 : Int32) (x3 : Int32) (μ : Mem) (H : Heap) (locs : List Loc) (ls : Array Slot), HS D A (w μ) s.heap H locs → lv_has ls 4 [(0, .ref (ad q)), (1, .int x1), (2, .int x2), (3, .int x3)] → k4 x1 x2 x3 μ = some (r, μ') → W p l e (headSpec wsX7_frees (rmk 1 23)).room s m args below meth c H locs 0 0 (MQ below (PI D A (w μ') r) args s 0 0 A) (F0 m 4 ls [])) → ∀ (x1 : Int32) (x2 : Int32) (x3 : Int32) (μ : Mem) (H : Heap) (locs : List Loc) (ls : Array Slot), HS D A (w μ) s.heap H locs → lv_has ls 4 [(0, .ref (ad q)), (1, .int x1), (2, .int x2), (3, .int x3)] → f_X7_frees_b37 q k4 x1 x2 x3 μ = some (r, μ') → W p l e (headSpec wsX7_frees (rmk 1 23)).room s m args below meth c H locs 0 0 (MQ below (PI D A (w μ') r) args s 0 0 A) (F0 m 37 ls []) := by
    intro k4 hk4 x1 x2 x3 μ H locs ls hS hl h
    unfold f_X7_frees_b37 at h
    refine lv_aload_n hx hb dX7_frees_37 rfl (lv_at hl 0 rfl) ?_
    refine lv_iload_n hx hb dX7_frees_38 rfl (lv_at hl 3 rfl) ?_
    refine lv_iconst (v := 5) hx hb dX7_frees_39 (by decide) ?_
    refine lv_iconst (v := 0) hx hb dX7_frees_40 (by decide) ?_
    obtain ⟨μ4, eμ4, h⟩ := ob h
    refine r_cv hS (r_runV (As := [.int x3, .int 5, .int 0]) (rest := []) X hS (c_X7_lay l hE (w := w) (ad := ad) (μ := μ) (D := D) (cI := cI) (cG := cG) (cL := cL) hw eμ4) (cwV 3 X.1.2.2.2.2 gX7_frees_X7_lay rfl rfl rfl (by decide +kernel) ⟨Nat.le_of_ble_eq_true rfl, Nat.le_of_ble_eq_true rfl⟩) (q0 := q) (ci := 5) rfl (hw.1 μ).1 rfl hl.1 rfl (Nat.le_of_ble_eq_true rfl) dX7_frees_41 ⟨Nat.zero_le _, Nat.zero_le _⟩) (fun H locs hS => ?_)
    refine lv_aload_n hx hb dX7_frees_44 rfl (lv_at hl 0 rfl) ?_
    refine lv_iload_n hx hb dX7_frees_45 rfl (lv_at hl 3 rfl) ?_
    refine lv_iconst (v := 4) hx hb dX7_frees_46 (by decide) ?_
    refine lv_iconst (v := 0) hx hb dX7_frees_47 (by decide) ?_
    obtain ⟨μ5, eμ5, h⟩ := ob h
    refine r_cv hS (r_runV (As := [.int x3, .int 4, .int 0]) (rest := []) X hS (c_X7_lay l hE (w := w) (ad := ad) (μ := μ4) (D := D) (cI := cI) (cG := cG) (cL := cL) hw eμ5) (cwV 3 X.1.2.2.2.2 gX7_frees_X7_lay rfl rfl rfl (by decide +kernel) ⟨Nat.le_of_ble_eq_true rfl, Nat.le_of_ble_eq_true rfl⟩) (q0 := q) (ci := 5) rfl (hw.1 μ4).1 rfl hl.1 rfl (Nat.le_of_ble_eq_true rfl) dX7_frees_48 ⟨Nat.zero_le _, Nat.zero_le _⟩) (fun H locs hS => ?_)
    refine lv_iinc (v := x3 + 1) (lv' := [(3, .int (x3 + 1)), (0, .ref (ad q)), (1, .int x1), (2, .int x2)]) hx hb dX7_frees_51 hl (k := 3) rfl rfl (by decide) rfl (fun ls hl => ?_)
    refine lv_goto (tgt := 4) hx hb dX7_frees_54 (by decide) ?_
    exact hk4 x1 x2 (x3 + 1) μ5 _ _ _ hS (lv_sub hl [1, 2, 3, 0] rfl) h
  have hb4 : ∀ (fu : Nat) (x1 : Int32) (x2 : Int32) (x3 : Int32) (μ : Mem) (H : Heap) (locs : List Loc) (ls : Array Slot), HS D A (w μ) s.heap H locs → lv_has ls 4 [(0, .ref (ad q)), (1, .int x1), (2, .int x2), (3, .int x3)] → f_X7_frees_b4 q fu x1 x2 x3 μ = some (r, μ') → W p l e (headSpec wsX7_frees (rmk 1 23)).room s m args below meth c H locs 0 0 (MQ below (PI D A (w μ') r) args s 0 0 A) (F0 m 4 ls []) := by
    intro fu
    induction fu with
    | zero =>
      intro x1 x2 x3 μ H locs ls hS hl h
      rw [f_X7_frees_b4] at h
      cases h
    | succ fuel4 ih4 =>
      intro x1 x2 x3 μ H locs ls hS hl h
      rw [f_X7_frees_b4] at h
      refine lv_iload_n hx hb dX7_frees_4 rfl (lv_at hl 3 rfl) ?_
      refine lv_bipush (v := 32) hx hb dX7_frees_5 (by decide) ?_
      refine lv_icmp_ge (tgt := 57) hx hb dX7_frees_7 (by decide) (fun cc => ?_) (fun cc => ?_)
      · replace h := it h cc
        refine lv_aload_n hx hb dX7_frees_57 rfl (lv_at hl 0 rfl) ?_
        refine r_get X hS (T := TX7) (k := 0) (hw.1 μ).1 rfl hiX7 (by decide) mf7 rfl dX7_frees_58 ?_
        refine lv_sipush (v := 466) hx hb dX7_frees_61 (by decide) ?_
        refine lv_iconst (v := 0) hx hb dX7_frees_64 (by decide) ?_
        obtain ⟨μ1, eμ1, h⟩ := ob h
        refine r_iast X hS hw.2.1 eμ1 dX7_frees_65 (fun H locs hS => ?_)
        refine lv_aload_n hx hb dX7_frees_66 rfl (lv_at hl 0 rfl) ?_
        refine r_get X hS (T := TX7) (k := 0) (hw.1 μ1).1 rfl hiX7 (by decide) mf7 rfl dX7_frees_67 ?_
        refine lv_sipush (v := 467) hx hb dX7_frees_70 (by decide) ?_
        refine lv_iconst (v := (-1)) hx hb dX7_frees_73 (by decide) ?_
        obtain ⟨μ2, eμ2, h⟩ := ob h
        refine r_iast X hS hw.2.1 eμ2 dX7_frees_74 (fun H locs hS => ?_)
        refine lv_iload_n hx hb dX7_frees_75 rfl (lv_at hl 2 rfl) ?_
        obtain ⟨rfl, rfl⟩ := pr2 h
        exact r_iret X hS hr hlk dX7_frees_76
      · replace h := ie h cc
        refine lv_aload_n hx hb dX7_frees_10 rfl (lv_at hl 0 rfl) ?_
        refine lv_iload_n hx hb dX7_frees_11 rfl (lv_at hl 3 rfl) ?_
        refine lv_iconst (v := 5) hx hb dX7_frees_12 (by decide) ?_
        obtain ⟨v3, ev3, h⟩ := ob h
        refine r_ci hS (r_runV (As := [.int x3, .int 5]) (rest := []) X hS (c_X7_of l hE (w := w) (ad := ad) (μ := μ) (D := D) (cI := cI) (cG := cG) (cL := cL) hw ev3) (cwV 2 X.1.2.2.2.2 gX7_frees_X7_of rfl rfl rfl (by decide +kernel) ⟨Nat.le_of_ble_eq_true rfl, Nat.le_of_ble_eq_true rfl⟩) (q0 := q) (ci := 5) rfl (hw.1 μ).1 rfl hl.1 rfl (Nat.le_of_ble_eq_true rfl) dX7_frees_13 ⟨Nat.zero_le _, Nat.zero_le _⟩) (fun H locs hS => ?_)
        refine lv_iconst (v := 1) hx hb dX7_frees_16 (by decide) ?_
        refine lv_icmp_ne (tgt := 37) hx hb dX7_frees_17 (by decide) (fun cc => ?_) (fun cc => ?_)
        · replace h := ie h cc
          exact hb37 (f_X7_frees_b4 q fuel4) ih4 x1 x2 x3 μ _ _ _ hS (lv_sub hl [0, 1, 2, 3] rfl) h
        · replace h := it h cc
          refine lv_aload_n hx hb dX7_frees_20 rfl (lv_at hl 0 rfl) ?_
          refine lv_iload_n hx hb dX7_frees_21 rfl (lv_at hl 3 rfl) ?_
          refine lv_iconst (v := 0) hx hb dX7_frees_22 (by decide) ?_
          refine lv_iconst (v := 2) hx hb dX7_frees_23 (by decide) ?_
          obtain ⟨μ6, eμ6, h⟩ := ob h
          refine r_cv hS (r_runV (As := [.int x3, .int 0, .int 2]) (rest := []) X hS (c_X7_lay l hE (w := w) (ad := ad) (μ := μ) (D := D) (cI := cI) (cG := cG) (cL := cL) hw eμ6) (cwV 3 X.1.2.2.2.2 gX7_frees_X7_lay rfl rfl rfl (by decide +kernel) ⟨Nat.le_of_ble_eq_true rfl, Nat.le_of_ble_eq_true rfl⟩) (q0 := q) (ci := 5) rfl (hw.1 μ).1 rfl hl.1 rfl (Nat.le_of_ble_eq_true rfl) dX7_frees_24 ⟨Nat.zero_le _, Nat.zero_le _⟩) (fun H locs hS => ?_)
          refine lv_aload_n hx hb dX7_frees_27 rfl (lv_at hl 0 rfl) ?_
          refine lv_iload_n hx hb dX7_frees_28 rfl (lv_at hl 3 rfl) ?_
          refine lv_iconst (v := 3) hx hb dX7_frees_29 (by decide) ?_
          refine lv_iload_n hx hb dX7_frees_30 rfl (lv_at hl 1 rfl) ?_
          obtain ⟨μ7, eμ7, h⟩ := ob h
          refine r_cv hS (r_runV (As := [.int x3, .int 3, .int x1]) (rest := []) X hS (c_X7_lay l hE (w := w) (ad := ad) (μ := μ6) (D := D) (cI := cI) (cG := cG) (cL := cL) hw eμ7) (cwV 3 X.1.2.2.2.2 gX7_frees_X7_lay rfl rfl rfl (by decide +kernel) ⟨Nat.le_of_ble_eq_true rfl, Nat.le_of_ble_eq_true rfl⟩) (q0 := q) (ci := 5) rfl (hw.1 μ6).1 rfl hl.1 rfl (Nat.le_of_ble_eq_true rfl) dX7_frees_31 ⟨Nat.zero_le _, Nat.zero_le _⟩) (fun H locs hS => ?_)
          refine lv_iinc (v := x2 + 1) (lv' := [(2, .int (x2 + 1)), (0, .ref (ad q)), (1, .int x1), (3, .int x3)]) hx hb dX7_frees_34 hl (k := 2) rfl rfl (by decide) rfl (fun ls hl => ?_)
          exact hb37 (f_X7_frees_b4 q fuel4) ih4 x1 (x2 + 1) x3 μ7 _ _ _ hS (lv_sub hl [1, 2, 0, 3] rfl) h
  unfold f_X7_frees at h
  refine lv_iconst (v := 0) hx hb dX7_frees_0 (by decide) ?_
  refine lv_istore_n (lv' := [(2, .int 0), (0, .ref (ad q)), (1, .int a1)]) hx hb dX7_frees_1 rfl hl (by decide) rfl (fun ls hl => ?_)
  refine lv_iconst (v := 0) hx hb dX7_frees_2 (by decide) ?_
  refine lv_istore_n (lv' := [(3, .int 0), (2, .int 0), (0, .ref (ad q)), (1, .int a1)]) hx hb dX7_frees_3 rfl hl (by decide) rfl (fun ls hl => ?_)
  exact hb4 FU a1 0 0 μ _ _ _ hS (lv_sub hl [2, 3, 1, 0] rfl) h
def f_X7_doCommit_b153 (q : Nat) (x1 : Int32) (x2 : Int32) (x3 : Int32) (s0 : Int32) (s1 : Int32) (μ : Mem) : Option (Int32 × Mem) := (wr μ (q + 1) 470 s1 s0).bind (fun μ10 => (if 3 ≤ x1 then (wr μ10 (q + 1) 470 (x3 + 2) 1).bind (fun μ11 => (rd 470 (μ11 (q + 1)) 468).bind (fun v12 => (wr μ11 (q + 1) 470 468 (v12 + 1)).bind (fun μ13 => bn2 (f_X7_frees q x2 μ13) (fun v14 μ15 => (some (v14, μ15)))))) else bn2 (f_X7_drops q μ10) (fun v16 μ17 => (rd 470 (μ17 (q + 1)) 469).bind (fun v18 => (wr μ17 (q + 1) 470 469 (v18 + 1)).bind (fun μ19 => (some ((-1000), μ19)))))))
def f_X7_doCommit_b121 (q : Nat) (x1 : Int32) (x2 : Int32) (x3 : Int32) (s0 : Int32) (s1 : Int32) (μ : Mem) : Option (Int32 × Mem) := (wr μ (q + 1) 470 s1 s0).bind (fun μ8 => (if 2 ≤ x1 then (rd 470 (μ8 (q + 1)) 467).bind (fun v9 => f_X7_doCommit_b153 q x1 x2 x3 v9 (x3 + 1) μ8) else (rd 470 (μ8 (q + 1)) (x3 + 1)).bind (fun v20 => f_X7_doCommit_b153 q x1 x2 x3 v20 (x3 + 1) μ8)))
def f_X7_doCommit_b96 (q : Nat) (x1 : Int32) (x2 : Int32) (x3 : Int32) (s0 : Int32) (s1 : Int32) (μ : Mem) : Option (Int32 × Mem) := (wr μ (q + 1) 470 s1 s0).bind (fun μ7 => (if 2 ≤ x1 then f_X7_doCommit_b121 q x1 x2 x3 x2 (x3 + 0) μ7 else (rd 470 (μ7 (q + 1)) (x3 + 0)).bind (fun v21 => f_X7_doCommit_b121 q x1 x2 x3 v21 (x3 + 0) μ7)))
def f_X7_doCommit (q : Nat) (a1 : Int32) (μ : Mem) : Option (Int32 × Mem) := (f_X7_in a1 0 3).bind (fun v1 => (if v1 = 0 then bn2 (f_X7_refuse q 1 μ) (fun v27 μ28 => (some (v27, μ28))) else (rd 470 (μ (q + 1)) 466).bind (fun v2 => (if v2 = 0 then bn2 (f_X7_refuse q 2 μ) (fun v25 μ26 => (some (v25, μ26))) else (rd 470 (μ (q + 1)) 467).bind (fun v3 => (if (0 : Int32) ≤ v3 then (f_X7_current q μ).bind (fun v4 => (f_X7_ofRoot q v4 0 μ).bind (fun v5 => (f_X7_current q μ).bind (fun v6 => (if a1 = 0 then (rd 470 (μ (q + 1)) ((448 + (3 * (1 - v6))) + 2)).bind (fun v22 => f_X7_doCommit_b96 q a1 (v5 + 1) (448 + (3 * (1 - v6))) v22 ((448 + (3 * (1 - v6))) + 2) μ) else f_X7_doCommit_b96 q a1 (v5 + 1) (448 + (3 * (1 - v6))) 0 ((448 + (3 * (1 - v6))) + 2) μ)))) else bn2 (f_X7_drops q μ) (fun v23 μ24 => (some (v23, μ24)))))))))
set_option maxHeartbeats 4000000 in
set_option maxRecDepth 100000 in
theorem c_X7_doCommit (l : Launch) {D : va_G} {cI cG cL : ClassId} {A : Nat → Prop} {EN : State → Heap → Prop} (hE : EnOK EN A) {w : Mem → va_W} {ad : Nat → Nat} {hh : Int64} {q : Nat} {a1 : Int32} {μ : Mem} {r : Int32} {μ' : Mem} (hw : ModelAt cI w ad hh q) (h : f_X7_doCommit q a1 μ = some (r, μ')) : Met l yX7_doCommit wsX7_doCommit (rmk 3 67) (WPre D (tyl cI cG cL) A EN (w μ) [.ref (ad q), .int a1]) (PI D A (w μ') r) 0 0 A := by
  have hiX7 : ∀ w ∈ u_ws RX7 TX7 13, w ∈ wsX7_doCommit := by decide +kernel
  have mf7 : Cond.fieldLink RX7 7 (TX7 0).1 (TX7 0).2.1 (TX7 0).2.2.1 ∈ wsX7_doCommit := by decide +kernel
  refine met_start (cc := cX7_doCommit) (nL := 5) (ret := (some .int)) (own := RX7) hE (by decide) rfl rfl (Nat.le_of_ble_eq_true rfl) (fun p e s m args below meth c ls X hS hl hr hlk => ?_)
  have hx := X.1.1
  have hb := X.1.2.1
  replace hl : lv_has ls 5 [(0, .ref (ad q)), (1, .int a1)] := hl
  have hb153 : ∀ (x1 : Int32) (x2 : Int32) (x3 : Int32) (s0 : Int32) (s1 : Int32) (μ : Mem) (H : Heap) (locs : List Loc) (ls : Array Slot), HS D A (w μ) s.heap H locs → lv_has ls 5 [(0, .ref (ad q)), (1, .int x1), (2, .int x2), (3, .int x3)] → f_X7_doCommit_b153 q x1 x2 x3 s0 s1 μ = some (r, μ') → W p l e (headSpec wsX7_doCommit (rmk 3 67)).room s m args below meth c H locs 0 0 (MQ below (PI D A (w μ') r) args s 0 0 A) (F0 m 153 ls [.int s0, .int s1, .ref (ad (q + 1))]) := by
    intro x1 x2 x3 s0 s1 μ H locs ls hS hl h
    unfold f_X7_doCommit_b153 at h
    obtain ⟨μ10, eμ10, h⟩ := ob h
    refine r_iast X hS hw.2.1 eμ10 dX7_doCommit_153 (fun H locs hS => ?_)
    refine lv_iload_n hx hb dX7_doCommit_154 rfl (lv_at hl 1 rfl) ?_
    refine lv_iconst (v := 3) hx hb dX7_doCommit_155 (by decide) ?_
    refine lv_icmp_ge (tgt := 181) hx hb dX7_doCommit_156 (by decide) (fun cc => ?_) (fun cc => ?_)
    · replace h := it h cc
      refine lv_aload_n hx hb dX7_doCommit_181 rfl (lv_at hl 0 rfl) ?_
      refine r_get X hS (T := TX7) (k := 0) (hw.1 μ10).1 rfl hiX7 (by decide) mf7 rfl dX7_doCommit_182 ?_
      refine lv_iload_n hx hb dX7_doCommit_185 rfl (lv_at hl 3 rfl) ?_
      refine lv_iconst (v := 2) hx hb dX7_doCommit_186 (by decide) ?_
      refine lv_iadd hx hb dX7_doCommit_187 ?_
      refine lv_iconst (v := 1) hx hb dX7_doCommit_188 (by decide) ?_
      obtain ⟨μ11, eμ11, h⟩ := ob h
      refine r_iast X hS hw.2.1 eμ11 dX7_doCommit_189 (fun H locs hS => ?_)
      refine lv_aload_n hx hb dX7_doCommit_190 rfl (lv_at hl 0 rfl) ?_
      refine r_get X hS (T := TX7) (k := 0) (hw.1 μ11).1 rfl hiX7 (by decide) mf7 rfl dX7_doCommit_191 ?_
      refine lv_sipush (v := 468) hx hb dX7_doCommit_194 (by decide) ?_
      refine lv_dup2_11 hx hb dX7_doCommit_197 rfl rfl ?_
      obtain ⟨v12, ev12, h⟩ := ob h
      refine r_iald X hS (hw.2.1 μ11).1 ev12 dX7_doCommit_198 ?_
      refine lv_iconst (v := 1) hx hb dX7_doCommit_199 (by decide) ?_
      refine lv_iadd hx hb dX7_doCommit_200 ?_
      obtain ⟨μ13, eμ13, h⟩ := ob h
      refine r_iast X hS hw.2.1 eμ13 dX7_doCommit_201 (fun H locs hS => ?_)
      refine lv_aload_n hx hb dX7_doCommit_202 rfl (lv_at hl 0 rfl) ?_
      refine lv_iload_n hx hb dX7_doCommit_203 rfl (lv_at hl 2 rfl) ?_
      obtain ⟨v14, μ15, ev14, h⟩ := ob2 h
      refine r_ci hS (r_runV (As := [.int x2]) (rest := []) X hS (c_X7_frees l hE (w := w) (ad := ad) (μ := μ13) (D := D) (cI := cI) (cG := cG) (cL := cL) hw ev14) (cwV 1 X.1.2.2.2.2 gX7_doCommit_X7_frees rfl rfl rfl (by decide +kernel) ⟨Nat.le_of_ble_eq_true rfl, Nat.le_of_ble_eq_true rfl⟩) (q0 := q) (ci := 5) rfl (hw.1 μ13).1 rfl hl.1 rfl (Nat.le_of_ble_eq_true rfl) dX7_doCommit_204 ⟨Nat.zero_le _, Nat.zero_le _⟩) (fun H locs hS => ?_)
      obtain ⟨rfl, rfl⟩ := pr2 h
      exact r_iret X hS hr hlk dX7_doCommit_207
    · replace h := ie h cc
      refine lv_aload_n hx hb dX7_doCommit_159 rfl (lv_at hl 0 rfl) ?_
      obtain ⟨v16, μ17, ev16, h⟩ := ob2 h
      refine r_ci hS (r_runV (As := []) (rest := []) X hS (c_X7_drops l hE (w := w) (ad := ad) (μ := μ10) (D := D) (cI := cI) (cG := cG) (cL := cL) hw ev16) (cwV 0 X.1.2.2.2.2 gX7_doCommit_X7_drops rfl rfl rfl (by decide +kernel) ⟨Nat.le_of_ble_eq_true rfl, Nat.le_of_ble_eq_true rfl⟩) (q0 := q) (ci := 5) rfl (hw.1 μ10).1 rfl hl.1 rfl (Nat.le_of_ble_eq_true rfl) dX7_doCommit_160 ⟨Nat.zero_le _, Nat.zero_le _⟩) (fun H locs hS => ?_)
      refine lv_istore (lv' := [(4, .int v16), (0, .ref (ad q)), (1, .int x1), (2, .int x2), (3, .int x3)]) hx hb dX7_doCommit_163 hl (by decide) rfl (fun ls hl => ?_)
      refine lv_aload_n hx hb dX7_doCommit_165 rfl (lv_at hl 1 rfl) ?_
      refine r_get X hS (T := TX7) (k := 0) (hw.1 μ17).1 rfl hiX7 (by decide) mf7 rfl dX7_doCommit_166 ?_
      refine lv_sipush (v := 469) hx hb dX7_doCommit_169 (by decide) ?_
      refine lv_dup2_11 hx hb dX7_doCommit_172 rfl rfl ?_
      obtain ⟨v18, ev18, h⟩ := ob h
      refine r_iald X hS (hw.2.1 μ17).1 ev18 dX7_doCommit_173 ?_
      refine lv_iconst (v := 1) hx hb dX7_doCommit_174 (by decide) ?_
      refine lv_iadd hx hb dX7_doCommit_175 ?_
      obtain ⟨μ19, eμ19, h⟩ := ob h
      refine r_iast X hS hw.2.1 eμ19 dX7_doCommit_176 (fun H locs hS => ?_)
      refine lv_sipush (v := (-1000)) hx hb dX7_doCommit_177 (by decide) ?_
      obtain ⟨rfl, rfl⟩ := pr2 h
      exact r_iret X hS hr hlk dX7_doCommit_180
  have hb121 : ∀ (x1 : Int32) (x2 : Int32) (x3 : Int32) (s0 : Int32) (s1 : Int32) (μ : Mem) (H : Heap) (locs : List Loc) (ls : Array Slot), HS D A (w μ) s.heap H locs → lv_has ls 5 [(0, .ref (ad q)), (1, .int x1), (2, .int x2), (3, .int x3)] → f_X7_doCommit_b121 q x1 x2 x3 s0 s1 μ = some (r, μ') → W p l e (headSpec wsX7_doCommit (rmk 3 67)).room s m args below meth c H locs 0 0 (MQ below (PI D A (w μ') r) args s 0 0 A) (F0 m 121 ls [.int s0, .int s1, .ref (ad (q + 1))]) := by
    intro x1 x2 x3 s0 s1 μ H locs ls hS hl h
    unfold f_X7_doCommit_b121 at h
    obtain ⟨μ8, eμ8, h⟩ := ob h
    refine r_iast X hS hw.2.1 eμ8 dX7_doCommit_121 (fun H locs hS => ?_)
    refine lv_aload_n hx hb dX7_doCommit_122 rfl (lv_at hl 0 rfl) ?_
    refine r_get X hS (T := TX7) (k := 0) (hw.1 μ8).1 rfl hiX7 (by decide) mf7 rfl dX7_doCommit_123 ?_
    refine lv_iload_n hx hb dX7_doCommit_126 rfl (lv_at hl 3 rfl) ?_
    refine lv_iconst (v := 1) hx hb dX7_doCommit_127 (by decide) ?_
    refine lv_iadd hx hb dX7_doCommit_128 ?_
    refine lv_iload_n hx hb dX7_doCommit_129 rfl (lv_at hl 1 rfl) ?_
    refine lv_iconst (v := 2) hx hb dX7_doCommit_130 (by decide) ?_
    refine lv_icmp_ge (tgt := 145) hx hb dX7_doCommit_131 (by decide) (fun cc => ?_) (fun cc => ?_)
    · replace h := it h cc
      refine lv_aload_n hx hb dX7_doCommit_145 rfl (lv_at hl 0 rfl) ?_
      refine r_get X hS (T := TX7) (k := 0) (hw.1 μ8).1 rfl hiX7 (by decide) mf7 rfl dX7_doCommit_146 ?_
      refine lv_sipush (v := 467) hx hb dX7_doCommit_149 (by decide) ?_
      obtain ⟨v9, ev9, h⟩ := ob h
      refine r_iald X hS (hw.2.1 μ8).1 ev9 dX7_doCommit_152 ?_
      exact hb153 x1 x2 x3 v9 (x3 + 1) μ8 _ _ _ hS (lv_sub hl [0, 1, 2, 3] rfl) h
    · replace h := ie h cc
      refine lv_aload_n hx hb dX7_doCommit_134 rfl (lv_at hl 0 rfl) ?_
      refine r_get X hS (T := TX7) (k := 0) (hw.1 μ8).1 rfl hiX7 (by decide) mf7 rfl dX7_doCommit_135 ?_
      refine lv_iload_n hx hb dX7_doCommit_138 rfl (lv_at hl 3 rfl) ?_
      refine lv_iconst (v := 1) hx hb dX7_doCommit_139 (by decide) ?_
      refine lv_iadd hx hb dX7_doCommit_140 ?_
      obtain ⟨v20, ev20, h⟩ := ob h
      refine r_iald X hS (hw.2.1 μ8).1 ev20 dX7_doCommit_141 ?_
      refine lv_goto (tgt := 153) hx hb dX7_doCommit_142 (by decide) ?_
      exact hb153 x1 x2 x3 v20 (x3 + 1) μ8 _ _ _ hS (lv_sub hl [0, 1, 2, 3] rfl) h
  have hb96 : ∀ (x1 : Int32) (x2 : Int32) (x3 : Int32) (s0 : Int32) (s1 : Int32) (μ : Mem) (H : Heap) (locs : List Loc) (ls : Array Slot), HS D A (w μ) s.heap H locs → lv_has ls 5 [(0, .ref (ad q)), (1, .int x1), (2, .int x2), (3, .int x3)] → f_X7_doCommit_b96 q x1 x2 x3 s0 s1 μ = some (r, μ') → W p l e (headSpec wsX7_doCommit (rmk 3 67)).room s m args below meth c H locs 0 0 (MQ below (PI D A (w μ') r) args s 0 0 A) (F0 m 96 ls [.int s0, .int s1, .ref (ad (q + 1))]) := by
    intro x1 x2 x3 s0 s1 μ H locs ls hS hl h
    unfold f_X7_doCommit_b96 at h
    obtain ⟨μ7, eμ7, h⟩ := ob h
    refine r_iast X hS hw.2.1 eμ7 dX7_doCommit_96 (fun H locs hS => ?_)
    refine lv_aload_n hx hb dX7_doCommit_97 rfl (lv_at hl 0 rfl) ?_
    refine r_get X hS (T := TX7) (k := 0) (hw.1 μ7).1 rfl hiX7 (by decide) mf7 rfl dX7_doCommit_98 ?_
    refine lv_iload_n hx hb dX7_doCommit_101 rfl (lv_at hl 3 rfl) ?_
    refine lv_iconst (v := 0) hx hb dX7_doCommit_102 (by decide) ?_
    refine lv_iadd hx hb dX7_doCommit_103 ?_
    refine lv_iload_n hx hb dX7_doCommit_104 rfl (lv_at hl 1 rfl) ?_
    refine lv_iconst (v := 2) hx hb dX7_doCommit_105 (by decide) ?_
    refine lv_icmp_ge (tgt := 120) hx hb dX7_doCommit_106 (by decide) (fun cc => ?_) (fun cc => ?_)
    · replace h := it h cc
      refine lv_iload_n hx hb dX7_doCommit_120 rfl (lv_at hl 2 rfl) ?_
      exact hb121 x1 x2 x3 x2 (x3 + 0) μ7 _ _ _ hS (lv_sub hl [0, 1, 2, 3] rfl) h
    · replace h := ie h cc
      refine lv_aload_n hx hb dX7_doCommit_109 rfl (lv_at hl 0 rfl) ?_
      refine r_get X hS (T := TX7) (k := 0) (hw.1 μ7).1 rfl hiX7 (by decide) mf7 rfl dX7_doCommit_110 ?_
      refine lv_iload_n hx hb dX7_doCommit_113 rfl (lv_at hl 3 rfl) ?_
      refine lv_iconst (v := 0) hx hb dX7_doCommit_114 (by decide) ?_
      refine lv_iadd hx hb dX7_doCommit_115 ?_
      obtain ⟨v21, ev21, h⟩ := ob h
      refine r_iald X hS (hw.2.1 μ7).1 ev21 dX7_doCommit_116 ?_
      refine lv_goto (tgt := 121) hx hb dX7_doCommit_117 (by decide) ?_
      exact hb121 x1 x2 x3 v21 (x3 + 0) μ7 _ _ _ hS (lv_sub hl [0, 1, 2, 3] rfl) h
  unfold f_X7_doCommit at h
  refine lv_iload_n hx hb dX7_doCommit_0 rfl (lv_at hl 1 rfl) ?_
  refine lv_iconst (v := 0) hx hb dX7_doCommit_1 (by decide) ?_
  refine lv_iconst (v := 3) hx hb dX7_doCommit_2 (by decide) ?_
  obtain ⟨v1, ev1, h⟩ := ob h
  refine r_ci hS (r_runS (As := [.int a1, .int 0, .int 3]) (rest := []) X hS (c_X7_in l hE (w := w) (ad := ad) (μ := μ) (D := D) (cI := cI) (cG := cG) (cL := cL) ev1) (va_cwS 3 X.1.2.2.2.2 gX7_doCommit_X7_in rfl rfl rfl (by decide +kernel) ⟨Nat.le_of_ble_eq_true rfl, Nat.le_of_ble_eq_true rfl⟩) rfl hl.1 rfl (Nat.le_of_ble_eq_true rfl) dX7_doCommit_3 ⟨Nat.zero_le _, Nat.zero_le _⟩) (fun H locs hS => ?_)
  refine lv_if_ne (tgt := 15) hx hb dX7_doCommit_6 (by decide) (fun cc => ?_) (fun cc => ?_)
  · replace h := ie h cc
    refine lv_aload_n hx hb dX7_doCommit_15 rfl (lv_at hl 0 rfl) ?_
    refine r_get X hS (T := TX7) (k := 0) (hw.1 μ).1 rfl hiX7 (by decide) mf7 rfl dX7_doCommit_16 ?_
    refine lv_sipush (v := 466) hx hb dX7_doCommit_19 (by decide) ?_
    obtain ⟨v2, ev2, h⟩ := ob h
    refine r_iald X hS (hw.2.1 μ).1 ev2 dX7_doCommit_22 ?_
    refine lv_if_ne (tgt := 32) hx hb dX7_doCommit_23 (by decide) (fun cc => ?_) (fun cc => ?_)
    · replace h := ie h cc
      refine lv_aload_n hx hb dX7_doCommit_32 rfl (lv_at hl 0 rfl) ?_
      refine r_get X hS (T := TX7) (k := 0) (hw.1 μ).1 rfl hiX7 (by decide) mf7 rfl dX7_doCommit_33 ?_
      refine lv_sipush (v := 467) hx hb dX7_doCommit_36 (by decide) ?_
      obtain ⟨v3, ev3, h⟩ := ob h
      refine r_iald X hS (hw.2.1 μ).1 ev3 dX7_doCommit_39 ?_
      refine lv_if_ge (tgt := 48) hx hb dX7_doCommit_40 (by decide) (fun cc => ?_) (fun cc => ?_)
      · replace h := it h cc
        refine lv_aload_n hx hb dX7_doCommit_48 rfl (lv_at hl 0 rfl) ?_
        refine lv_aload_n hx hb dX7_doCommit_49 rfl (lv_at hl 0 rfl) ?_
        obtain ⟨v4, ev4, h⟩ := ob h
        refine r_ci hS (r_runV (As := []) (rest := [.ref (ad q)]) X hS (c_X7_current l hE (w := w) (ad := ad) (μ := μ) (D := D) (cI := cI) (cG := cG) (cL := cL) hw ev4) (cwV 0 X.1.2.2.2.2 gX7_doCommit_X7_current rfl rfl rfl (by decide +kernel) ⟨Nat.le_of_ble_eq_true rfl, Nat.le_of_ble_eq_true rfl⟩) (q0 := q) (ci := 5) rfl (hw.1 μ).1 rfl hl.1 rfl (Nat.le_of_ble_eq_true rfl) dX7_doCommit_50 ⟨Nat.zero_le _, Nat.zero_le _⟩) (fun H locs hS => ?_)
        refine lv_iconst (v := 0) hx hb dX7_doCommit_53 (by decide) ?_
        obtain ⟨v5, ev5, h⟩ := ob h
        refine r_ci hS (r_runV (As := [.int v4, .int 0]) (rest := []) X hS (c_X7_ofRoot l hE (w := w) (ad := ad) (μ := μ) (D := D) (cI := cI) (cG := cG) (cL := cL) hw ev5) (cwV 2 X.1.2.2.2.2 gX7_doCommit_X7_ofRoot rfl rfl rfl (by decide +kernel) ⟨Nat.le_of_ble_eq_true rfl, Nat.le_of_ble_eq_true rfl⟩) (q0 := q) (ci := 5) rfl (hw.1 μ).1 rfl hl.1 rfl (Nat.le_of_ble_eq_true rfl) dX7_doCommit_54 ⟨Nat.zero_le _, Nat.zero_le _⟩) (fun H locs hS => ?_)
        refine lv_iconst (v := 1) hx hb dX7_doCommit_57 (by decide) ?_
        refine lv_iadd hx hb dX7_doCommit_58 ?_
        refine lv_istore_n (lv' := [(2, .int (v5 + 1)), (0, .ref (ad q)), (1, .int a1)]) hx hb dX7_doCommit_59 rfl hl (by decide) rfl (fun ls hl => ?_)
        refine lv_sipush (v := 448) hx hb dX7_doCommit_60 (by decide) ?_
        refine lv_iconst (v := 3) hx hb dX7_doCommit_63 (by decide) ?_
        refine lv_iconst (v := 1) hx hb dX7_doCommit_64 (by decide) ?_
        refine lv_aload_n hx hb dX7_doCommit_65 rfl (lv_at hl 1 rfl) ?_
        obtain ⟨v6, ev6, h⟩ := ob h
        refine r_ci hS (r_runV (As := []) (rest := [.int 1, .int 3, .int 448]) X hS (c_X7_current l hE (w := w) (ad := ad) (μ := μ) (D := D) (cI := cI) (cG := cG) (cL := cL) hw ev6) (cwV 0 X.1.2.2.2.2 gX7_doCommit_X7_current rfl rfl rfl (by decide +kernel) ⟨Nat.le_of_ble_eq_true rfl, Nat.le_of_ble_eq_true rfl⟩) (q0 := q) (ci := 5) rfl (hw.1 μ).1 rfl hl.1 rfl (Nat.le_of_ble_eq_true rfl) dX7_doCommit_66 ⟨Nat.zero_le _, Nat.zero_le _⟩) (fun H locs hS => ?_)
        refine lv_isub hx hb dX7_doCommit_69 ?_
        refine lv_imul hx hb dX7_doCommit_70 ?_
        refine lv_iadd hx hb dX7_doCommit_71 ?_
        refine lv_istore_n (lv' := [(3, .int (448 + (3 * (1 - v6)))), (2, .int (v5 + 1)), (0, .ref (ad q)), (1, .int a1)]) hx hb dX7_doCommit_72 rfl hl (by decide) rfl (fun ls hl => ?_)
        refine lv_aload_n hx hb dX7_doCommit_73 rfl (lv_at hl 2 rfl) ?_
        refine r_get X hS (T := TX7) (k := 0) (hw.1 μ).1 rfl hiX7 (by decide) mf7 rfl dX7_doCommit_74 ?_
        refine lv_iload_n hx hb dX7_doCommit_77 rfl (lv_at hl 0 rfl) ?_
        refine lv_iconst (v := 2) hx hb dX7_doCommit_78 (by decide) ?_
        refine lv_iadd hx hb dX7_doCommit_79 ?_
        refine lv_iload_n hx hb dX7_doCommit_80 rfl (lv_at hl 3 rfl) ?_
        refine lv_if_ne (tgt := 95) hx hb dX7_doCommit_81 (by decide) (fun cc => ?_) (fun cc => ?_)
        · replace h := ie h cc
          refine lv_iconst (v := 0) hx hb dX7_doCommit_95 (by decide) ?_
          exact hb96 a1 (v5 + 1) (448 + (3 * (1 - v6))) 0 ((448 + (3 * (1 - v6))) + 2) μ _ _ _ hS (lv_sub hl [2, 3, 1, 0] rfl) h
        · replace h := it h cc
          refine lv_aload_n hx hb dX7_doCommit_84 rfl (lv_at hl 2 rfl) ?_
          refine r_get X hS (T := TX7) (k := 0) (hw.1 μ).1 rfl hiX7 (by decide) mf7 rfl dX7_doCommit_85 ?_
          refine lv_iload_n hx hb dX7_doCommit_88 rfl (lv_at hl 0 rfl) ?_
          refine lv_iconst (v := 2) hx hb dX7_doCommit_89 (by decide) ?_
          refine lv_iadd hx hb dX7_doCommit_90 ?_
          obtain ⟨v22, ev22, h⟩ := ob h
          refine r_iald X hS (hw.2.1 μ).1 ev22 dX7_doCommit_91 ?_
          refine lv_goto (tgt := 96) hx hb dX7_doCommit_92 (by decide) ?_
          exact hb96 a1 (v5 + 1) (448 + (3 * (1 - v6))) v22 ((448 + (3 * (1 - v6))) + 2) μ _ _ _ hS (lv_sub hl [2, 3, 1, 0] rfl) h
      · replace h := ie h cc
        refine lv_aload_n hx hb dX7_doCommit_43 rfl (lv_at hl 0 rfl) ?_
        obtain ⟨v23, μ24, ev23, h⟩ := ob2 h
        refine r_ci hS (r_runV (As := []) (rest := []) X hS (c_X7_drops l hE (w := w) (ad := ad) (μ := μ) (D := D) (cI := cI) (cG := cG) (cL := cL) hw ev23) (cwV 0 X.1.2.2.2.2 gX7_doCommit_X7_drops rfl rfl rfl (by decide +kernel) ⟨Nat.le_of_ble_eq_true rfl, Nat.le_of_ble_eq_true rfl⟩) (q0 := q) (ci := 5) rfl (hw.1 μ).1 rfl hl.1 rfl (Nat.le_of_ble_eq_true rfl) dX7_doCommit_44 ⟨Nat.zero_le _, Nat.zero_le _⟩) (fun H locs hS => ?_)
        obtain ⟨rfl, rfl⟩ := pr2 h
        exact r_iret X hS hr hlk dX7_doCommit_47
    · replace h := it h cc
      refine lv_aload_n hx hb dX7_doCommit_26 rfl (lv_at hl 0 rfl) ?_
      refine lv_iconst (v := 2) hx hb dX7_doCommit_27 (by decide) ?_
      obtain ⟨v25, μ26, ev25, h⟩ := ob2 h
      refine r_ci hS (r_runV (As := [.int 2]) (rest := []) X hS (c_X7_refuse l hE (w := w) (ad := ad) (μ := μ) (D := D) (cI := cI) (cG := cG) (cL := cL) hw ev25) (cwV 1 X.1.2.2.2.2 gX7_doCommit_X7_refuse rfl rfl rfl (by decide +kernel) ⟨Nat.le_of_ble_eq_true rfl, Nat.le_of_ble_eq_true rfl⟩) (q0 := q) (ci := 5) rfl (hw.1 μ).1 rfl hl.1 rfl (Nat.le_of_ble_eq_true rfl) dX7_doCommit_28 ⟨Nat.zero_le _, Nat.zero_le _⟩) (fun H locs hS => ?_)
      obtain ⟨rfl, rfl⟩ := pr2 h
      exact r_iret X hS hr hlk dX7_doCommit_31
  · replace h := it h cc
    refine lv_aload_n hx hb dX7_doCommit_9 rfl (lv_at hl 0 rfl) ?_
    refine lv_iconst (v := 1) hx hb dX7_doCommit_10 (by decide) ?_
    obtain ⟨v27, μ28, ev27, h⟩ := ob2 h
    refine r_ci hS (r_runV (As := [.int 1]) (rest := []) X hS (c_X7_refuse l hE (w := w) (ad := ad) (μ := μ) (D := D) (cI := cI) (cG := cG) (cL := cL) hw ev27) (cwV 1 X.1.2.2.2.2 gX7_doCommit_X7_refuse rfl rfl rfl (by decide +kernel) ⟨Nat.le_of_ble_eq_true rfl, Nat.le_of_ble_eq_true rfl⟩) (q0 := q) (ci := 5) rfl (hw.1 μ).1 rfl hl.1 rfl (Nat.le_of_ble_eq_true rfl) dX7_doCommit_11 ⟨Nat.zero_le _, Nat.zero_le _⟩) (fun H locs hS => ?_)
    obtain ⟨rfl, rfl⟩ := pr2 h
    exact r_iret X hS hr hlk dX7_doCommit_14
