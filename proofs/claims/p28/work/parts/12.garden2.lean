def f_X4_putEntry_b174 (q : Nat)  (μ : Mem) : Option (Int32 × Mem) := (some ((-1000), μ))
def f_X4_putEntry (q : Nat) (a1 : Int32) (a2 : Int32) (μ : Mem) : Option (Int32 × Mem) := (f_X4_ownDirectory q μ).bind (fun μ1 => (f_X1_leafPlace (q + 1) (μ1 q 7) a1 μ1).bind (fun v2 => (if v2 = (-1000) then bn2 (f_X4_dig q 0 μ1) (fun v14 μ15 => (f_X1_insertEntry (q + 1) v14 a1 a2 μ15).bind (fun μ16 => (f_X1_insertLeaf (q + 1) (μ16 q 7) 0 v14 μ16).bind (fun μ17 => (some ((-1000), μ17))))) else bn2 (f_X4_ownLeaf q v2 μ1) (fun v3 μ4 => (f_X1_entryPlace (q + 1) v3 a1 μ4).bind (fun v5 => (if v5 = (-1000) then (f_X1_insertEntry (q + 1) v3 a1 a2 μ4).bind (fun μ6 => (f_X1_sizeOf (q + 1) v3 μ6).bind (fun v7 => (if v7 ≤ 4 then f_X4_putEntry_b174 q μ6 else bn2 (f_X4_dig q 0 μ6) (fun v8 μ9 => (f_X1_splitLeaf (q + 1) v3 v8 μ9).bind (fun μ10 => (f_X1_insertLeaf (q + 1) (μ10 q 7) (v2 + 1) v8 μ10).bind (fun μ11 => f_X4_putEntry_b174 q μ11)))))) else (f_X1_valueAt (q + 1) v3 v5 μ4).bind (fun v12 => (f_X1_setEntry (q + 1) v3 v5 a1 a2 μ4).bind (fun μ13 => (some (v12, μ13))))))))))
set_option maxHeartbeats 4000000 in
set_option maxRecDepth 100000 in
theorem c_X4_putEntry (l : Launch) {D : va_G} {cI cG cL : ClassId} {A : Nat → Prop} {EN : State → Heap → Prop} (hE : EnOK EN A) {w : Mem → va_W} {ad : Nat → Nat} {q : Nat} {a1 : Int32} {a2 : Int32} {μ : Mem} {r : Int32} {μ' : Mem} (hw : GardenAt cI w ad q) (h : f_X4_putEntry q a1 a2 μ = some (r, μ')) : Met l yX4_putEntry wsX4_putEntry (rmk 4 95) (WPre D (tyl cI cG cL) A EN (w μ) [.ref (ad q), .int a1, .int a2]) (PI D A (w μ') r) 0 0 A := by
  have hiX4 : ∀ w ∈ u_ws RX4 TX4 10, w ∈ wsX4_putEntry := by decide +kernel
  have mf12 : Cond.fieldLink RX4 12 (TX4 0).1 (TX4 0).2.1 (TX4 0).2.2.1 ∈ wsX4_putEntry := by decide +kernel
  have mf38 : Cond.fieldLink RX4 38 (TX4 7).1 (TX4 7).2.1 (TX4 7).2.2.1 ∈ wsX4_putEntry := by decide +kernel
  refine met_start (cc := cX4_putEntry) (nL := 7) (ret := (some .int)) (own := RX4) hE (by decide) rfl rfl (Nat.le_of_ble_eq_true rfl) (fun p e s m args below meth c ls X hS hl hr hlk => ?_)
  have hx := X.1.1
  have hb := X.1.2.1
  replace hl : lv_has ls 7 [(0, .ref (ad q)), (1, .int a1), (2, .int a2)] := hl
  have hb174 : ∀  (μ : Mem) (H : Heap) (locs : List Loc) (ls : Array Slot), HS D A (w μ) s.heap H locs → lv_has ls 7 [] → f_X4_putEntry_b174 q μ = some (r, μ') → W p l e (headSpec wsX4_putEntry (rmk 4 95)).room s m args below meth c H locs 0 0 (MQ below (PI D A (w μ') r) args s 0 0 A) (F0 m 174 ls []) := by
    intro μ H locs ls hS hl h
    unfold f_X4_putEntry_b174 at h
    refine lv_sipush (v := (-1000)) hx hb dX4_putEntry_174 (by decide) ?_
    obtain ⟨rfl, rfl⟩ := pr2 h
    exact r_iret X hS hr hlk dX4_putEntry_177
  unfold f_X4_putEntry at h
  refine lv_aload_n hx hb dX4_putEntry_0 rfl (lv_at hl 0 rfl) ?_
  obtain ⟨μ1, eμ1, h⟩ := ob h
  refine r_cv hS (r_runV (As := []) (rest := []) X hS (c_X4_ownDirectory l hE (w := w) (ad := ad) (μ := μ) (D := D) (cI := cI) (cG := cG) (cL := cL) hw eμ1) (cwV 0 X.1.2.2.2.2 gX4_putEntry_X4_ownDirectory rfl rfl rfl (by decide +kernel) ⟨Nat.le_of_ble_eq_true rfl, Nat.le_of_ble_eq_true rfl⟩) (q0 := q) (ci := 2) rfl (hw.1 μ).1 rfl hl.1 rfl (Nat.le_of_ble_eq_true rfl) dX4_putEntry_1 ⟨Nat.zero_le _, Nat.zero_le _⟩) (fun H locs hS => ?_)
  refine lv_aload_n hx hb dX4_putEntry_4 rfl (lv_at hl 0 rfl) ?_
  refine r_get X hS (T := TX4) (k := 0) (hw.1 μ1).1 rfl hiX4 (by decide) mf12 rfl dX4_putEntry_5 ?_
  refine lv_aload_n hx hb dX4_putEntry_8 rfl (lv_at hl 0 rfl) ?_
  refine r_get X hS (T := TX4) (k := 7) (hw.1 μ1).1 rfl hiX4 (by decide) mf38 rfl dX4_putEntry_9 ?_
  refine lv_iload_n hx hb dX4_putEntry_12 rfl (lv_at hl 1 rfl) ?_
  obtain ⟨v2, ev2, h⟩ := ob h
  refine r_ci hS (r_runV (As := [.int (μ1 q 7), .int a1]) (rest := []) X hS (c_X1_leafPlace l hE (w := w) (ad := ad) (μ := μ1) (D := D) (cI := cI) (cG := cG) (cL := cL) hw.2.1 ev2) (cwV 2 X.1.2.2.2.2 gX4_putEntry_X1_leafPlace rfl rfl rfl (by decide +kernel) ⟨Nat.le_of_ble_eq_true rfl, Nat.le_of_ble_eq_true rfl⟩) (q0 := (q + 1)) (ci := 0) rfl (hw.2.1.1 μ1).1 rfl hl.1 rfl (Nat.le_of_ble_eq_true rfl) dX4_putEntry_13 ⟨Nat.zero_le _, Nat.zero_le _⟩) (fun H locs hS => ?_)
  refine lv_istore_n (lv' := [(3, .int v2), (0, .ref (ad q)), (1, .int a1), (2, .int a2)]) hx hb dX4_putEntry_16 rfl hl (by decide) rfl (fun ls hl => ?_)
  refine lv_iload_n hx hb dX4_putEntry_17 rfl (lv_at hl 0 rfl) ?_
  refine lv_sipush (v := (-1000)) hx hb dX4_putEntry_18 (by decide) ?_
  refine lv_icmp_ne (tgt := 60) hx hb dX4_putEntry_21 (by decide) (fun cc => ?_) (fun cc => ?_)
  · replace h := ie h cc
    refine lv_aload_n hx hb dX4_putEntry_60 rfl (lv_at hl 1 rfl) ?_
    refine lv_iload_n hx hb dX4_putEntry_61 rfl (lv_at hl 0 rfl) ?_
    obtain ⟨v3, μ4, ev3, h⟩ := ob2 h
    refine r_ci hS (r_runV (As := [.int v2]) (rest := []) X hS (c_X4_ownLeaf l hE (w := w) (ad := ad) (μ := μ1) (D := D) (cI := cI) (cG := cG) (cL := cL) hw ev3) (cwV 1 X.1.2.2.2.2 gX4_putEntry_X4_ownLeaf rfl rfl rfl (by decide +kernel) ⟨Nat.le_of_ble_eq_true rfl, Nat.le_of_ble_eq_true rfl⟩) (q0 := q) (ci := 2) rfl (hw.1 μ1).1 rfl hl.1 rfl (Nat.le_of_ble_eq_true rfl) dX4_putEntry_62 ⟨Nat.zero_le _, Nat.zero_le _⟩) (fun H locs hS => ?_)
    refine lv_istore (lv' := [(4, .int v3), (3, .int v2), (0, .ref (ad q)), (1, .int a1), (2, .int a2)]) hx hb dX4_putEntry_65 hl (by decide) rfl (fun ls hl => ?_)
    refine lv_aload_n hx hb dX4_putEntry_67 rfl (lv_at hl 2 rfl) ?_
    refine r_get X hS (T := TX4) (k := 0) (hw.1 μ4).1 rfl hiX4 (by decide) mf12 rfl dX4_putEntry_68 ?_
    refine lv_iload hx hb dX4_putEntry_71 (lv_at hl 0 rfl) ?_
    refine lv_iload_n hx hb dX4_putEntry_73 rfl (lv_at hl 3 rfl) ?_
    obtain ⟨v5, ev5, h⟩ := ob h
    refine r_ci hS (r_runV (As := [.int v3, .int a1]) (rest := []) X hS (c_X1_entryPlace l hE (w := w) (ad := ad) (μ := μ4) (D := D) (cI := cI) (cG := cG) (cL := cL) hw.2.1 ev5) (cwV 2 X.1.2.2.2.2 gX4_putEntry_X1_entryPlace rfl rfl rfl (by decide +kernel) ⟨Nat.le_of_ble_eq_true rfl, Nat.le_of_ble_eq_true rfl⟩) (q0 := (q + 1)) (ci := 0) rfl (hw.2.1.1 μ4).1 rfl hl.1 rfl (Nat.le_of_ble_eq_true rfl) dX4_putEntry_74 ⟨Nat.zero_le _, Nat.zero_le _⟩) (fun H locs hS => ?_)
    refine lv_istore (lv' := [(5, .int v5), (4, .int v3), (3, .int v2), (0, .ref (ad q)), (1, .int a1), (2, .int a2)]) hx hb dX4_putEntry_77 hl (by decide) rfl (fun ls hl => ?_)
    refine lv_iload hx hb dX4_putEntry_79 (lv_at hl 0 rfl) ?_
    refine lv_sipush (v := (-1000)) hx hb dX4_putEntry_81 (by decide) ?_
    refine lv_icmp_eq (tgt := 116) hx hb dX4_putEntry_84 (by decide) (fun cc => ?_) (fun cc => ?_)
    · replace h := it h cc
      refine lv_aload_n hx hb dX4_putEntry_116 rfl (lv_at hl 3 rfl) ?_
      refine r_get X hS (T := TX4) (k := 0) (hw.1 μ4).1 rfl hiX4 (by decide) mf12 rfl dX4_putEntry_117 ?_
      refine lv_iload hx hb dX4_putEntry_120 (lv_at hl 1 rfl) ?_
      refine lv_iload_n hx hb dX4_putEntry_122 rfl (lv_at hl 4 rfl) ?_
      refine lv_iload_n hx hb dX4_putEntry_123 rfl (lv_at hl 5 rfl) ?_
      obtain ⟨μ6, eμ6, h⟩ := ob h
      refine r_cv hS (r_runV (As := [.int v3, .int a1, .int a2]) (rest := []) X hS (c_X1_insertEntry l hE (w := w) (ad := ad) (μ := μ4) (D := D) (cI := cI) (cG := cG) (cL := cL) hw.2.1 eμ6) (cwV 3 X.1.2.2.2.2 gX4_putEntry_X1_insertEntry rfl rfl rfl (by decide +kernel) ⟨Nat.le_of_ble_eq_true rfl, Nat.le_of_ble_eq_true rfl⟩) (q0 := (q + 1)) (ci := 0) rfl (hw.2.1.1 μ4).1 rfl hl.1 rfl (Nat.le_of_ble_eq_true rfl) dX4_putEntry_124 ⟨Nat.zero_le _, Nat.zero_le _⟩) (fun H locs hS => ?_)
      refine lv_aload_n hx hb dX4_putEntry_127 rfl (lv_at hl 3 rfl) ?_
      refine r_get X hS (T := TX4) (k := 0) (hw.1 μ6).1 rfl hiX4 (by decide) mf12 rfl dX4_putEntry_128 ?_
      refine lv_iload hx hb dX4_putEntry_131 (lv_at hl 1 rfl) ?_
      obtain ⟨v7, ev7, h⟩ := ob h
      refine r_ci hS (r_runV (As := [.int v3]) (rest := []) X hS (c_X1_sizeOf l hE (w := w) (ad := ad) (μ := μ6) (D := D) (cI := cI) (cG := cG) (cL := cL) hw.2.1 ev7) (cwV 1 X.1.2.2.2.2 gX4_putEntry_X1_sizeOf rfl rfl rfl (by decide +kernel) ⟨Nat.le_of_ble_eq_true rfl, Nat.le_of_ble_eq_true rfl⟩) (q0 := (q + 1)) (ci := 0) rfl (hw.2.1.1 μ6).1 rfl hl.1 rfl (Nat.le_of_ble_eq_true rfl) dX4_putEntry_133 ⟨Nat.zero_le _, Nat.zero_le _⟩) (fun H locs hS => ?_)
      refine lv_iconst (v := 4) hx hb dX4_putEntry_136 (by decide) ?_
      refine lv_icmp_le (tgt := 174) hx hb dX4_putEntry_137 (by decide) (fun cc => ?_) (fun cc => ?_)
      · replace h := it h cc
        exact hb174 μ6 _ _ _ hS (lv_sub hl [] rfl) h
      · replace h := ie h cc
        refine lv_aload_n hx hb dX4_putEntry_140 rfl (lv_at hl 3 rfl) ?_
        refine lv_iconst (v := 0) hx hb dX4_putEntry_141 (by decide) ?_
        obtain ⟨v8, μ9, ev8, h⟩ := ob2 h
        refine r_ci hS (r_runV (As := [.int 0]) (rest := []) X hS (c_X4_dig l hE (w := w) (ad := ad) (μ := μ6) (D := D) (cI := cI) (cG := cG) (cL := cL) hw ev8) (cwV 1 X.1.2.2.2.2 gX4_putEntry_X4_dig rfl rfl rfl (by decide +kernel) ⟨Nat.le_of_ble_eq_true rfl, Nat.le_of_ble_eq_true rfl⟩) (q0 := q) (ci := 2) rfl (hw.1 μ6).1 rfl hl.1 rfl (Nat.le_of_ble_eq_true rfl) dX4_putEntry_142 ⟨Nat.zero_le _, Nat.zero_le _⟩) (fun H locs hS => ?_)
        refine lv_istore (lv' := [(6, .int v8), (5, .int v5), (4, .int v3), (3, .int v2), (0, .ref (ad q)), (1, .int a1), (2, .int a2)]) hx hb dX4_putEntry_145 hl (by decide) rfl (fun ls hl => ?_)
        refine lv_aload_n hx hb dX4_putEntry_147 rfl (lv_at hl 4 rfl) ?_
        refine r_get X hS (T := TX4) (k := 0) (hw.1 μ9).1 rfl hiX4 (by decide) mf12 rfl dX4_putEntry_148 ?_
        refine lv_iload hx hb dX4_putEntry_151 (lv_at hl 2 rfl) ?_
        refine lv_iload hx hb dX4_putEntry_153 (lv_at hl 0 rfl) ?_
        obtain ⟨μ10, eμ10, h⟩ := ob h
        refine r_cv hS (r_runV (As := [.int v3, .int v8]) (rest := []) X hS (c_X1_splitLeaf l hE (w := w) (ad := ad) (μ := μ9) (D := D) (cI := cI) (cG := cG) (cL := cL) hw.2.1 eμ10) (cwV 2 X.1.2.2.2.2 gX4_putEntry_X1_splitLeaf rfl rfl rfl (by decide +kernel) ⟨Nat.le_of_ble_eq_true rfl, Nat.le_of_ble_eq_true rfl⟩) (q0 := (q + 1)) (ci := 0) rfl (hw.2.1.1 μ9).1 rfl hl.1 rfl (Nat.le_of_ble_eq_true rfl) dX4_putEntry_155 ⟨Nat.zero_le _, Nat.zero_le _⟩) (fun H locs hS => ?_)
        refine lv_aload_n hx hb dX4_putEntry_158 rfl (lv_at hl 4 rfl) ?_
        refine r_get X hS (T := TX4) (k := 0) (hw.1 μ10).1 rfl hiX4 (by decide) mf12 rfl dX4_putEntry_159 ?_
        refine lv_aload_n hx hb dX4_putEntry_162 rfl (lv_at hl 4 rfl) ?_
        refine r_get X hS (T := TX4) (k := 7) (hw.1 μ10).1 rfl hiX4 (by decide) mf38 rfl dX4_putEntry_163 ?_
        refine lv_iload_n hx hb dX4_putEntry_166 rfl (lv_at hl 3 rfl) ?_
        refine lv_iconst (v := 1) hx hb dX4_putEntry_167 (by decide) ?_
        refine lv_iadd hx hb dX4_putEntry_168 ?_
        refine lv_iload hx hb dX4_putEntry_169 (lv_at hl 0 rfl) ?_
        obtain ⟨μ11, eμ11, h⟩ := ob h
        refine r_cv hS (r_runV (As := [.int (μ10 q 7), .int (v2 + 1), .int v8]) (rest := []) X hS (c_X1_insertLeaf l hE (w := w) (ad := ad) (μ := μ10) (D := D) (cI := cI) (cG := cG) (cL := cL) hw.2.1 eμ11) (cwV 3 X.1.2.2.2.2 gX4_putEntry_X1_insertLeaf rfl rfl rfl (by decide +kernel) ⟨Nat.le_of_ble_eq_true rfl, Nat.le_of_ble_eq_true rfl⟩) (q0 := (q + 1)) (ci := 0) rfl (hw.2.1.1 μ10).1 rfl hl.1 rfl (Nat.le_of_ble_eq_true rfl) dX4_putEntry_171 ⟨Nat.zero_le _, Nat.zero_le _⟩) (fun H locs hS => ?_)
        exact hb174 μ11 _ _ _ hS (lv_sub hl [] rfl) h
    · replace h := ie h cc
      refine lv_aload_n hx hb dX4_putEntry_87 rfl (lv_at hl 3 rfl) ?_
      refine r_get X hS (T := TX4) (k := 0) (hw.1 μ4).1 rfl hiX4 (by decide) mf12 rfl dX4_putEntry_88 ?_
      refine lv_iload hx hb dX4_putEntry_91 (lv_at hl 1 rfl) ?_
      refine lv_iload hx hb dX4_putEntry_93 (lv_at hl 0 rfl) ?_
      obtain ⟨v12, ev12, h⟩ := ob h
      refine r_ci hS (r_runV (As := [.int v3, .int v5]) (rest := []) X hS (c_X1_valueAt l hE (w := w) (ad := ad) (μ := μ4) (D := D) (cI := cI) (cG := cG) (cL := cL) hw.2.1 ev12) (cwV 2 X.1.2.2.2.2 gX4_putEntry_X1_valueAt rfl rfl rfl (by decide +kernel) ⟨Nat.le_of_ble_eq_true rfl, Nat.le_of_ble_eq_true rfl⟩) (q0 := (q + 1)) (ci := 0) rfl (hw.2.1.1 μ4).1 rfl hl.1 rfl (Nat.le_of_ble_eq_true rfl) dX4_putEntry_95 ⟨Nat.zero_le _, Nat.zero_le _⟩) (fun H locs hS => ?_)
      refine lv_istore (lv' := [(6, .int v12), (5, .int v5), (4, .int v3), (3, .int v2), (0, .ref (ad q)), (1, .int a1), (2, .int a2)]) hx hb dX4_putEntry_98 hl (by decide) rfl (fun ls hl => ?_)
      refine lv_aload_n hx hb dX4_putEntry_100 rfl (lv_at hl 4 rfl) ?_
      refine r_get X hS (T := TX4) (k := 0) (hw.1 μ4).1 rfl hiX4 (by decide) mf12 rfl dX4_putEntry_101 ?_
      refine lv_iload hx hb dX4_putEntry_104 (lv_at hl 2 rfl) ?_
      refine lv_iload hx hb dX4_putEntry_106 (lv_at hl 1 rfl) ?_
      refine lv_iload_n hx hb dX4_putEntry_108 rfl (lv_at hl 5 rfl) ?_
      refine lv_iload_n hx hb dX4_putEntry_109 rfl (lv_at hl 6 rfl) ?_
      obtain ⟨μ13, eμ13, h⟩ := ob h
      refine r_cv hS (r_runV (As := [.int v3, .int v5, .int a1, .int a2]) (rest := []) X hS (c_X1_setEntry l hE (w := w) (ad := ad) (μ := μ4) (D := D) (cI := cI) (cG := cG) (cL := cL) hw.2.1 eμ13) (cwV 4 X.1.2.2.2.2 gX4_putEntry_X1_setEntry rfl rfl rfl (by decide +kernel) ⟨Nat.le_of_ble_eq_true rfl, Nat.le_of_ble_eq_true rfl⟩) (q0 := (q + 1)) (ci := 0) rfl (hw.2.1.1 μ4).1 rfl hl.1 rfl (Nat.le_of_ble_eq_true rfl) dX4_putEntry_110 ⟨Nat.zero_le _, Nat.zero_le _⟩) (fun H locs hS => ?_)
      refine lv_iload hx hb dX4_putEntry_113 (lv_at hl 0 rfl) ?_
      obtain ⟨rfl, rfl⟩ := pr2 h
      exact r_iret X hS hr hlk dX4_putEntry_115
  · replace h := it h cc
    refine lv_aload_n hx hb dX4_putEntry_24 rfl (lv_at hl 1 rfl) ?_
    refine lv_iconst (v := 0) hx hb dX4_putEntry_25 (by decide) ?_
    obtain ⟨v14, μ15, ev14, h⟩ := ob2 h
    refine r_ci hS (r_runV (As := [.int 0]) (rest := []) X hS (c_X4_dig l hE (w := w) (ad := ad) (μ := μ1) (D := D) (cI := cI) (cG := cG) (cL := cL) hw ev14) (cwV 1 X.1.2.2.2.2 gX4_putEntry_X4_dig rfl rfl rfl (by decide +kernel) ⟨Nat.le_of_ble_eq_true rfl, Nat.le_of_ble_eq_true rfl⟩) (q0 := q) (ci := 2) rfl (hw.1 μ1).1 rfl hl.1 rfl (Nat.le_of_ble_eq_true rfl) dX4_putEntry_26 ⟨Nat.zero_le _, Nat.zero_le _⟩) (fun H locs hS => ?_)
    refine lv_istore (lv' := [(4, .int v14), (3, .int v2), (0, .ref (ad q)), (1, .int a1), (2, .int a2)]) hx hb dX4_putEntry_29 hl (by decide) rfl (fun ls hl => ?_)
    refine lv_aload_n hx hb dX4_putEntry_31 rfl (lv_at hl 2 rfl) ?_
    refine r_get X hS (T := TX4) (k := 0) (hw.1 μ15).1 rfl hiX4 (by decide) mf12 rfl dX4_putEntry_32 ?_
    refine lv_iload hx hb dX4_putEntry_35 (lv_at hl 0 rfl) ?_
    refine lv_iload_n hx hb dX4_putEntry_37 rfl (lv_at hl 3 rfl) ?_
    refine lv_iload_n hx hb dX4_putEntry_38 rfl (lv_at hl 4 rfl) ?_
    obtain ⟨μ16, eμ16, h⟩ := ob h
    refine r_cv hS (r_runV (As := [.int v14, .int a1, .int a2]) (rest := []) X hS (c_X1_insertEntry l hE (w := w) (ad := ad) (μ := μ15) (D := D) (cI := cI) (cG := cG) (cL := cL) hw.2.1 eμ16) (cwV 3 X.1.2.2.2.2 gX4_putEntry_X1_insertEntry rfl rfl rfl (by decide +kernel) ⟨Nat.le_of_ble_eq_true rfl, Nat.le_of_ble_eq_true rfl⟩) (q0 := (q + 1)) (ci := 0) rfl (hw.2.1.1 μ15).1 rfl hl.1 rfl (Nat.le_of_ble_eq_true rfl) dX4_putEntry_39 ⟨Nat.zero_le _, Nat.zero_le _⟩) (fun H locs hS => ?_)
    refine lv_aload_n hx hb dX4_putEntry_42 rfl (lv_at hl 2 rfl) ?_
    refine r_get X hS (T := TX4) (k := 0) (hw.1 μ16).1 rfl hiX4 (by decide) mf12 rfl dX4_putEntry_43 ?_
    refine lv_aload_n hx hb dX4_putEntry_46 rfl (lv_at hl 2 rfl) ?_
    refine r_get X hS (T := TX4) (k := 7) (hw.1 μ16).1 rfl hiX4 (by decide) mf38 rfl dX4_putEntry_47 ?_
    refine lv_iconst (v := 0) hx hb dX4_putEntry_50 (by decide) ?_
    refine lv_iload hx hb dX4_putEntry_51 (lv_at hl 0 rfl) ?_
    obtain ⟨μ17, eμ17, h⟩ := ob h
    refine r_cv hS (r_runV (As := [.int (μ16 q 7), .int 0, .int v14]) (rest := []) X hS (c_X1_insertLeaf l hE (w := w) (ad := ad) (μ := μ16) (D := D) (cI := cI) (cG := cG) (cL := cL) hw.2.1 eμ17) (cwV 3 X.1.2.2.2.2 gX4_putEntry_X1_insertLeaf rfl rfl rfl (by decide +kernel) ⟨Nat.le_of_ble_eq_true rfl, Nat.le_of_ble_eq_true rfl⟩) (q0 := (q + 1)) (ci := 0) rfl (hw.2.1.1 μ16).1 rfl hl.1 rfl (Nat.le_of_ble_eq_true rfl) dX4_putEntry_53 ⟨Nat.zero_le _, Nat.zero_le _⟩) (fun H locs hS => ?_)
    refine lv_sipush (v := (-1000)) hx hb dX4_putEntry_56 (by decide) ?_
    obtain ⟨rfl, rfl⟩ := pr2 h
    exact r_iret X hS hr hlk dX4_putEntry_59
def f_X4_removeEntry_b110 (q : Nat) (x4 : Int32) (μ : Mem) : Option (Int32 × Mem) := (some (x4, μ))
def f_X4_removeEntry (q : Nat) (a1 : Int32) (μ : Mem) : Option (Int32 × Mem) := (f_X4_ownDirectory q μ).bind (fun μ1 => (f_X1_leafPlace (q + 1) (μ1 q 7) a1 μ1).bind (fun v2 => (f_X1_leafAt (q + 1) (μ1 q 7) v2 μ1).bind (fun v3 => (f_X1_entryPlace (q + 1) v3 a1 μ1).bind (fun v4 => (f_X1_valueAt (q + 1) v3 v4 μ1).bind (fun v5 => (f_X1_sizeOf (q + 1) v3 μ1).bind (fun v6 => (if v6 = 1 then (f_X1_cutLeaf (q + 1) (μ1 q 7) v2 μ1).bind (fun μ11 => (f_X1_leave (q + 1) v3 μ11).bind (fun μ12 => f_X4_removeEntry_b110 q v5 μ12)) else bn2 (f_X4_ownLeaf q v2 μ1) (fun v7 μ8 => (f_X1_entryPlace (q + 1) v7 a1 μ8).bind (fun v9 => (f_X1_cutEntry (q + 1) v7 v9 μ8).bind (fun μ10 => f_X4_removeEntry_b110 q v5 μ10))))))))))
set_option maxHeartbeats 4000000 in
set_option maxRecDepth 100000 in
theorem c_X4_removeEntry (l : Launch) {D : va_G} {cI cG cL : ClassId} {A : Nat → Prop} {EN : State → Heap → Prop} (hE : EnOK EN A) {w : Mem → va_W} {ad : Nat → Nat} {q : Nat} {a1 : Int32} {μ : Mem} {r : Int32} {μ' : Mem} (hw : GardenAt cI w ad q) (h : f_X4_removeEntry q a1 μ = some (r, μ')) : Met l yX4_removeEntry wsX4_removeEntry (rmk 4 95) (WPre D (tyl cI cG cL) A EN (w μ) [.ref (ad q), .int a1]) (PI D A (w μ') r) 0 0 A := by
  have hiX4 : ∀ w ∈ u_ws RX4 TX4 10, w ∈ wsX4_removeEntry := by decide +kernel
  have mf12 : Cond.fieldLink RX4 12 (TX4 0).1 (TX4 0).2.1 (TX4 0).2.2.1 ∈ wsX4_removeEntry := by decide +kernel
  have mf38 : Cond.fieldLink RX4 38 (TX4 7).1 (TX4 7).2.1 (TX4 7).2.2.1 ∈ wsX4_removeEntry := by decide +kernel
  refine met_start (cc := cX4_removeEntry) (nL := 6) (ret := (some .int)) (own := RX4) hE (by decide) rfl rfl (Nat.le_of_ble_eq_true rfl) (fun p e s m args below meth c ls X hS hl hr hlk => ?_)
  have hx := X.1.1
  have hb := X.1.2.1
  replace hl : lv_has ls 6 [(0, .ref (ad q)), (1, .int a1)] := hl
  have hb110 : ∀ (x4 : Int32) (μ : Mem) (H : Heap) (locs : List Loc) (ls : Array Slot), HS D A (w μ) s.heap H locs → lv_has ls 6 [(4, .int x4)] → f_X4_removeEntry_b110 q x4 μ = some (r, μ') → W p l e (headSpec wsX4_removeEntry (rmk 4 95)).room s m args below meth c H locs 0 0 (MQ below (PI D A (w μ') r) args s 0 0 A) (F0 m 110 ls []) := by
    intro x4 μ H locs ls hS hl h
    unfold f_X4_removeEntry_b110 at h
    refine lv_iload hx hb dX4_removeEntry_110 (lv_at hl 0 rfl) ?_
    obtain ⟨rfl, rfl⟩ := pr2 h
    exact r_iret X hS hr hlk dX4_removeEntry_112
  unfold f_X4_removeEntry at h
  refine lv_aload_n hx hb dX4_removeEntry_0 rfl (lv_at hl 0 rfl) ?_
  obtain ⟨μ1, eμ1, h⟩ := ob h
  refine r_cv hS (r_runV (As := []) (rest := []) X hS (c_X4_ownDirectory l hE (w := w) (ad := ad) (μ := μ) (D := D) (cI := cI) (cG := cG) (cL := cL) hw eμ1) (cwV 0 X.1.2.2.2.2 gX4_removeEntry_X4_ownDirectory rfl rfl rfl (by decide +kernel) ⟨Nat.le_of_ble_eq_true rfl, Nat.le_of_ble_eq_true rfl⟩) (q0 := q) (ci := 2) rfl (hw.1 μ).1 rfl hl.1 rfl (Nat.le_of_ble_eq_true rfl) dX4_removeEntry_1 ⟨Nat.zero_le _, Nat.zero_le _⟩) (fun H locs hS => ?_)
  refine lv_aload_n hx hb dX4_removeEntry_4 rfl (lv_at hl 0 rfl) ?_
  refine r_get X hS (T := TX4) (k := 0) (hw.1 μ1).1 rfl hiX4 (by decide) mf12 rfl dX4_removeEntry_5 ?_
  refine lv_aload_n hx hb dX4_removeEntry_8 rfl (lv_at hl 0 rfl) ?_
  refine r_get X hS (T := TX4) (k := 7) (hw.1 μ1).1 rfl hiX4 (by decide) mf38 rfl dX4_removeEntry_9 ?_
  refine lv_iload_n hx hb dX4_removeEntry_12 rfl (lv_at hl 1 rfl) ?_
  obtain ⟨v2, ev2, h⟩ := ob h
  refine r_ci hS (r_runV (As := [.int (μ1 q 7), .int a1]) (rest := []) X hS (c_X1_leafPlace l hE (w := w) (ad := ad) (μ := μ1) (D := D) (cI := cI) (cG := cG) (cL := cL) hw.2.1 ev2) (cwV 2 X.1.2.2.2.2 gX4_removeEntry_X1_leafPlace rfl rfl rfl (by decide +kernel) ⟨Nat.le_of_ble_eq_true rfl, Nat.le_of_ble_eq_true rfl⟩) (q0 := (q + 1)) (ci := 0) rfl (hw.2.1.1 μ1).1 rfl hl.1 rfl (Nat.le_of_ble_eq_true rfl) dX4_removeEntry_13 ⟨Nat.zero_le _, Nat.zero_le _⟩) (fun H locs hS => ?_)
  refine lv_istore_n (lv' := [(2, .int v2), (0, .ref (ad q)), (1, .int a1)]) hx hb dX4_removeEntry_16 rfl hl (by decide) rfl (fun ls hl => ?_)
  refine lv_aload_n hx hb dX4_removeEntry_17 rfl (lv_at hl 1 rfl) ?_
  refine r_get X hS (T := TX4) (k := 0) (hw.1 μ1).1 rfl hiX4 (by decide) mf12 rfl dX4_removeEntry_18 ?_
  refine lv_aload_n hx hb dX4_removeEntry_21 rfl (lv_at hl 1 rfl) ?_
  refine r_get X hS (T := TX4) (k := 7) (hw.1 μ1).1 rfl hiX4 (by decide) mf38 rfl dX4_removeEntry_22 ?_
  refine lv_iload_n hx hb dX4_removeEntry_25 rfl (lv_at hl 0 rfl) ?_
  obtain ⟨v3, ev3, h⟩ := ob h
  refine r_ci hS (r_runV (As := [.int (μ1 q 7), .int v2]) (rest := []) X hS (c_X1_leafAt l hE (w := w) (ad := ad) (μ := μ1) (D := D) (cI := cI) (cG := cG) (cL := cL) hw.2.1 ev3) (cwV 2 X.1.2.2.2.2 gX4_removeEntry_X1_leafAt rfl rfl rfl (by decide +kernel) ⟨Nat.le_of_ble_eq_true rfl, Nat.le_of_ble_eq_true rfl⟩) (q0 := (q + 1)) (ci := 0) rfl (hw.2.1.1 μ1).1 rfl hl.1 rfl (Nat.le_of_ble_eq_true rfl) dX4_removeEntry_26 ⟨Nat.zero_le _, Nat.zero_le _⟩) (fun H locs hS => ?_)
  refine lv_istore_n (lv' := [(3, .int v3), (2, .int v2), (0, .ref (ad q)), (1, .int a1)]) hx hb dX4_removeEntry_29 rfl hl (by decide) rfl (fun ls hl => ?_)
  refine lv_aload_n hx hb dX4_removeEntry_30 rfl (lv_at hl 2 rfl) ?_
  refine r_get X hS (T := TX4) (k := 0) (hw.1 μ1).1 rfl hiX4 (by decide) mf12 rfl dX4_removeEntry_31 ?_
  refine lv_iload_n hx hb dX4_removeEntry_34 rfl (lv_at hl 0 rfl) ?_
  refine lv_aload_n hx hb dX4_removeEntry_35 rfl (lv_at hl 2 rfl) ?_
  refine r_get X hS (T := TX4) (k := 0) (hw.1 μ1).1 rfl hiX4 (by decide) mf12 rfl dX4_removeEntry_36 ?_
  refine lv_iload_n hx hb dX4_removeEntry_39 rfl (lv_at hl 0 rfl) ?_
  refine lv_iload_n hx hb dX4_removeEntry_40 rfl (lv_at hl 3 rfl) ?_
  obtain ⟨v4, ev4, h⟩ := ob h
  refine r_ci hS (r_runV (As := [.int v3, .int a1]) (rest := [.int v3, .ref (ad (q + 1))]) X hS (c_X1_entryPlace l hE (w := w) (ad := ad) (μ := μ1) (D := D) (cI := cI) (cG := cG) (cL := cL) hw.2.1 ev4) (cwV 2 X.1.2.2.2.2 gX4_removeEntry_X1_entryPlace rfl rfl rfl (by decide +kernel) ⟨Nat.le_of_ble_eq_true rfl, Nat.le_of_ble_eq_true rfl⟩) (q0 := (q + 1)) (ci := 0) rfl (hw.2.1.1 μ1).1 rfl hl.1 rfl (Nat.le_of_ble_eq_true rfl) dX4_removeEntry_41 ⟨Nat.zero_le _, Nat.zero_le _⟩) (fun H locs hS => ?_)
  obtain ⟨v5, ev5, h⟩ := ob h
  refine r_ci hS (r_runV (As := [.int v3, .int v4]) (rest := []) X hS (c_X1_valueAt l hE (w := w) (ad := ad) (μ := μ1) (D := D) (cI := cI) (cG := cG) (cL := cL) hw.2.1 ev5) (cwV 2 X.1.2.2.2.2 gX4_removeEntry_X1_valueAt rfl rfl rfl (by decide +kernel) ⟨Nat.le_of_ble_eq_true rfl, Nat.le_of_ble_eq_true rfl⟩) (q0 := (q + 1)) (ci := 0) rfl (hw.2.1.1 μ1).1 rfl hl.1 rfl (Nat.le_of_ble_eq_true rfl) dX4_removeEntry_44 ⟨Nat.zero_le _, Nat.zero_le _⟩) (fun H locs hS => ?_)
  refine lv_istore (lv' := [(4, .int v5), (3, .int v3), (2, .int v2), (0, .ref (ad q)), (1, .int a1)]) hx hb dX4_removeEntry_47 hl (by decide) rfl (fun ls hl => ?_)
  refine lv_aload_n hx hb dX4_removeEntry_49 rfl (lv_at hl 3 rfl) ?_
  refine r_get X hS (T := TX4) (k := 0) (hw.1 μ1).1 rfl hiX4 (by decide) mf12 rfl dX4_removeEntry_50 ?_
  refine lv_iload_n hx hb dX4_removeEntry_53 rfl (lv_at hl 1 rfl) ?_
  obtain ⟨v6, ev6, h⟩ := ob h
  refine r_ci hS (r_runV (As := [.int v3]) (rest := []) X hS (c_X1_sizeOf l hE (w := w) (ad := ad) (μ := μ1) (D := D) (cI := cI) (cG := cG) (cL := cL) hw.2.1 ev6) (cwV 1 X.1.2.2.2.2 gX4_removeEntry_X1_sizeOf rfl rfl rfl (by decide +kernel) ⟨Nat.le_of_ble_eq_true rfl, Nat.le_of_ble_eq_true rfl⟩) (q0 := (q + 1)) (ci := 0) rfl (hw.2.1.1 μ1).1 rfl hl.1 rfl (Nat.le_of_ble_eq_true rfl) dX4_removeEntry_54 ⟨Nat.zero_le _, Nat.zero_le _⟩) (fun H locs hS => ?_)
  refine lv_iconst (v := 1) hx hb dX4_removeEntry_57 (by decide) ?_
  refine lv_icmp_ne (tgt := 84) hx hb dX4_removeEntry_58 (by decide) (fun cc => ?_) (fun cc => ?_)
  · replace h := ie h cc
    refine lv_aload_n hx hb dX4_removeEntry_84 rfl (lv_at hl 3 rfl) ?_
    refine lv_iload_n hx hb dX4_removeEntry_85 rfl (lv_at hl 2 rfl) ?_
    obtain ⟨v7, μ8, ev7, h⟩ := ob2 h
    refine r_ci hS (r_runV (As := [.int v2]) (rest := []) X hS (c_X4_ownLeaf l hE (w := w) (ad := ad) (μ := μ1) (D := D) (cI := cI) (cG := cG) (cL := cL) hw ev7) (cwV 1 X.1.2.2.2.2 gX4_removeEntry_X4_ownLeaf rfl rfl rfl (by decide +kernel) ⟨Nat.le_of_ble_eq_true rfl, Nat.le_of_ble_eq_true rfl⟩) (q0 := q) (ci := 2) rfl (hw.1 μ1).1 rfl hl.1 rfl (Nat.le_of_ble_eq_true rfl) dX4_removeEntry_86 ⟨Nat.zero_le _, Nat.zero_le _⟩) (fun H locs hS => ?_)
    refine lv_istore (lv' := [(5, .int v7), (4, .int v5), (3, .int v3), (2, .int v2), (0, .ref (ad q)), (1, .int a1)]) hx hb dX4_removeEntry_89 hl (by decide) rfl (fun ls hl => ?_)
    refine lv_aload_n hx hb dX4_removeEntry_91 rfl (lv_at hl 4 rfl) ?_
    refine r_get X hS (T := TX4) (k := 0) (hw.1 μ8).1 rfl hiX4 (by decide) mf12 rfl dX4_removeEntry_92 ?_
    refine lv_iload hx hb dX4_removeEntry_95 (lv_at hl 0 rfl) ?_
    refine lv_aload_n hx hb dX4_removeEntry_97 rfl (lv_at hl 4 rfl) ?_
    refine r_get X hS (T := TX4) (k := 0) (hw.1 μ8).1 rfl hiX4 (by decide) mf12 rfl dX4_removeEntry_98 ?_
    refine lv_iload hx hb dX4_removeEntry_101 (lv_at hl 0 rfl) ?_
    refine lv_iload_n hx hb dX4_removeEntry_103 rfl (lv_at hl 5 rfl) ?_
    obtain ⟨v9, ev9, h⟩ := ob h
    refine r_ci hS (r_runV (As := [.int v7, .int a1]) (rest := [.int v7, .ref (ad (q + 1))]) X hS (c_X1_entryPlace l hE (w := w) (ad := ad) (μ := μ8) (D := D) (cI := cI) (cG := cG) (cL := cL) hw.2.1 ev9) (cwV 2 X.1.2.2.2.2 gX4_removeEntry_X1_entryPlace rfl rfl rfl (by decide +kernel) ⟨Nat.le_of_ble_eq_true rfl, Nat.le_of_ble_eq_true rfl⟩) (q0 := (q + 1)) (ci := 0) rfl (hw.2.1.1 μ8).1 rfl hl.1 rfl (Nat.le_of_ble_eq_true rfl) dX4_removeEntry_104 ⟨Nat.zero_le _, Nat.zero_le _⟩) (fun H locs hS => ?_)
    obtain ⟨μ10, eμ10, h⟩ := ob h
    refine r_cv hS (r_runV (As := [.int v7, .int v9]) (rest := []) X hS (c_X1_cutEntry l hE (w := w) (ad := ad) (μ := μ8) (D := D) (cI := cI) (cG := cG) (cL := cL) hw.2.1 eμ10) (cwV 2 X.1.2.2.2.2 gX4_removeEntry_X1_cutEntry rfl rfl rfl (by decide +kernel) ⟨Nat.le_of_ble_eq_true rfl, Nat.le_of_ble_eq_true rfl⟩) (q0 := (q + 1)) (ci := 0) rfl (hw.2.1.1 μ8).1 rfl hl.1 rfl (Nat.le_of_ble_eq_true rfl) dX4_removeEntry_107 ⟨Nat.zero_le _, Nat.zero_le _⟩) (fun H locs hS => ?_)
    exact hb110 v5 μ10 _ _ _ hS (lv_sub hl [1] rfl) h
  · replace h := it h cc
    refine lv_aload_n hx hb dX4_removeEntry_61 rfl (lv_at hl 3 rfl) ?_
    refine r_get X hS (T := TX4) (k := 0) (hw.1 μ1).1 rfl hiX4 (by decide) mf12 rfl dX4_removeEntry_62 ?_
    refine lv_aload_n hx hb dX4_removeEntry_65 rfl (lv_at hl 3 rfl) ?_
    refine r_get X hS (T := TX4) (k := 7) (hw.1 μ1).1 rfl hiX4 (by decide) mf38 rfl dX4_removeEntry_66 ?_
    refine lv_iload_n hx hb dX4_removeEntry_69 rfl (lv_at hl 2 rfl) ?_
    obtain ⟨μ11, eμ11, h⟩ := ob h
    refine r_cv hS (r_runV (As := [.int (μ1 q 7), .int v2]) (rest := []) X hS (c_X1_cutLeaf l hE (w := w) (ad := ad) (μ := μ1) (D := D) (cI := cI) (cG := cG) (cL := cL) hw.2.1 eμ11) (cwV 2 X.1.2.2.2.2 gX4_removeEntry_X1_cutLeaf rfl rfl rfl (by decide +kernel) ⟨Nat.le_of_ble_eq_true rfl, Nat.le_of_ble_eq_true rfl⟩) (q0 := (q + 1)) (ci := 0) rfl (hw.2.1.1 μ1).1 rfl hl.1 rfl (Nat.le_of_ble_eq_true rfl) dX4_removeEntry_70 ⟨Nat.zero_le _, Nat.zero_le _⟩) (fun H locs hS => ?_)
    refine lv_aload_n hx hb dX4_removeEntry_73 rfl (lv_at hl 3 rfl) ?_
    refine r_get X hS (T := TX4) (k := 0) (hw.1 μ11).1 rfl hiX4 (by decide) mf12 rfl dX4_removeEntry_74 ?_
    refine lv_iload_n hx hb dX4_removeEntry_77 rfl (lv_at hl 1 rfl) ?_
    obtain ⟨μ12, eμ12, h⟩ := ob h
    refine r_cv hS (r_runV (As := [.int v3]) (rest := []) X hS (c_X1_leave l hE (w := w) (ad := ad) (μ := μ11) (D := D) (cI := cI) (cG := cG) (cL := cL) hw.2.1 eμ12) (cwV 1 X.1.2.2.2.2 gX4_removeEntry_X1_leave rfl rfl rfl (by decide +kernel) ⟨Nat.le_of_ble_eq_true rfl, Nat.le_of_ble_eq_true rfl⟩) (q0 := (q + 1)) (ci := 0) rfl (hw.2.1.1 μ11).1 rfl hl.1 rfl (Nat.le_of_ble_eq_true rfl) dX4_removeEntry_78 ⟨Nat.zero_le _, Nat.zero_le _⟩) (fun H locs hS => ?_)
    refine lv_goto (tgt := 110) hx hb dX4_removeEntry_81 (by decide) ?_
    exact hb110 v5 μ12 _ _ _ hS (lv_sub hl [0] rfl) h
def f_X4_endDraft (q : Nat) (μ : Mem) : Option Mem := (pf μ q 6 0).bind (fun μ1 => (pf μ1 q 7 (-1000)).bind (fun μ2 => (some μ2)))
set_option maxHeartbeats 4000000 in
set_option maxRecDepth 100000 in
theorem c_X4_endDraft (l : Launch) {D : va_G} {cI cG cL : ClassId} {A : Nat → Prop} {EN : State → Heap → Prop} (hE : EnOK EN A) {w : Mem → va_W} {ad : Nat → Nat} {q : Nat} {μ : Mem}  {μ' : Mem} (hw : GardenAt cI w ad q) (h : f_X4_endDraft q μ = some μ') : Met l yX4_endDraft wsX4_endDraft (rmk 0 0) (WPre D (tyl cI cG cL) A EN (w μ) [.ref (ad q)]) (PV D A (w μ')) 0 0 A := by
  have hiX4 : ∀ w ∈ u_ws RX4 TX4 10, w ∈ wsX4_endDraft := by decide +kernel
  have mf34 : Cond.fieldLink RX4 34 (TX4 6).1 (TX4 6).2.1 (TX4 6).2.2.1 ∈ wsX4_endDraft := by decide +kernel
  have mf38 : Cond.fieldLink RX4 38 (TX4 7).1 (TX4 7).2.1 (TX4 7).2.2.1 ∈ wsX4_endDraft := by decide +kernel
  refine met_start (cc := cX4_endDraft) (nL := 1) (ret := none) (own := RX4) hE (by decide) rfl rfl (Nat.le_of_ble_eq_true rfl) (fun p e s m args below meth c ls X hS hl hr hlk => ?_)
  have hx := X.1.1
  have hb := X.1.2.1
  replace hl : lv_has ls 1 [(0, .ref (ad q))] := hl
  unfold f_X4_endDraft at h
  refine lv_aload_n hx hb dX4_endDraft_0 rfl (lv_at hl 0 rfl) ?_
  refine lv_iconst (v := 0) hx hb dX4_endDraft_1 (by decide) ?_
  obtain ⟨μ1, eμ1, h⟩ := ob h
  refine r_putp (w := w) X hS (T := TX4) (k := 6) eμ1 hw.1 rfl hiX4 tyX4 tyX4_ok nmX4 (by decide) mf34 rfl rfl rfl (Nat.le_of_ble_eq_true rfl) rfl dX4_endDraft_2 (fun H locs hS => ?_)
  refine lv_aload_n hx hb dX4_endDraft_5 rfl (lv_at hl 0 rfl) ?_
  refine lv_sipush (v := (-1000)) hx hb dX4_endDraft_6 (by decide) ?_
  obtain ⟨μ2, eμ2, h⟩ := ob h
  refine r_putp (w := w) X hS (T := TX4) (k := 7) eμ2 hw.1 rfl hiX4 tyX4 tyX4_ok nmX4 (by decide) mf38 rfl rfl rfl (Nat.le_of_ble_eq_true rfl) rfl dX4_endDraft_9 (fun H locs hS => ?_)
  cases h
  exact r_vret X hS hr hlk dX4_endDraft_12
def f_X4_writeAsleepRoot_b68 (q : Nat)  (μ : Mem) : Option Mem := (some μ)
def f_X4_writeAsleepRoot_b54 (q : Nat) (x1 : Int32) (x2 : Int32) (μ : Mem) : Option Mem := (if x1 < 3 then f_X4_writeAsleepRoot_b68 q μ else (f_X6_setCell (q + 13) 2 x2 1 μ).bind (fun μ3 => f_X4_writeAsleepRoot_b68 q μ3))
def f_X4_writeAsleepRoot_b28 (q : Nat) (x1 : Int32) (x2 : Int32) (x3 : Int32) (μ : Mem) : Option Mem := (if x1 < 2 then f_X4_writeAsleepRoot_b54 q x1 x2 μ else (f_X6_setCell (q + 12) 2 x2 (μ q 7) μ).bind (fun μ4 => (f_X6_setCell (q + 11) 2 x2 x3 μ4).bind (fun μ5 => f_X4_writeAsleepRoot_b54 q x1 x2 μ5)))
def f_X4_writeAsleepRoot (q : Nat) (a1 : Int32) (μ : Mem) : Option Mem := (f_X4_currentRoot q μ).bind (fun v1 => (f_X4_currentCount q μ).bind (fun v2 => (if a1 < 1 then f_X4_writeAsleepRoot_b28 q a1 (1 - v1) (v2 + 1) μ else (f_X6_setCell (q + 13) 2 (1 - v1) 0 μ).bind (fun μ6 => f_X4_writeAsleepRoot_b28 q a1 (1 - v1) (v2 + 1) μ6))))
set_option maxHeartbeats 4000000 in
set_option maxRecDepth 100000 in
theorem c_X4_writeAsleepRoot (l : Launch) {D : va_G} {cI cG cL : ClassId} {A : Nat → Prop} {EN : State → Heap → Prop} (hE : EnOK EN A) {w : Mem → va_W} {ad : Nat → Nat} {q : Nat} {a1 : Int32} {μ : Mem}  {μ' : Mem} (hw : GardenAt cI w ad q) (h : f_X4_writeAsleepRoot q a1 μ = some μ') : Met l yX4_writeAsleepRoot wsX4_writeAsleepRoot (rmk 2 43) (WPre D (tyl cI cG cL) A EN (w μ) [.ref (ad q), .int a1]) (PV D A (w μ')) 0 0 A := by
  have hiX4 : ∀ w ∈ u_ws RX4 TX4 10, w ∈ wsX4_writeAsleepRoot := by decide +kernel
  have mf25 : Cond.fieldLink RX4 25 (TX4 3).1 (TX4 3).2.1 (TX4 3).2.2.1 ∈ wsX4_writeAsleepRoot := by decide +kernel
  have miX6 : Cond.initialized RX6 ∈ wsX4_writeAsleepRoot := by decide +kernel
  have ms59 : Cond.static yX6_setCell ∈ wsX4_writeAsleepRoot := by decide +kernel
  have mf22 : Cond.fieldLink RX4 22 (TX4 2).1 (TX4 2).2.1 (TX4 2).2.2.1 ∈ wsX4_writeAsleepRoot := by decide +kernel
  have mf38 : Cond.fieldLink RX4 38 (TX4 7).1 (TX4 7).2.1 (TX4 7).2.2.1 ∈ wsX4_writeAsleepRoot := by decide +kernel
  have mf18 : Cond.fieldLink RX4 18 (TX4 1).1 (TX4 1).2.1 (TX4 1).2.2.1 ∈ wsX4_writeAsleepRoot := by decide +kernel
  refine met_start (cc := cX4_writeAsleepRoot) (nL := 4) (ret := none) (own := RX4) hE (by decide) rfl rfl (Nat.le_of_ble_eq_true rfl) (fun p e s m args below meth c ls X hS hl hr hlk => ?_)
  have hx := X.1.1
  have hb := X.1.2.1
  replace hl : lv_has ls 4 [(0, .ref (ad q)), (1, .int a1)] := hl
  have hb68 : ∀  (μ : Mem) (H : Heap) (locs : List Loc) (ls : Array Slot), HS D A (w μ) s.heap H locs → lv_has ls 4 [] → f_X4_writeAsleepRoot_b68 q μ = some μ' → W p l e (headSpec wsX4_writeAsleepRoot (rmk 2 43)).room s m args below meth c H locs 0 0 (MQ below (PV D A (w μ')) args s 0 0 A) (F0 m 68 ls []) := by
    intro μ H locs ls hS hl h
    unfold f_X4_writeAsleepRoot_b68 at h
    cases h
    exact r_vret X hS hr hlk dX4_writeAsleepRoot_68
  have hb54 : ∀ (x1 : Int32) (x2 : Int32) (μ : Mem) (H : Heap) (locs : List Loc) (ls : Array Slot), HS D A (w μ) s.heap H locs → lv_has ls 4 [(0, .ref (ad q)), (1, .int x1), (2, .int x2)] → f_X4_writeAsleepRoot_b54 q x1 x2 μ = some μ' → W p l e (headSpec wsX4_writeAsleepRoot (rmk 2 43)).room s m args below meth c H locs 0 0 (MQ below (PV D A (w μ')) args s 0 0 A) (F0 m 54 ls []) := by
    intro x1 x2 μ H locs ls hS hl h
    unfold f_X4_writeAsleepRoot_b54 at h
    refine lv_iload_n hx hb dX4_writeAsleepRoot_54 rfl (lv_at hl 1 rfl) ?_
    refine lv_iconst (v := 3) hx hb dX4_writeAsleepRoot_55 (by decide) ?_
    refine lv_icmp_lt (tgt := 68) hx hb dX4_writeAsleepRoot_56 (by decide) (fun cc => ?_) (fun cc => ?_)
    · replace h := it h cc
      exact hb68 μ _ _ _ hS (lv_sub hl [] rfl) h
    · replace h := ie h cc
      refine lv_aload_n hx hb dX4_writeAsleepRoot_59 rfl (lv_at hl 0 rfl) ?_
      refine r_get X hS (T := TX4) (k := 3) (hw.1 μ).1 rfl hiX4 (by decide) mf25 rfl dX4_writeAsleepRoot_60 ?_
      refine lv_iload_n hx hb dX4_writeAsleepRoot_63 rfl (lv_at hl 2 rfl) ?_
      refine lv_iconst (v := 1) hx hb dX4_writeAsleepRoot_64 (by decide) ?_
      obtain ⟨μ3, eμ3, h⟩ := ob h
      refine r_cv hS (r_runSN (As := [.ref (ad (q + 13)), .int x2, .int 1]) (rest := []) (host := RX6) X hS (c_X6_setCell l hE (w := w) (ad := ad) (μ := μ) (D := D) (cI := cI) (cG := cG) (cL := cL) hw.2.2.2.2.1 eμ3) (va_cnB 3 X.1.2.2.2.2 gX4_writeAsleepRoot_X6_setCell_n59 rfl rfl rfl (X.nest 3 rfl) (X.1.2.2.2.2 _ miX6) (by decide +kernel) ⟨Nat.le_of_ble_eq_true rfl, Nat.le_of_ble_eq_true rfl⟩) (X.1.2.2.2.2 _ ms59) rfl hl.1 rfl (Nat.le_of_ble_eq_true rfl) dX4_writeAsleepRoot_65 ⟨Nat.zero_le _, Nat.zero_le _⟩) (fun H locs hS => ?_)
      exact hb68 μ3 _ _ _ hS (lv_sub hl [] rfl) h
  have hb28 : ∀ (x1 : Int32) (x2 : Int32) (x3 : Int32) (μ : Mem) (H : Heap) (locs : List Loc) (ls : Array Slot), HS D A (w μ) s.heap H locs → lv_has ls 4 [(0, .ref (ad q)), (1, .int x1), (2, .int x2), (3, .int x3)] → f_X4_writeAsleepRoot_b28 q x1 x2 x3 μ = some μ' → W p l e (headSpec wsX4_writeAsleepRoot (rmk 2 43)).room s m args below meth c H locs 0 0 (MQ below (PV D A (w μ')) args s 0 0 A) (F0 m 28 ls []) := by
    intro x1 x2 x3 μ H locs ls hS hl h
    unfold f_X4_writeAsleepRoot_b28 at h
    refine lv_iload_n hx hb dX4_writeAsleepRoot_28 rfl (lv_at hl 1 rfl) ?_
    refine lv_iconst (v := 2) hx hb dX4_writeAsleepRoot_29 (by decide) ?_
    refine lv_icmp_lt (tgt := 54) hx hb dX4_writeAsleepRoot_30 (by decide) (fun cc => ?_) (fun cc => ?_)
    · replace h := it h cc
      exact hb54 x1 x2 μ _ _ _ hS (lv_sub hl [0, 1, 2] rfl) h
    · replace h := ie h cc
      refine lv_aload_n hx hb dX4_writeAsleepRoot_33 rfl (lv_at hl 0 rfl) ?_
      refine r_get X hS (T := TX4) (k := 2) (hw.1 μ).1 rfl hiX4 (by decide) mf22 rfl dX4_writeAsleepRoot_34 ?_
      refine lv_iload_n hx hb dX4_writeAsleepRoot_37 rfl (lv_at hl 2 rfl) ?_
      refine lv_aload_n hx hb dX4_writeAsleepRoot_38 rfl (lv_at hl 0 rfl) ?_
      refine r_get X hS (T := TX4) (k := 7) (hw.1 μ).1 rfl hiX4 (by decide) mf38 rfl dX4_writeAsleepRoot_39 ?_
      obtain ⟨μ4, eμ4, h⟩ := ob h
      refine r_cv hS (r_runSN (As := [.ref (ad (q + 12)), .int x2, .int (μ q 7)]) (rest := []) (host := RX6) X hS (c_X6_setCell l hE (w := w) (ad := ad) (μ := μ) (D := D) (cI := cI) (cG := cG) (cL := cL) hw.2.2.2.1 eμ4) (va_cnB 3 X.1.2.2.2.2 gX4_writeAsleepRoot_X6_setCell_n59 rfl rfl rfl (X.nest 3 rfl) (X.1.2.2.2.2 _ miX6) (by decide +kernel) ⟨Nat.le_of_ble_eq_true rfl, Nat.le_of_ble_eq_true rfl⟩) (X.1.2.2.2.2 _ ms59) rfl hl.1 rfl (Nat.le_of_ble_eq_true rfl) dX4_writeAsleepRoot_42 ⟨Nat.zero_le _, Nat.zero_le _⟩) (fun H locs hS => ?_)
      refine lv_aload_n hx hb dX4_writeAsleepRoot_45 rfl (lv_at hl 0 rfl) ?_
      refine r_get X hS (T := TX4) (k := 1) (hw.1 μ4).1 rfl hiX4 (by decide) mf18 rfl dX4_writeAsleepRoot_46 ?_
      refine lv_iload_n hx hb dX4_writeAsleepRoot_49 rfl (lv_at hl 2 rfl) ?_
      refine lv_iload_n hx hb dX4_writeAsleepRoot_50 rfl (lv_at hl 3 rfl) ?_
      obtain ⟨μ5, eμ5, h⟩ := ob h
      refine r_cv hS (r_runSN (As := [.ref (ad (q + 11)), .int x2, .int x3]) (rest := []) (host := RX6) X hS (c_X6_setCell l hE (w := w) (ad := ad) (μ := μ4) (D := D) (cI := cI) (cG := cG) (cL := cL) hw.2.2.1 eμ5) (va_cnB 3 X.1.2.2.2.2 gX4_writeAsleepRoot_X6_setCell_n59 rfl rfl rfl (X.nest 3 rfl) (X.1.2.2.2.2 _ miX6) (by decide +kernel) ⟨Nat.le_of_ble_eq_true rfl, Nat.le_of_ble_eq_true rfl⟩) (X.1.2.2.2.2 _ ms59) rfl hl.1 rfl (Nat.le_of_ble_eq_true rfl) dX4_writeAsleepRoot_51 ⟨Nat.zero_le _, Nat.zero_le _⟩) (fun H locs hS => ?_)
      exact hb54 x1 x2 μ5 _ _ _ hS (lv_sub hl [0, 1, 2] rfl) h
  unfold f_X4_writeAsleepRoot at h
  refine lv_iconst (v := 1) hx hb dX4_writeAsleepRoot_0 (by decide) ?_
  refine lv_aload_n hx hb dX4_writeAsleepRoot_1 rfl (lv_at hl 0 rfl) ?_
  obtain ⟨v1, ev1, h⟩ := ob h
  refine r_ci hS (r_runV (As := []) (rest := [.int 1]) X hS (c_X4_currentRoot l hE (w := w) (ad := ad) (μ := μ) (D := D) (cI := cI) (cG := cG) (cL := cL) hw ev1) (cwV 0 X.1.2.2.2.2 gX4_writeAsleepRoot_X4_currentRoot rfl rfl rfl (by decide +kernel) ⟨Nat.le_of_ble_eq_true rfl, Nat.le_of_ble_eq_true rfl⟩) (q0 := q) (ci := 2) rfl (hw.1 μ).1 rfl hl.1 rfl (Nat.le_of_ble_eq_true rfl) dX4_writeAsleepRoot_2 ⟨Nat.zero_le _, Nat.zero_le _⟩) (fun H locs hS => ?_)
  refine lv_isub hx hb dX4_writeAsleepRoot_5 ?_
  refine lv_istore_n (lv' := [(2, .int (1 - v1)), (0, .ref (ad q)), (1, .int a1)]) hx hb dX4_writeAsleepRoot_6 rfl hl (by decide) rfl (fun ls hl => ?_)
  refine lv_aload_n hx hb dX4_writeAsleepRoot_7 rfl (lv_at hl 1 rfl) ?_
  obtain ⟨v2, ev2, h⟩ := ob h
  refine r_ci hS (r_runV (As := []) (rest := []) X hS (c_X4_currentCount l hE (w := w) (ad := ad) (μ := μ) (D := D) (cI := cI) (cG := cG) (cL := cL) hw ev2) (cwV 0 X.1.2.2.2.2 gX4_writeAsleepRoot_X4_currentCount rfl rfl rfl (by decide +kernel) ⟨Nat.le_of_ble_eq_true rfl, Nat.le_of_ble_eq_true rfl⟩) (q0 := q) (ci := 2) rfl (hw.1 μ).1 rfl hl.1 rfl (Nat.le_of_ble_eq_true rfl) dX4_writeAsleepRoot_8 ⟨Nat.zero_le _, Nat.zero_le _⟩) (fun H locs hS => ?_)
  refine lv_iconst (v := 1) hx hb dX4_writeAsleepRoot_11 (by decide) ?_
  refine lv_iadd hx hb dX4_writeAsleepRoot_12 ?_
  refine lv_istore_n (lv' := [(3, .int (v2 + 1)), (2, .int (1 - v1)), (0, .ref (ad q)), (1, .int a1)]) hx hb dX4_writeAsleepRoot_13 rfl hl (by decide) rfl (fun ls hl => ?_)
  refine lv_iload_n hx hb dX4_writeAsleepRoot_14 rfl (lv_at hl 3 rfl) ?_
  refine lv_iconst (v := 1) hx hb dX4_writeAsleepRoot_15 (by decide) ?_
  refine lv_icmp_lt (tgt := 28) hx hb dX4_writeAsleepRoot_16 (by decide) (fun cc => ?_) (fun cc => ?_)
  · replace h := it h cc
    exact hb28 a1 (1 - v1) (v2 + 1) μ _ _ _ hS (lv_sub hl [2, 3, 1, 0] rfl) h
  · replace h := ie h cc
    refine lv_aload_n hx hb dX4_writeAsleepRoot_19 rfl (lv_at hl 2 rfl) ?_
    refine r_get X hS (T := TX4) (k := 3) (hw.1 μ).1 rfl hiX4 (by decide) mf25 rfl dX4_writeAsleepRoot_20 ?_
    refine lv_iload_n hx hb dX4_writeAsleepRoot_23 rfl (lv_at hl 1 rfl) ?_
    refine lv_iconst (v := 0) hx hb dX4_writeAsleepRoot_24 (by decide) ?_
    obtain ⟨μ6, eμ6, h⟩ := ob h
    refine r_cv hS (r_runSN (As := [.ref (ad (q + 13)), .int (1 - v1), .int 0]) (rest := []) (host := RX6) X hS (c_X6_setCell l hE (w := w) (ad := ad) (μ := μ) (D := D) (cI := cI) (cG := cG) (cL := cL) hw.2.2.2.2.1 eμ6) (va_cnB 3 X.1.2.2.2.2 gX4_writeAsleepRoot_X6_setCell_n59 rfl rfl rfl (X.nest 3 rfl) (X.1.2.2.2.2 _ miX6) (by decide +kernel) ⟨Nat.le_of_ble_eq_true rfl, Nat.le_of_ble_eq_true rfl⟩) (X.1.2.2.2.2 _ ms59) rfl hl.1 rfl (Nat.le_of_ble_eq_true rfl) dX4_writeAsleepRoot_25 ⟨Nat.zero_le _, Nat.zero_le _⟩) (fun H locs hS => ?_)
    exact hb28 a1 (1 - v1) (v2 + 1) μ6 _ _ _ hS (lv_sub hl [2, 3, 1, 0] rfl) h
def f_X4_dropDraft (q : Nat) (μ : Mem) : Option (Int32 × Mem) := (f_X4_endDraft q μ).bind (fun μ1 => bn2 (f_X1_dropFresh (q + 1) μ1) (fun v2 μ3 => (some (v2, μ3))))
set_option maxHeartbeats 4000000 in
set_option maxRecDepth 100000 in
theorem c_X4_dropDraft (l : Launch) {D : va_G} {cI cG cL : ClassId} {A : Nat → Prop} {EN : State → Heap → Prop} (hE : EnOK EN A) {w : Mem → va_W} {ad : Nat → Nat} {q : Nat} {μ : Mem} {r : Int32} {μ' : Mem} (hw : GardenAt cI w ad q) (h : f_X4_dropDraft q μ = some (r, μ')) : Met l yX4_dropDraft wsX4_dropDraft (rmk 3 65) (WPre D (tyl cI cG cL) A EN (w μ) [.ref (ad q)]) (PI D A (w μ') r) 0 0 A := by
  have hiX4 : ∀ w ∈ u_ws RX4 TX4 10, w ∈ wsX4_dropDraft := by decide +kernel
  have mf12 : Cond.fieldLink RX4 12 (TX4 0).1 (TX4 0).2.1 (TX4 0).2.2.1 ∈ wsX4_dropDraft := by decide +kernel
  refine met_start (cc := cX4_dropDraft) (nL := 1) (ret := (some .int)) (own := RX4) hE (by decide) rfl rfl (Nat.le_of_ble_eq_true rfl) (fun p e s m args below meth c ls X hS hl hr hlk => ?_)
  have hx := X.1.1
  have hb := X.1.2.1
  replace hl : lv_has ls 1 [(0, .ref (ad q))] := hl
  unfold f_X4_dropDraft at h
  refine lv_aload_n hx hb dX4_dropDraft_0 rfl (lv_at hl 0 rfl) ?_
  obtain ⟨μ1, eμ1, h⟩ := ob h
  refine r_cv hS (r_runV (As := []) (rest := []) X hS (c_X4_endDraft l hE (w := w) (ad := ad) (μ := μ) (D := D) (cI := cI) (cG := cG) (cL := cL) hw eμ1) (cwV 0 X.1.2.2.2.2 gX4_dropDraft_X4_endDraft rfl rfl rfl (by decide +kernel) ⟨Nat.le_of_ble_eq_true rfl, Nat.le_of_ble_eq_true rfl⟩) (q0 := q) (ci := 2) rfl (hw.1 μ).1 rfl hl.1 rfl (Nat.le_of_ble_eq_true rfl) dX4_dropDraft_1 ⟨Nat.zero_le _, Nat.zero_le _⟩) (fun H locs hS => ?_)
  refine lv_aload_n hx hb dX4_dropDraft_4 rfl (lv_at hl 0 rfl) ?_
  refine r_get X hS (T := TX4) (k := 0) (hw.1 μ1).1 rfl hiX4 (by decide) mf12 rfl dX4_dropDraft_5 ?_
  obtain ⟨v2, μ3, ev2, h⟩ := ob2 h
  refine r_ci hS (r_runV (As := []) (rest := []) X hS (c_X1_dropFresh l hE (w := w) (ad := ad) (μ := μ1) (D := D) (cI := cI) (cG := cG) (cL := cL) hw.2.1 ev2) (cwV 0 X.1.2.2.2.2 gX4_dropDraft_X1_dropFresh rfl rfl rfl (by decide +kernel) ⟨Nat.le_of_ble_eq_true rfl, Nat.le_of_ble_eq_true rfl⟩) (q0 := (q + 1)) (ci := 0) rfl (hw.2.1.1 μ1).1 rfl hl.1 rfl (Nat.le_of_ble_eq_true rfl) dX4_dropDraft_8 ⟨Nat.zero_le _, Nat.zero_le _⟩) (fun H locs hS => ?_)
  obtain ⟨rfl, rfl⟩ := pr2 h
  exact r_iret X hS hr hlk dX4_dropDraft_11
def f_X4_commitDraft (q : Nat) (a1 : Int32) (μ : Mem) : Option (Int32 × Mem) := (f_X1_isFresh (q + 1) (μ q 7) μ).bind (fun v1 => (if v1 = 0 then (f_X4_endDraft q μ).bind (fun μ12 => (some (0, μ12))) else (f_X4_writeAsleepRoot q a1 μ).bind (fun μ2 => (if 3 ≤ a1 then (pf μ2 q 8 ((μ2 q 8) + 1)).bind (fun μ3 => (f_X1_keepFresh (q + 1) μ3).bind (fun μ4 => (f_X4_endDraft q μ4).bind (fun μ5 => (f_X4_currentCount q μ5).bind (fun v6 => bn2 (f_X1_freeLeft (q + 1) v6 μ5) (fun v7 μ8 => (some (v7, μ8))))))) else (pf μ2 q 9 ((μ2 q 9) + 1)).bind (fun μ9 => bn2 (f_X4_dropDraft q μ9) (fun v10 μ11 => (some ((-1000), μ11))))))))
set_option maxHeartbeats 4000000 in
set_option maxRecDepth 100000 in
theorem c_X4_commitDraft (l : Launch) {D : va_G} {cI cG cL : ClassId} {A : Nat → Prop} {EN : State → Heap → Prop} (hE : EnOK EN A) {w : Mem → va_W} {ad : Nat → Nat} {q : Nat} {a1 : Int32} {μ : Mem} {r : Int32} {μ' : Mem} (hw : GardenAt cI w ad q) (h : f_X4_commitDraft q a1 μ = some (r, μ')) : Met l yX4_commitDraft wsX4_commitDraft (rmk 4 85) (WPre D (tyl cI cG cL) A EN (w μ) [.ref (ad q), .int a1]) (PI D A (w μ') r) 0 0 A := by
  have hiX4 : ∀ w ∈ u_ws RX4 TX4 10, w ∈ wsX4_commitDraft := by decide +kernel
  have mf12 : Cond.fieldLink RX4 12 (TX4 0).1 (TX4 0).2.1 (TX4 0).2.2.1 ∈ wsX4_commitDraft := by decide +kernel
  have mf38 : Cond.fieldLink RX4 38 (TX4 7).1 (TX4 7).2.1 (TX4 7).2.2.1 ∈ wsX4_commitDraft := by decide +kernel
  have mf42 : Cond.fieldLink RX4 42 (TX4 8).1 (TX4 8).2.1 (TX4 8).2.2.1 ∈ wsX4_commitDraft := by decide +kernel
  have mf45 : Cond.fieldLink RX4 45 (TX4 9).1 (TX4 9).2.1 (TX4 9).2.2.1 ∈ wsX4_commitDraft := by decide +kernel
  refine met_start (cc := cX4_commitDraft) (nL := 2) (ret := (some .int)) (own := RX4) hE (by decide) rfl rfl (Nat.le_of_ble_eq_true rfl) (fun p e s m args below meth c ls X hS hl hr hlk => ?_)
  have hx := X.1.1
  have hb := X.1.2.1
  replace hl : lv_has ls 2 [(0, .ref (ad q)), (1, .int a1)] := hl
  unfold f_X4_commitDraft at h
  refine lv_aload_n hx hb dX4_commitDraft_0 rfl (lv_at hl 0 rfl) ?_
  refine r_get X hS (T := TX4) (k := 0) (hw.1 μ).1 rfl hiX4 (by decide) mf12 rfl dX4_commitDraft_1 ?_
  refine lv_aload_n hx hb dX4_commitDraft_4 rfl (lv_at hl 0 rfl) ?_
  refine r_get X hS (T := TX4) (k := 7) (hw.1 μ).1 rfl hiX4 (by decide) mf38 rfl dX4_commitDraft_5 ?_
  obtain ⟨v1, ev1, h⟩ := ob h
  refine r_ci hS (r_runV (As := [.int (μ q 7)]) (rest := []) X hS (c_X1_isFresh l hE (w := w) (ad := ad) (μ := μ) (D := D) (cI := cI) (cG := cG) (cL := cL) hw.2.1 ev1) (cwV 1 X.1.2.2.2.2 gX4_commitDraft_X1_isFresh rfl rfl rfl (by decide +kernel) ⟨Nat.le_of_ble_eq_true rfl, Nat.le_of_ble_eq_true rfl⟩) (q0 := (q + 1)) (ci := 0) rfl (hw.2.1.1 μ).1 rfl hl.1 rfl (Nat.le_of_ble_eq_true rfl) dX4_commitDraft_8 ⟨Nat.zero_le _, Nat.zero_le _⟩) (fun H locs hS => ?_)
  refine lv_if_ne (tgt := 20) hx hb dX4_commitDraft_11 (by decide) (fun cc => ?_) (fun cc => ?_)
  · replace h := ie h cc
    refine lv_aload_n hx hb dX4_commitDraft_20 rfl (lv_at hl 0 rfl) ?_
    refine lv_iload_n hx hb dX4_commitDraft_21 rfl (lv_at hl 1 rfl) ?_
    obtain ⟨μ2, eμ2, h⟩ := ob h
    refine r_cv hS (r_runV (As := [.int a1]) (rest := []) X hS (c_X4_writeAsleepRoot l hE (w := w) (ad := ad) (μ := μ) (D := D) (cI := cI) (cG := cG) (cL := cL) hw eμ2) (cwV 1 X.1.2.2.2.2 gX4_commitDraft_X4_writeAsleepRoot rfl rfl rfl (by decide +kernel) ⟨Nat.le_of_ble_eq_true rfl, Nat.le_of_ble_eq_true rfl⟩) (q0 := q) (ci := 2) rfl (hw.1 μ).1 rfl hl.1 rfl (Nat.le_of_ble_eq_true rfl) dX4_commitDraft_22 ⟨Nat.zero_le _, Nat.zero_le _⟩) (fun H locs hS => ?_)
    refine lv_iload_n hx hb dX4_commitDraft_25 rfl (lv_at hl 1 rfl) ?_
    refine lv_iconst (v := 3) hx hb dX4_commitDraft_26 (by decide) ?_
    refine lv_icmp_ge (tgt := 49) hx hb dX4_commitDraft_27 (by decide) (fun cc => ?_) (fun cc => ?_)
    · replace h := it h cc
      refine lv_aload_n hx hb dX4_commitDraft_49 rfl (lv_at hl 0 rfl) ?_
      refine lv_dup hx hb dX4_commitDraft_50 rfl ?_
      refine r_get X hS (T := TX4) (k := 8) (hw.1 μ2).1 rfl hiX4 (by decide) mf42 rfl dX4_commitDraft_51 ?_
      refine lv_iconst (v := 1) hx hb dX4_commitDraft_54 (by decide) ?_
      refine lv_iadd hx hb dX4_commitDraft_55 ?_
      obtain ⟨μ3, eμ3, h⟩ := ob h
      refine r_putp (w := w) X hS (T := TX4) (k := 8) eμ3 hw.1 rfl hiX4 tyX4 tyX4_ok nmX4 (by decide) mf42 rfl rfl rfl (Nat.le_of_ble_eq_true rfl) rfl dX4_commitDraft_56 (fun H locs hS => ?_)
      refine lv_aload_n hx hb dX4_commitDraft_59 rfl (lv_at hl 0 rfl) ?_
      refine r_get X hS (T := TX4) (k := 0) (hw.1 μ3).1 rfl hiX4 (by decide) mf12 rfl dX4_commitDraft_60 ?_
      obtain ⟨μ4, eμ4, h⟩ := ob h
      refine r_cv hS (r_runV (As := []) (rest := []) X hS (c_X1_keepFresh l hE (w := w) (ad := ad) (μ := μ3) (D := D) (cI := cI) (cG := cG) (cL := cL) hw.2.1 eμ4) (cwV 0 X.1.2.2.2.2 gX4_commitDraft_X1_keepFresh rfl rfl rfl (by decide +kernel) ⟨Nat.le_of_ble_eq_true rfl, Nat.le_of_ble_eq_true rfl⟩) (q0 := (q + 1)) (ci := 0) rfl (hw.2.1.1 μ3).1 rfl hl.1 rfl (Nat.le_of_ble_eq_true rfl) dX4_commitDraft_63 ⟨Nat.zero_le _, Nat.zero_le _⟩) (fun H locs hS => ?_)
      refine lv_aload_n hx hb dX4_commitDraft_66 rfl (lv_at hl 0 rfl) ?_
      obtain ⟨μ5, eμ5, h⟩ := ob h
      refine r_cv hS (r_runV (As := []) (rest := []) X hS (c_X4_endDraft l hE (w := w) (ad := ad) (μ := μ4) (D := D) (cI := cI) (cG := cG) (cL := cL) hw eμ5) (cwV 0 X.1.2.2.2.2 gX4_commitDraft_X4_endDraft rfl rfl rfl (by decide +kernel) ⟨Nat.le_of_ble_eq_true rfl, Nat.le_of_ble_eq_true rfl⟩) (q0 := q) (ci := 2) rfl (hw.1 μ4).1 rfl hl.1 rfl (Nat.le_of_ble_eq_true rfl) dX4_commitDraft_67 ⟨Nat.zero_le _, Nat.zero_le _⟩) (fun H locs hS => ?_)
      refine lv_aload_n hx hb dX4_commitDraft_70 rfl (lv_at hl 0 rfl) ?_
      refine r_get X hS (T := TX4) (k := 0) (hw.1 μ5).1 rfl hiX4 (by decide) mf12 rfl dX4_commitDraft_71 ?_
      refine lv_aload_n hx hb dX4_commitDraft_74 rfl (lv_at hl 0 rfl) ?_
      obtain ⟨v6, ev6, h⟩ := ob h
      refine r_ci hS (r_runV (As := []) (rest := [.ref (ad (q + 1))]) X hS (c_X4_currentCount l hE (w := w) (ad := ad) (μ := μ5) (D := D) (cI := cI) (cG := cG) (cL := cL) hw ev6) (cwV 0 X.1.2.2.2.2 gX4_commitDraft_X4_currentCount rfl rfl rfl (by decide +kernel) ⟨Nat.le_of_ble_eq_true rfl, Nat.le_of_ble_eq_true rfl⟩) (q0 := q) (ci := 2) rfl (hw.1 μ5).1 rfl hl.1 rfl (Nat.le_of_ble_eq_true rfl) dX4_commitDraft_75 ⟨Nat.zero_le _, Nat.zero_le _⟩) (fun H locs hS => ?_)
      obtain ⟨v7, μ8, ev7, h⟩ := ob2 h
      refine r_ci hS (r_runV (As := [.int v6]) (rest := []) X hS (c_X1_freeLeft l hE (w := w) (ad := ad) (μ := μ5) (D := D) (cI := cI) (cG := cG) (cL := cL) hw.2.1 ev7) (cwV 1 X.1.2.2.2.2 gX4_commitDraft_X1_freeLeft rfl rfl rfl (by decide +kernel) ⟨Nat.le_of_ble_eq_true rfl, Nat.le_of_ble_eq_true rfl⟩) (q0 := (q + 1)) (ci := 0) rfl (hw.2.1.1 μ5).1 rfl hl.1 rfl (Nat.le_of_ble_eq_true rfl) dX4_commitDraft_78 ⟨Nat.zero_le _, Nat.zero_le _⟩) (fun H locs hS => ?_)
      obtain ⟨rfl, rfl⟩ := pr2 h
      exact r_iret X hS hr hlk dX4_commitDraft_81
    · replace h := ie h cc
      refine lv_aload_n hx hb dX4_commitDraft_30 rfl (lv_at hl 0 rfl) ?_
      refine lv_dup hx hb dX4_commitDraft_31 rfl ?_
      refine r_get X hS (T := TX4) (k := 9) (hw.1 μ2).1 rfl hiX4 (by decide) mf45 rfl dX4_commitDraft_32 ?_
      refine lv_iconst (v := 1) hx hb dX4_commitDraft_35 (by decide) ?_
      refine lv_iadd hx hb dX4_commitDraft_36 ?_
      obtain ⟨μ9, eμ9, h⟩ := ob h
      refine r_putp (w := w) X hS (T := TX4) (k := 9) eμ9 hw.1 rfl hiX4 tyX4 tyX4_ok nmX4 (by decide) mf45 rfl rfl rfl (Nat.le_of_ble_eq_true rfl) rfl dX4_commitDraft_37 (fun H locs hS => ?_)
      refine lv_aload_n hx hb dX4_commitDraft_40 rfl (lv_at hl 0 rfl) ?_
      obtain ⟨v10, μ11, ev10, h⟩ := ob2 h
      refine r_ci hS (r_runV (As := []) (rest := []) X hS (c_X4_dropDraft l hE (w := w) (ad := ad) (μ := μ9) (D := D) (cI := cI) (cG := cG) (cL := cL) hw ev10) (cwV 0 X.1.2.2.2.2 gX4_commitDraft_X4_dropDraft rfl rfl rfl (by decide +kernel) ⟨Nat.le_of_ble_eq_true rfl, Nat.le_of_ble_eq_true rfl⟩) (q0 := q) (ci := 2) rfl (hw.1 μ9).1 rfl hl.1 rfl (Nat.le_of_ble_eq_true rfl) dX4_commitDraft_41 ⟨Nat.zero_le _, Nat.zero_le _⟩) (fun H locs hS => ?_)
      refine lv_pop hx hb dX4_commitDraft_44 rfl ?_
      refine lv_sipush (v := (-1000)) hx hb dX4_commitDraft_45 (by decide) ?_
      obtain ⟨rfl, rfl⟩ := pr2 h
      exact r_iret X hS hr hlk dX4_commitDraft_48
  · replace h := it h cc
    refine lv_aload_n hx hb dX4_commitDraft_14 rfl (lv_at hl 0 rfl) ?_
    obtain ⟨μ12, eμ12, h⟩ := ob h
    refine r_cv hS (r_runV (As := []) (rest := []) X hS (c_X4_endDraft l hE (w := w) (ad := ad) (μ := μ) (D := D) (cI := cI) (cG := cG) (cL := cL) hw eμ12) (cwV 0 X.1.2.2.2.2 gX4_commitDraft_X4_endDraft rfl rfl rfl (by decide +kernel) ⟨Nat.le_of_ble_eq_true rfl, Nat.le_of_ble_eq_true rfl⟩) (q0 := q) (ci := 2) rfl (hw.1 μ).1 rfl hl.1 rfl (Nat.le_of_ble_eq_true rfl) dX4_commitDraft_15 ⟨Nat.zero_le _, Nat.zero_le _⟩) (fun H locs hS => ?_)
    refine lv_iconst (v := 0) hx hb dX4_commitDraft_18 (by decide) ?_
    obtain ⟨rfl, rfl⟩ := pr2 h
    exact r_iret X hS hr hlk dX4_commitDraft_19
def f_X4_openReader (q : Nat) (μ : Mem) : Option (Int32 × Mem) := (f_X4_lowestClosedReader q μ).bind (fun v1 => (f_X4_currentCount q μ).bind (fun v2 => (f_X6_setCell (q + 14) 4 v1 v2 μ).bind (fun μ3 => (f_X4_currentDirectory q μ3).bind (fun v4 => (f_X6_setCell (q + 15) 4 v1 v4 μ3).bind (fun μ5 => (some (v1, μ5)))))))
set_option maxHeartbeats 4000000 in
set_option maxRecDepth 100000 in
theorem c_X4_openReader (l : Launch) {D : va_G} {cI cG cL : ClassId} {A : Nat → Prop} {EN : State → Heap → Prop} (hE : EnOK EN A) {w : Mem → va_W} {ad : Nat → Nat} {q : Nat} {μ : Mem} {r : Int32} {μ' : Mem} (hw : GardenAt cI w ad q) (h : f_X4_openReader q μ = some (r, μ')) : Met l yX4_openReader wsX4_openReader (rmk 3 63) (WPre D (tyl cI cG cL) A EN (w μ) [.ref (ad q)]) (PI D A (w μ') r) 0 0 A := by
  have hiX4 : ∀ w ∈ u_ws RX4 TX4 10, w ∈ wsX4_openReader := by decide +kernel
  have mf28 : Cond.fieldLink RX4 28 (TX4 4).1 (TX4 4).2.1 (TX4 4).2.2.1 ∈ wsX4_openReader := by decide +kernel
  have miX6 : Cond.initialized RX6 ∈ wsX4_openReader := by decide +kernel
  have ms59 : Cond.static yX6_setCell ∈ wsX4_openReader := by decide +kernel
  have mf31 : Cond.fieldLink RX4 31 (TX4 5).1 (TX4 5).2.1 (TX4 5).2.2.1 ∈ wsX4_openReader := by decide +kernel
  refine met_start (cc := cX4_openReader) (nL := 2) (ret := (some .int)) (own := RX4) hE (by decide) rfl rfl (Nat.le_of_ble_eq_true rfl) (fun p e s m args below meth c ls X hS hl hr hlk => ?_)
  have hx := X.1.1
  have hb := X.1.2.1
  replace hl : lv_has ls 2 [(0, .ref (ad q))] := hl
  unfold f_X4_openReader at h
  refine lv_aload_n hx hb dX4_openReader_0 rfl (lv_at hl 0 rfl) ?_
  obtain ⟨v1, ev1, h⟩ := ob h
  refine r_ci hS (r_runV (As := []) (rest := []) X hS (c_X4_lowestClosedReader l hE (w := w) (ad := ad) (μ := μ) (D := D) (cI := cI) (cG := cG) (cL := cL) hw ev1) (cwV 0 X.1.2.2.2.2 gX4_openReader_X4_lowestClosedReader rfl rfl rfl (by decide +kernel) ⟨Nat.le_of_ble_eq_true rfl, Nat.le_of_ble_eq_true rfl⟩) (q0 := q) (ci := 2) rfl (hw.1 μ).1 rfl hl.1 rfl (Nat.le_of_ble_eq_true rfl) dX4_openReader_1 ⟨Nat.zero_le _, Nat.zero_le _⟩) (fun H locs hS => ?_)
  refine lv_istore_n (lv' := [(1, .int v1), (0, .ref (ad q))]) hx hb dX4_openReader_4 rfl hl (by decide) rfl (fun ls hl => ?_)
  refine lv_aload_n hx hb dX4_openReader_5 rfl (lv_at hl 1 rfl) ?_
  refine r_get X hS (T := TX4) (k := 4) (hw.1 μ).1 rfl hiX4 (by decide) mf28 rfl dX4_openReader_6 ?_
  refine lv_iload_n hx hb dX4_openReader_9 rfl (lv_at hl 0 rfl) ?_
  refine lv_aload_n hx hb dX4_openReader_10 rfl (lv_at hl 1 rfl) ?_
  obtain ⟨v2, ev2, h⟩ := ob h
  refine r_ci hS (r_runV (As := []) (rest := [.int v1, .ref (ad (q + 14))]) X hS (c_X4_currentCount l hE (w := w) (ad := ad) (μ := μ) (D := D) (cI := cI) (cG := cG) (cL := cL) hw ev2) (cwV 0 X.1.2.2.2.2 gX4_openReader_X4_currentCount rfl rfl rfl (by decide +kernel) ⟨Nat.le_of_ble_eq_true rfl, Nat.le_of_ble_eq_true rfl⟩) (q0 := q) (ci := 2) rfl (hw.1 μ).1 rfl hl.1 rfl (Nat.le_of_ble_eq_true rfl) dX4_openReader_11 ⟨Nat.zero_le _, Nat.zero_le _⟩) (fun H locs hS => ?_)
  obtain ⟨μ3, eμ3, h⟩ := ob h
  refine r_cv hS (r_runSN (As := [.ref (ad (q + 14)), .int v1, .int v2]) (rest := []) (host := RX6) X hS (c_X6_setCell l hE (w := w) (ad := ad) (μ := μ) (D := D) (cI := cI) (cG := cG) (cL := cL) hw.2.2.2.2.2.1 eμ3) (va_cnB 3 X.1.2.2.2.2 gX4_openReader_X6_setCell_n59 rfl rfl rfl (X.nest 3 rfl) (X.1.2.2.2.2 _ miX6) (by decide +kernel) ⟨Nat.le_of_ble_eq_true rfl, Nat.le_of_ble_eq_true rfl⟩) (X.1.2.2.2.2 _ ms59) rfl hl.1 rfl (Nat.le_of_ble_eq_true rfl) dX4_openReader_14 ⟨Nat.zero_le _, Nat.zero_le _⟩) (fun H locs hS => ?_)
  refine lv_aload_n hx hb dX4_openReader_17 rfl (lv_at hl 1 rfl) ?_
  refine r_get X hS (T := TX4) (k := 5) (hw.1 μ3).1 rfl hiX4 (by decide) mf31 rfl dX4_openReader_18 ?_
  refine lv_iload_n hx hb dX4_openReader_21 rfl (lv_at hl 0 rfl) ?_
  refine lv_aload_n hx hb dX4_openReader_22 rfl (lv_at hl 1 rfl) ?_
  obtain ⟨v4, ev4, h⟩ := ob h
  refine r_ci hS (r_runV (As := []) (rest := [.int v1, .ref (ad (q + 15))]) X hS (c_X4_currentDirectory l hE (w := w) (ad := ad) (μ := μ3) (D := D) (cI := cI) (cG := cG) (cL := cL) hw ev4) (cwV 0 X.1.2.2.2.2 gX4_openReader_X4_currentDirectory rfl rfl rfl (by decide +kernel) ⟨Nat.le_of_ble_eq_true rfl, Nat.le_of_ble_eq_true rfl⟩) (q0 := q) (ci := 2) rfl (hw.1 μ3).1 rfl hl.1 rfl (Nat.le_of_ble_eq_true rfl) dX4_openReader_23 ⟨Nat.zero_le _, Nat.zero_le _⟩) (fun H locs hS => ?_)
  obtain ⟨μ5, eμ5, h⟩ := ob h
  refine r_cv hS (r_runSN (As := [.ref (ad (q + 15)), .int v1, .int v4]) (rest := []) (host := RX6) X hS (c_X6_setCell l hE (w := w) (ad := ad) (μ := μ3) (D := D) (cI := cI) (cG := cG) (cL := cL) hw.2.2.2.2.2.2 eμ5) (va_cnB 3 X.1.2.2.2.2 gX4_openReader_X6_setCell_n59 rfl rfl rfl (X.nest 3 rfl) (X.1.2.2.2.2 _ miX6) (by decide +kernel) ⟨Nat.le_of_ble_eq_true rfl, Nat.le_of_ble_eq_true rfl⟩) (X.1.2.2.2.2 _ ms59) rfl hl.1 rfl (Nat.le_of_ble_eq_true rfl) dX4_openReader_26 ⟨Nat.zero_le _, Nat.zero_le _⟩) (fun H locs hS => ?_)
  refine lv_iload_n hx hb dX4_openReader_29 rfl (lv_at hl 0 rfl) ?_
  obtain ⟨rfl, rfl⟩ := pr2 h
  exact r_iret X hS hr hlk dX4_openReader_30
def f_X4_closeReader (q : Nat) (a1 : Int32) (μ : Mem) : Option (Int32 × Mem) := (f_X4_neededCount q μ).bind (fun v1 => (f_X1_countFreedToDig (q + 1) v1 μ).bind (fun v2 => (f_X6_setCell (q + 14) 4 a1 (-1000) μ).bind (fun μ3 => (f_X6_setCell (q + 15) 4 a1 (-1000) μ3).bind (fun μ4 => (f_X4_neededCount q μ4).bind (fun v5 => (f_X1_countFreedToDig (q + 1) v5 μ4).bind (fun v6 => (some (v6 - v2, μ4))))))))
set_option maxHeartbeats 4000000 in
set_option maxRecDepth 100000 in
theorem c_X4_closeReader (l : Launch) {D : va_G} {cI cG cL : ClassId} {A : Nat → Prop} {EN : State → Heap → Prop} (hE : EnOK EN A) {w : Mem → va_W} {ad : Nat → Nat} {q : Nat} {a1 : Int32} {μ : Mem} {r : Int32} {μ' : Mem} (hw : GardenAt cI w ad q) (h : f_X4_closeReader q a1 μ = some (r, μ')) : Met l yX4_closeReader wsX4_closeReader (rmk 3 64) (WPre D (tyl cI cG cL) A EN (w μ) [.ref (ad q), .int a1]) (PI D A (w μ') r) 0 0 A := by
  have hiX4 : ∀ w ∈ u_ws RX4 TX4 10, w ∈ wsX4_closeReader := by decide +kernel
  have mf12 : Cond.fieldLink RX4 12 (TX4 0).1 (TX4 0).2.1 (TX4 0).2.2.1 ∈ wsX4_closeReader := by decide +kernel
  have mf28 : Cond.fieldLink RX4 28 (TX4 4).1 (TX4 4).2.1 (TX4 4).2.2.1 ∈ wsX4_closeReader := by decide +kernel
  have miX6 : Cond.initialized RX6 ∈ wsX4_closeReader := by decide +kernel
  have ms59 : Cond.static yX6_setCell ∈ wsX4_closeReader := by decide +kernel
  have mf31 : Cond.fieldLink RX4 31 (TX4 5).1 (TX4 5).2.1 (TX4 5).2.2.1 ∈ wsX4_closeReader := by decide +kernel
  refine met_start (cc := cX4_closeReader) (nL := 3) (ret := (some .int)) (own := RX4) hE (by decide) rfl rfl (Nat.le_of_ble_eq_true rfl) (fun p e s m args below meth c ls X hS hl hr hlk => ?_)
  have hx := X.1.1
  have hb := X.1.2.1
  replace hl : lv_has ls 3 [(0, .ref (ad q)), (1, .int a1)] := hl
  unfold f_X4_closeReader at h
  refine lv_aload_n hx hb dX4_closeReader_0 rfl (lv_at hl 0 rfl) ?_
  refine r_get X hS (T := TX4) (k := 0) (hw.1 μ).1 rfl hiX4 (by decide) mf12 rfl dX4_closeReader_1 ?_
  refine lv_aload_n hx hb dX4_closeReader_4 rfl (lv_at hl 0 rfl) ?_
  obtain ⟨v1, ev1, h⟩ := ob h
  refine r_ci hS (r_runV (As := []) (rest := [.ref (ad (q + 1))]) X hS (c_X4_neededCount l hE (w := w) (ad := ad) (μ := μ) (D := D) (cI := cI) (cG := cG) (cL := cL) hw ev1) (cwV 0 X.1.2.2.2.2 gX4_closeReader_X4_neededCount rfl rfl rfl (by decide +kernel) ⟨Nat.le_of_ble_eq_true rfl, Nat.le_of_ble_eq_true rfl⟩) (q0 := q) (ci := 2) rfl (hw.1 μ).1 rfl hl.1 rfl (Nat.le_of_ble_eq_true rfl) dX4_closeReader_5 ⟨Nat.zero_le _, Nat.zero_le _⟩) (fun H locs hS => ?_)
  obtain ⟨v2, ev2, h⟩ := ob h
  refine r_ci hS (r_runV (As := [.int v1]) (rest := []) X hS (c_X1_countFreedToDig l hE (w := w) (ad := ad) (μ := μ) (D := D) (cI := cI) (cG := cG) (cL := cL) hw.2.1 ev2) (cwV 1 X.1.2.2.2.2 gX4_closeReader_X1_countFreedToDig rfl rfl rfl (by decide +kernel) ⟨Nat.le_of_ble_eq_true rfl, Nat.le_of_ble_eq_true rfl⟩) (q0 := (q + 1)) (ci := 0) rfl (hw.2.1.1 μ).1 rfl hl.1 rfl (Nat.le_of_ble_eq_true rfl) dX4_closeReader_8 ⟨Nat.zero_le _, Nat.zero_le _⟩) (fun H locs hS => ?_)
  refine lv_istore_n (lv' := [(2, .int v2), (0, .ref (ad q)), (1, .int a1)]) hx hb dX4_closeReader_11 rfl hl (by decide) rfl (fun ls hl => ?_)
  refine lv_aload_n hx hb dX4_closeReader_12 rfl (lv_at hl 1 rfl) ?_
  refine r_get X hS (T := TX4) (k := 4) (hw.1 μ).1 rfl hiX4 (by decide) mf28 rfl dX4_closeReader_13 ?_
  refine lv_iload_n hx hb dX4_closeReader_16 rfl (lv_at hl 2 rfl) ?_
  refine lv_sipush (v := (-1000)) hx hb dX4_closeReader_17 (by decide) ?_
  obtain ⟨μ3, eμ3, h⟩ := ob h
  refine r_cv hS (r_runSN (As := [.ref (ad (q + 14)), .int a1, .int (-1000)]) (rest := []) (host := RX6) X hS (c_X6_setCell l hE (w := w) (ad := ad) (μ := μ) (D := D) (cI := cI) (cG := cG) (cL := cL) hw.2.2.2.2.2.1 eμ3) (va_cnB 3 X.1.2.2.2.2 gX4_closeReader_X6_setCell_n59 rfl rfl rfl (X.nest 3 rfl) (X.1.2.2.2.2 _ miX6) (by decide +kernel) ⟨Nat.le_of_ble_eq_true rfl, Nat.le_of_ble_eq_true rfl⟩) (X.1.2.2.2.2 _ ms59) rfl hl.1 rfl (Nat.le_of_ble_eq_true rfl) dX4_closeReader_20 ⟨Nat.zero_le _, Nat.zero_le _⟩) (fun H locs hS => ?_)
  refine lv_aload_n hx hb dX4_closeReader_23 rfl (lv_at hl 1 rfl) ?_
  refine r_get X hS (T := TX4) (k := 5) (hw.1 μ3).1 rfl hiX4 (by decide) mf31 rfl dX4_closeReader_24 ?_
  refine lv_iload_n hx hb dX4_closeReader_27 rfl (lv_at hl 2 rfl) ?_
  refine lv_sipush (v := (-1000)) hx hb dX4_closeReader_28 (by decide) ?_
  obtain ⟨μ4, eμ4, h⟩ := ob h
  refine r_cv hS (r_runSN (As := [.ref (ad (q + 15)), .int a1, .int (-1000)]) (rest := []) (host := RX6) X hS (c_X6_setCell l hE (w := w) (ad := ad) (μ := μ3) (D := D) (cI := cI) (cG := cG) (cL := cL) hw.2.2.2.2.2.2 eμ4) (va_cnB 3 X.1.2.2.2.2 gX4_closeReader_X6_setCell_n59 rfl rfl rfl (X.nest 3 rfl) (X.1.2.2.2.2 _ miX6) (by decide +kernel) ⟨Nat.le_of_ble_eq_true rfl, Nat.le_of_ble_eq_true rfl⟩) (X.1.2.2.2.2 _ ms59) rfl hl.1 rfl (Nat.le_of_ble_eq_true rfl) dX4_closeReader_31 ⟨Nat.zero_le _, Nat.zero_le _⟩) (fun H locs hS => ?_)
  refine lv_aload_n hx hb dX4_closeReader_34 rfl (lv_at hl 1 rfl) ?_
  refine r_get X hS (T := TX4) (k := 0) (hw.1 μ4).1 rfl hiX4 (by decide) mf12 rfl dX4_closeReader_35 ?_
  refine lv_aload_n hx hb dX4_closeReader_38 rfl (lv_at hl 1 rfl) ?_
  obtain ⟨v5, ev5, h⟩ := ob h
  refine r_ci hS (r_runV (As := []) (rest := [.ref (ad (q + 1))]) X hS (c_X4_neededCount l hE (w := w) (ad := ad) (μ := μ4) (D := D) (cI := cI) (cG := cG) (cL := cL) hw ev5) (cwV 0 X.1.2.2.2.2 gX4_closeReader_X4_neededCount rfl rfl rfl (by decide +kernel) ⟨Nat.le_of_ble_eq_true rfl, Nat.le_of_ble_eq_true rfl⟩) (q0 := q) (ci := 2) rfl (hw.1 μ4).1 rfl hl.1 rfl (Nat.le_of_ble_eq_true rfl) dX4_closeReader_39 ⟨Nat.zero_le _, Nat.zero_le _⟩) (fun H locs hS => ?_)
  obtain ⟨v6, ev6, h⟩ := ob h
  refine r_ci hS (r_runV (As := [.int v5]) (rest := []) X hS (c_X1_countFreedToDig l hE (w := w) (ad := ad) (μ := μ4) (D := D) (cI := cI) (cG := cG) (cL := cL) hw.2.1 ev6) (cwV 1 X.1.2.2.2.2 gX4_closeReader_X1_countFreedToDig rfl rfl rfl (by decide +kernel) ⟨Nat.le_of_ble_eq_true rfl, Nat.le_of_ble_eq_true rfl⟩) (q0 := (q + 1)) (ci := 0) rfl (hw.2.1.1 μ4).1 rfl hl.1 rfl (Nat.le_of_ble_eq_true rfl) dX4_closeReader_42 ⟨Nat.zero_le _, Nat.zero_le _⟩) (fun H locs hS => ?_)
  refine lv_iload_n hx hb dX4_closeReader_45 rfl (lv_at hl 0 rfl) ?_
  refine lv_isub hx hb dX4_closeReader_46 ?_
  obtain ⟨rfl, rfl⟩ := pr2 h
  exact r_iret X hS hr hlk dX4_closeReader_47
def f_X4_currentValue (q : Nat) (a1 : Int32) (μ : Mem) : Option Int32 := (f_X4_currentDirectory q μ).bind (fun v1 => (f_X1_valueIn (q + 1) v1 a1 μ).bind (fun v2 => (some v2)))
set_option maxHeartbeats 4000000 in
set_option maxRecDepth 100000 in
theorem c_X4_currentValue (l : Launch) {D : va_G} {cI cG cL : ClassId} {A : Nat → Prop} {EN : State → Heap → Prop} (hE : EnOK EN A) {w : Mem → va_W} {ad : Nat → Nat} {q : Nat} {a1 : Int32} {μ : Mem} {r : Int32} (hw : GardenAt cI w ad q) (h : f_X4_currentValue q a1 μ = some r) : Met l yX4_currentValue wsX4_currentValue (rmk 3 71) (WPre D (tyl cI cG cL) A EN (w μ) [.ref (ad q), .int a1]) (PI D A (w μ) r) 0 0 A := by
  have hiX4 : ∀ w ∈ u_ws RX4 TX4 10, w ∈ wsX4_currentValue := by decide +kernel
  have mf12 : Cond.fieldLink RX4 12 (TX4 0).1 (TX4 0).2.1 (TX4 0).2.2.1 ∈ wsX4_currentValue := by decide +kernel
  refine met_start (cc := cX4_currentValue) (nL := 2) (ret := (some .int)) (own := RX4) hE (by decide) rfl rfl (Nat.le_of_ble_eq_true rfl) (fun p e s m args below meth c ls X hS hl hr hlk => ?_)
  have hx := X.1.1
  have hb := X.1.2.1
  replace hl : lv_has ls 2 [(0, .ref (ad q)), (1, .int a1)] := hl
  unfold f_X4_currentValue at h
  refine lv_aload_n hx hb dX4_currentValue_0 rfl (lv_at hl 0 rfl) ?_
  refine r_get X hS (T := TX4) (k := 0) (hw.1 μ).1 rfl hiX4 (by decide) mf12 rfl dX4_currentValue_1 ?_
  refine lv_aload_n hx hb dX4_currentValue_4 rfl (lv_at hl 0 rfl) ?_
  obtain ⟨v1, ev1, h⟩ := ob h
  refine r_ci hS (r_runV (As := []) (rest := [.ref (ad (q + 1))]) X hS (c_X4_currentDirectory l hE (w := w) (ad := ad) (μ := μ) (D := D) (cI := cI) (cG := cG) (cL := cL) hw ev1) (cwV 0 X.1.2.2.2.2 gX4_currentValue_X4_currentDirectory rfl rfl rfl (by decide +kernel) ⟨Nat.le_of_ble_eq_true rfl, Nat.le_of_ble_eq_true rfl⟩) (q0 := q) (ci := 2) rfl (hw.1 μ).1 rfl hl.1 rfl (Nat.le_of_ble_eq_true rfl) dX4_currentValue_5 ⟨Nat.zero_le _, Nat.zero_le _⟩) (fun H locs hS => ?_)
  refine lv_iload_n hx hb dX4_currentValue_8 rfl (lv_at hl 1 rfl) ?_
  obtain ⟨v2, ev2, h⟩ := ob h
  refine r_ci hS (r_runV (As := [.int v1, .int a1]) (rest := []) X hS (c_X1_valueIn l hE (w := w) (ad := ad) (μ := μ) (D := D) (cI := cI) (cG := cG) (cL := cL) hw.2.1 ev2) (cwV 2 X.1.2.2.2.2 gX4_currentValue_X1_valueIn rfl rfl rfl (by decide +kernel) ⟨Nat.le_of_ble_eq_true rfl, Nat.le_of_ble_eq_true rfl⟩) (q0 := (q + 1)) (ci := 0) rfl (hw.2.1.1 μ).1 rfl hl.1 rfl (Nat.le_of_ble_eq_true rfl) dX4_currentValue_9 ⟨Nat.zero_le _, Nat.zero_le _⟩) (fun H locs hS => ?_)
  cases h
  exact r_iret X hS hr hlk dX4_currentValue_12
def f_X4_readerValue (q : Nat) (a1 : Int32) (a2 : Int32) (μ : Mem) : Option Int32 := (f_X6_cell (q + 15) 4 a1 μ).bind (fun v1 => (f_X1_valueIn (q + 1) v1 a2 μ).bind (fun v2 => (some v2)))
set_option maxHeartbeats 4000000 in
set_option maxRecDepth 100000 in
theorem c_X4_readerValue (l : Launch) {D : va_G} {cI cG cL : ClassId} {A : Nat → Prop} {EN : State → Heap → Prop} (hE : EnOK EN A) {w : Mem → va_W} {ad : Nat → Nat} {q : Nat} {a1 : Int32} {a2 : Int32} {μ : Mem} {r : Int32} (hw : GardenAt cI w ad q) (h : f_X4_readerValue q a1 a2 μ = some r) : Met l yX4_readerValue wsX4_readerValue (rmk 3 71) (WPre D (tyl cI cG cL) A EN (w μ) [.ref (ad q), .int a1, .int a2]) (PI D A (w μ) r) 0 0 A := by
  have hiX4 : ∀ w ∈ u_ws RX4 TX4 10, w ∈ wsX4_readerValue := by decide +kernel
  have mf12 : Cond.fieldLink RX4 12 (TX4 0).1 (TX4 0).2.1 (TX4 0).2.2.1 ∈ wsX4_readerValue := by decide +kernel
  have mf31 : Cond.fieldLink RX4 31 (TX4 5).1 (TX4 5).2.1 (TX4 5).2.2.1 ∈ wsX4_readerValue := by decide +kernel
  have miX6 : Cond.initialized RX6 ∈ wsX4_readerValue := by decide +kernel
  have ms75 : Cond.static yX6_cell ∈ wsX4_readerValue := by decide +kernel
  refine met_start (cc := cX4_readerValue) (nL := 3) (ret := (some .int)) (own := RX4) hE (by decide) rfl rfl (Nat.le_of_ble_eq_true rfl) (fun p e s m args below meth c ls X hS hl hr hlk => ?_)
  have hx := X.1.1
  have hb := X.1.2.1
  replace hl : lv_has ls 3 [(0, .ref (ad q)), (1, .int a1), (2, .int a2)] := hl
  unfold f_X4_readerValue at h
  refine lv_aload_n hx hb dX4_readerValue_0 rfl (lv_at hl 0 rfl) ?_
  refine r_get X hS (T := TX4) (k := 0) (hw.1 μ).1 rfl hiX4 (by decide) mf12 rfl dX4_readerValue_1 ?_
  refine lv_aload_n hx hb dX4_readerValue_4 rfl (lv_at hl 0 rfl) ?_
  refine r_get X hS (T := TX4) (k := 5) (hw.1 μ).1 rfl hiX4 (by decide) mf31 rfl dX4_readerValue_5 ?_
  refine lv_iload_n hx hb dX4_readerValue_8 rfl (lv_at hl 1 rfl) ?_
  obtain ⟨v1, ev1, h⟩ := ob h
  refine r_ci hS (r_runSN (As := [.ref (ad (q + 15)), .int a1]) (rest := [.ref (ad (q + 1))]) (host := RX6) X hS (c_X6_cell l hE (w := w) (ad := ad) (μ := μ) (D := D) (cI := cI) (cG := cG) (cL := cL) hw.2.2.2.2.2.2 ev1) (va_cnB 2 X.1.2.2.2.2 gX4_readerValue_X6_cell_n75 rfl rfl rfl (X.nest 9 rfl) (X.1.2.2.2.2 _ miX6) (by decide +kernel) ⟨Nat.le_of_ble_eq_true rfl, Nat.le_of_ble_eq_true rfl⟩) (X.1.2.2.2.2 _ ms75) rfl hl.1 rfl (Nat.le_of_ble_eq_true rfl) dX4_readerValue_9 ⟨Nat.zero_le _, Nat.zero_le _⟩) (fun H locs hS => ?_)
  refine lv_iload_n hx hb dX4_readerValue_12 rfl (lv_at hl 2 rfl) ?_
  obtain ⟨v2, ev2, h⟩ := ob h
  refine r_ci hS (r_runV (As := [.int v1, .int a2]) (rest := []) X hS (c_X1_valueIn l hE (w := w) (ad := ad) (μ := μ) (D := D) (cI := cI) (cG := cG) (cL := cL) hw.2.1 ev2) (cwV 2 X.1.2.2.2.2 gX4_readerValue_X1_valueIn rfl rfl rfl (by decide +kernel) ⟨Nat.le_of_ble_eq_true rfl, Nat.le_of_ble_eq_true rfl⟩) (q0 := (q + 1)) (ci := 0) rfl (hw.2.1.1 μ).1 rfl hl.1 rfl (Nat.le_of_ble_eq_true rfl) dX4_readerValue_13 ⟨Nat.zero_le _, Nat.zero_le _⟩) (fun H locs hS => ?_)
  cases h
  exact r_iret X hS hr hlk dX4_readerValue_16
def f_X4_currentEntries (q : Nat) (μ : Mem) : Option Int32 := (f_X4_currentDirectory q μ).bind (fun v1 => (f_X1_entriesIn (q + 1) v1 μ).bind (fun v2 => (some v2)))
set_option maxHeartbeats 4000000 in
set_option maxRecDepth 100000 in
theorem c_X4_currentEntries (l : Launch) {D : va_G} {cI cG cL : ClassId} {A : Nat → Prop} {EN : State → Heap → Prop} (hE : EnOK EN A) {w : Mem → va_W} {ad : Nat → Nat} {q : Nat} {μ : Mem} {r : Int32} (hw : GardenAt cI w ad q) (h : f_X4_currentEntries q μ = some r) : Met l yX4_currentEntries wsX4_currentEntries (rmk 2 47) (WPre D (tyl cI cG cL) A EN (w μ) [.ref (ad q)]) (PI D A (w μ) r) 0 0 A := by
  have hiX4 : ∀ w ∈ u_ws RX4 TX4 10, w ∈ wsX4_currentEntries := by decide +kernel
  have mf12 : Cond.fieldLink RX4 12 (TX4 0).1 (TX4 0).2.1 (TX4 0).2.2.1 ∈ wsX4_currentEntries := by decide +kernel
  refine met_start (cc := cX4_currentEntries) (nL := 1) (ret := (some .int)) (own := RX4) hE (by decide) rfl rfl (Nat.le_of_ble_eq_true rfl) (fun p e s m args below meth c ls X hS hl hr hlk => ?_)
  have hx := X.1.1
  have hb := X.1.2.1
  replace hl : lv_has ls 1 [(0, .ref (ad q))] := hl
  unfold f_X4_currentEntries at h
  refine lv_aload_n hx hb dX4_currentEntries_0 rfl (lv_at hl 0 rfl) ?_
  refine r_get X hS (T := TX4) (k := 0) (hw.1 μ).1 rfl hiX4 (by decide) mf12 rfl dX4_currentEntries_1 ?_
  refine lv_aload_n hx hb dX4_currentEntries_4 rfl (lv_at hl 0 rfl) ?_
  obtain ⟨v1, ev1, h⟩ := ob h
  refine r_ci hS (r_runV (As := []) (rest := [.ref (ad (q + 1))]) X hS (c_X4_currentDirectory l hE (w := w) (ad := ad) (μ := μ) (D := D) (cI := cI) (cG := cG) (cL := cL) hw ev1) (cwV 0 X.1.2.2.2.2 gX4_currentEntries_X4_currentDirectory rfl rfl rfl (by decide +kernel) ⟨Nat.le_of_ble_eq_true rfl, Nat.le_of_ble_eq_true rfl⟩) (q0 := q) (ci := 2) rfl (hw.1 μ).1 rfl hl.1 rfl (Nat.le_of_ble_eq_true rfl) dX4_currentEntries_5 ⟨Nat.zero_le _, Nat.zero_le _⟩) (fun H locs hS => ?_)
  obtain ⟨v2, ev2, h⟩ := ob h
  refine r_ci hS (r_runV (As := [.int v1]) (rest := []) X hS (c_X1_entriesIn l hE (w := w) (ad := ad) (μ := μ) (D := D) (cI := cI) (cG := cG) (cL := cL) hw.2.1 ev2) (cwV 1 X.1.2.2.2.2 gX4_currentEntries_X1_entriesIn rfl rfl rfl (by decide +kernel) ⟨Nat.le_of_ble_eq_true rfl, Nat.le_of_ble_eq_true rfl⟩) (q0 := (q + 1)) (ci := 0) rfl (hw.2.1.1 μ).1 rfl hl.1 rfl (Nat.le_of_ble_eq_true rfl) dX4_currentEntries_8 ⟨Nat.zero_le _, Nat.zero_le _⟩) (fun H locs hS => ?_)
  cases h
  exact r_iret X hS hr hlk dX4_currentEntries_11
def f_X4_entryPart (q : Nat) (a1 : Int32) (a2 : Int32) (μ : Mem) : Option Int32 := (f_X4_currentDirectory q μ).bind (fun v1 => (f_X1_entryPartIn (q + 1) v1 a1 a2 μ).bind (fun v2 => (some v2)))
set_option maxHeartbeats 4000000 in
set_option maxRecDepth 100000 in
theorem c_X4_entryPart (l : Launch) {D : va_G} {cI cG cL : ClassId} {A : Nat → Prop} {EN : State → Heap → Prop} (hE : EnOK EN A) {w : Mem → va_W} {ad : Nat → Nat} {q : Nat} {a1 : Int32} {a2 : Int32} {μ : Mem} {r : Int32} (hw : GardenAt cI w ad q) (h : f_X4_entryPart q a1 a2 μ = some r) : Met l yX4_entryPart wsX4_entryPart (rmk 3 73) (WPre D (tyl cI cG cL) A EN (w μ) [.ref (ad q), .int a1, .int a2]) (PI D A (w μ) r) 0 0 A := by
  have hiX4 : ∀ w ∈ u_ws RX4 TX4 10, w ∈ wsX4_entryPart := by decide +kernel
  have mf12 : Cond.fieldLink RX4 12 (TX4 0).1 (TX4 0).2.1 (TX4 0).2.2.1 ∈ wsX4_entryPart := by decide +kernel
  refine met_start (cc := cX4_entryPart) (nL := 3) (ret := (some .int)) (own := RX4) hE (by decide) rfl rfl (Nat.le_of_ble_eq_true rfl) (fun p e s m args below meth c ls X hS hl hr hlk => ?_)
  have hx := X.1.1
  have hb := X.1.2.1
  replace hl : lv_has ls 3 [(0, .ref (ad q)), (1, .int a1), (2, .int a2)] := hl
  unfold f_X4_entryPart at h
  refine lv_aload_n hx hb dX4_entryPart_0 rfl (lv_at hl 0 rfl) ?_
  refine r_get X hS (T := TX4) (k := 0) (hw.1 μ).1 rfl hiX4 (by decide) mf12 rfl dX4_entryPart_1 ?_
  refine lv_aload_n hx hb dX4_entryPart_4 rfl (lv_at hl 0 rfl) ?_
  obtain ⟨v1, ev1, h⟩ := ob h
  refine r_ci hS (r_runV (As := []) (rest := [.ref (ad (q + 1))]) X hS (c_X4_currentDirectory l hE (w := w) (ad := ad) (μ := μ) (D := D) (cI := cI) (cG := cG) (cL := cL) hw ev1) (cwV 0 X.1.2.2.2.2 gX4_entryPart_X4_currentDirectory rfl rfl rfl (by decide +kernel) ⟨Nat.le_of_ble_eq_true rfl, Nat.le_of_ble_eq_true rfl⟩) (q0 := q) (ci := 2) rfl (hw.1 μ).1 rfl hl.1 rfl (Nat.le_of_ble_eq_true rfl) dX4_entryPart_5 ⟨Nat.zero_le _, Nat.zero_le _⟩) (fun H locs hS => ?_)
  refine lv_iload_n hx hb dX4_entryPart_8 rfl (lv_at hl 1 rfl) ?_
  refine lv_iload_n hx hb dX4_entryPart_9 rfl (lv_at hl 2 rfl) ?_
  obtain ⟨v2, ev2, h⟩ := ob h
  refine r_ci hS (r_runV (As := [.int v1, .int a1, .int a2]) (rest := []) X hS (c_X1_entryPartIn l hE (w := w) (ad := ad) (μ := μ) (D := D) (cI := cI) (cG := cG) (cL := cL) hw.2.1 ev2) (cwV 3 X.1.2.2.2.2 gX4_entryPart_X1_entryPartIn rfl rfl rfl (by decide +kernel) ⟨Nat.le_of_ble_eq_true rfl, Nat.le_of_ble_eq_true rfl⟩) (q0 := (q + 1)) (ci := 0) rfl (hw.2.1.1 μ).1 rfl hl.1 rfl (Nat.le_of_ble_eq_true rfl) dX4_entryPart_10 ⟨Nat.zero_le _, Nat.zero_le _⟩) (fun H locs hS => ?_)
  cases h
  exact r_iret X hS hr hlk dX4_entryPart_13
def f_X4_rootPart_b72 (q : Nat) (s0 : Int32) (μ : Mem) : Option Int32 := (f_X6_one s0).bind (fun v5 => (some v5))
def f_X4_rootPart (q : Nat) (a1 : Int32) (a2 : Int32) (μ : Mem) : Option Int32 := (if a2 = 0 then (f_X6_cell (q + 11) 2 a1 μ).bind (fun v1 => (some v1)) else (if a2 = 1 then (f_X6_cell (q + 12) 2 a1 μ).bind (fun v2 => (some v2)) else (if a2 = 2 then (f_X6_cell (q + 13) 2 a1 μ).bind (fun v3 => (some v3)) else (if a2 = 3 then (f_X4_currentRoot q μ).bind (fun v4 => (if a1 = v4 then f_X4_rootPart_b72 q 1 μ else f_X4_rootPart_b72 q 0 μ)) else ((some (-1000)))))))
set_option maxHeartbeats 4000000 in
set_option maxRecDepth 100000 in
theorem c_X4_rootPart (l : Launch) {D : va_G} {cI cG cL : ClassId} {A : Nat → Prop} {EN : State → Heap → Prop} (hE : EnOK EN A) {w : Mem → va_W} {ad : Nat → Nat} {q : Nat} {a1 : Int32} {a2 : Int32} {μ : Mem} {r : Int32} (hw : GardenAt cI w ad q) (h : f_X4_rootPart q a1 a2 μ = some r) : Met l yX4_rootPart wsX4_rootPart (rmk 1 23) (WPre D (tyl cI cG cL) A EN (w μ) [.ref (ad q), .int a1, .int a2]) (PI D A (w μ) r) 0 0 A := by
  have hiX4 : ∀ w ∈ u_ws RX4 TX4 10, w ∈ wsX4_rootPart := by decide +kernel
  have mf18 : Cond.fieldLink RX4 18 (TX4 1).1 (TX4 1).2.1 (TX4 1).2.2.1 ∈ wsX4_rootPart := by decide +kernel
  have miX6 : Cond.initialized RX6 ∈ wsX4_rootPart := by decide +kernel
  have ms75 : Cond.static yX6_cell ∈ wsX4_rootPart := by decide +kernel
  have mf22 : Cond.fieldLink RX4 22 (TX4 2).1 (TX4 2).2.1 (TX4 2).2.2.1 ∈ wsX4_rootPart := by decide +kernel
  have mf25 : Cond.fieldLink RX4 25 (TX4 3).1 (TX4 3).2.1 (TX4 3).2.2.1 ∈ wsX4_rootPart := by decide +kernel
  have ms213 : Cond.static yX6_one ∈ wsX4_rootPart := by decide +kernel
  refine met_start (cc := cX4_rootPart) (nL := 3) (ret := (some .int)) (own := RX4) hE (by decide) rfl rfl (Nat.le_of_ble_eq_true rfl) (fun p e s m args below meth c ls X hS hl hr hlk => ?_)
  have hx := X.1.1
  have hb := X.1.2.1
  replace hl : lv_has ls 3 [(0, .ref (ad q)), (1, .int a1), (2, .int a2)] := hl
  have hb72 : ∀ (s0 : Int32) (H : Heap) (locs : List Loc) (ls : Array Slot), HS D A (w μ) s.heap H locs → lv_has ls 3 [] → f_X4_rootPart_b72 q s0 μ = some r → W p l e (headSpec wsX4_rootPart (rmk 1 23)).room s m args below meth c H locs 0 0 (MQ below (PI D A (w μ) r) args s 0 0 A) (F0 m 72 ls [.int s0]) := by
    intro s0 H locs ls hS hl h
    unfold f_X4_rootPart_b72 at h
    obtain ⟨v5, ev5, h⟩ := ob h
    refine r_ci hS (r_runSN (As := [.int s0]) (rest := []) (host := RX6) X hS (c_X6_one l hE (w := w) (ad := ad) (μ := μ) (D := D) (cI := cI) (cG := cG) (cL := cL) ev5) (va_cnB 1 X.1.2.2.2.2 gX4_rootPart_X6_one_n213 rfl rfl rfl (X.nest 7 rfl) (X.1.2.2.2.2 _ miX6) (by decide +kernel) ⟨Nat.le_of_ble_eq_true rfl, Nat.le_of_ble_eq_true rfl⟩) (X.1.2.2.2.2 _ ms213) rfl hl.1 rfl (Nat.le_of_ble_eq_true rfl) dX4_rootPart_72 ⟨Nat.zero_le _, Nat.zero_le _⟩) (fun H locs hS => ?_)
    cases h
    exact r_iret X hS hr hlk dX4_rootPart_75
  unfold f_X4_rootPart at h
  refine lv_iload_n hx hb dX4_rootPart_0 rfl (lv_at hl 2 rfl) ?_
  by_cases cc0 : a2 = 0
  · replace h := it h cc0
    rw [cc0]
    refine lv_tableIn (off := 31) (tgt := 32) hx hb dX4_rootPart_1 (by decide) (by decide) rfl (by decide) ?_
    refine lv_aload_n hx hb dX4_rootPart_32 rfl (lv_at hl 0 rfl) ?_
    refine r_get X hS (T := TX4) (k := 1) (hw.1 μ).1 rfl hiX4 (by decide) mf18 rfl dX4_rootPart_33 ?_
    refine lv_iload_n hx hb dX4_rootPart_36 rfl (lv_at hl 1 rfl) ?_
    obtain ⟨v1, ev1, h⟩ := ob h
    refine r_ci hS (r_runSN (As := [.ref (ad (q + 11)), .int a1]) (rest := []) (host := RX6) X hS (c_X6_cell l hE (w := w) (ad := ad) (μ := μ) (D := D) (cI := cI) (cG := cG) (cL := cL) hw.2.2.1 ev1) (va_cnB 2 X.1.2.2.2.2 gX4_rootPart_X6_cell_n75 rfl rfl rfl (X.nest 9 rfl) (X.1.2.2.2.2 _ miX6) (by decide +kernel) ⟨Nat.le_of_ble_eq_true rfl, Nat.le_of_ble_eq_true rfl⟩) (X.1.2.2.2.2 _ ms75) rfl hl.1 rfl (Nat.le_of_ble_eq_true rfl) dX4_rootPart_37 ⟨Nat.zero_le _, Nat.zero_le _⟩) (fun H locs hS => ?_)
    cases h
    exact r_iret X hS hr hlk dX4_rootPart_40
  · replace h := ie h cc0
    by_cases cc1 : a2 = 1
    · replace h := it h cc1
      rw [cc1]
      refine lv_tableIn (off := 40) (tgt := 41) hx hb dX4_rootPart_1 (by decide) (by decide) rfl (by decide) ?_
      refine lv_aload_n hx hb dX4_rootPart_41 rfl (lv_at hl 0 rfl) ?_
      refine r_get X hS (T := TX4) (k := 2) (hw.1 μ).1 rfl hiX4 (by decide) mf22 rfl dX4_rootPart_42 ?_
      refine lv_iload_n hx hb dX4_rootPart_45 rfl (lv_at hl 1 rfl) ?_
      obtain ⟨v2, ev2, h⟩ := ob h
      refine r_ci hS (r_runSN (As := [.ref (ad (q + 12)), .int a1]) (rest := []) (host := RX6) X hS (c_X6_cell l hE (w := w) (ad := ad) (μ := μ) (D := D) (cI := cI) (cG := cG) (cL := cL) hw.2.2.2.1 ev2) (va_cnB 2 X.1.2.2.2.2 gX4_rootPart_X6_cell_n75 rfl rfl rfl (X.nest 9 rfl) (X.1.2.2.2.2 _ miX6) (by decide +kernel) ⟨Nat.le_of_ble_eq_true rfl, Nat.le_of_ble_eq_true rfl⟩) (X.1.2.2.2.2 _ ms75) rfl hl.1 rfl (Nat.le_of_ble_eq_true rfl) dX4_rootPart_46 ⟨Nat.zero_le _, Nat.zero_le _⟩) (fun H locs hS => ?_)
      cases h
      exact r_iret X hS hr hlk dX4_rootPart_49
    · replace h := ie h cc1
      by_cases cc2 : a2 = 2
      · replace h := it h cc2
        rw [cc2]
        refine lv_tableIn (off := 49) (tgt := 50) hx hb dX4_rootPart_1 (by decide) (by decide) rfl (by decide) ?_
        refine lv_aload_n hx hb dX4_rootPart_50 rfl (lv_at hl 0 rfl) ?_
        refine r_get X hS (T := TX4) (k := 3) (hw.1 μ).1 rfl hiX4 (by decide) mf25 rfl dX4_rootPart_51 ?_
        refine lv_iload_n hx hb dX4_rootPart_54 rfl (lv_at hl 1 rfl) ?_
        obtain ⟨v3, ev3, h⟩ := ob h
        refine r_ci hS (r_runSN (As := [.ref (ad (q + 13)), .int a1]) (rest := []) (host := RX6) X hS (c_X6_cell l hE (w := w) (ad := ad) (μ := μ) (D := D) (cI := cI) (cG := cG) (cL := cL) hw.2.2.2.2.1 ev3) (va_cnB 2 X.1.2.2.2.2 gX4_rootPart_X6_cell_n75 rfl rfl rfl (X.nest 9 rfl) (X.1.2.2.2.2 _ miX6) (by decide +kernel) ⟨Nat.le_of_ble_eq_true rfl, Nat.le_of_ble_eq_true rfl⟩) (X.1.2.2.2.2 _ ms75) rfl hl.1 rfl (Nat.le_of_ble_eq_true rfl) dX4_rootPart_55 ⟨Nat.zero_le _, Nat.zero_le _⟩) (fun H locs hS => ?_)
        cases h
        exact r_iret X hS hr hlk dX4_rootPart_58
      · replace h := ie h cc2
        by_cases cc3 : a2 = 3
        · replace h := it h cc3
          rw [cc3]
          refine lv_tableIn (off := 58) (tgt := 59) hx hb dX4_rootPart_1 (by decide) (by decide) rfl (by decide) ?_
          refine lv_iload_n hx hb dX4_rootPart_59 rfl (lv_at hl 1 rfl) ?_
          refine lv_aload_n hx hb dX4_rootPart_60 rfl (lv_at hl 0 rfl) ?_
          obtain ⟨v4, ev4, h⟩ := ob h
          refine r_ci hS (r_runV (As := []) (rest := [.int a1]) X hS (c_X4_currentRoot l hE (w := w) (ad := ad) (μ := μ) (D := D) (cI := cI) (cG := cG) (cL := cL) hw ev4) (cwV 0 X.1.2.2.2.2 gX4_rootPart_X4_currentRoot rfl rfl rfl (by decide +kernel) ⟨Nat.le_of_ble_eq_true rfl, Nat.le_of_ble_eq_true rfl⟩) (q0 := q) (ci := 2) rfl (hw.1 μ).1 rfl hl.1 rfl (Nat.le_of_ble_eq_true rfl) dX4_rootPart_61 ⟨Nat.zero_le _, Nat.zero_le _⟩) (fun H locs hS => ?_)
          refine lv_icmp_ne (tgt := 71) hx hb dX4_rootPart_64 (by decide) (fun cc => ?_) (fun cc => ?_)
          · replace h := ie h cc
            refine lv_iconst (v := 0) hx hb dX4_rootPart_71 (by decide) ?_
            exact hb72 0 _ _ _ hS (lv_sub hl [] rfl) h
          · replace h := it h cc
            refine lv_iconst (v := 1) hx hb dX4_rootPart_67 (by decide) ?_
            refine lv_goto (tgt := 72) hx hb dX4_rootPart_68 (by decide) ?_
            exact hb72 1 _ _ _ hS (lv_sub hl [] rfl) h
        · replace h := ie h cc3
          refine lv_tableOut (tgt := 76) hx hb dX4_rootPart_1 (sw_0_3 cc0 cc1 cc2 cc3) (by decide) ?_
          refine lv_sipush (v := (-1000)) hx hb dX4_rootPart_76 (by decide) ?_
          cases h
          exact r_iret X hS hr hlk dX4_rootPart_79
def f_X4_readerPart (q : Nat) (a1 : Int32) (a2 : Int32) (μ : Mem) : Option Int32 := (f_X4_isOpen q a1 μ).bind (fun v1 => (if v1 = 0 then (some (-1000)) else (if a2 = 0 then (f_X6_cell (q + 14) 4 a1 μ).bind (fun v2 => (some v2)) else (if a2 = 1 then (f_X6_cell (q + 15) 4 a1 μ).bind (fun v3 => (some v3)) else (if a2 = 2 then (f_X6_cell (q + 15) 4 a1 μ).bind (fun v4 => (f_X1_entriesIn (q + 1) v4 μ).bind (fun v5 => (some v5))) else ((some (-1000))))))))
set_option maxHeartbeats 4000000 in
set_option maxRecDepth 100000 in
theorem c_X4_readerPart (l : Launch) {D : va_G} {cI cG cL : ClassId} {A : Nat → Prop} {EN : State → Heap → Prop} (hE : EnOK EN A) {w : Mem → va_W} {ad : Nat → Nat} {q : Nat} {a1 : Int32} {a2 : Int32} {μ : Mem} {r : Int32} (hw : GardenAt cI w ad q) (h : f_X4_readerPart q a1 a2 μ = some r) : Met l yX4_readerPart wsX4_readerPart (rmk 2 47) (WPre D (tyl cI cG cL) A EN (w μ) [.ref (ad q), .int a1, .int a2]) (PI D A (w μ) r) 0 0 A := by
  have hiX4 : ∀ w ∈ u_ws RX4 TX4 10, w ∈ wsX4_readerPart := by decide +kernel
  have mf28 : Cond.fieldLink RX4 28 (TX4 4).1 (TX4 4).2.1 (TX4 4).2.2.1 ∈ wsX4_readerPart := by decide +kernel
  have miX6 : Cond.initialized RX6 ∈ wsX4_readerPart := by decide +kernel
  have ms75 : Cond.static yX6_cell ∈ wsX4_readerPart := by decide +kernel
  have mf31 : Cond.fieldLink RX4 31 (TX4 5).1 (TX4 5).2.1 (TX4 5).2.2.1 ∈ wsX4_readerPart := by decide +kernel
  have mf12 : Cond.fieldLink RX4 12 (TX4 0).1 (TX4 0).2.1 (TX4 0).2.2.1 ∈ wsX4_readerPart := by decide +kernel
  refine met_start (cc := cX4_readerPart) (nL := 3) (ret := (some .int)) (own := RX4) hE (by decide) rfl rfl (Nat.le_of_ble_eq_true rfl) (fun p e s m args below meth c ls X hS hl hr hlk => ?_)
  have hx := X.1.1
  have hb := X.1.2.1
  replace hl : lv_has ls 3 [(0, .ref (ad q)), (1, .int a1), (2, .int a2)] := hl
  unfold f_X4_readerPart at h
  refine lv_aload_n hx hb dX4_readerPart_0 rfl (lv_at hl 0 rfl) ?_
  refine lv_iload_n hx hb dX4_readerPart_1 rfl (lv_at hl 1 rfl) ?_
  obtain ⟨v1, ev1, h⟩ := ob h
  refine r_ci hS (r_runV (As := [.int a1]) (rest := []) X hS (c_X4_isOpen l hE (w := w) (ad := ad) (μ := μ) (D := D) (cI := cI) (cG := cG) (cL := cL) hw ev1) (cwV 1 X.1.2.2.2.2 gX4_readerPart_X4_isOpen rfl rfl rfl (by decide +kernel) ⟨Nat.le_of_ble_eq_true rfl, Nat.le_of_ble_eq_true rfl⟩) (q0 := q) (ci := 2) rfl (hw.1 μ).1 rfl hl.1 rfl (Nat.le_of_ble_eq_true rfl) dX4_readerPart_2 ⟨Nat.zero_le _, Nat.zero_le _⟩) (fun H locs hS => ?_)
  refine lv_if_ne (tgt := 12) hx hb dX4_readerPart_5 (by decide) (fun cc => ?_) (fun cc => ?_)
  · replace h := ie h cc
    refine lv_iload_n hx hb dX4_readerPart_12 rfl (lv_at hl 2 rfl) ?_
    by_cases cc0 : a2 = 0
    · replace h := it h cc0
      rw [cc0]
      refine lv_tableIn (off := 27) (tgt := 40) hx hb dX4_readerPart_13 (by decide) (by decide) rfl (by decide) ?_
      refine lv_aload_n hx hb dX4_readerPart_40 rfl (lv_at hl 0 rfl) ?_
      refine r_get X hS (T := TX4) (k := 4) (hw.1 μ).1 rfl hiX4 (by decide) mf28 rfl dX4_readerPart_41 ?_
      refine lv_iload_n hx hb dX4_readerPart_44 rfl (lv_at hl 1 rfl) ?_
      obtain ⟨v2, ev2, h⟩ := ob h
      refine r_ci hS (r_runSN (As := [.ref (ad (q + 14)), .int a1]) (rest := []) (host := RX6) X hS (c_X6_cell l hE (w := w) (ad := ad) (μ := μ) (D := D) (cI := cI) (cG := cG) (cL := cL) hw.2.2.2.2.2.1 ev2) (va_cnB 2 X.1.2.2.2.2 gX4_readerPart_X6_cell_n75 rfl rfl rfl (X.nest 9 rfl) (X.1.2.2.2.2 _ miX6) (by decide +kernel) ⟨Nat.le_of_ble_eq_true rfl, Nat.le_of_ble_eq_true rfl⟩) (X.1.2.2.2.2 _ ms75) rfl hl.1 rfl (Nat.le_of_ble_eq_true rfl) dX4_readerPart_45 ⟨Nat.zero_le _, Nat.zero_le _⟩) (fun H locs hS => ?_)
      cases h
      exact r_iret X hS hr hlk dX4_readerPart_48
    · replace h := ie h cc0
      by_cases cc1 : a2 = 1
      · replace h := it h cc1
        rw [cc1]
        refine lv_tableIn (off := 36) (tgt := 49) hx hb dX4_readerPart_13 (by decide) (by decide) rfl (by decide) ?_
        refine lv_aload_n hx hb dX4_readerPart_49 rfl (lv_at hl 0 rfl) ?_
        refine r_get X hS (T := TX4) (k := 5) (hw.1 μ).1 rfl hiX4 (by decide) mf31 rfl dX4_readerPart_50 ?_
        refine lv_iload_n hx hb dX4_readerPart_53 rfl (lv_at hl 1 rfl) ?_
        obtain ⟨v3, ev3, h⟩ := ob h
        refine r_ci hS (r_runSN (As := [.ref (ad (q + 15)), .int a1]) (rest := []) (host := RX6) X hS (c_X6_cell l hE (w := w) (ad := ad) (μ := μ) (D := D) (cI := cI) (cG := cG) (cL := cL) hw.2.2.2.2.2.2 ev3) (va_cnB 2 X.1.2.2.2.2 gX4_readerPart_X6_cell_n75 rfl rfl rfl (X.nest 9 rfl) (X.1.2.2.2.2 _ miX6) (by decide +kernel) ⟨Nat.le_of_ble_eq_true rfl, Nat.le_of_ble_eq_true rfl⟩) (X.1.2.2.2.2 _ ms75) rfl hl.1 rfl (Nat.le_of_ble_eq_true rfl) dX4_readerPart_54 ⟨Nat.zero_le _, Nat.zero_le _⟩) (fun H locs hS => ?_)
        cases h
        exact r_iret X hS hr hlk dX4_readerPart_57
      · replace h := ie h cc1
        by_cases cc2 : a2 = 2
        · replace h := it h cc2
          rw [cc2]
          refine lv_tableIn (off := 45) (tgt := 58) hx hb dX4_readerPart_13 (by decide) (by decide) rfl (by decide) ?_
          refine lv_aload_n hx hb dX4_readerPart_58 rfl (lv_at hl 0 rfl) ?_
          refine r_get X hS (T := TX4) (k := 0) (hw.1 μ).1 rfl hiX4 (by decide) mf12 rfl dX4_readerPart_59 ?_
          refine lv_aload_n hx hb dX4_readerPart_62 rfl (lv_at hl 0 rfl) ?_
          refine r_get X hS (T := TX4) (k := 5) (hw.1 μ).1 rfl hiX4 (by decide) mf31 rfl dX4_readerPart_63 ?_
          refine lv_iload_n hx hb dX4_readerPart_66 rfl (lv_at hl 1 rfl) ?_
          obtain ⟨v4, ev4, h⟩ := ob h
          refine r_ci hS (r_runSN (As := [.ref (ad (q + 15)), .int a1]) (rest := [.ref (ad (q + 1))]) (host := RX6) X hS (c_X6_cell l hE (w := w) (ad := ad) (μ := μ) (D := D) (cI := cI) (cG := cG) (cL := cL) hw.2.2.2.2.2.2 ev4) (va_cnB 2 X.1.2.2.2.2 gX4_readerPart_X6_cell_n75 rfl rfl rfl (X.nest 9 rfl) (X.1.2.2.2.2 _ miX6) (by decide +kernel) ⟨Nat.le_of_ble_eq_true rfl, Nat.le_of_ble_eq_true rfl⟩) (X.1.2.2.2.2 _ ms75) rfl hl.1 rfl (Nat.le_of_ble_eq_true rfl) dX4_readerPart_67 ⟨Nat.zero_le _, Nat.zero_le _⟩) (fun H locs hS => ?_)
          obtain ⟨v5, ev5, h⟩ := ob h
          refine r_ci hS (r_runV (As := [.int v4]) (rest := []) X hS (c_X1_entriesIn l hE (w := w) (ad := ad) (μ := μ) (D := D) (cI := cI) (cG := cG) (cL := cL) hw.2.1 ev5) (cwV 1 X.1.2.2.2.2 gX4_readerPart_X1_entriesIn rfl rfl rfl (by decide +kernel) ⟨Nat.le_of_ble_eq_true rfl, Nat.le_of_ble_eq_true rfl⟩) (q0 := (q + 1)) (ci := 0) rfl (hw.2.1.1 μ).1 rfl hl.1 rfl (Nat.le_of_ble_eq_true rfl) dX4_readerPart_70 ⟨Nat.zero_le _, Nat.zero_le _⟩) (fun H locs hS => ?_)
          cases h
          exact r_iret X hS hr hlk dX4_readerPart_73
        · replace h := ie h cc2
          refine lv_tableOut (tgt := 74) hx hb dX4_readerPart_13 (sw_0_2 cc0 cc1 cc2) (by decide) ?_
          refine lv_sipush (v := (-1000)) hx hb dX4_readerPart_74 (by decide) ?_
          cases h
          exact r_iret X hS hr hlk dX4_readerPart_77
  · replace h := it h cc
    refine lv_sipush (v := (-1000)) hx hb dX4_readerPart_8 (by decide) ?_
    cases h
    exact r_iret X hS hr hlk dX4_readerPart_11
def f_X4_bedPart (q : Nat) (a1 : Int32) (a2 : Int32) (μ : Mem) : Option Int32 := (f_X4_neededCount q μ).bind (fun v1 => (f_X1_part (q + 1) a1 a2 v1 μ).bind (fun v2 => (some v2)))
set_option maxHeartbeats 4000000 in
set_option maxRecDepth 100000 in
theorem c_X4_bedPart (l : Launch) {D : va_G} {cI cG cL : ClassId} {A : Nat → Prop} {EN : State → Heap → Prop} (hE : EnOK EN A) {w : Mem → va_W} {ad : Nat → Nat} {q : Nat} {a1 : Int32} {a2 : Int32} {μ : Mem} {r : Int32} (hw : GardenAt cI w ad q) (h : f_X4_bedPart q a1 a2 μ = some r) : Met l yX4_bedPart wsX4_bedPart (rmk 3 64) (WPre D (tyl cI cG cL) A EN (w μ) [.ref (ad q), .int a1, .int a2]) (PI D A (w μ) r) 0 0 A := by
  have hiX4 : ∀ w ∈ u_ws RX4 TX4 10, w ∈ wsX4_bedPart := by decide +kernel
  have mf12 : Cond.fieldLink RX4 12 (TX4 0).1 (TX4 0).2.1 (TX4 0).2.2.1 ∈ wsX4_bedPart := by decide +kernel
  refine met_start (cc := cX4_bedPart) (nL := 3) (ret := (some .int)) (own := RX4) hE (by decide) rfl rfl (Nat.le_of_ble_eq_true rfl) (fun p e s m args below meth c ls X hS hl hr hlk => ?_)
  have hx := X.1.1
  have hb := X.1.2.1
  replace hl : lv_has ls 3 [(0, .ref (ad q)), (1, .int a1), (2, .int a2)] := hl
  unfold f_X4_bedPart at h
  refine lv_aload_n hx hb dX4_bedPart_0 rfl (lv_at hl 0 rfl) ?_
  refine r_get X hS (T := TX4) (k := 0) (hw.1 μ).1 rfl hiX4 (by decide) mf12 rfl dX4_bedPart_1 ?_
  refine lv_iload_n hx hb dX4_bedPart_4 rfl (lv_at hl 1 rfl) ?_
  refine lv_iload_n hx hb dX4_bedPart_5 rfl (lv_at hl 2 rfl) ?_
  refine lv_aload_n hx hb dX4_bedPart_6 rfl (lv_at hl 0 rfl) ?_
  obtain ⟨v1, ev1, h⟩ := ob h
  refine r_ci hS (r_runV (As := []) (rest := [.int a2, .int a1, .ref (ad (q + 1))]) X hS (c_X4_neededCount l hE (w := w) (ad := ad) (μ := μ) (D := D) (cI := cI) (cG := cG) (cL := cL) hw ev1) (cwV 0 X.1.2.2.2.2 gX4_bedPart_X4_neededCount rfl rfl rfl (by decide +kernel) ⟨Nat.le_of_ble_eq_true rfl, Nat.le_of_ble_eq_true rfl⟩) (q0 := q) (ci := 2) rfl (hw.1 μ).1 rfl hl.1 rfl (Nat.le_of_ble_eq_true rfl) dX4_bedPart_7 ⟨Nat.zero_le _, Nat.zero_le _⟩) (fun H locs hS => ?_)
  obtain ⟨v2, ev2, h⟩ := ob h
  refine r_ci hS (r_runV (As := [.int a1, .int a2, .int v1]) (rest := []) X hS (c_X1_part l hE (w := w) (ad := ad) (μ := μ) (D := D) (cI := cI) (cG := cG) (cL := cL) hw.2.1 ev2) (cwV 3 X.1.2.2.2.2 gX4_bedPart_X1_part rfl rfl rfl (by decide +kernel) ⟨Nat.le_of_ble_eq_true rfl, Nat.le_of_ble_eq_true rfl⟩) (q0 := (q + 1)) (ci := 0) rfl (hw.2.1.1 μ).1 rfl hl.1 rfl (Nat.le_of_ble_eq_true rfl) dX4_bedPart_10 ⟨Nat.zero_le _, Nat.zero_le _⟩) (fun H locs hS => ?_)
  cases h
  exact r_iret X hS hr hlk dX4_bedPart_13
def f_X4_openReaders_b4 (q : Nat)  : Nat → Int32 → Int32 → Mem → Option Int32
  | 0, _, _, _ => none
  | fuel4 + 1, x1, x2, μ => (if 4 ≤ x2 then (some x1) else (f_X4_isOpen q x2 μ).bind (fun v1 => (f_X6_one v1).bind (fun v2 => f_X4_openReaders_b4 q fuel4 (x1 + v2) (x2 + 1) μ)))
def f_X4_openReaders (q : Nat) (μ : Mem) : Option Int32 := f_X4_openReaders_b4 q FU 0 0 μ
set_option maxHeartbeats 4000000 in
set_option maxRecDepth 100000 in
theorem c_X4_openReaders (l : Launch) {D : va_G} {cI cG cL : ClassId} {A : Nat → Prop} {EN : State → Heap → Prop} (hE : EnOK EN A) {w : Mem → va_W} {ad : Nat → Nat} {q : Nat} {μ : Mem} {r : Int32} (hw : GardenAt cI w ad q) (h : f_X4_openReaders q μ = some r) : Met l yX4_openReaders wsX4_openReaders (rmk 2 42) (WPre D (tyl cI cG cL) A EN (w μ) [.ref (ad q)]) (PI D A (w μ) r) 0 0 A := by
  have miX6 : Cond.initialized RX6 ∈ wsX4_openReaders := by decide +kernel
  have ms213 : Cond.static yX6_one ∈ wsX4_openReaders := by decide +kernel
  refine met_start (cc := cX4_openReaders) (nL := 3) (ret := (some .int)) (own := RX4) hE (by decide) rfl rfl (Nat.le_of_ble_eq_true rfl) (fun p e s m args below meth c ls X hS hl hr hlk => ?_)
  have hx := X.1.1
  have hb := X.1.2.1
  replace hl : lv_has ls 3 [(0, .ref (ad q))] := hl
  have hb4 : ∀ (fu : Nat) (x1 : Int32) (x2 : Int32) (H : Heap) (locs : List Loc) (ls : Array Slot), HS D A (w μ) s.heap H locs → lv_has ls 3 [(0, .ref (ad q)), (1, .int x1), (2, .int x2)] → f_X4_openReaders_b4 q fu x1 x2 μ = some r → W p l e (headSpec wsX4_openReaders (rmk 2 42)).room s m args below meth c H locs 0 0 (MQ below (PI D A (w μ) r) args s 0 0 A) (F0 m 4 ls []) := by
    intro fu
    induction fu with
    | zero =>
      intro x1 x2 H locs ls hS hl h
      rw [f_X4_openReaders_b4] at h
      cases h
    | succ fuel4 ih4 =>
      intro x1 x2 H locs ls hS hl h
      rw [f_X4_openReaders_b4] at h
      refine lv_iload_n hx hb dX4_openReaders_4 rfl (lv_at hl 2 rfl) ?_
      refine lv_iconst (v := 4) hx hb dX4_openReaders_5 (by decide) ?_
      refine lv_icmp_ge (tgt := 26) hx hb dX4_openReaders_6 (by decide) (fun cc => ?_) (fun cc => ?_)
      · replace h := it h cc
        refine lv_iload_n hx hb dX4_openReaders_26 rfl (lv_at hl 1 rfl) ?_
        cases h
        exact r_iret X hS hr hlk dX4_openReaders_27
      · replace h := ie h cc
        refine lv_iload_n hx hb dX4_openReaders_9 rfl (lv_at hl 1 rfl) ?_
        refine lv_aload_n hx hb dX4_openReaders_10 rfl (lv_at hl 0 rfl) ?_
        refine lv_iload_n hx hb dX4_openReaders_11 rfl (lv_at hl 2 rfl) ?_
        obtain ⟨v1, ev1, h⟩ := ob h
        refine r_ci hS (r_runV (As := [.int x2]) (rest := [.int x1]) X hS (c_X4_isOpen l hE (w := w) (ad := ad) (μ := μ) (D := D) (cI := cI) (cG := cG) (cL := cL) hw ev1) (cwV 1 X.1.2.2.2.2 gX4_openReaders_X4_isOpen rfl rfl rfl (by decide +kernel) ⟨Nat.le_of_ble_eq_true rfl, Nat.le_of_ble_eq_true rfl⟩) (q0 := q) (ci := 2) rfl (hw.1 μ).1 rfl hl.1 rfl (Nat.le_of_ble_eq_true rfl) dX4_openReaders_12 ⟨Nat.zero_le _, Nat.zero_le _⟩) (fun H locs hS => ?_)
        obtain ⟨v2, ev2, h⟩ := ob h
        refine r_ci hS (r_runSN (As := [.int v1]) (rest := [.int x1]) (host := RX6) X hS (c_X6_one l hE (w := w) (ad := ad) (μ := μ) (D := D) (cI := cI) (cG := cG) (cL := cL) ev2) (va_cnB 1 X.1.2.2.2.2 gX4_openReaders_X6_one_n213 rfl rfl rfl (X.nest 7 rfl) (X.1.2.2.2.2 _ miX6) (by decide +kernel) ⟨Nat.le_of_ble_eq_true rfl, Nat.le_of_ble_eq_true rfl⟩) (X.1.2.2.2.2 _ ms213) rfl hl.1 rfl (Nat.le_of_ble_eq_true rfl) dX4_openReaders_15 ⟨Nat.zero_le _, Nat.zero_le _⟩) (fun H locs hS => ?_)
        refine lv_iadd hx hb dX4_openReaders_18 ?_
        refine lv_istore_n (lv' := [(1, .int (x1 + v2)), (0, .ref (ad q)), (2, .int x2)]) hx hb dX4_openReaders_19 rfl hl (by decide) rfl (fun ls hl => ?_)
        refine lv_iinc (v := x2 + 1) (lv' := [(2, .int (x2 + 1)), (1, .int (x1 + v2)), (0, .ref (ad q))]) hx hb dX4_openReaders_20 hl (k := 2) rfl rfl (by decide) rfl (fun ls hl => ?_)
        refine lv_goto (tgt := 4) hx hb dX4_openReaders_23 (by decide) ?_
        exact ih4 (x1 + v2) (x2 + 1) _ _ _ hS (lv_sub hl [2, 1, 0] rfl) h
  unfold f_X4_openReaders at h
  refine lv_iconst (v := 0) hx hb dX4_openReaders_0 (by decide) ?_
  refine lv_istore_n (lv' := [(1, .int 0), (0, .ref (ad q))]) hx hb dX4_openReaders_1 rfl hl (by decide) rfl (fun ls hl => ?_)
  refine lv_iconst (v := 0) hx hb dX4_openReaders_2 (by decide) ?_
  refine lv_istore_n (lv' := [(2, .int 0), (1, .int 0), (0, .ref (ad q))]) hx hb dX4_openReaders_3 rfl hl (by decide) rfl (fun ls hl => ?_)
  exact hb4 FU 0 0 _ _ _ hS (lv_sub hl [2, 1, 0] rfl) h
def f_X4_wholePart (q : Nat) (a1 : Int32) (μ : Mem) : Option Int32 := (if a1 = 0 then (f_X1_countInState (q + 1) 0 μ).bind (fun v1 => (some v1)) else (if a1 = 1 then (f_X1_countInState (q + 1) 1 μ).bind (fun v2 => (some v2)) else (if a1 = 2 then (f_X1_countInState (q + 1) 2 μ).bind (fun v3 => (some v3)) else (if a1 = 3 then (f_X4_neededCount q μ).bind (fun v4 => (f_X1_countFreedToDig (q + 1) v4 μ).bind (fun v5 => (some v5))) else (if a1 = 4 then (f_X4_neededCount q μ).bind (fun v6 => (some v6)) else (if a1 = 5 then (f_X4_currentEntries q μ).bind (fun v7 => (some v7)) else (if a1 = 6 then (f_X4_currentDirectory q μ).bind (fun v8 => (f_X1_sizeOf (q + 1) v8 μ).bind (fun v9 => (some v9))) else (if a1 = 7 then (f_X4_openReaders q μ).bind (fun v10 => (some v10)) else (if a1 = 8 then (f_X6_one (μ q 6)).bind (fun v11 => (some v11)) else (if a1 = 9 then (f_X1_countFresh (q + 1) μ).bind (fun v12 => (some v12)) else (if a1 = 10 then (f_X1_countLeft (q + 1) μ).bind (fun v13 => (some v13)) else (if a1 = 11 then (some (μ q 8)) else (if a1 = 12 then (some (μ q 9)) else (if a1 = 13 then (f_X4_currentDirectory q μ).bind (fun v14 => (f_X1_sumIn (q + 1) v14 μ).bind (fun v15 => (some v15))) else ((some (-1000)))))))))))))))))
set_option maxHeartbeats 4000000 in
set_option maxRecDepth 100000 in
theorem c_X4_wholePart (l : Launch) {D : va_G} {cI cG cL : ClassId} {A : Nat → Prop} {EN : State → Heap → Prop} (hE : EnOK EN A) {w : Mem → va_W} {ad : Nat → Nat} {q : Nat} {a1 : Int32} {μ : Mem} {r : Int32} (hw : GardenAt cI w ad q) (h : f_X4_wholePart q a1 μ = some r) : Met l yX4_wholePart wsX4_wholePart (rmk 3 71) (WPre D (tyl cI cG cL) A EN (w μ) [.ref (ad q), .int a1]) (PI D A (w μ) r) 0 0 A := by
  have hiX4 : ∀ w ∈ u_ws RX4 TX4 10, w ∈ wsX4_wholePart := by decide +kernel
  have mf12 : Cond.fieldLink RX4 12 (TX4 0).1 (TX4 0).2.1 (TX4 0).2.2.1 ∈ wsX4_wholePart := by decide +kernel
  have mf34 : Cond.fieldLink RX4 34 (TX4 6).1 (TX4 6).2.1 (TX4 6).2.2.1 ∈ wsX4_wholePart := by decide +kernel
  have miX6 : Cond.initialized RX6 ∈ wsX4_wholePart := by decide +kernel
  have ms213 : Cond.static yX6_one ∈ wsX4_wholePart := by decide +kernel
  have mf42 : Cond.fieldLink RX4 42 (TX4 8).1 (TX4 8).2.1 (TX4 8).2.2.1 ∈ wsX4_wholePart := by decide +kernel
  have mf45 : Cond.fieldLink RX4 45 (TX4 9).1 (TX4 9).2.1 (TX4 9).2.2.1 ∈ wsX4_wholePart := by decide +kernel
  refine met_start (cc := cX4_wholePart) (nL := 2) (ret := (some .int)) (own := RX4) hE (by decide) rfl rfl (Nat.le_of_ble_eq_true rfl) (fun p e s m args below meth c ls X hS hl hr hlk => ?_)
  have hx := X.1.1
  have hb := X.1.2.1
  replace hl : lv_has ls 2 [(0, .ref (ad q)), (1, .int a1)] := hl
  unfold f_X4_wholePart at h
  refine lv_iload_n hx hb dX4_wholePart_0 rfl (lv_at hl 1 rfl) ?_
  by_cases cc0 : a1 = 0
  · replace h := it h cc0
    rw [cc0]
    refine lv_tableIn (off := 71) (tgt := 72) hx hb dX4_wholePart_1 (by decide) (by decide) rfl (by decide) ?_
    refine lv_aload_n hx hb dX4_wholePart_72 rfl (lv_at hl 0 rfl) ?_
    refine r_get X hS (T := TX4) (k := 0) (hw.1 μ).1 rfl hiX4 (by decide) mf12 rfl dX4_wholePart_73 ?_
    refine lv_iconst (v := 0) hx hb dX4_wholePart_76 (by decide) ?_
    obtain ⟨v1, ev1, h⟩ := ob h
    refine r_ci hS (r_runV (As := [.int 0]) (rest := []) X hS (c_X1_countInState l hE (w := w) (ad := ad) (μ := μ) (D := D) (cI := cI) (cG := cG) (cL := cL) hw.2.1 ev1) (cwV 1 X.1.2.2.2.2 gX4_wholePart_X1_countInState rfl rfl rfl (by decide +kernel) ⟨Nat.le_of_ble_eq_true rfl, Nat.le_of_ble_eq_true rfl⟩) (q0 := (q + 1)) (ci := 0) rfl (hw.2.1.1 μ).1 rfl hl.1 rfl (Nat.le_of_ble_eq_true rfl) dX4_wholePart_77 ⟨Nat.zero_le _, Nat.zero_le _⟩) (fun H locs hS => ?_)
    cases h
    exact r_iret X hS hr hlk dX4_wholePart_80
  · replace h := ie h cc0
    by_cases cc1 : a1 = 1
    · replace h := it h cc1
      rw [cc1]
      refine lv_tableIn (off := 80) (tgt := 81) hx hb dX4_wholePart_1 (by decide) (by decide) rfl (by decide) ?_
      refine lv_aload_n hx hb dX4_wholePart_81 rfl (lv_at hl 0 rfl) ?_
      refine r_get X hS (T := TX4) (k := 0) (hw.1 μ).1 rfl hiX4 (by decide) mf12 rfl dX4_wholePart_82 ?_
      refine lv_iconst (v := 1) hx hb dX4_wholePart_85 (by decide) ?_
      obtain ⟨v2, ev2, h⟩ := ob h
      refine r_ci hS (r_runV (As := [.int 1]) (rest := []) X hS (c_X1_countInState l hE (w := w) (ad := ad) (μ := μ) (D := D) (cI := cI) (cG := cG) (cL := cL) hw.2.1 ev2) (cwV 1 X.1.2.2.2.2 gX4_wholePart_X1_countInState rfl rfl rfl (by decide +kernel) ⟨Nat.le_of_ble_eq_true rfl, Nat.le_of_ble_eq_true rfl⟩) (q0 := (q + 1)) (ci := 0) rfl (hw.2.1.1 μ).1 rfl hl.1 rfl (Nat.le_of_ble_eq_true rfl) dX4_wholePart_86 ⟨Nat.zero_le _, Nat.zero_le _⟩) (fun H locs hS => ?_)
      cases h
      exact r_iret X hS hr hlk dX4_wholePart_89
    · replace h := ie h cc1
      by_cases cc2 : a1 = 2
      · replace h := it h cc2
        rw [cc2]
        refine lv_tableIn (off := 89) (tgt := 90) hx hb dX4_wholePart_1 (by decide) (by decide) rfl (by decide) ?_
        refine lv_aload_n hx hb dX4_wholePart_90 rfl (lv_at hl 0 rfl) ?_
        refine r_get X hS (T := TX4) (k := 0) (hw.1 μ).1 rfl hiX4 (by decide) mf12 rfl dX4_wholePart_91 ?_
        refine lv_iconst (v := 2) hx hb dX4_wholePart_94 (by decide) ?_
        obtain ⟨v3, ev3, h⟩ := ob h
        refine r_ci hS (r_runV (As := [.int 2]) (rest := []) X hS (c_X1_countInState l hE (w := w) (ad := ad) (μ := μ) (D := D) (cI := cI) (cG := cG) (cL := cL) hw.2.1 ev3) (cwV 1 X.1.2.2.2.2 gX4_wholePart_X1_countInState rfl rfl rfl (by decide +kernel) ⟨Nat.le_of_ble_eq_true rfl, Nat.le_of_ble_eq_true rfl⟩) (q0 := (q + 1)) (ci := 0) rfl (hw.2.1.1 μ).1 rfl hl.1 rfl (Nat.le_of_ble_eq_true rfl) dX4_wholePart_95 ⟨Nat.zero_le _, Nat.zero_le _⟩) (fun H locs hS => ?_)
        cases h
        exact r_iret X hS hr hlk dX4_wholePart_98
      · replace h := ie h cc2
        by_cases cc3 : a1 = 3
        · replace h := it h cc3
          rw [cc3]
          refine lv_tableIn (off := 98) (tgt := 99) hx hb dX4_wholePart_1 (by decide) (by decide) rfl (by decide) ?_
          refine lv_aload_n hx hb dX4_wholePart_99 rfl (lv_at hl 0 rfl) ?_
          refine r_get X hS (T := TX4) (k := 0) (hw.1 μ).1 rfl hiX4 (by decide) mf12 rfl dX4_wholePart_100 ?_
          refine lv_aload_n hx hb dX4_wholePart_103 rfl (lv_at hl 0 rfl) ?_
          obtain ⟨v4, ev4, h⟩ := ob h
          refine r_ci hS (r_runV (As := []) (rest := [.ref (ad (q + 1))]) X hS (c_X4_neededCount l hE (w := w) (ad := ad) (μ := μ) (D := D) (cI := cI) (cG := cG) (cL := cL) hw ev4) (cwV 0 X.1.2.2.2.2 gX4_wholePart_X4_neededCount rfl rfl rfl (by decide +kernel) ⟨Nat.le_of_ble_eq_true rfl, Nat.le_of_ble_eq_true rfl⟩) (q0 := q) (ci := 2) rfl (hw.1 μ).1 rfl hl.1 rfl (Nat.le_of_ble_eq_true rfl) dX4_wholePart_104 ⟨Nat.zero_le _, Nat.zero_le _⟩) (fun H locs hS => ?_)
          obtain ⟨v5, ev5, h⟩ := ob h
          refine r_ci hS (r_runV (As := [.int v4]) (rest := []) X hS (c_X1_countFreedToDig l hE (w := w) (ad := ad) (μ := μ) (D := D) (cI := cI) (cG := cG) (cL := cL) hw.2.1 ev5) (cwV 1 X.1.2.2.2.2 gX4_wholePart_X1_countFreedToDig rfl rfl rfl (by decide +kernel) ⟨Nat.le_of_ble_eq_true rfl, Nat.le_of_ble_eq_true rfl⟩) (q0 := (q + 1)) (ci := 0) rfl (hw.2.1.1 μ).1 rfl hl.1 rfl (Nat.le_of_ble_eq_true rfl) dX4_wholePart_107 ⟨Nat.zero_le _, Nat.zero_le _⟩) (fun H locs hS => ?_)
          cases h
          exact r_iret X hS hr hlk dX4_wholePart_110
        · replace h := ie h cc3
          by_cases cc4 : a1 = 4
          · replace h := it h cc4
            rw [cc4]
            refine lv_tableIn (off := 110) (tgt := 111) hx hb dX4_wholePart_1 (by decide) (by decide) rfl (by decide) ?_
            refine lv_aload_n hx hb dX4_wholePart_111 rfl (lv_at hl 0 rfl) ?_
            obtain ⟨v6, ev6, h⟩ := ob h
            refine r_ci hS (r_runV (As := []) (rest := []) X hS (c_X4_neededCount l hE (w := w) (ad := ad) (μ := μ) (D := D) (cI := cI) (cG := cG) (cL := cL) hw ev6) (cwV 0 X.1.2.2.2.2 gX4_wholePart_X4_neededCount rfl rfl rfl (by decide +kernel) ⟨Nat.le_of_ble_eq_true rfl, Nat.le_of_ble_eq_true rfl⟩) (q0 := q) (ci := 2) rfl (hw.1 μ).1 rfl hl.1 rfl (Nat.le_of_ble_eq_true rfl) dX4_wholePart_112 ⟨Nat.zero_le _, Nat.zero_le _⟩) (fun H locs hS => ?_)
            cases h
            exact r_iret X hS hr hlk dX4_wholePart_115
          · replace h := ie h cc4
            by_cases cc5 : a1 = 5
            · replace h := it h cc5
              rw [cc5]
              refine lv_tableIn (off := 115) (tgt := 116) hx hb dX4_wholePart_1 (by decide) (by decide) rfl (by decide) ?_
              refine lv_aload_n hx hb dX4_wholePart_116 rfl (lv_at hl 0 rfl) ?_
              obtain ⟨v7, ev7, h⟩ := ob h
              refine r_ci hS (r_runV (As := []) (rest := []) X hS (c_X4_currentEntries l hE (w := w) (ad := ad) (μ := μ) (D := D) (cI := cI) (cG := cG) (cL := cL) hw ev7) (cwV 0 X.1.2.2.2.2 gX4_wholePart_X4_currentEntries rfl rfl rfl (by decide +kernel) ⟨Nat.le_of_ble_eq_true rfl, Nat.le_of_ble_eq_true rfl⟩) (q0 := q) (ci := 2) rfl (hw.1 μ).1 rfl hl.1 rfl (Nat.le_of_ble_eq_true rfl) dX4_wholePart_117 ⟨Nat.zero_le _, Nat.zero_le _⟩) (fun H locs hS => ?_)
              cases h
              exact r_iret X hS hr hlk dX4_wholePart_120
            · replace h := ie h cc5
              by_cases cc6 : a1 = 6
              · replace h := it h cc6
                rw [cc6]
                refine lv_tableIn (off := 120) (tgt := 121) hx hb dX4_wholePart_1 (by decide) (by decide) rfl (by decide) ?_
                refine lv_aload_n hx hb dX4_wholePart_121 rfl (lv_at hl 0 rfl) ?_
                refine r_get X hS (T := TX4) (k := 0) (hw.1 μ).1 rfl hiX4 (by decide) mf12 rfl dX4_wholePart_122 ?_
                refine lv_aload_n hx hb dX4_wholePart_125 rfl (lv_at hl 0 rfl) ?_
                obtain ⟨v8, ev8, h⟩ := ob h
                refine r_ci hS (r_runV (As := []) (rest := [.ref (ad (q + 1))]) X hS (c_X4_currentDirectory l hE (w := w) (ad := ad) (μ := μ) (D := D) (cI := cI) (cG := cG) (cL := cL) hw ev8) (cwV 0 X.1.2.2.2.2 gX4_wholePart_X4_currentDirectory rfl rfl rfl (by decide +kernel) ⟨Nat.le_of_ble_eq_true rfl, Nat.le_of_ble_eq_true rfl⟩) (q0 := q) (ci := 2) rfl (hw.1 μ).1 rfl hl.1 rfl (Nat.le_of_ble_eq_true rfl) dX4_wholePart_126 ⟨Nat.zero_le _, Nat.zero_le _⟩) (fun H locs hS => ?_)
                obtain ⟨v9, ev9, h⟩ := ob h
                refine r_ci hS (r_runV (As := [.int v8]) (rest := []) X hS (c_X1_sizeOf l hE (w := w) (ad := ad) (μ := μ) (D := D) (cI := cI) (cG := cG) (cL := cL) hw.2.1 ev9) (cwV 1 X.1.2.2.2.2 gX4_wholePart_X1_sizeOf rfl rfl rfl (by decide +kernel) ⟨Nat.le_of_ble_eq_true rfl, Nat.le_of_ble_eq_true rfl⟩) (q0 := (q + 1)) (ci := 0) rfl (hw.2.1.1 μ).1 rfl hl.1 rfl (Nat.le_of_ble_eq_true rfl) dX4_wholePart_129 ⟨Nat.zero_le _, Nat.zero_le _⟩) (fun H locs hS => ?_)
                cases h
                exact r_iret X hS hr hlk dX4_wholePart_132
              · replace h := ie h cc6
                by_cases cc7 : a1 = 7
                · replace h := it h cc7
                  rw [cc7]
                  refine lv_tableIn (off := 132) (tgt := 133) hx hb dX4_wholePart_1 (by decide) (by decide) rfl (by decide) ?_
                  refine lv_aload_n hx hb dX4_wholePart_133 rfl (lv_at hl 0 rfl) ?_
                  obtain ⟨v10, ev10, h⟩ := ob h
                  refine r_ci hS (r_runV (As := []) (rest := []) X hS (c_X4_openReaders l hE (w := w) (ad := ad) (μ := μ) (D := D) (cI := cI) (cG := cG) (cL := cL) hw ev10) (cwV 0 X.1.2.2.2.2 gX4_wholePart_X4_openReaders rfl rfl rfl (by decide +kernel) ⟨Nat.le_of_ble_eq_true rfl, Nat.le_of_ble_eq_true rfl⟩) (q0 := q) (ci := 2) rfl (hw.1 μ).1 rfl hl.1 rfl (Nat.le_of_ble_eq_true rfl) dX4_wholePart_134 ⟨Nat.zero_le _, Nat.zero_le _⟩) (fun H locs hS => ?_)
                  cases h
                  exact r_iret X hS hr hlk dX4_wholePart_137
                · replace h := ie h cc7
                  by_cases cc8 : a1 = 8
                  · replace h := it h cc8
                    rw [cc8]
                    refine lv_tableIn (off := 137) (tgt := 138) hx hb dX4_wholePart_1 (by decide) (by decide) rfl (by decide) ?_
                    refine lv_aload_n hx hb dX4_wholePart_138 rfl (lv_at hl 0 rfl) ?_
                    refine r_get X hS (T := TX4) (k := 6) (hw.1 μ).1 rfl hiX4 (by decide) mf34 rfl dX4_wholePart_139 ?_
                    obtain ⟨v11, ev11, h⟩ := ob h
                    refine r_ci hS (r_runSN (As := [.int (μ q 6)]) (rest := []) (host := RX6) X hS (c_X6_one l hE (w := w) (ad := ad) (μ := μ) (D := D) (cI := cI) (cG := cG) (cL := cL) ev11) (va_cnB 1 X.1.2.2.2.2 gX4_wholePart_X6_one_n213 rfl rfl rfl (X.nest 7 rfl) (X.1.2.2.2.2 _ miX6) (by decide +kernel) ⟨Nat.le_of_ble_eq_true rfl, Nat.le_of_ble_eq_true rfl⟩) (X.1.2.2.2.2 _ ms213) rfl hl.1 rfl (Nat.le_of_ble_eq_true rfl) dX4_wholePart_142 ⟨Nat.zero_le _, Nat.zero_le _⟩) (fun H locs hS => ?_)
                    cases h
                    exact r_iret X hS hr hlk dX4_wholePart_145
                  · replace h := ie h cc8
                    by_cases cc9 : a1 = 9
                    · replace h := it h cc9
                      rw [cc9]
                      refine lv_tableIn (off := 145) (tgt := 146) hx hb dX4_wholePart_1 (by decide) (by decide) rfl (by decide) ?_
                      refine lv_aload_n hx hb dX4_wholePart_146 rfl (lv_at hl 0 rfl) ?_
                      refine r_get X hS (T := TX4) (k := 0) (hw.1 μ).1 rfl hiX4 (by decide) mf12 rfl dX4_wholePart_147 ?_
                      obtain ⟨v12, ev12, h⟩ := ob h
                      refine r_ci hS (r_runV (As := []) (rest := []) X hS (c_X1_countFresh l hE (w := w) (ad := ad) (μ := μ) (D := D) (cI := cI) (cG := cG) (cL := cL) hw.2.1 ev12) (cwV 0 X.1.2.2.2.2 gX4_wholePart_X1_countFresh rfl rfl rfl (by decide +kernel) ⟨Nat.le_of_ble_eq_true rfl, Nat.le_of_ble_eq_true rfl⟩) (q0 := (q + 1)) (ci := 0) rfl (hw.2.1.1 μ).1 rfl hl.1 rfl (Nat.le_of_ble_eq_true rfl) dX4_wholePart_150 ⟨Nat.zero_le _, Nat.zero_le _⟩) (fun H locs hS => ?_)
                      cases h
                      exact r_iret X hS hr hlk dX4_wholePart_153
                    · replace h := ie h cc9
                      by_cases cc10 : a1 = 10
                      · replace h := it h cc10
                        rw [cc10]
                        refine lv_tableIn (off := 153) (tgt := 154) hx hb dX4_wholePart_1 (by decide) (by decide) rfl (by decide) ?_
                        refine lv_aload_n hx hb dX4_wholePart_154 rfl (lv_at hl 0 rfl) ?_
                        refine r_get X hS (T := TX4) (k := 0) (hw.1 μ).1 rfl hiX4 (by decide) mf12 rfl dX4_wholePart_155 ?_
                        obtain ⟨v13, ev13, h⟩ := ob h
                        refine r_ci hS (r_runV (As := []) (rest := []) X hS (c_X1_countLeft l hE (w := w) (ad := ad) (μ := μ) (D := D) (cI := cI) (cG := cG) (cL := cL) hw.2.1 ev13) (cwV 0 X.1.2.2.2.2 gX4_wholePart_X1_countLeft rfl rfl rfl (by decide +kernel) ⟨Nat.le_of_ble_eq_true rfl, Nat.le_of_ble_eq_true rfl⟩) (q0 := (q + 1)) (ci := 0) rfl (hw.2.1.1 μ).1 rfl hl.1 rfl (Nat.le_of_ble_eq_true rfl) dX4_wholePart_158 ⟨Nat.zero_le _, Nat.zero_le _⟩) (fun H locs hS => ?_)
                        cases h
                        exact r_iret X hS hr hlk dX4_wholePart_161
                      · replace h := ie h cc10
                        by_cases cc11 : a1 = 11
                        · replace h := it h cc11
                          rw [cc11]
                          refine lv_tableIn (off := 161) (tgt := 162) hx hb dX4_wholePart_1 (by decide) (by decide) rfl (by decide) ?_
                          refine lv_aload_n hx hb dX4_wholePart_162 rfl (lv_at hl 0 rfl) ?_
                          refine r_get X hS (T := TX4) (k := 8) (hw.1 μ).1 rfl hiX4 (by decide) mf42 rfl dX4_wholePart_163 ?_
                          cases h
                          exact r_iret X hS hr hlk dX4_wholePart_166
                        · replace h := ie h cc11
                          by_cases cc12 : a1 = 12
                          · replace h := it h cc12
                            rw [cc12]
                            refine lv_tableIn (off := 166) (tgt := 167) hx hb dX4_wholePart_1 (by decide) (by decide) rfl (by decide) ?_
                            refine lv_aload_n hx hb dX4_wholePart_167 rfl (lv_at hl 0 rfl) ?_
                            refine r_get X hS (T := TX4) (k := 9) (hw.1 μ).1 rfl hiX4 (by decide) mf45 rfl dX4_wholePart_168 ?_
                            cases h
                            exact r_iret X hS hr hlk dX4_wholePart_171
                          · replace h := ie h cc12
                            by_cases cc13 : a1 = 13
                            · replace h := it h cc13
                              rw [cc13]
                              refine lv_tableIn (off := 171) (tgt := 172) hx hb dX4_wholePart_1 (by decide) (by decide) rfl (by decide) ?_
                              refine lv_aload_n hx hb dX4_wholePart_172 rfl (lv_at hl 0 rfl) ?_
                              refine r_get X hS (T := TX4) (k := 0) (hw.1 μ).1 rfl hiX4 (by decide) mf12 rfl dX4_wholePart_173 ?_
                              refine lv_aload_n hx hb dX4_wholePart_176 rfl (lv_at hl 0 rfl) ?_
                              obtain ⟨v14, ev14, h⟩ := ob h
                              refine r_ci hS (r_runV (As := []) (rest := [.ref (ad (q + 1))]) X hS (c_X4_currentDirectory l hE (w := w) (ad := ad) (μ := μ) (D := D) (cI := cI) (cG := cG) (cL := cL) hw ev14) (cwV 0 X.1.2.2.2.2 gX4_wholePart_X4_currentDirectory rfl rfl rfl (by decide +kernel) ⟨Nat.le_of_ble_eq_true rfl, Nat.le_of_ble_eq_true rfl⟩) (q0 := q) (ci := 2) rfl (hw.1 μ).1 rfl hl.1 rfl (Nat.le_of_ble_eq_true rfl) dX4_wholePart_177 ⟨Nat.zero_le _, Nat.zero_le _⟩) (fun H locs hS => ?_)
                              obtain ⟨v15, ev15, h⟩ := ob h
                              refine r_ci hS (r_runV (As := [.int v14]) (rest := []) X hS (c_X1_sumIn l hE (w := w) (ad := ad) (μ := μ) (D := D) (cI := cI) (cG := cG) (cL := cL) hw.2.1 ev15) (cwV 1 X.1.2.2.2.2 gX4_wholePart_X1_sumIn rfl rfl rfl (by decide +kernel) ⟨Nat.le_of_ble_eq_true rfl, Nat.le_of_ble_eq_true rfl⟩) (q0 := (q + 1)) (ci := 0) rfl (hw.2.1.1 μ).1 rfl hl.1 rfl (Nat.le_of_ble_eq_true rfl) dX4_wholePart_180 ⟨Nat.zero_le _, Nat.zero_le _⟩) (fun H locs hS => ?_)
                              cases h
                              exact r_iret X hS hr hlk dX4_wholePart_183
                            · replace h := ie h cc13
                              refine lv_tableOut (tgt := 184) hx hb dX4_wholePart_1 (sw_0_13 cc0 cc1 cc2 cc3 cc4 cc5 cc6 cc7 cc8 cc9 cc10 cc11 cc12 cc13) (by decide) ?_
                              refine lv_sipush (v := (-1000)) hx hb dX4_wholePart_184 (by decide) ?_
                              cases h
                              exact r_iret X hS hr hlk dX4_wholePart_187
def f_X4_bedToDig (q : Nat) (μ : Mem) : Option Int32 := (f_X4_neededCount q μ).bind (fun v1 => (f_X1_bedToDig (q + 1) v1 μ).bind (fun v2 => (some v2)))
set_option maxHeartbeats 4000000 in
set_option maxRecDepth 100000 in
theorem c_X4_bedToDig (l : Launch) {D : va_G} {cI cG cL : ClassId} {A : Nat → Prop} {EN : State → Heap → Prop} (hE : EnOK EN A) {w : Mem → va_W} {ad : Nat → Nat} {q : Nat} {μ : Mem} {r : Int32} (hw : GardenAt cI w ad q) (h : f_X4_bedToDig q μ = some r) : Met l yX4_bedToDig wsX4_bedToDig (rmk 3 64) (WPre D (tyl cI cG cL) A EN (w μ) [.ref (ad q)]) (PI D A (w μ) r) 0 0 A := by
  have hiX4 : ∀ w ∈ u_ws RX4 TX4 10, w ∈ wsX4_bedToDig := by decide +kernel
  have mf12 : Cond.fieldLink RX4 12 (TX4 0).1 (TX4 0).2.1 (TX4 0).2.2.1 ∈ wsX4_bedToDig := by decide +kernel
  refine met_start (cc := cX4_bedToDig) (nL := 1) (ret := (some .int)) (own := RX4) hE (by decide) rfl rfl (Nat.le_of_ble_eq_true rfl) (fun p e s m args below meth c ls X hS hl hr hlk => ?_)
  have hx := X.1.1
  have hb := X.1.2.1
  replace hl : lv_has ls 1 [(0, .ref (ad q))] := hl
  unfold f_X4_bedToDig at h
  refine lv_aload_n hx hb dX4_bedToDig_0 rfl (lv_at hl 0 rfl) ?_
  refine r_get X hS (T := TX4) (k := 0) (hw.1 μ).1 rfl hiX4 (by decide) mf12 rfl dX4_bedToDig_1 ?_
  refine lv_aload_n hx hb dX4_bedToDig_4 rfl (lv_at hl 0 rfl) ?_
  obtain ⟨v1, ev1, h⟩ := ob h
  refine r_ci hS (r_runV (As := []) (rest := [.ref (ad (q + 1))]) X hS (c_X4_neededCount l hE (w := w) (ad := ad) (μ := μ) (D := D) (cI := cI) (cG := cG) (cL := cL) hw ev1) (cwV 0 X.1.2.2.2.2 gX4_bedToDig_X4_neededCount rfl rfl rfl (by decide +kernel) ⟨Nat.le_of_ble_eq_true rfl, Nat.le_of_ble_eq_true rfl⟩) (q0 := q) (ci := 2) rfl (hw.1 μ).1 rfl hl.1 rfl (Nat.le_of_ble_eq_true rfl) dX4_bedToDig_5 ⟨Nat.zero_le _, Nat.zero_le _⟩) (fun H locs hS => ?_)
  obtain ⟨v2, ev2, h⟩ := ob h
  refine r_ci hS (r_runV (As := [.int v1]) (rest := []) X hS (c_X1_bedToDig l hE (w := w) (ad := ad) (μ := μ) (D := D) (cI := cI) (cG := cG) (cL := cL) hw.2.1 ev2) (cwV 1 X.1.2.2.2.2 gX4_bedToDig_X1_bedToDig rfl rfl rfl (by decide +kernel) ⟨Nat.le_of_ble_eq_true rfl, Nat.le_of_ble_eq_true rfl⟩) (q0 := (q + 1)) (ci := 0) rfl (hw.2.1.1 μ).1 rfl hl.1 rfl (Nat.le_of_ble_eq_true rfl) dX4_bedToDig_8 ⟨Nat.zero_le _, Nat.zero_le _⟩) (fun H locs hS => ?_)
  cases h
  exact r_iret X hS hr hlk dX4_bedToDig_11
def f_X4_differencesTo_b30 (q : Nat) (k4 : Int32 → Int32 → Int32 → Mem → Option Int32) (x1 : Int32) (x3 : Int32) (s0 : Int32) (s1 : Int32) (μ : Mem) : Option Int32 := (f_X6_one s0).bind (fun v3 => k4 x1 (s1 + v3) (x3 + 1) μ)
def f_X4_differencesTo_b4 (q : Nat)  : Nat → Int32 → Int32 → Int32 → Mem → Option Int32
  | 0, _, _, _, _ => none
  | fuel4 + 1, x1, x2, x3, μ => (if 100 ≤ x3 then (some x2) else (f_X4_readerValue q x1 x3 μ).bind (fun v1 => (f_X4_currentValue q x3 μ).bind (fun v2 => (if v1 = v2 then f_X4_differencesTo_b30 q (f_X4_differencesTo_b4 q fuel4) x1 x3 0 x2 μ else f_X4_differencesTo_b30 q (f_X4_differencesTo_b4 q fuel4) x1 x3 1 x2 μ))))
def f_X4_differencesTo (q : Nat) (a1 : Int32) (μ : Mem) : Option Int32 := f_X4_differencesTo_b4 q FU a1 0 0 μ
set_option maxHeartbeats 4000000 in
set_option maxRecDepth 100000 in
theorem c_X4_differencesTo (l : Launch) {D : va_G} {cI cG cL : ClassId} {A : Nat → Prop} {EN : State → Heap → Prop} (hE : EnOK EN A) {w : Mem → va_W} {ad : Nat → Nat} {q : Nat} {a1 : Int32} {μ : Mem} {r : Int32} (hw : GardenAt cI w ad q) (h : f_X4_differencesTo q a1 μ = some r) : Met l yX4_differencesTo wsX4_differencesTo (rmk 4 93) (WPre D (tyl cI cG cL) A EN (w μ) [.ref (ad q), .int a1]) (PI D A (w μ) r) 0 0 A := by
  have miX6 : Cond.initialized RX6 ∈ wsX4_differencesTo := by decide +kernel
  have ms213 : Cond.static yX6_one ∈ wsX4_differencesTo := by decide +kernel
  refine met_start (cc := cX4_differencesTo) (nL := 4) (ret := (some .int)) (own := RX4) hE (by decide) rfl rfl (Nat.le_of_ble_eq_true rfl) (fun p e s m args below meth c ls X hS hl hr hlk => ?_)
  have hx := X.1.1
  have hb := X.1.2.1
  replace hl : lv_has ls 4 [(0, .ref (ad q)), (1, .int a1)] := hl
  have hb30 : ∀ (k4 : Int32 → Int32 → Int32 → Mem → Option Int32), (∀ (x1 : Int32) (x2 : Int32) (x3 : Int32) (H : Heap) (locs : List Loc) (ls : Array Slot), HS D A (w μ) s.heap H locs → lv_has ls 4 [(0, .ref (ad q)), (1, .int x1), (2, .int x2), (3, .int x3)] → k4 x1 x2 x3 μ = some r → W p l e (headSpec wsX4_differencesTo (rmk 4 93)).room s m args below meth c H locs 0 0 (MQ below (PI D A (w μ) r) args s 0 0 A) (F0 m 4 ls [])) → ∀ (x1 : Int32) (x3 : Int32) (s0 : Int32) (s1 : Int32) (H : Heap) (locs : List Loc) (ls : Array Slot), HS D A (w μ) s.heap H locs → lv_has ls 4 [(0, .ref (ad q)), (1, .int x1), (3, .int x3)] → f_X4_differencesTo_b30 q k4 x1 x3 s0 s1 μ = some r → W p l e (headSpec wsX4_differencesTo (rmk 4 93)).room s m args below meth c H locs 0 0 (MQ below (PI D A (w μ) r) args s 0 0 A) (F0 m 30 ls [.int s0, .int s1]) := by
    intro k4 hk4 x1 x3 s0 s1 H locs ls hS hl h
    unfold f_X4_differencesTo_b30 at h
    obtain ⟨v3, ev3, h⟩ := ob h
    refine r_ci hS (r_runSN (As := [.int s0]) (rest := [.int s1]) (host := RX6) X hS (c_X6_one l hE (w := w) (ad := ad) (μ := μ) (D := D) (cI := cI) (cG := cG) (cL := cL) ev3) (va_cnB 1 X.1.2.2.2.2 gX4_differencesTo_X6_one_n213 rfl rfl rfl (X.nest 7 rfl) (X.1.2.2.2.2 _ miX6) (by decide +kernel) ⟨Nat.le_of_ble_eq_true rfl, Nat.le_of_ble_eq_true rfl⟩) (X.1.2.2.2.2 _ ms213) rfl hl.1 rfl (Nat.le_of_ble_eq_true rfl) dX4_differencesTo_30 ⟨Nat.zero_le _, Nat.zero_le _⟩) (fun H locs hS => ?_)
    refine lv_iadd hx hb dX4_differencesTo_33 ?_
    refine lv_istore_n (lv' := [(2, .int (s1 + v3)), (0, .ref (ad q)), (1, .int x1), (3, .int x3)]) hx hb dX4_differencesTo_34 rfl hl (by decide) rfl (fun ls hl => ?_)
    refine lv_iinc (v := x3 + 1) (lv' := [(3, .int (x3 + 1)), (2, .int (s1 + v3)), (0, .ref (ad q)), (1, .int x1)]) hx hb dX4_differencesTo_35 hl (k := 3) rfl rfl (by decide) rfl (fun ls hl => ?_)
    refine lv_goto (tgt := 4) hx hb dX4_differencesTo_38 (by decide) ?_
    exact hk4 x1 (s1 + v3) (x3 + 1) _ _ _ hS (lv_sub hl [2, 3, 1, 0] rfl) h
  have hb4 : ∀ (fu : Nat) (x1 : Int32) (x2 : Int32) (x3 : Int32) (H : Heap) (locs : List Loc) (ls : Array Slot), HS D A (w μ) s.heap H locs → lv_has ls 4 [(0, .ref (ad q)), (1, .int x1), (2, .int x2), (3, .int x3)] → f_X4_differencesTo_b4 q fu x1 x2 x3 μ = some r → W p l e (headSpec wsX4_differencesTo (rmk 4 93)).room s m args below meth c H locs 0 0 (MQ below (PI D A (w μ) r) args s 0 0 A) (F0 m 4 ls []) := by
    intro fu
    induction fu with
    | zero =>
      intro x1 x2 x3 H locs ls hS hl h
      rw [f_X4_differencesTo_b4] at h
      cases h
    | succ fuel4 ih4 =>
      intro x1 x2 x3 H locs ls hS hl h
      rw [f_X4_differencesTo_b4] at h
      refine lv_iload_n hx hb dX4_differencesTo_4 rfl (lv_at hl 3 rfl) ?_
      refine lv_bipush (v := 100) hx hb dX4_differencesTo_5 (by decide) ?_
      refine lv_icmp_ge (tgt := 41) hx hb dX4_differencesTo_7 (by decide) (fun cc => ?_) (fun cc => ?_)
      · replace h := it h cc
        refine lv_iload_n hx hb dX4_differencesTo_41 rfl (lv_at hl 2 rfl) ?_
        cases h
        exact r_iret X hS hr hlk dX4_differencesTo_42
      · replace h := ie h cc
        refine lv_iload_n hx hb dX4_differencesTo_10 rfl (lv_at hl 2 rfl) ?_
        refine lv_aload_n hx hb dX4_differencesTo_11 rfl (lv_at hl 0 rfl) ?_
        refine lv_iload_n hx hb dX4_differencesTo_12 rfl (lv_at hl 1 rfl) ?_
        refine lv_iload_n hx hb dX4_differencesTo_13 rfl (lv_at hl 3 rfl) ?_
        obtain ⟨v1, ev1, h⟩ := ob h
        refine r_ci hS (r_runV (As := [.int x1, .int x3]) (rest := [.int x2]) X hS (c_X4_readerValue l hE (w := w) (ad := ad) (μ := μ) (D := D) (cI := cI) (cG := cG) (cL := cL) hw ev1) (cwV 2 X.1.2.2.2.2 gX4_differencesTo_X4_readerValue rfl rfl rfl (by decide +kernel) ⟨Nat.le_of_ble_eq_true rfl, Nat.le_of_ble_eq_true rfl⟩) (q0 := q) (ci := 2) rfl (hw.1 μ).1 rfl hl.1 rfl (Nat.le_of_ble_eq_true rfl) dX4_differencesTo_14 ⟨Nat.zero_le _, Nat.zero_le _⟩) (fun H locs hS => ?_)
        refine lv_aload_n hx hb dX4_differencesTo_17 rfl (lv_at hl 0 rfl) ?_
        refine lv_iload_n hx hb dX4_differencesTo_18 rfl (lv_at hl 3 rfl) ?_
        obtain ⟨v2, ev2, h⟩ := ob h
        refine r_ci hS (r_runV (As := [.int x3]) (rest := [.int v1, .int x2]) X hS (c_X4_currentValue l hE (w := w) (ad := ad) (μ := μ) (D := D) (cI := cI) (cG := cG) (cL := cL) hw ev2) (cwV 1 X.1.2.2.2.2 gX4_differencesTo_X4_currentValue rfl rfl rfl (by decide +kernel) ⟨Nat.le_of_ble_eq_true rfl, Nat.le_of_ble_eq_true rfl⟩) (q0 := q) (ci := 2) rfl (hw.1 μ).1 rfl hl.1 rfl (Nat.le_of_ble_eq_true rfl) dX4_differencesTo_19 ⟨Nat.zero_le _, Nat.zero_le _⟩) (fun H locs hS => ?_)
        refine lv_icmp_eq (tgt := 29) hx hb dX4_differencesTo_22 (by decide) (fun cc => ?_) (fun cc => ?_)
        · replace h := it h cc
          refine lv_iconst (v := 0) hx hb dX4_differencesTo_29 (by decide) ?_
          exact hb30 (f_X4_differencesTo_b4 q fuel4) ih4 x1 x3 0 x2 _ _ _ hS (lv_sub hl [0, 1, 3] rfl) h
        · replace h := ie h cc
          refine lv_iconst (v := 1) hx hb dX4_differencesTo_25 (by decide) ?_
          refine lv_goto (tgt := 30) hx hb dX4_differencesTo_26 (by decide) ?_
          exact hb30 (f_X4_differencesTo_b4 q fuel4) ih4 x1 x3 1 x2 _ _ _ hS (lv_sub hl [0, 1, 3] rfl) h
  unfold f_X4_differencesTo at h
  refine lv_iconst (v := 0) hx hb dX4_differencesTo_0 (by decide) ?_
  refine lv_istore_n (lv' := [(2, .int 0), (0, .ref (ad q)), (1, .int a1)]) hx hb dX4_differencesTo_1 rfl hl (by decide) rfl (fun ls hl => ?_)
  refine lv_iconst (v := 0) hx hb dX4_differencesTo_2 (by decide) ?_
  refine lv_istore_n (lv' := [(3, .int 0), (2, .int 0), (0, .ref (ad q)), (1, .int a1)]) hx hb dX4_differencesTo_3 rfl hl (by decide) rfl (fun ls hl => ?_)
  exact hb4 FU a1 0 0 _ _ _ hS (lv_sub hl [2, 3, 1, 0] rfl) h
