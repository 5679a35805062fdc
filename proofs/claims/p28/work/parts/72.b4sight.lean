def f_L_sight_b28 (q0 : Nat) (k61 : Int64 → Int32 → Mem → Option Int64) : Nat → Int64 → Int32 → Int32 → Mem → Option Int64
  | 0, _, _, _, _ => none
  | fuel28 + 1, x1, x3, x4, μ => (if 4 ≤ x4 then k61 x1 x3 μ else (if 30 ≤ x3 then k61 x1 x3 μ else (f_L_read q0 x4 x3 μ).bind (fun v2 => f_L_sight_b28 q0 k61 fuel28 ((31 * x1) + v2.toInt64) x3 (x4 + 1) μ)))
def f_L_sight_b61 (q0 : Nat) (k6 : Int64 → Int32 → Mem → Option Int64) (x1 : Int64) (x3 : Int32) (μ : Mem) : Option Int64 := k6 x1 (x3 + 1) μ
def f_L_sight_b6 (q0 : Nat)  : Nat → Int64 → Int32 → Mem → Option Int64
  | 0, _, _, _ => none
  | fuel6 + 1, x1, x3, μ => (if 100 ≤ x3 then (some x1) else (f_X6_get q0 x3 μ).bind (fun v1 => f_L_sight_b28 q0 (fun z3 z4 _ => f_L_sight_b61 q0 (f_L_sight_b6 q0 fuel6) z3 z4 μ) 5 ((31 * x1) + v1.toInt64) x3 0 μ))
def f_L_sight (q0 : Nat) (μ : Mem) : Option Int64 := f_L_sight_b6 q0 101 7 0 μ
set_option maxHeartbeats 4000000 in
set_option maxRecDepth 100000 in
theorem c_L_sight (l : Launch) {D : va_G} {cI cG cL : ClassId} {A : Nat → Prop} {tC tS : Nat} {adE adK adV : Nat → Nat} (hE : EnOK (ENV tC tS adE adK adV A) A) (hst : l.stackTraces = false) {w : Mem → va_W} {ad : Nat → Nat} {q0 : Nat} {μ : Mem} {r : Int64} (hw0 : PGAt cI cG adE w ad q0) (h : f_L_sight q0 μ = some r) : Met l yL_sight wsL_sight (rmc 9 505 3030 147) (WPre D (tyl cI cG cL) A (ENV tC tS adE adK adV A) (w μ) [.ref (ad q0)]) (PL D A (w μ) r) 505 3030 A := by
  have mc89 : Cond.constantLong RL 89 7 ∈ wsL_sight := by decide +kernel
  have mc91 : Cond.constantLong RL 91 31 ∈ wsL_sight := by decide +kernel
  refine met_startM (cc := cL_sight) (nL := 5) (ret := (some .long)) (own := RL) hE (by decide) rfl rfl (Nat.le_of_ble_eq_true rfl) (fun p e s m args below meth c ls X hS hl hr hlk => ?_)
  have hx := X.1.1
  have hb := X.1.2.1
  replace hl : lv_has ls 5 [(0, .ref (ad q0))] := hl
  have hb28 : ∀ (k61 : Int64 → Int32 → Mem → Option Int64) (G GS : Nat), (∀ (x1 : Int64) (x3 : Int32) (cells slots : Nat), cells + G ≤ 505 → slots + GS ≤ 3030 → ∀ (H : Heap) (locs : List Loc) (ls : Array Slot), HS D A (w μ) s.heap H locs → lv_has ls 5 [(0, .ref (ad q0)), (1, .long x1), (3, .int x3)] → k61 x1 x3 μ = some r → W p l e (headSpec wsL_sight (rmc 9 505 3030 147)).room s m args below meth c H locs cells slots (MQ below (PL D A (w μ) r) args s 505 3030 A) (F0 m 61 ls [])) → ∀ (fu : Nat) (x1 : Int64) (x3 : Int32) (x4 : Int32) (cells slots : Nat), cells + (fu * 1 + G) ≤ 505 → slots + (fu * 6 + GS) ≤ 3030 → ∀ (H : Heap) (locs : List Loc) (ls : Array Slot), HS D A (w μ) s.heap H locs → lv_has ls 5 [(0, .ref (ad q0)), (1, .long x1), (3, .int x3), (4, .int x4)] → f_L_sight_b28 q0 k61 fu x1 x3 x4 μ = some r → W p l e (headSpec wsL_sight (rmc 9 505 3030 147)).room s m args below meth c H locs cells slots (MQ below (PL D A (w μ) r) args s 505 3030 A) (F0 m 28 ls []) := by
    intro k61 G GS hk61 fu
    induction fu with
    | zero =>
      intro x1 x3 x4 cells slots hc hs H locs ls hS hl h
      rw [f_L_sight_b28] at h
      cases h
    | succ fuel28 ih28 =>
      intro x1 x3 x4 cells slots hc hs H locs ls hS hl h
      rw [f_L_sight_b28] at h
      refine lv_iload hx hb dL_sight_28 (lv_at hl 3 rfl) ?_
      refine lv_iconst (v := 4) hx hb dL_sight_30 (by decide) ?_
      refine lv_icmp_ge (tgt := 61) hx hb dL_sight_31 (by decide) (fun cc => ?_) (fun cc => ?_)
      · replace h := it h cc
        exact hk61 x1 x3 _ _ (by omega) (by omega) _ _ _ hS (lv_sub hl [0, 1, 2] rfl) h
      · replace h := ie h cc
        refine lv_iload_n hx hb dL_sight_34 rfl (lv_at hl 2 rfl) ?_
        refine lv_bipush (v := 30) hx hb dL_sight_35 (by decide) ?_
        refine lv_icmp_ge (tgt := 61) hx hb dL_sight_37 (by decide) (fun cc => ?_) (fun cc => ?_)
        · replace h := it h cc
          exact hk61 x1 x3 _ _ (by omega) (by omega) _ _ _ hS (lv_sub hl [0, 1, 2] rfl) h
        · replace h := ie h cc
          refine lv_ldc2 (v := 31) hx hb X.1.2.2.2.1 (X.1.2.2.2.2 _ mc91) dL_sight_40 ?_
          refine lv_lload_n hx hb dL_sight_43 rfl (lv_at hl 1 rfl) ?_
          refine lv_lmul hx hb dL_sight_44 ?_
          refine lv_aload_n hx hb dL_sight_45 rfl (lv_at hl 0 rfl) ?_
          refine lv_iload hx hb dL_sight_46 (lv_at hl 3 rfl) ?_
          refine lv_iload_n hx hb dL_sight_48 rfl (lv_at hl 2 rfl) ?_
          obtain ⟨v2, ev2, h⟩ := ob h
          refine r_cim hS (r_runSW (mc := 1) (ms := 6) (As := [.ref (ad q0), .int x4, .int x3]) (rest := [.long (31 * x1)]) X hS (c_L_read l hE hst (w := w) (ad := ad) (μ := μ) (D := D) (cI := cI) (cG := cG) (cL := cL) hw0 ev2) (vx_cwSW (hh := [(0, 6, 7, 39), (0, 6, 12, 15), (0, 6, 17, 17)]) 3 X.1.2.2.2.2 gL_sight_L_read rfl rfl rfl (by decide +kernel) ⟨Nat.le_of_ble_eq_true rfl, Nat.le_of_ble_eq_true rfl⟩) rfl hl.1 rfl (Nat.le_of_ble_eq_true rfl) dL_sight_49 ⟨Nat.le_trans (m := 505) (by omega) (Nat.le_of_ble_eq_true rfl), Nat.le_trans (m := 3030) (by omega) (Nat.le_of_ble_eq_true rfl)⟩) (fun H locs hS => ?_)
          refine lv_i2l (v := v2.toInt64) hx hb dL_sight_52 rfl ?_
          refine lv_ladd hx hb dL_sight_53 ?_
          refine lv_lstore_n (lv' := [(1, .long ((31 * x1) + v2.toInt64)), (0, .ref (ad q0)), (3, .int x3), (4, .int x4)]) hx hb dL_sight_54 rfl hl (by decide) rfl (fun ls hl => ?_)
          refine lv_iinc (v := x4 + 1) (lv' := [(4, .int (x4 + 1)), (1, .long ((31 * x1) + v2.toInt64)), (0, .ref (ad q0)), (3, .int x3)]) hx hb dL_sight_55 hl (k := 3) rfl rfl (by decide) rfl (fun ls hl => ?_)
          refine lv_goto (tgt := 28) hx hb dL_sight_58 (by decide) ?_
          exact ih28 ((31 * x1) + v2.toInt64) x3 (x4 + 1) _ _ (by omega) (by omega) _ _ _ hS (lv_sub hl [2, 1, 3, 0] rfl) h
  have hb61 : ∀ (k6 : Int64 → Int32 → Mem → Option Int64) (G6 GS6 : Nat), 0 ≤ G6 → 0 ≤ GS6 → (∀ (x1 : Int64) (x3 : Int32) (cells slots : Nat), cells + G6 ≤ 505 → slots + GS6 ≤ 3030 → ∀ (H : Heap) (locs : List Loc) (ls : Array Slot), HS D A (w μ) s.heap H locs → lv_has ls 5 [(0, .ref (ad q0)), (1, .long x1), (3, .int x3)] → k6 x1 x3 μ = some r → W p l e (headSpec wsL_sight (rmc 9 505 3030 147)).room s m args below meth c H locs cells slots (MQ below (PL D A (w μ) r) args s 505 3030 A) (F0 m 6 ls [])) → ∀ (x1 : Int64) (x3 : Int32) (cells slots : Nat), cells + 0 + G6 ≤ 505 → slots + 0 + GS6 ≤ 3030 → ∀ (H : Heap) (locs : List Loc) (ls : Array Slot), HS D A (w μ) s.heap H locs → lv_has ls 5 [(0, .ref (ad q0)), (1, .long x1), (3, .int x3)] → f_L_sight_b61 q0 k6 x1 x3 μ = some r → W p l e (headSpec wsL_sight (rmc 9 505 3030 147)).room s m args below meth c H locs cells slots (MQ below (PL D A (w μ) r) args s 505 3030 A) (F0 m 61 ls []) := by
    intro k6 G6 GS6 hG6 hGS6 hk6 x1 x3 cells slots hc hs H locs ls hS hl h
    unfold f_L_sight_b61 at h
    refine lv_iinc (v := x3 + 1) (lv' := [(3, .int (x3 + 1)), (0, .ref (ad q0)), (1, .long x1)]) hx hb dL_sight_61 hl (k := 2) rfl rfl (by decide) rfl (fun ls hl => ?_)
    refine lv_goto (tgt := 6) hx hb dL_sight_64 (by decide) ?_
    exact hk6 x1 (x3 + 1) _ _ (by omega) (by omega) _ _ _ hS (lv_sub hl [1, 2, 0] rfl) h
  have hb6 : ∀ (fu : Nat) (x1 : Int64) (x3 : Int32) (cells slots : Nat), cells + (fu * 5 + 0) ≤ 505 → slots + (fu * 30 + 0) ≤ 3030 → ∀ (H : Heap) (locs : List Loc) (ls : Array Slot), HS D A (w μ) s.heap H locs → lv_has ls 5 [(0, .ref (ad q0)), (1, .long x1), (3, .int x3)] → f_L_sight_b6 q0 fu x1 x3 μ = some r → W p l e (headSpec wsL_sight (rmc 9 505 3030 147)).room s m args below meth c H locs cells slots (MQ below (PL D A (w μ) r) args s 505 3030 A) (F0 m 6 ls []) := by
    intro fu
    induction fu with
    | zero =>
      intro x1 x3 cells slots hc hs H locs ls hS hl h
      rw [f_L_sight_b6] at h
      cases h
    | succ fuel6 ih6 =>
      intro x1 x3 cells slots hc hs H locs ls hS hl h
      rw [f_L_sight_b6] at h
      refine lv_iload_n hx hb dL_sight_6 rfl (lv_at hl 2 rfl) ?_
      refine lv_bipush (v := 100) hx hb dL_sight_7 (by decide) ?_
      refine lv_icmp_ge (tgt := 67) hx hb dL_sight_9 (by decide) (fun cc => ?_) (fun cc => ?_)
      · replace h := it h cc
        refine lv_lload_n hx hb dL_sight_67 rfl (lv_at hl 1 rfl) ?_
        cases h
        exact r_lretM X hS hr hlk (by omega) (by omega) dL_sight_68
      · replace h := ie h cc
        refine lv_ldc2 (v := 31) hx hb X.1.2.2.2.1 (X.1.2.2.2.2 _ mc91) dL_sight_12 ?_
        refine lv_lload_n hx hb dL_sight_15 rfl (lv_at hl 1 rfl) ?_
        refine lv_lmul hx hb dL_sight_16 ?_
        refine lv_aload_n hx hb dL_sight_17 rfl (lv_at hl 0 rfl) ?_
        refine lv_iload_n hx hb dL_sight_18 rfl (lv_at hl 2 rfl) ?_
        obtain ⟨v1, ev1, h⟩ := ob h
        refine r_ci hS (r_runV (As := [.int x3]) (rest := [.long (31 * x1)]) X hS (c_X6_get l hE (w := w) (ad := ad) (μ := μ) (D := D) (cI := cI) (cG := cG) (cL := cL) hw0 ev1) (cwV 1 X.1.2.2.2.2 gL_sight_X6_get rfl rfl rfl (by decide +kernel) ⟨Nat.le_of_ble_eq_true rfl, Nat.le_of_ble_eq_true rfl⟩) (q0 := q0) (ci := 4) rfl (hw0.1 μ).1 rfl hl.1 rfl (Nat.le_of_ble_eq_true rfl) dL_sight_19 ⟨Nat.le_trans (m := 505) (by omega) (Nat.le_of_ble_eq_true rfl), Nat.le_trans (m := 3030) (by omega) (Nat.le_of_ble_eq_true rfl)⟩) (fun H locs hS => ?_)
        refine lv_i2l (v := v1.toInt64) hx hb dL_sight_22 rfl ?_
        refine lv_ladd hx hb dL_sight_23 ?_
        refine lv_lstore_n (lv' := [(1, .long ((31 * x1) + v1.toInt64)), (0, .ref (ad q0)), (3, .int x3)]) hx hb dL_sight_24 rfl hl (by decide) rfl (fun ls hl => ?_)
        refine lv_iconst (v := 0) hx hb dL_sight_25 (by decide) ?_
        refine lv_istore (lv' := [(4, .int 0), (1, .long ((31 * x1) + v1.toInt64)), (0, .ref (ad q0)), (3, .int x3)]) hx hb dL_sight_26 hl (by decide) rfl (fun ls hl => ?_)
        refine hb28 _ (0 + (fuel6 * 5 + 0)) (0 + (fuel6 * 30 + 0)) ?_ 5 ((31 * x1) + v1.toInt64) x3 0 _ _ (by omega) (by omega) _ _ _ hS (lv_sub hl [2, 1, 3, 0] rfl) h
        intro z3 z4 cells slots hc hs H locs ls hS hl h
        exact hb61 (f_L_sight_b6 q0 fuel6) (fuel6 * 5 + 0) (fuel6 * 30 + 0) (by omega) (by omega) (fun x1 x3 cells slots hc hs => ih6 x1 x3 cells slots (by omega) (by omega)) z3 z4 _ _ (by omega) (by omega) _ _ _ hS (lv_sub hl [0, 1, 2] rfl) h
  have key : ∀ (cells slots : Nat), cells + 505 ≤ 505 → slots + 3030 ≤ 3030 → W p l e (headSpec wsL_sight (rmc 9 505 3030 147)).room s m args below meth c s.heap [] cells slots (MQ below (PL D A (w μ) r) args s 505 3030 A) (F0 m 0 ls []) := by
    intro cells slots hc hs
    unfold f_L_sight at h
    refine lv_ldc2 (v := 7) hx hb X.1.2.2.2.1 (X.1.2.2.2.2 _ mc89) dL_sight_0 ?_
    refine lv_lstore_n (lv' := [(1, .long 7), (0, .ref (ad q0))]) hx hb dL_sight_3 rfl hl (by decide) rfl (fun ls hl => ?_)
    refine lv_iconst (v := 0) hx hb dL_sight_4 (by decide) ?_
    refine lv_istore_n (lv' := [(3, .int 0), (1, .long 7), (0, .ref (ad q0))]) hx hb dL_sight_5 rfl hl (by decide) rfl (fun ls hl => ?_)
    exact hb6 101 7 0 _ _ (by omega) (by omega) _ _ _ hS (lv_sub hl [2, 1, 0] rfl) h
  exact key 0 0 (by decide) (by decide)
