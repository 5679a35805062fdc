def f_L_roots_b445 (q0 : Nat) (s0 : Int32) (μ : Mem) : Option Int32 := (zr s0).bind (fun v5 => (some v5))
def f_L_roots_b444 (q0 : Nat)  (μ : Mem) : Option Int32 := f_L_roots_b445 q0 0 μ
def f_L_roots_b385 (q0 : Nat) (x1 : Int32) (x3 : Int32) (x4 : Int32) (μ : Mem) : Option Int32 := (f_X6_whole q0 4 μ).bind (fun v8 => (if v8 = x3 then (f_X6_whole q0 7 μ).bind (fun v9 => (if v9 = x4 then (f_X6_root q0 x1 1 μ).bind (fun v10 => (f_X6_bed q0 v10 0 μ).bind (fun v11 => (if v11 = 1 then (f_X6_root q0 x1 1 μ).bind (fun v12 => (f_X6_bed q0 v12 2 μ).bind (fun v13 => (f_X6_whole q0 6 μ).bind (fun v14 => (if v13 = v14 then f_L_roots_b445 q0 1 μ else f_L_roots_b444 q0 μ)))) else f_L_roots_b444 q0 μ))) else f_L_roots_b444 q0 μ)) else f_L_roots_b444 q0 μ))
def f_L_roots_b326 (q0 : Nat) (k131 : Int32 → Int32 → Int32 → Int32 → Int32 → Mem → Option Int32) (x1 : Int32) (x2 : Int32) (x3 : Int32) (x4 : Int32) (x5 : Int32) (μ : Mem) : Option Int32 := k131 x1 x2 x3 x4 (x5 + 1) μ
def f_L_roots_b324 (q0 : Nat)  (μ : Mem) : Option Int32 := (some 0)
def f_L_roots_b281 (q0 : Nat) (k131 : Int32 → Int32 → Int32 → Int32 → Int32 → Mem → Option Int32) (x1 : Int32) (x2 : Int32) (x3 : Int32) (x4 : Int32) (x5 : Int32) (x6 : Int32) (μ : Mem) : Option Int32 := (if x6 = 0 then (f_L_since q0 x5 μ).bind (fun v17 => (if v17 = (-2902) then (f_L_read q0 x5 0 μ).bind (fun v18 => (if v18 = (-2902) then (f_X6_reader q0 x5 2 μ).bind (fun v19 => (if v19 = (-1000) then f_L_roots_b326 q0 k131 x1 x2 x3 x4 x5 μ else f_L_roots_b324 q0 μ)) else f_L_roots_b324 q0 μ)) else f_L_roots_b324 q0 μ)) else f_L_roots_b326 q0 k131 x1 x2 x3 x4 x5 μ)
def f_L_roots_b267 (q0 : Nat) (k131 : Int32 → Int32 → Int32 → Int32 → Int32 → Mem → Option Int32) (x1 : Int32) (x2 : Int32) (x3 : Int32) (x4 : Int32) (x5 : Int32) (x6 : Int32) (μ : Mem) : Option Int32 := (f_X6_neededWithout q0 x5 μ).bind (fun v26 => (f_X6_whole q0 4 μ).bind (fun v27 => (if v26 < v27 then f_L_roots_b324 q0 μ else f_L_roots_b281 q0 k131 x1 x2 x3 x4 x5 x6 μ)))
def f_L_roots_b199 (q0 : Nat) (k131 : Int32 → Int32 → Int32 → Int32 → Int32 → Mem → Option Int32) (x1 : Int32) (x2 : Int32) (x4 : Int32) (x5 : Int32) (x6 : Int32) (s0 : Int32) (μ : Mem) : Option Int32 := (if x6 = 0 then f_L_roots_b281 q0 k131 x1 x2 s0 x4 x5 x6 μ else (f_X6_reader q0 x5 0 μ).bind (fun v20 => (if x2 < v20 then f_L_roots_b324 q0 μ else (f_X6_reader q0 x5 1 μ).bind (fun v21 => (f_X6_bed q0 v21 0 μ).bind (fun v22 => (if v22 = 0 then f_L_roots_b324 q0 μ else (f_X6_reader q0 x5 1 μ).bind (fun v23 => (f_X6_bed q0 v23 4 μ).bind (fun v24 => (if v24 = 1 then f_L_roots_b324 q0 μ else (f_X6_reader q0 x5 0 μ).bind (fun v25 => (if v25 = x2 then (f_X6_changedSince q0 x5 μ).bind (fun v28 => (if v28 = 0 then f_L_roots_b267 q0 k131 x1 x2 s0 x4 x5 x6 μ else f_L_roots_b324 q0 μ)) else f_L_roots_b267 q0 k131 x1 x2 s0 x4 x5 x6 μ)))))))))))
def f_L_roots_b198 (q0 : Nat) (k131 : Int32 → Int32 → Int32 → Int32 → Int32 → Mem → Option Int32) (x1 : Int32) (x2 : Int32) (x3 : Int32) (x4 : Int32) (x5 : Int32) (x6 : Int32) (μ : Mem) : Option Int32 := f_L_roots_b199 q0 k131 x1 x2 x4 x5 x6 x3 μ
def f_L_roots_b169 (q0 : Nat) (k131 : Int32 → Int32 → Int32 → Int32 → Int32 → Mem → Option Int32) (x1 : Int32) (x2 : Int32) (x3 : Int32) (x5 : Int32) (x6 : Int32) (s0 : Int32) (s1 : Int32) (μ : Mem) : Option Int32 := (if x6 = 0 then f_L_roots_b198 q0 k131 x1 x2 x3 (s1 + s0) x5 x6 μ else (f_X6_reader q0 x5 0 μ).bind (fun v29 => (if x3 ≤ v29 then f_L_roots_b198 q0 k131 x1 x2 x3 (s1 + s0) x5 x6 μ else (f_X6_reader q0 x5 0 μ).bind (fun v30 => f_L_roots_b199 q0 k131 x1 x2 (s1 + s0) x5 x6 v30 μ))))
def f_L_roots_b155 (q0 : Nat) (k131 : Int32 → Int32 → Int32 → Int32 → Int32 → Mem → Option Int32) (x1 : Int32) (x2 : Int32) (x3 : Int32) (x4 : Int32) (x5 : Int32) (s0 : Int32) (μ : Mem) : Option Int32 := (if s0 = 0 then f_L_roots_b169 q0 k131 x1 x2 x3 x5 s0 0 x4 μ else f_L_roots_b169 q0 k131 x1 x2 x3 x5 s0 1 x4 μ)
def f_L_roots_b131 (q0 : Nat)  : Nat → Int32 → Int32 → Int32 → Int32 → Int32 → Mem → Option Int32
  | 0, _, _, _, _, _, _ => none
  | fuel131 + 1, x1, x2, x3, x4, x5, μ => (if 4 ≤ x5 then (f_X6_root q0 0 3 μ).bind (fun v3 => (f_X6_root q0 1 3 μ).bind (fun v4 => (if (v3 + v4) = 1 then (f_X6_root q0 x1 2 μ).bind (fun v6 => (if v6 = 1 then (f_X6_root q0 (1 - x1) 2 μ).bind (fun v7 => (if v7 = 0 then f_L_roots_b385 q0 x1 x3 x4 μ else (f_X6_root q0 (1 - x1) 0 μ).bind (fun v15 => (if x2 ≤ v15 then f_L_roots_b444 q0 μ else f_L_roots_b385 q0 x1 x3 x4 μ)))) else f_L_roots_b444 q0 μ)) else f_L_roots_b444 q0 μ))) else (f_X6_reader q0 x5 0 μ).bind (fun v16 => (if v16 = (-1000) then f_L_roots_b155 q0 (f_L_roots_b131 q0 fuel131) x1 x2 x3 x4 x5 0 μ else f_L_roots_b155 q0 (f_L_roots_b131 q0 fuel131) x1 x2 x3 x4 x5 1 μ)))
def f_L_roots_b122 (q0 : Nat) (k22 : Int32 → Int32 → Int32 → Int32 → Int32 → Mem → Option Int32) (x1 : Int32) (x2 : Int32) (x3 : Int32) (x4 : Int32) (x5 : Int32) (μ : Mem) : Option Int32 := k22 x1 x2 x3 x4 (x5 + 1) μ
def f_L_roots_b120 (q0 : Nat)  (μ : Mem) : Option Int32 := (some 0)
def f_L_roots_b61 (q0 : Nat) (k22 : Int32 → Int32 → Int32 → Int32 → Int32 → Mem → Option Int32) (x1 : Int32) (x2 : Int32) (x4 : Int32) (x5 : Int32) (s0 : Int32) (μ : Mem) : Option Int32 := (f_X6_root q0 x5 2 μ).bind (fun v32 => (if v32 = 1 then (f_X6_root q0 x5 1 μ).bind (fun v33 => (f_X6_bed q0 v33 0 μ).bind (fun v34 => (if v34 = 0 then f_L_roots_b120 q0 μ else (f_X6_root q0 x5 1 μ).bind (fun v35 => (f_X6_bed q0 v35 4 μ).bind (fun v36 => (if v36 = 1 then f_L_roots_b120 q0 μ else (f_X6_root q0 x5 1 μ).bind (fun v37 => (f_X6_bed q0 v37 1 μ).bind (fun v38 => (if v38 = 1 then f_L_roots_b122 q0 k22 x1 x2 s0 x4 x5 μ else f_L_roots_b120 q0 μ))))))))) else f_L_roots_b122 q0 k22 x1 x2 s0 x4 x5 μ))
def f_L_roots_b60 (q0 : Nat) (k22 : Int32 → Int32 → Int32 → Int32 → Int32 → Mem → Option Int32) (x1 : Int32) (x2 : Int32) (x3 : Int32) (x4 : Int32) (x5 : Int32) (μ : Mem) : Option Int32 := f_L_roots_b61 q0 k22 x1 x2 x4 x5 x3 μ
def f_L_roots_b22 (q0 : Nat)  : Nat → Int32 → Int32 → Int32 → Int32 → Int32 → Mem → Option Int32
  | 0, _, _, _, _, _, _ => none
  | fuel22 + 1, x1, x2, x3, x4, x5, μ => (if 2 ≤ x5 then f_L_roots_b131 q0 5 x1 x2 x3 x4 0 μ else (f_X6_root q0 x5 2 μ).bind (fun v31 => (if v31 = 1 then (f_X6_root q0 x5 0 μ).bind (fun v39 => (if x3 ≤ v39 then f_L_roots_b60 q0 (f_L_roots_b22 q0 fuel22) x1 x2 x3 x4 x5 μ else (f_X6_root q0 x5 0 μ).bind (fun v40 => f_L_roots_b61 q0 (f_L_roots_b22 q0 fuel22) x1 x2 x4 x5 v40 μ))) else f_L_roots_b60 q0 (f_L_roots_b22 q0 fuel22) x1 x2 x3 x4 x5 μ)))
def f_L_roots (q0 : Nat) (μ : Mem) : Option Int32 := (f_X6_root q0 1 3 μ).bind (fun v1 => (f_X6_root q0 v1 0 μ).bind (fun v2 => f_L_roots_b22 q0 3 v1 v2 v2 0 0 μ))
set_option maxHeartbeats 4000000 in
set_option maxRecDepth 100000 in
theorem c_L_roots (l : Launch) {D : va_G} {cI cG cL : ClassId} {A : Nat → Prop} {tC tS : Nat} {adE adK adV : Nat → Nat} (hE : EnOK (ENV tC tS adE adK adV A) A) (hst : l.stackTraces = false) {w : Mem → va_W} {ad : Nat → Nat} {q0 : Nat} {μ : Mem} {r : Int32} (hw0 : PGAt cI cG adE w ad q0) (h : f_L_roots q0 μ = some r) : Met l yL_roots wsL_roots (rmc 9 10 60 159) (WPre D (tyl cI cG cL) A (ENV tC tS adE adK adV A) (w μ) [.ref (ad q0)]) (PI D A (w μ) r) 10 60 A := by
  refine met_startM (cc := cL_roots) (nL := 7) (ret := (some .boolean)) (own := RL) hE (by decide) rfl rfl (Nat.le_of_ble_eq_true rfl) (fun p e s m args below meth c ls X hS hl hr hlk => ?_)
  have hx := X.1.1
  have hb := X.1.2.1
  replace hl : lv_has ls 7 [(0, .ref (ad q0))] := hl
  have hb445 : ∀ (s0 : Int32) (cells slots : Nat), cells + 0 ≤ 10 → slots + 0 ≤ 60 → ∀ (H : Heap) (locs : List Loc) (ls : Array Slot), HS D A (w μ) s.heap H locs → lv_has ls 7 [] → f_L_roots_b445 q0 s0 μ = some r → W p l e (headSpec wsL_roots (rmc 9 10 60 159)).room s m args below meth c H locs cells slots (MQ below (PI D A (w μ) r) args s 10 60 A) (F0 m 445 ls [.int s0]) := by
    intro s0 cells slots hc hs H locs ls hS hl h
    unfold f_L_roots_b445 at h
    obtain ⟨v5, ev5, h⟩ := ob h
    obtain ⟨ezv5, eov5⟩ := zr_ok ev5
    rw [ezv5]
    cases h
    exact r_zretM X hS hr hlk eov5 (by omega) (by omega) dL_roots_445
  have hb444 : ∀  (cells slots : Nat), cells + 0 ≤ 10 → slots + 0 ≤ 60 → ∀ (H : Heap) (locs : List Loc) (ls : Array Slot), HS D A (w μ) s.heap H locs → lv_has ls 7 [] → f_L_roots_b444 q0 μ = some r → W p l e (headSpec wsL_roots (rmc 9 10 60 159)).room s m args below meth c H locs cells slots (MQ below (PI D A (w μ) r) args s 10 60 A) (F0 m 444 ls []) := by
    intro cells slots hc hs H locs ls hS hl h
    unfold f_L_roots_b444 at h
    refine lv_iconst (v := 0) hx hb dL_roots_444 (by decide) ?_
    exact hb445 0 _ _ (by omega) (by omega) _ _ _ hS (lv_sub hl [] rfl) h
  have hb385 : ∀ (x1 : Int32) (x3 : Int32) (x4 : Int32) (cells slots : Nat), cells + 0 ≤ 10 → slots + 0 ≤ 60 → ∀ (H : Heap) (locs : List Loc) (ls : Array Slot), HS D A (w μ) s.heap H locs → lv_has ls 7 [(0, .ref (ad q0)), (1, .int x1), (3, .int x3), (4, .int x4)] → f_L_roots_b385 q0 x1 x3 x4 μ = some r → W p l e (headSpec wsL_roots (rmc 9 10 60 159)).room s m args below meth c H locs cells slots (MQ below (PI D A (w μ) r) args s 10 60 A) (F0 m 385 ls []) := by
    intro x1 x3 x4 cells slots hc hs H locs ls hS hl h
    unfold f_L_roots_b385 at h
    refine lv_aload_n hx hb dL_roots_385 rfl (lv_at hl 0 rfl) ?_
    refine lv_iconst (v := 4) hx hb dL_roots_386 (by decide) ?_
    obtain ⟨v8, ev8, h⟩ := ob h
    refine r_ci hS (r_runV (As := [.int 4]) (rest := []) X hS (c_X6_whole l hE (w := w) (ad := ad) (μ := μ) (D := D) (cI := cI) (cG := cG) (cL := cL) hw0 ev8) (cwV 1 X.1.2.2.2.2 gL_roots_X6_whole rfl rfl rfl (by decide +kernel) ⟨Nat.le_of_ble_eq_true rfl, Nat.le_of_ble_eq_true rfl⟩) (q0 := q0) (ci := 4) rfl (hw0.1 μ).1 rfl hl.1 rfl (Nat.le_of_ble_eq_true rfl) dL_roots_387 ⟨Nat.le_trans (m := 10) (by omega) (Nat.le_of_ble_eq_true rfl), Nat.le_trans (m := 60) (by omega) (Nat.le_of_ble_eq_true rfl)⟩) (fun H locs hS => ?_)
    refine lv_iload_n hx hb dL_roots_390 rfl (lv_at hl 2 rfl) ?_
    refine lv_icmp_ne (tgt := 444) hx hb dL_roots_391 (by decide) (fun cc => ?_) (fun cc => ?_)
    · replace h := ie h cc
      exact hb444  _ _ (by omega) (by omega) _ _ _ hS (lv_sub hl [] rfl) h
    · replace h := it h cc
      refine lv_aload_n hx hb dL_roots_394 rfl (lv_at hl 0 rfl) ?_
      refine lv_bipush (v := 7) hx hb dL_roots_395 (by decide) ?_
      obtain ⟨v9, ev9, h⟩ := ob h
      refine r_ci hS (r_runV (As := [.int 7]) (rest := []) X hS (c_X6_whole l hE (w := w) (ad := ad) (μ := μ) (D := D) (cI := cI) (cG := cG) (cL := cL) hw0 ev9) (cwV 1 X.1.2.2.2.2 gL_roots_X6_whole rfl rfl rfl (by decide +kernel) ⟨Nat.le_of_ble_eq_true rfl, Nat.le_of_ble_eq_true rfl⟩) (q0 := q0) (ci := 4) rfl (hw0.1 μ).1 rfl hl.1 rfl (Nat.le_of_ble_eq_true rfl) dL_roots_397 ⟨Nat.le_trans (m := 10) (by omega) (Nat.le_of_ble_eq_true rfl), Nat.le_trans (m := 60) (by omega) (Nat.le_of_ble_eq_true rfl)⟩) (fun H locs hS => ?_)
      refine lv_iload hx hb dL_roots_400 (lv_at hl 3 rfl) ?_
      refine lv_icmp_ne (tgt := 444) hx hb dL_roots_402 (by decide) (fun cc => ?_) (fun cc => ?_)
      · replace h := ie h cc
        exact hb444  _ _ (by omega) (by omega) _ _ _ hS (lv_sub hl [] rfl) h
      · replace h := it h cc
        refine lv_aload_n hx hb dL_roots_405 rfl (lv_at hl 0 rfl) ?_
        refine lv_aload_n hx hb dL_roots_406 rfl (lv_at hl 0 rfl) ?_
        refine lv_iload_n hx hb dL_roots_407 rfl (lv_at hl 1 rfl) ?_
        refine lv_iconst (v := 1) hx hb dL_roots_408 (by decide) ?_
        obtain ⟨v10, ev10, h⟩ := ob h
        refine r_ci hS (r_runV (As := [.int x1, .int 1]) (rest := [.ref (ad q0)]) X hS (c_X6_root l hE (w := w) (ad := ad) (μ := μ) (D := D) (cI := cI) (cG := cG) (cL := cL) hw0 ev10) (cwV 2 X.1.2.2.2.2 gL_roots_X6_root rfl rfl rfl (by decide +kernel) ⟨Nat.le_of_ble_eq_true rfl, Nat.le_of_ble_eq_true rfl⟩) (q0 := q0) (ci := 4) rfl (hw0.1 μ).1 rfl hl.1 rfl (Nat.le_of_ble_eq_true rfl) dL_roots_409 ⟨Nat.le_trans (m := 10) (by omega) (Nat.le_of_ble_eq_true rfl), Nat.le_trans (m := 60) (by omega) (Nat.le_of_ble_eq_true rfl)⟩) (fun H locs hS => ?_)
        refine lv_iconst (v := 0) hx hb dL_roots_412 (by decide) ?_
        obtain ⟨v11, ev11, h⟩ := ob h
        refine r_ci hS (r_runV (As := [.int v10, .int 0]) (rest := []) X hS (c_X6_bed l hE (w := w) (ad := ad) (μ := μ) (D := D) (cI := cI) (cG := cG) (cL := cL) hw0 ev11) (cwV 2 X.1.2.2.2.2 gL_roots_X6_bed rfl rfl rfl (by decide +kernel) ⟨Nat.le_of_ble_eq_true rfl, Nat.le_of_ble_eq_true rfl⟩) (q0 := q0) (ci := 4) rfl (hw0.1 μ).1 rfl hl.1 rfl (Nat.le_of_ble_eq_true rfl) dL_roots_413 ⟨Nat.le_trans (m := 10) (by omega) (Nat.le_of_ble_eq_true rfl), Nat.le_trans (m := 60) (by omega) (Nat.le_of_ble_eq_true rfl)⟩) (fun H locs hS => ?_)
        refine lv_iconst (v := 1) hx hb dL_roots_416 (by decide) ?_
        refine lv_icmp_ne (tgt := 444) hx hb dL_roots_417 (by decide) (fun cc => ?_) (fun cc => ?_)
        · replace h := ie h cc
          exact hb444  _ _ (by omega) (by omega) _ _ _ hS (lv_sub hl [] rfl) h
        · replace h := it h cc
          refine lv_aload_n hx hb dL_roots_420 rfl (lv_at hl 0 rfl) ?_
          refine lv_aload_n hx hb dL_roots_421 rfl (lv_at hl 0 rfl) ?_
          refine lv_iload_n hx hb dL_roots_422 rfl (lv_at hl 1 rfl) ?_
          refine lv_iconst (v := 1) hx hb dL_roots_423 (by decide) ?_
          obtain ⟨v12, ev12, h⟩ := ob h
          refine r_ci hS (r_runV (As := [.int x1, .int 1]) (rest := [.ref (ad q0)]) X hS (c_X6_root l hE (w := w) (ad := ad) (μ := μ) (D := D) (cI := cI) (cG := cG) (cL := cL) hw0 ev12) (cwV 2 X.1.2.2.2.2 gL_roots_X6_root rfl rfl rfl (by decide +kernel) ⟨Nat.le_of_ble_eq_true rfl, Nat.le_of_ble_eq_true rfl⟩) (q0 := q0) (ci := 4) rfl (hw0.1 μ).1 rfl hl.1 rfl (Nat.le_of_ble_eq_true rfl) dL_roots_424 ⟨Nat.le_trans (m := 10) (by omega) (Nat.le_of_ble_eq_true rfl), Nat.le_trans (m := 60) (by omega) (Nat.le_of_ble_eq_true rfl)⟩) (fun H locs hS => ?_)
          refine lv_iconst (v := 2) hx hb dL_roots_427 (by decide) ?_
          obtain ⟨v13, ev13, h⟩ := ob h
          refine r_ci hS (r_runV (As := [.int v12, .int 2]) (rest := []) X hS (c_X6_bed l hE (w := w) (ad := ad) (μ := μ) (D := D) (cI := cI) (cG := cG) (cL := cL) hw0 ev13) (cwV 2 X.1.2.2.2.2 gL_roots_X6_bed rfl rfl rfl (by decide +kernel) ⟨Nat.le_of_ble_eq_true rfl, Nat.le_of_ble_eq_true rfl⟩) (q0 := q0) (ci := 4) rfl (hw0.1 μ).1 rfl hl.1 rfl (Nat.le_of_ble_eq_true rfl) dL_roots_428 ⟨Nat.le_trans (m := 10) (by omega) (Nat.le_of_ble_eq_true rfl), Nat.le_trans (m := 60) (by omega) (Nat.le_of_ble_eq_true rfl)⟩) (fun H locs hS => ?_)
          refine lv_aload_n hx hb dL_roots_431 rfl (lv_at hl 0 rfl) ?_
          refine lv_bipush (v := 6) hx hb dL_roots_432 (by decide) ?_
          obtain ⟨v14, ev14, h⟩ := ob h
          refine r_ci hS (r_runV (As := [.int 6]) (rest := [.int v13]) X hS (c_X6_whole l hE (w := w) (ad := ad) (μ := μ) (D := D) (cI := cI) (cG := cG) (cL := cL) hw0 ev14) (cwV 1 X.1.2.2.2.2 gL_roots_X6_whole rfl rfl rfl (by decide +kernel) ⟨Nat.le_of_ble_eq_true rfl, Nat.le_of_ble_eq_true rfl⟩) (q0 := q0) (ci := 4) rfl (hw0.1 μ).1 rfl hl.1 rfl (Nat.le_of_ble_eq_true rfl) dL_roots_434 ⟨Nat.le_trans (m := 10) (by omega) (Nat.le_of_ble_eq_true rfl), Nat.le_trans (m := 60) (by omega) (Nat.le_of_ble_eq_true rfl)⟩) (fun H locs hS => ?_)
          refine lv_icmp_ne (tgt := 444) hx hb dL_roots_437 (by decide) (fun cc => ?_) (fun cc => ?_)
          · replace h := ie h cc
            exact hb444  _ _ (by omega) (by omega) _ _ _ hS (lv_sub hl [] rfl) h
          · replace h := it h cc
            refine lv_iconst (v := 1) hx hb dL_roots_440 (by decide) ?_
            refine lv_goto (tgt := 445) hx hb dL_roots_441 (by decide) ?_
            exact hb445 1 _ _ (by omega) (by omega) _ _ _ hS (lv_sub hl [] rfl) h
  have hb326 : ∀ (k131 : Int32 → Int32 → Int32 → Int32 → Int32 → Mem → Option Int32) (G131 GS131 : Nat), 0 ≤ G131 → 0 ≤ GS131 → (∀ (x1 : Int32) (x2 : Int32) (x3 : Int32) (x4 : Int32) (x5 : Int32) (cells slots : Nat), cells + G131 ≤ 10 → slots + GS131 ≤ 60 → ∀ (H : Heap) (locs : List Loc) (ls : Array Slot), HS D A (w μ) s.heap H locs → lv_has ls 7 [(0, .ref (ad q0)), (1, .int x1), (2, .int x2), (3, .int x3), (4, .int x4), (5, .int x5)] → k131 x1 x2 x3 x4 x5 μ = some r → W p l e (headSpec wsL_roots (rmc 9 10 60 159)).room s m args below meth c H locs cells slots (MQ below (PI D A (w μ) r) args s 10 60 A) (F0 m 131 ls [])) → ∀ (x1 : Int32) (x2 : Int32) (x3 : Int32) (x4 : Int32) (x5 : Int32) (cells slots : Nat), cells + 0 + G131 ≤ 10 → slots + 0 + GS131 ≤ 60 → ∀ (H : Heap) (locs : List Loc) (ls : Array Slot), HS D A (w μ) s.heap H locs → lv_has ls 7 [(0, .ref (ad q0)), (1, .int x1), (2, .int x2), (3, .int x3), (4, .int x4), (5, .int x5)] → f_L_roots_b326 q0 k131 x1 x2 x3 x4 x5 μ = some r → W p l e (headSpec wsL_roots (rmc 9 10 60 159)).room s m args below meth c H locs cells slots (MQ below (PI D A (w μ) r) args s 10 60 A) (F0 m 326 ls []) := by
    intro k131 G131 GS131 hG131 hGS131 hk131 x1 x2 x3 x4 x5 cells slots hc hs H locs ls hS hl h
    unfold f_L_roots_b326 at h
    refine lv_iinc (v := x5 + 1) (lv' := [(5, .int (x5 + 1)), (0, .ref (ad q0)), (1, .int x1), (2, .int x2), (3, .int x3), (4, .int x4)]) hx hb dL_roots_326 hl (k := 5) rfl rfl (by decide) rfl (fun ls hl => ?_)
    refine lv_goto (tgt := 131) hx hb dL_roots_329 (by decide) ?_
    exact hk131 x1 x2 x3 x4 (x5 + 1) _ _ (by omega) (by omega) _ _ _ hS (lv_sub hl [1, 2, 3, 4, 5, 0] rfl) h
  have hb324 : ∀  (cells slots : Nat), cells + 0 ≤ 10 → slots + 0 ≤ 60 → ∀ (H : Heap) (locs : List Loc) (ls : Array Slot), HS D A (w μ) s.heap H locs → lv_has ls 7 [] → f_L_roots_b324 q0 μ = some r → W p l e (headSpec wsL_roots (rmc 9 10 60 159)).room s m args below meth c H locs cells slots (MQ below (PI D A (w μ) r) args s 10 60 A) (F0 m 324 ls []) := by
    intro cells slots hc hs H locs ls hS hl h
    unfold f_L_roots_b324 at h
    refine lv_iconst (v := 0) hx hb dL_roots_324 (by decide) ?_
    cases h
    exact r_zretM X hS hr hlk (by decide) (by omega) (by omega) dL_roots_325
  have hb281 : ∀ (k131 : Int32 → Int32 → Int32 → Int32 → Int32 → Mem → Option Int32) (G131 GS131 : Nat), 0 ≤ G131 → 0 ≤ GS131 → (∀ (x1 : Int32) (x2 : Int32) (x3 : Int32) (x4 : Int32) (x5 : Int32) (cells slots : Nat), cells + G131 ≤ 10 → slots + GS131 ≤ 60 → ∀ (H : Heap) (locs : List Loc) (ls : Array Slot), HS D A (w μ) s.heap H locs → lv_has ls 7 [(0, .ref (ad q0)), (1, .int x1), (2, .int x2), (3, .int x3), (4, .int x4), (5, .int x5)] → k131 x1 x2 x3 x4 x5 μ = some r → W p l e (headSpec wsL_roots (rmc 9 10 60 159)).room s m args below meth c H locs cells slots (MQ below (PI D A (w μ) r) args s 10 60 A) (F0 m 131 ls [])) → ∀ (x1 : Int32) (x2 : Int32) (x3 : Int32) (x4 : Int32) (x5 : Int32) (x6 : Int32) (cells slots : Nat), cells + 2 + G131 ≤ 10 → slots + 12 + GS131 ≤ 60 → ∀ (H : Heap) (locs : List Loc) (ls : Array Slot), HS D A (w μ) s.heap H locs → lv_has ls 7 [(0, .ref (ad q0)), (1, .int x1), (2, .int x2), (3, .int x3), (4, .int x4), (5, .int x5), (6, .int x6)] → f_L_roots_b281 q0 k131 x1 x2 x3 x4 x5 x6 μ = some r → W p l e (headSpec wsL_roots (rmc 9 10 60 159)).room s m args below meth c H locs cells slots (MQ below (PI D A (w μ) r) args s 10 60 A) (F0 m 281 ls []) := by
    intro k131 G131 GS131 hG131 hGS131 hk131 x1 x2 x3 x4 x5 x6 cells slots hc hs H locs ls hS hl h
    unfold f_L_roots_b281 at h
    refine lv_iload hx hb dL_roots_281 (lv_at hl 6 rfl) ?_
    refine lv_if_ne (tgt := 326) hx hb dL_roots_283 (by decide) (fun cc => ?_) (fun cc => ?_)
    · replace h := ie h cc
      exact hb326 k131 G131 GS131 hG131 hGS131 hk131 x1 x2 x3 x4 x5 _ _ (by omega) (by omega) _ _ _ hS (lv_sub hl [0, 1, 2, 3, 4, 5] rfl) h
    · replace h := it h cc
      refine lv_aload_n hx hb dL_roots_286 rfl (lv_at hl 0 rfl) ?_
      refine lv_iload hx hb dL_roots_287 (lv_at hl 5 rfl) ?_
      obtain ⟨v17, ev17, h⟩ := ob h
      refine r_cim hS (r_runSW (mc := 1) (ms := 6) (As := [.ref (ad q0), .int x5]) (rest := []) X hS (c_L_since l hE hst (w := w) (ad := ad) (μ := μ) (D := D) (cI := cI) (cG := cG) (cL := cL) hw0 ev17) (vx_cwSW (hh := [(0, 5, 6, 39), (0, 5, 11, 17)]) 2 X.1.2.2.2.2 gL_roots_L_since rfl rfl rfl (by decide +kernel) ⟨Nat.le_of_ble_eq_true rfl, Nat.le_of_ble_eq_true rfl⟩) rfl hl.1 rfl (Nat.le_of_ble_eq_true rfl) dL_roots_289 ⟨Nat.le_trans (m := 10) (by omega) (Nat.le_of_ble_eq_true rfl), Nat.le_trans (m := 60) (by omega) (Nat.le_of_ble_eq_true rfl)⟩) (fun H locs hS => ?_)
      refine lv_sipush (v := (-2902)) hx hb dL_roots_292 (by decide) ?_
      refine lv_icmp_ne (tgt := 324) hx hb dL_roots_295 (by decide) (fun cc => ?_) (fun cc => ?_)
      · replace h := ie h cc
        exact hb324  _ _ (by omega) (by omega) _ _ _ hS (lv_sub hl [] rfl) h
      · replace h := it h cc
        refine lv_aload_n hx hb dL_roots_298 rfl (lv_at hl 0 rfl) ?_
        refine lv_iload hx hb dL_roots_299 (lv_at hl 5 rfl) ?_
        refine lv_iconst (v := 0) hx hb dL_roots_301 (by decide) ?_
        obtain ⟨v18, ev18, h⟩ := ob h
        refine r_cim hS (r_runSW (mc := 1) (ms := 6) (As := [.ref (ad q0), .int x5, .int 0]) (rest := []) X hS (c_L_read l hE hst (w := w) (ad := ad) (μ := μ) (D := D) (cI := cI) (cG := cG) (cL := cL) hw0 ev18) (vx_cwSW (hh := [(0, 6, 7, 39), (0, 6, 12, 15), (0, 6, 17, 17)]) 3 X.1.2.2.2.2 gL_roots_L_read rfl rfl rfl (by decide +kernel) ⟨Nat.le_of_ble_eq_true rfl, Nat.le_of_ble_eq_true rfl⟩) rfl hl.1 rfl (Nat.le_of_ble_eq_true rfl) dL_roots_302 ⟨Nat.le_trans (m := 10) (by omega) (Nat.le_of_ble_eq_true rfl), Nat.le_trans (m := 60) (by omega) (Nat.le_of_ble_eq_true rfl)⟩) (fun H locs hS => ?_)
        refine lv_sipush (v := (-2902)) hx hb dL_roots_305 (by decide) ?_
        refine lv_icmp_ne (tgt := 324) hx hb dL_roots_308 (by decide) (fun cc => ?_) (fun cc => ?_)
        · replace h := ie h cc
          exact hb324  _ _ (by omega) (by omega) _ _ _ hS (lv_sub hl [] rfl) h
        · replace h := it h cc
          refine lv_aload_n hx hb dL_roots_311 rfl (lv_at hl 0 rfl) ?_
          refine lv_iload hx hb dL_roots_312 (lv_at hl 5 rfl) ?_
          refine lv_iconst (v := 2) hx hb dL_roots_314 (by decide) ?_
          obtain ⟨v19, ev19, h⟩ := ob h
          refine r_ci hS (r_runV (As := [.int x5, .int 2]) (rest := []) X hS (c_X6_reader l hE (w := w) (ad := ad) (μ := μ) (D := D) (cI := cI) (cG := cG) (cL := cL) hw0 ev19) (cwV 2 X.1.2.2.2.2 gL_roots_X6_reader rfl rfl rfl (by decide +kernel) ⟨Nat.le_of_ble_eq_true rfl, Nat.le_of_ble_eq_true rfl⟩) (q0 := q0) (ci := 4) rfl (hw0.1 μ).1 rfl hl.1 rfl (Nat.le_of_ble_eq_true rfl) dL_roots_315 ⟨Nat.le_trans (m := 10) (by omega) (Nat.le_of_ble_eq_true rfl), Nat.le_trans (m := 60) (by omega) (Nat.le_of_ble_eq_true rfl)⟩) (fun H locs hS => ?_)
          refine lv_sipush (v := (-1000)) hx hb dL_roots_318 (by decide) ?_
          refine lv_icmp_eq (tgt := 326) hx hb dL_roots_321 (by decide) (fun cc => ?_) (fun cc => ?_)
          · replace h := it h cc
            exact hb326 k131 G131 GS131 hG131 hGS131 hk131 x1 x2 x3 x4 x5 _ _ (by omega) (by omega) _ _ _ hS (lv_sub hl [0, 1, 2, 3, 4, 5] rfl) h
          · replace h := ie h cc
            exact hb324  _ _ (by omega) (by omega) _ _ _ hS (lv_sub hl [] rfl) h
  have hb267 : ∀ (k131 : Int32 → Int32 → Int32 → Int32 → Int32 → Mem → Option Int32) (G131 GS131 : Nat), 0 ≤ G131 → 0 ≤ GS131 → (∀ (x1 : Int32) (x2 : Int32) (x3 : Int32) (x4 : Int32) (x5 : Int32) (cells slots : Nat), cells + G131 ≤ 10 → slots + GS131 ≤ 60 → ∀ (H : Heap) (locs : List Loc) (ls : Array Slot), HS D A (w μ) s.heap H locs → lv_has ls 7 [(0, .ref (ad q0)), (1, .int x1), (2, .int x2), (3, .int x3), (4, .int x4), (5, .int x5)] → k131 x1 x2 x3 x4 x5 μ = some r → W p l e (headSpec wsL_roots (rmc 9 10 60 159)).room s m args below meth c H locs cells slots (MQ below (PI D A (w μ) r) args s 10 60 A) (F0 m 131 ls [])) → ∀ (x1 : Int32) (x2 : Int32) (x3 : Int32) (x4 : Int32) (x5 : Int32) (x6 : Int32) (cells slots : Nat), cells + 2 + G131 ≤ 10 → slots + 12 + GS131 ≤ 60 → ∀ (H : Heap) (locs : List Loc) (ls : Array Slot), HS D A (w μ) s.heap H locs → lv_has ls 7 [(0, .ref (ad q0)), (1, .int x1), (2, .int x2), (3, .int x3), (4, .int x4), (5, .int x5), (6, .int x6)] → f_L_roots_b267 q0 k131 x1 x2 x3 x4 x5 x6 μ = some r → W p l e (headSpec wsL_roots (rmc 9 10 60 159)).room s m args below meth c H locs cells slots (MQ below (PI D A (w μ) r) args s 10 60 A) (F0 m 267 ls []) := by
    intro k131 G131 GS131 hG131 hGS131 hk131 x1 x2 x3 x4 x5 x6 cells slots hc hs H locs ls hS hl h
    unfold f_L_roots_b267 at h
    refine lv_aload_n hx hb dL_roots_267 rfl (lv_at hl 0 rfl) ?_
    refine lv_iload hx hb dL_roots_268 (lv_at hl 5 rfl) ?_
    obtain ⟨v26, ev26, h⟩ := ob h
    refine r_ci hS (r_runV (As := [.int x5]) (rest := []) X hS (c_X6_neededWithout l hE (w := w) (ad := ad) (μ := μ) (D := D) (cI := cI) (cG := cG) (cL := cL) hw0 ev26) (cwV 1 X.1.2.2.2.2 gL_roots_X6_neededWithout rfl rfl rfl (by decide +kernel) ⟨Nat.le_of_ble_eq_true rfl, Nat.le_of_ble_eq_true rfl⟩) (q0 := q0) (ci := 4) rfl (hw0.1 μ).1 rfl hl.1 rfl (Nat.le_of_ble_eq_true rfl) dL_roots_270 ⟨Nat.le_trans (m := 10) (by omega) (Nat.le_of_ble_eq_true rfl), Nat.le_trans (m := 60) (by omega) (Nat.le_of_ble_eq_true rfl)⟩) (fun H locs hS => ?_)
    refine lv_aload_n hx hb dL_roots_273 rfl (lv_at hl 0 rfl) ?_
    refine lv_iconst (v := 4) hx hb dL_roots_274 (by decide) ?_
    obtain ⟨v27, ev27, h⟩ := ob h
    refine r_ci hS (r_runV (As := [.int 4]) (rest := [.int v26]) X hS (c_X6_whole l hE (w := w) (ad := ad) (μ := μ) (D := D) (cI := cI) (cG := cG) (cL := cL) hw0 ev27) (cwV 1 X.1.2.2.2.2 gL_roots_X6_whole rfl rfl rfl (by decide +kernel) ⟨Nat.le_of_ble_eq_true rfl, Nat.le_of_ble_eq_true rfl⟩) (q0 := q0) (ci := 4) rfl (hw0.1 μ).1 rfl hl.1 rfl (Nat.le_of_ble_eq_true rfl) dL_roots_275 ⟨Nat.le_trans (m := 10) (by omega) (Nat.le_of_ble_eq_true rfl), Nat.le_trans (m := 60) (by omega) (Nat.le_of_ble_eq_true rfl)⟩) (fun H locs hS => ?_)
    refine lv_icmp_lt (tgt := 324) hx hb dL_roots_278 (by decide) (fun cc => ?_) (fun cc => ?_)
    · replace h := it h cc
      exact hb324  _ _ (by omega) (by omega) _ _ _ hS (lv_sub hl [] rfl) h
    · replace h := ie h cc
      exact hb281 k131 G131 GS131 hG131 hGS131 hk131 x1 x2 x3 x4 x5 x6 _ _ (by omega) (by omega) _ _ _ hS (lv_sub hl [0, 1, 2, 3, 4, 5, 6] rfl) h
  have hb199 : ∀ (k131 : Int32 → Int32 → Int32 → Int32 → Int32 → Mem → Option Int32) (G131 GS131 : Nat), 0 ≤ G131 → 0 ≤ GS131 → (∀ (x1 : Int32) (x2 : Int32) (x3 : Int32) (x4 : Int32) (x5 : Int32) (cells slots : Nat), cells + G131 ≤ 10 → slots + GS131 ≤ 60 → ∀ (H : Heap) (locs : List Loc) (ls : Array Slot), HS D A (w μ) s.heap H locs → lv_has ls 7 [(0, .ref (ad q0)), (1, .int x1), (2, .int x2), (3, .int x3), (4, .int x4), (5, .int x5)] → k131 x1 x2 x3 x4 x5 μ = some r → W p l e (headSpec wsL_roots (rmc 9 10 60 159)).room s m args below meth c H locs cells slots (MQ below (PI D A (w μ) r) args s 10 60 A) (F0 m 131 ls [])) → ∀ (x1 : Int32) (x2 : Int32) (x4 : Int32) (x5 : Int32) (x6 : Int32) (s0 : Int32) (cells slots : Nat), cells + 2 + G131 ≤ 10 → slots + 12 + GS131 ≤ 60 → ∀ (H : Heap) (locs : List Loc) (ls : Array Slot), HS D A (w μ) s.heap H locs → lv_has ls 7 [(0, .ref (ad q0)), (1, .int x1), (2, .int x2), (4, .int x4), (5, .int x5), (6, .int x6)] → f_L_roots_b199 q0 k131 x1 x2 x4 x5 x6 s0 μ = some r → W p l e (headSpec wsL_roots (rmc 9 10 60 159)).room s m args below meth c H locs cells slots (MQ below (PI D A (w μ) r) args s 10 60 A) (F0 m 199 ls [.int s0]) := by
    intro k131 G131 GS131 hG131 hGS131 hk131 x1 x2 x4 x5 x6 s0 cells slots hc hs H locs ls hS hl h
    unfold f_L_roots_b199 at h
    refine lv_istore_n (lv' := [(3, .int s0), (0, .ref (ad q0)), (1, .int x1), (2, .int x2), (4, .int x4), (5, .int x5), (6, .int x6)]) hx hb dL_roots_199 rfl hl (by decide) rfl (fun ls hl => ?_)
    refine lv_iload hx hb dL_roots_200 (lv_at hl 6 rfl) ?_
    refine lv_if_eq (tgt := 281) hx hb dL_roots_202 (by decide) (fun cc => ?_) (fun cc => ?_)
    · replace h := it h cc
      exact hb281 k131 G131 GS131 hG131 hGS131 hk131 x1 x2 s0 x4 x5 x6 _ _ (by omega) (by omega) _ _ _ hS (lv_sub hl [1, 2, 3, 0, 4, 5, 6] rfl) h
    · replace h := ie h cc
      refine lv_aload_n hx hb dL_roots_205 rfl (lv_at hl 1 rfl) ?_
      refine lv_iload hx hb dL_roots_206 (lv_at hl 5 rfl) ?_
      refine lv_iconst (v := 0) hx hb dL_roots_208 (by decide) ?_
      obtain ⟨v20, ev20, h⟩ := ob h
      refine r_ci hS (r_runV (As := [.int x5, .int 0]) (rest := []) X hS (c_X6_reader l hE (w := w) (ad := ad) (μ := μ) (D := D) (cI := cI) (cG := cG) (cL := cL) hw0 ev20) (cwV 2 X.1.2.2.2.2 gL_roots_X6_reader rfl rfl rfl (by decide +kernel) ⟨Nat.le_of_ble_eq_true rfl, Nat.le_of_ble_eq_true rfl⟩) (q0 := q0) (ci := 4) rfl (hw0.1 μ).1 rfl hl.1 rfl (Nat.le_of_ble_eq_true rfl) dL_roots_209 ⟨Nat.le_trans (m := 10) (by omega) (Nat.le_of_ble_eq_true rfl), Nat.le_trans (m := 60) (by omega) (Nat.le_of_ble_eq_true rfl)⟩) (fun H locs hS => ?_)
      refine lv_iload_n hx hb dL_roots_212 rfl (lv_at hl 3 rfl) ?_
      refine lv_icmp_gt (tgt := 324) hx hb dL_roots_213 (by decide) (fun cc => ?_) (fun cc => ?_)
      · replace h := it h cc
        exact hb324  _ _ (by omega) (by omega) _ _ _ hS (lv_sub hl [] rfl) h
      · replace h := ie h cc
        refine lv_aload_n hx hb dL_roots_216 rfl (lv_at hl 1 rfl) ?_
        refine lv_aload_n hx hb dL_roots_217 rfl (lv_at hl 1 rfl) ?_
        refine lv_iload hx hb dL_roots_218 (lv_at hl 5 rfl) ?_
        refine lv_iconst (v := 1) hx hb dL_roots_220 (by decide) ?_
        obtain ⟨v21, ev21, h⟩ := ob h
        refine r_ci hS (r_runV (As := [.int x5, .int 1]) (rest := [.ref (ad q0)]) X hS (c_X6_reader l hE (w := w) (ad := ad) (μ := μ) (D := D) (cI := cI) (cG := cG) (cL := cL) hw0 ev21) (cwV 2 X.1.2.2.2.2 gL_roots_X6_reader rfl rfl rfl (by decide +kernel) ⟨Nat.le_of_ble_eq_true rfl, Nat.le_of_ble_eq_true rfl⟩) (q0 := q0) (ci := 4) rfl (hw0.1 μ).1 rfl hl.1 rfl (Nat.le_of_ble_eq_true rfl) dL_roots_221 ⟨Nat.le_trans (m := 10) (by omega) (Nat.le_of_ble_eq_true rfl), Nat.le_trans (m := 60) (by omega) (Nat.le_of_ble_eq_true rfl)⟩) (fun H locs hS => ?_)
        refine lv_iconst (v := 0) hx hb dL_roots_224 (by decide) ?_
        obtain ⟨v22, ev22, h⟩ := ob h
        refine r_ci hS (r_runV (As := [.int v21, .int 0]) (rest := []) X hS (c_X6_bed l hE (w := w) (ad := ad) (μ := μ) (D := D) (cI := cI) (cG := cG) (cL := cL) hw0 ev22) (cwV 2 X.1.2.2.2.2 gL_roots_X6_bed rfl rfl rfl (by decide +kernel) ⟨Nat.le_of_ble_eq_true rfl, Nat.le_of_ble_eq_true rfl⟩) (q0 := q0) (ci := 4) rfl (hw0.1 μ).1 rfl hl.1 rfl (Nat.le_of_ble_eq_true rfl) dL_roots_225 ⟨Nat.le_trans (m := 10) (by omega) (Nat.le_of_ble_eq_true rfl), Nat.le_trans (m := 60) (by omega) (Nat.le_of_ble_eq_true rfl)⟩) (fun H locs hS => ?_)
        refine lv_if_eq (tgt := 324) hx hb dL_roots_228 (by decide) (fun cc => ?_) (fun cc => ?_)
        · replace h := it h cc
          exact hb324  _ _ (by omega) (by omega) _ _ _ hS (lv_sub hl [] rfl) h
        · replace h := ie h cc
          refine lv_aload_n hx hb dL_roots_231 rfl (lv_at hl 1 rfl) ?_
          refine lv_aload_n hx hb dL_roots_232 rfl (lv_at hl 1 rfl) ?_
          refine lv_iload hx hb dL_roots_233 (lv_at hl 5 rfl) ?_
          refine lv_iconst (v := 1) hx hb dL_roots_235 (by decide) ?_
          obtain ⟨v23, ev23, h⟩ := ob h
          refine r_ci hS (r_runV (As := [.int x5, .int 1]) (rest := [.ref (ad q0)]) X hS (c_X6_reader l hE (w := w) (ad := ad) (μ := μ) (D := D) (cI := cI) (cG := cG) (cL := cL) hw0 ev23) (cwV 2 X.1.2.2.2.2 gL_roots_X6_reader rfl rfl rfl (by decide +kernel) ⟨Nat.le_of_ble_eq_true rfl, Nat.le_of_ble_eq_true rfl⟩) (q0 := q0) (ci := 4) rfl (hw0.1 μ).1 rfl hl.1 rfl (Nat.le_of_ble_eq_true rfl) dL_roots_236 ⟨Nat.le_trans (m := 10) (by omega) (Nat.le_of_ble_eq_true rfl), Nat.le_trans (m := 60) (by omega) (Nat.le_of_ble_eq_true rfl)⟩) (fun H locs hS => ?_)
          refine lv_iconst (v := 4) hx hb dL_roots_239 (by decide) ?_
          obtain ⟨v24, ev24, h⟩ := ob h
          refine r_ci hS (r_runV (As := [.int v23, .int 4]) (rest := []) X hS (c_X6_bed l hE (w := w) (ad := ad) (μ := μ) (D := D) (cI := cI) (cG := cG) (cL := cL) hw0 ev24) (cwV 2 X.1.2.2.2.2 gL_roots_X6_bed rfl rfl rfl (by decide +kernel) ⟨Nat.le_of_ble_eq_true rfl, Nat.le_of_ble_eq_true rfl⟩) (q0 := q0) (ci := 4) rfl (hw0.1 μ).1 rfl hl.1 rfl (Nat.le_of_ble_eq_true rfl) dL_roots_240 ⟨Nat.le_trans (m := 10) (by omega) (Nat.le_of_ble_eq_true rfl), Nat.le_trans (m := 60) (by omega) (Nat.le_of_ble_eq_true rfl)⟩) (fun H locs hS => ?_)
          refine lv_iconst (v := 1) hx hb dL_roots_243 (by decide) ?_
          refine lv_icmp_eq (tgt := 324) hx hb dL_roots_244 (by decide) (fun cc => ?_) (fun cc => ?_)
          · replace h := it h cc
            exact hb324  _ _ (by omega) (by omega) _ _ _ hS (lv_sub hl [] rfl) h
          · replace h := ie h cc
            refine lv_aload_n hx hb dL_roots_247 rfl (lv_at hl 1 rfl) ?_
            refine lv_iload hx hb dL_roots_248 (lv_at hl 5 rfl) ?_
            refine lv_iconst (v := 0) hx hb dL_roots_250 (by decide) ?_
            obtain ⟨v25, ev25, h⟩ := ob h
            refine r_ci hS (r_runV (As := [.int x5, .int 0]) (rest := []) X hS (c_X6_reader l hE (w := w) (ad := ad) (μ := μ) (D := D) (cI := cI) (cG := cG) (cL := cL) hw0 ev25) (cwV 2 X.1.2.2.2.2 gL_roots_X6_reader rfl rfl rfl (by decide +kernel) ⟨Nat.le_of_ble_eq_true rfl, Nat.le_of_ble_eq_true rfl⟩) (q0 := q0) (ci := 4) rfl (hw0.1 μ).1 rfl hl.1 rfl (Nat.le_of_ble_eq_true rfl) dL_roots_251 ⟨Nat.le_trans (m := 10) (by omega) (Nat.le_of_ble_eq_true rfl), Nat.le_trans (m := 60) (by omega) (Nat.le_of_ble_eq_true rfl)⟩) (fun H locs hS => ?_)
            refine lv_iload_n hx hb dL_roots_254 rfl (lv_at hl 3 rfl) ?_
            refine lv_icmp_ne (tgt := 267) hx hb dL_roots_255 (by decide) (fun cc => ?_) (fun cc => ?_)
            · replace h := ie h cc
              exact hb267 k131 G131 GS131 hG131 hGS131 hk131 x1 x2 s0 x4 x5 x6 _ _ (by omega) (by omega) _ _ _ hS (lv_sub hl [1, 2, 3, 0, 4, 5, 6] rfl) h
            · replace h := it h cc
              refine lv_aload_n hx hb dL_roots_258 rfl (lv_at hl 1 rfl) ?_
              refine lv_iload hx hb dL_roots_259 (lv_at hl 5 rfl) ?_
              obtain ⟨v28, ev28, h⟩ := ob h
              refine r_ci hS (r_runV (As := [.int x5]) (rest := []) X hS (c_X6_changedSince l hE (w := w) (ad := ad) (μ := μ) (D := D) (cI := cI) (cG := cG) (cL := cL) hw0 ev28) (cwV 1 X.1.2.2.2.2 gL_roots_X6_changedSince rfl rfl rfl (by decide +kernel) ⟨Nat.le_of_ble_eq_true rfl, Nat.le_of_ble_eq_true rfl⟩) (q0 := q0) (ci := 4) rfl (hw0.1 μ).1 rfl hl.1 rfl (Nat.le_of_ble_eq_true rfl) dL_roots_261 ⟨Nat.le_trans (m := 10) (by omega) (Nat.le_of_ble_eq_true rfl), Nat.le_trans (m := 60) (by omega) (Nat.le_of_ble_eq_true rfl)⟩) (fun H locs hS => ?_)
              refine lv_if_ne (tgt := 324) hx hb dL_roots_264 (by decide) (fun cc => ?_) (fun cc => ?_)
              · replace h := ie h cc
                exact hb324  _ _ (by omega) (by omega) _ _ _ hS (lv_sub hl [] rfl) h
              · replace h := it h cc
                exact hb267 k131 G131 GS131 hG131 hGS131 hk131 x1 x2 s0 x4 x5 x6 _ _ (by omega) (by omega) _ _ _ hS (lv_sub hl [1, 2, 3, 0, 4, 5, 6] rfl) h
  have hb198 : ∀ (k131 : Int32 → Int32 → Int32 → Int32 → Int32 → Mem → Option Int32) (G131 GS131 : Nat), 0 ≤ G131 → 0 ≤ GS131 → (∀ (x1 : Int32) (x2 : Int32) (x3 : Int32) (x4 : Int32) (x5 : Int32) (cells slots : Nat), cells + G131 ≤ 10 → slots + GS131 ≤ 60 → ∀ (H : Heap) (locs : List Loc) (ls : Array Slot), HS D A (w μ) s.heap H locs → lv_has ls 7 [(0, .ref (ad q0)), (1, .int x1), (2, .int x2), (3, .int x3), (4, .int x4), (5, .int x5)] → k131 x1 x2 x3 x4 x5 μ = some r → W p l e (headSpec wsL_roots (rmc 9 10 60 159)).room s m args below meth c H locs cells slots (MQ below (PI D A (w μ) r) args s 10 60 A) (F0 m 131 ls [])) → ∀ (x1 : Int32) (x2 : Int32) (x3 : Int32) (x4 : Int32) (x5 : Int32) (x6 : Int32) (cells slots : Nat), cells + 2 + G131 ≤ 10 → slots + 12 + GS131 ≤ 60 → ∀ (H : Heap) (locs : List Loc) (ls : Array Slot), HS D A (w μ) s.heap H locs → lv_has ls 7 [(0, .ref (ad q0)), (1, .int x1), (2, .int x2), (3, .int x3), (4, .int x4), (5, .int x5), (6, .int x6)] → f_L_roots_b198 q0 k131 x1 x2 x3 x4 x5 x6 μ = some r → W p l e (headSpec wsL_roots (rmc 9 10 60 159)).room s m args below meth c H locs cells slots (MQ below (PI D A (w μ) r) args s 10 60 A) (F0 m 198 ls []) := by
    intro k131 G131 GS131 hG131 hGS131 hk131 x1 x2 x3 x4 x5 x6 cells slots hc hs H locs ls hS hl h
    unfold f_L_roots_b198 at h
    refine lv_iload_n hx hb dL_roots_198 rfl (lv_at hl 3 rfl) ?_
    exact hb199 k131 G131 GS131 hG131 hGS131 hk131 x1 x2 x4 x5 x6 x3 _ _ (by omega) (by omega) _ _ _ hS (lv_sub hl [0, 1, 2, 4, 5, 6] rfl) h
  have hb169 : ∀ (k131 : Int32 → Int32 → Int32 → Int32 → Int32 → Mem → Option Int32) (G131 GS131 : Nat), 0 ≤ G131 → 0 ≤ GS131 → (∀ (x1 : Int32) (x2 : Int32) (x3 : Int32) (x4 : Int32) (x5 : Int32) (cells slots : Nat), cells + G131 ≤ 10 → slots + GS131 ≤ 60 → ∀ (H : Heap) (locs : List Loc) (ls : Array Slot), HS D A (w μ) s.heap H locs → lv_has ls 7 [(0, .ref (ad q0)), (1, .int x1), (2, .int x2), (3, .int x3), (4, .int x4), (5, .int x5)] → k131 x1 x2 x3 x4 x5 μ = some r → W p l e (headSpec wsL_roots (rmc 9 10 60 159)).room s m args below meth c H locs cells slots (MQ below (PI D A (w μ) r) args s 10 60 A) (F0 m 131 ls [])) → ∀ (x1 : Int32) (x2 : Int32) (x3 : Int32) (x5 : Int32) (x6 : Int32) (s0 : Int32) (s1 : Int32) (cells slots : Nat), cells + 2 + G131 ≤ 10 → slots + 12 + GS131 ≤ 60 → ∀ (H : Heap) (locs : List Loc) (ls : Array Slot), HS D A (w μ) s.heap H locs → lv_has ls 7 [(0, .ref (ad q0)), (1, .int x1), (2, .int x2), (3, .int x3), (5, .int x5), (6, .int x6)] → f_L_roots_b169 q0 k131 x1 x2 x3 x5 x6 s0 s1 μ = some r → W p l e (headSpec wsL_roots (rmc 9 10 60 159)).room s m args below meth c H locs cells slots (MQ below (PI D A (w μ) r) args s 10 60 A) (F0 m 169 ls [.int s0, .int s1]) := by
    intro k131 G131 GS131 hG131 hGS131 hk131 x1 x2 x3 x5 x6 s0 s1 cells slots hc hs H locs ls hS hl h
    unfold f_L_roots_b169 at h
    refine lv_iadd hx hb dL_roots_169 ?_
    refine lv_istore (lv' := [(4, .int (s1 + s0)), (0, .ref (ad q0)), (1, .int x1), (2, .int x2), (3, .int x3), (5, .int x5), (6, .int x6)]) hx hb dL_roots_170 hl (by decide) rfl (fun ls hl => ?_)
    refine lv_iload hx hb dL_roots_172 (lv_at hl 6 rfl) ?_
    refine lv_if_eq (tgt := 198) hx hb dL_roots_174 (by decide) (fun cc => ?_) (fun cc => ?_)
    · replace h := it h cc
      exact hb198 k131 G131 GS131 hG131 hGS131 hk131 x1 x2 x3 (s1 + s0) x5 x6 _ _ (by omega) (by omega) _ _ _ hS (lv_sub hl [1, 2, 3, 4, 0, 5, 6] rfl) h
    · replace h := ie h cc
      refine lv_aload_n hx hb dL_roots_177 rfl (lv_at hl 1 rfl) ?_
      refine lv_iload hx hb dL_roots_178 (lv_at hl 5 rfl) ?_
      refine lv_iconst (v := 0) hx hb dL_roots_180 (by decide) ?_
      obtain ⟨v29, ev29, h⟩ := ob h
      refine r_ci hS (r_runV (As := [.int x5, .int 0]) (rest := []) X hS (c_X6_reader l hE (w := w) (ad := ad) (μ := μ) (D := D) (cI := cI) (cG := cG) (cL := cL) hw0 ev29) (cwV 2 X.1.2.2.2.2 gL_roots_X6_reader rfl rfl rfl (by decide +kernel) ⟨Nat.le_of_ble_eq_true rfl, Nat.le_of_ble_eq_true rfl⟩) (q0 := q0) (ci := 4) rfl (hw0.1 μ).1 rfl hl.1 rfl (Nat.le_of_ble_eq_true rfl) dL_roots_181 ⟨Nat.le_trans (m := 10) (by omega) (Nat.le_of_ble_eq_true rfl), Nat.le_trans (m := 60) (by omega) (Nat.le_of_ble_eq_true rfl)⟩) (fun H locs hS => ?_)
      refine lv_iload_n hx hb dL_roots_184 rfl (lv_at hl 4 rfl) ?_
      refine lv_icmp_ge (tgt := 198) hx hb dL_roots_185 (by decide) (fun cc => ?_) (fun cc => ?_)
      · replace h := it h cc
        exact hb198 k131 G131 GS131 hG131 hGS131 hk131 x1 x2 x3 (s1 + s0) x5 x6 _ _ (by omega) (by omega) _ _ _ hS (lv_sub hl [1, 2, 3, 4, 0, 5, 6] rfl) h
      · replace h := ie h cc
        refine lv_aload_n hx hb dL_roots_188 rfl (lv_at hl 1 rfl) ?_
        refine lv_iload hx hb dL_roots_189 (lv_at hl 5 rfl) ?_
        refine lv_iconst (v := 0) hx hb dL_roots_191 (by decide) ?_
        obtain ⟨v30, ev30, h⟩ := ob h
        refine r_ci hS (r_runV (As := [.int x5, .int 0]) (rest := []) X hS (c_X6_reader l hE (w := w) (ad := ad) (μ := μ) (D := D) (cI := cI) (cG := cG) (cL := cL) hw0 ev30) (cwV 2 X.1.2.2.2.2 gL_roots_X6_reader rfl rfl rfl (by decide +kernel) ⟨Nat.le_of_ble_eq_true rfl, Nat.le_of_ble_eq_true rfl⟩) (q0 := q0) (ci := 4) rfl (hw0.1 μ).1 rfl hl.1 rfl (Nat.le_of_ble_eq_true rfl) dL_roots_192 ⟨Nat.le_trans (m := 10) (by omega) (Nat.le_of_ble_eq_true rfl), Nat.le_trans (m := 60) (by omega) (Nat.le_of_ble_eq_true rfl)⟩) (fun H locs hS => ?_)
        refine lv_goto (tgt := 199) hx hb dL_roots_195 (by decide) ?_
        exact hb199 k131 G131 GS131 hG131 hGS131 hk131 x1 x2 (s1 + s0) x5 x6 v30 _ _ (by omega) (by omega) _ _ _ hS (lv_sub hl [1, 2, 3, 0, 5, 6] rfl) h
  have hb155 : ∀ (k131 : Int32 → Int32 → Int32 → Int32 → Int32 → Mem → Option Int32) (G131 GS131 : Nat), 0 ≤ G131 → 0 ≤ GS131 → (∀ (x1 : Int32) (x2 : Int32) (x3 : Int32) (x4 : Int32) (x5 : Int32) (cells slots : Nat), cells + G131 ≤ 10 → slots + GS131 ≤ 60 → ∀ (H : Heap) (locs : List Loc) (ls : Array Slot), HS D A (w μ) s.heap H locs → lv_has ls 7 [(0, .ref (ad q0)), (1, .int x1), (2, .int x2), (3, .int x3), (4, .int x4), (5, .int x5)] → k131 x1 x2 x3 x4 x5 μ = some r → W p l e (headSpec wsL_roots (rmc 9 10 60 159)).room s m args below meth c H locs cells slots (MQ below (PI D A (w μ) r) args s 10 60 A) (F0 m 131 ls [])) → ∀ (x1 : Int32) (x2 : Int32) (x3 : Int32) (x4 : Int32) (x5 : Int32) (s0 : Int32) (cells slots : Nat), cells + 2 + G131 ≤ 10 → slots + 12 + GS131 ≤ 60 → ∀ (H : Heap) (locs : List Loc) (ls : Array Slot), HS D A (w μ) s.heap H locs → lv_has ls 7 [(0, .ref (ad q0)), (1, .int x1), (2, .int x2), (3, .int x3), (4, .int x4), (5, .int x5)] → f_L_roots_b155 q0 k131 x1 x2 x3 x4 x5 s0 μ = some r → W p l e (headSpec wsL_roots (rmc 9 10 60 159)).room s m args below meth c H locs cells slots (MQ below (PI D A (w μ) r) args s 10 60 A) (F0 m 155 ls [.int s0]) := by
    intro k131 G131 GS131 hG131 hGS131 hk131 x1 x2 x3 x4 x5 s0 cells slots hc hs H locs ls hS hl h
    unfold f_L_roots_b155 at h
    refine lv_istore (lv' := [(6, .int s0), (0, .ref (ad q0)), (1, .int x1), (2, .int x2), (3, .int x3), (4, .int x4), (5, .int x5)]) hx hb dL_roots_155 hl (by decide) rfl (fun ls hl => ?_)
    refine lv_iload hx hb dL_roots_157 (lv_at hl 5 rfl) ?_
    refine lv_iload hx hb dL_roots_159 (lv_at hl 0 rfl) ?_
    refine lv_if_eq (tgt := 168) hx hb dL_roots_161 (by decide) (fun cc => ?_) (fun cc => ?_)
    · replace h := it h cc
      refine lv_iconst (v := 0) hx hb dL_roots_168 (by decide) ?_
      exact hb169 k131 G131 GS131 hG131 hGS131 hk131 x1 x2 x3 x5 s0 0 x4 _ _ (by omega) (by omega) _ _ _ hS (lv_sub hl [1, 2, 3, 4, 6, 0] rfl) h
    · replace h := ie h cc
      refine lv_iconst (v := 1) hx hb dL_roots_164 (by decide) ?_
      refine lv_goto (tgt := 169) hx hb dL_roots_165 (by decide) ?_
      exact hb169 k131 G131 GS131 hG131 hGS131 hk131 x1 x2 x3 x5 s0 1 x4 _ _ (by omega) (by omega) _ _ _ hS (lv_sub hl [1, 2, 3, 4, 6, 0] rfl) h
  have hb131 : ∀ (fu : Nat) (x1 : Int32) (x2 : Int32) (x3 : Int32) (x4 : Int32) (x5 : Int32) (cells slots : Nat), cells + (fu * 2 + 0) ≤ 10 → slots + (fu * 12 + 0) ≤ 60 → ∀ (H : Heap) (locs : List Loc) (ls : Array Slot), HS D A (w μ) s.heap H locs → lv_has ls 7 [(0, .ref (ad q0)), (1, .int x1), (2, .int x2), (3, .int x3), (4, .int x4), (5, .int x5)] → f_L_roots_b131 q0 fu x1 x2 x3 x4 x5 μ = some r → W p l e (headSpec wsL_roots (rmc 9 10 60 159)).room s m args below meth c H locs cells slots (MQ below (PI D A (w μ) r) args s 10 60 A) (F0 m 131 ls []) := by
    intro fu
    induction fu with
    | zero =>
      intro x1 x2 x3 x4 x5 cells slots hc hs H locs ls hS hl h
      rw [f_L_roots_b131] at h
      cases h
    | succ fuel131 ih131 =>
      intro x1 x2 x3 x4 x5 cells slots hc hs H locs ls hS hl h
      rw [f_L_roots_b131] at h
      refine lv_iload hx hb dL_roots_131 (lv_at hl 5 rfl) ?_
      refine lv_iconst (v := 4) hx hb dL_roots_133 (by decide) ?_
      refine lv_icmp_ge (tgt := 332) hx hb dL_roots_134 (by decide) (fun cc => ?_) (fun cc => ?_)
      · replace h := it h cc
        refine lv_iconst (v := 1) hx hb dL_roots_332 (by decide) ?_
        refine lv_iload_n hx hb dL_roots_333 rfl (lv_at hl 1 rfl) ?_
        refine lv_isub hx hb dL_roots_334 ?_
        refine lv_istore (lv' := [(5, .int (1 - x1)), (0, .ref (ad q0)), (1, .int x1), (2, .int x2), (3, .int x3), (4, .int x4)]) hx hb dL_roots_335 hl (by decide) rfl (fun ls hl => ?_)
        refine lv_aload_n hx hb dL_roots_337 rfl (lv_at hl 1 rfl) ?_
        refine lv_iconst (v := 0) hx hb dL_roots_338 (by decide) ?_
        refine lv_iconst (v := 3) hx hb dL_roots_339 (by decide) ?_
        obtain ⟨v3, ev3, h⟩ := ob h
        refine r_ci hS (r_runV (As := [.int 0, .int 3]) (rest := []) X hS (c_X6_root l hE (w := w) (ad := ad) (μ := μ) (D := D) (cI := cI) (cG := cG) (cL := cL) hw0 ev3) (cwV 2 X.1.2.2.2.2 gL_roots_X6_root rfl rfl rfl (by decide +kernel) ⟨Nat.le_of_ble_eq_true rfl, Nat.le_of_ble_eq_true rfl⟩) (q0 := q0) (ci := 4) rfl (hw0.1 μ).1 rfl hl.1 rfl (Nat.le_of_ble_eq_true rfl) dL_roots_340 ⟨Nat.le_trans (m := 10) (by omega) (Nat.le_of_ble_eq_true rfl), Nat.le_trans (m := 60) (by omega) (Nat.le_of_ble_eq_true rfl)⟩) (fun H locs hS => ?_)
        refine lv_aload_n hx hb dL_roots_343 rfl (lv_at hl 1 rfl) ?_
        refine lv_iconst (v := 1) hx hb dL_roots_344 (by decide) ?_
        refine lv_iconst (v := 3) hx hb dL_roots_345 (by decide) ?_
        obtain ⟨v4, ev4, h⟩ := ob h
        refine r_ci hS (r_runV (As := [.int 1, .int 3]) (rest := [.int v3]) X hS (c_X6_root l hE (w := w) (ad := ad) (μ := μ) (D := D) (cI := cI) (cG := cG) (cL := cL) hw0 ev4) (cwV 2 X.1.2.2.2.2 gL_roots_X6_root rfl rfl rfl (by decide +kernel) ⟨Nat.le_of_ble_eq_true rfl, Nat.le_of_ble_eq_true rfl⟩) (q0 := q0) (ci := 4) rfl (hw0.1 μ).1 rfl hl.1 rfl (Nat.le_of_ble_eq_true rfl) dL_roots_346 ⟨Nat.le_trans (m := 10) (by omega) (Nat.le_of_ble_eq_true rfl), Nat.le_trans (m := 60) (by omega) (Nat.le_of_ble_eq_true rfl)⟩) (fun H locs hS => ?_)
        refine lv_iadd hx hb dL_roots_349 ?_
        refine lv_iconst (v := 1) hx hb dL_roots_350 (by decide) ?_
        refine lv_icmp_ne (tgt := 444) hx hb dL_roots_351 (by decide) (fun cc => ?_) (fun cc => ?_)
        · replace h := ie h cc
          exact hb444  _ _ (by omega) (by omega) _ _ _ hS (lv_sub hl [] rfl) h
        · replace h := it h cc
          refine lv_aload_n hx hb dL_roots_354 rfl (lv_at hl 1 rfl) ?_
          refine lv_iload_n hx hb dL_roots_355 rfl (lv_at hl 2 rfl) ?_
          refine lv_iconst (v := 2) hx hb dL_roots_356 (by decide) ?_
          obtain ⟨v6, ev6, h⟩ := ob h
          refine r_ci hS (r_runV (As := [.int x1, .int 2]) (rest := []) X hS (c_X6_root l hE (w := w) (ad := ad) (μ := μ) (D := D) (cI := cI) (cG := cG) (cL := cL) hw0 ev6) (cwV 2 X.1.2.2.2.2 gL_roots_X6_root rfl rfl rfl (by decide +kernel) ⟨Nat.le_of_ble_eq_true rfl, Nat.le_of_ble_eq_true rfl⟩) (q0 := q0) (ci := 4) rfl (hw0.1 μ).1 rfl hl.1 rfl (Nat.le_of_ble_eq_true rfl) dL_roots_357 ⟨Nat.le_trans (m := 10) (by omega) (Nat.le_of_ble_eq_true rfl), Nat.le_trans (m := 60) (by omega) (Nat.le_of_ble_eq_true rfl)⟩) (fun H locs hS => ?_)
          refine lv_iconst (v := 1) hx hb dL_roots_360 (by decide) ?_
          refine lv_icmp_ne (tgt := 444) hx hb dL_roots_361 (by decide) (fun cc => ?_) (fun cc => ?_)
          · replace h := ie h cc
            exact hb444  _ _ (by omega) (by omega) _ _ _ hS (lv_sub hl [] rfl) h
          · replace h := it h cc
            refine lv_aload_n hx hb dL_roots_364 rfl (lv_at hl 1 rfl) ?_
            refine lv_iload hx hb dL_roots_365 (lv_at hl 0 rfl) ?_
            refine lv_iconst (v := 2) hx hb dL_roots_367 (by decide) ?_
            obtain ⟨v7, ev7, h⟩ := ob h
            refine r_ci hS (r_runV (As := [.int (1 - x1), .int 2]) (rest := []) X hS (c_X6_root l hE (w := w) (ad := ad) (μ := μ) (D := D) (cI := cI) (cG := cG) (cL := cL) hw0 ev7) (cwV 2 X.1.2.2.2.2 gL_roots_X6_root rfl rfl rfl (by decide +kernel) ⟨Nat.le_of_ble_eq_true rfl, Nat.le_of_ble_eq_true rfl⟩) (q0 := q0) (ci := 4) rfl (hw0.1 μ).1 rfl hl.1 rfl (Nat.le_of_ble_eq_true rfl) dL_roots_368 ⟨Nat.le_trans (m := 10) (by omega) (Nat.le_of_ble_eq_true rfl), Nat.le_trans (m := 60) (by omega) (Nat.le_of_ble_eq_true rfl)⟩) (fun H locs hS => ?_)
            refine lv_if_eq (tgt := 385) hx hb dL_roots_371 (by decide) (fun cc => ?_) (fun cc => ?_)
            · replace h := it h cc
              exact hb385 x1 x3 x4 _ _ (by omega) (by omega) _ _ _ hS (lv_sub hl [1, 2, 4, 5] rfl) h
            · replace h := ie h cc
              refine lv_aload_n hx hb dL_roots_374 rfl (lv_at hl 1 rfl) ?_
              refine lv_iload hx hb dL_roots_375 (lv_at hl 0 rfl) ?_
              refine lv_iconst (v := 0) hx hb dL_roots_377 (by decide) ?_
              obtain ⟨v15, ev15, h⟩ := ob h
              refine r_ci hS (r_runV (As := [.int (1 - x1), .int 0]) (rest := []) X hS (c_X6_root l hE (w := w) (ad := ad) (μ := μ) (D := D) (cI := cI) (cG := cG) (cL := cL) hw0 ev15) (cwV 2 X.1.2.2.2.2 gL_roots_X6_root rfl rfl rfl (by decide +kernel) ⟨Nat.le_of_ble_eq_true rfl, Nat.le_of_ble_eq_true rfl⟩) (q0 := q0) (ci := 4) rfl (hw0.1 μ).1 rfl hl.1 rfl (Nat.le_of_ble_eq_true rfl) dL_roots_378 ⟨Nat.le_trans (m := 10) (by omega) (Nat.le_of_ble_eq_true rfl), Nat.le_trans (m := 60) (by omega) (Nat.le_of_ble_eq_true rfl)⟩) (fun H locs hS => ?_)
              refine lv_iload_n hx hb dL_roots_381 rfl (lv_at hl 3 rfl) ?_
              refine lv_icmp_ge (tgt := 444) hx hb dL_roots_382 (by decide) (fun cc => ?_) (fun cc => ?_)
              · replace h := it h cc
                exact hb444  _ _ (by omega) (by omega) _ _ _ hS (lv_sub hl [] rfl) h
              · replace h := ie h cc
                exact hb385 x1 x3 x4 _ _ (by omega) (by omega) _ _ _ hS (lv_sub hl [1, 2, 4, 5] rfl) h
      · replace h := ie h cc
        refine lv_aload_n hx hb dL_roots_137 rfl (lv_at hl 0 rfl) ?_
        refine lv_iload hx hb dL_roots_138 (lv_at hl 5 rfl) ?_
        refine lv_iconst (v := 0) hx hb dL_roots_140 (by decide) ?_
        obtain ⟨v16, ev16, h⟩ := ob h
        refine r_ci hS (r_runV (As := [.int x5, .int 0]) (rest := []) X hS (c_X6_reader l hE (w := w) (ad := ad) (μ := μ) (D := D) (cI := cI) (cG := cG) (cL := cL) hw0 ev16) (cwV 2 X.1.2.2.2.2 gL_roots_X6_reader rfl rfl rfl (by decide +kernel) ⟨Nat.le_of_ble_eq_true rfl, Nat.le_of_ble_eq_true rfl⟩) (q0 := q0) (ci := 4) rfl (hw0.1 μ).1 rfl hl.1 rfl (Nat.le_of_ble_eq_true rfl) dL_roots_141 ⟨Nat.le_trans (m := 10) (by omega) (Nat.le_of_ble_eq_true rfl), Nat.le_trans (m := 60) (by omega) (Nat.le_of_ble_eq_true rfl)⟩) (fun H locs hS => ?_)
        refine lv_sipush (v := (-1000)) hx hb dL_roots_144 (by decide) ?_
        refine lv_icmp_eq (tgt := 154) hx hb dL_roots_147 (by decide) (fun cc => ?_) (fun cc => ?_)
        · replace h := it h cc
          refine lv_iconst (v := 0) hx hb dL_roots_154 (by decide) ?_
          exact hb155 (f_L_roots_b131 q0 fuel131) (fuel131 * 2 + 0) (fuel131 * 12 + 0) (by omega) (by omega) (fun x1 x2 x3 x4 x5 cells slots hc hs => ih131 x1 x2 x3 x4 x5 cells slots (by omega) (by omega)) x1 x2 x3 x4 x5 0 _ _ (by omega) (by omega) _ _ _ hS (lv_sub hl [0, 1, 2, 3, 4, 5] rfl) h
        · replace h := ie h cc
          refine lv_iconst (v := 1) hx hb dL_roots_150 (by decide) ?_
          refine lv_goto (tgt := 155) hx hb dL_roots_151 (by decide) ?_
          exact hb155 (f_L_roots_b131 q0 fuel131) (fuel131 * 2 + 0) (fuel131 * 12 + 0) (by omega) (by omega) (fun x1 x2 x3 x4 x5 cells slots hc hs => ih131 x1 x2 x3 x4 x5 cells slots (by omega) (by omega)) x1 x2 x3 x4 x5 1 _ _ (by omega) (by omega) _ _ _ hS (lv_sub hl [0, 1, 2, 3, 4, 5] rfl) h
  have hb122 : ∀ (k22 : Int32 → Int32 → Int32 → Int32 → Int32 → Mem → Option Int32) (G22 GS22 : Nat), 10 ≤ G22 → 60 ≤ GS22 → (∀ (x1 : Int32) (x2 : Int32) (x3 : Int32) (x4 : Int32) (x5 : Int32) (cells slots : Nat), cells + G22 ≤ 10 → slots + GS22 ≤ 60 → ∀ (H : Heap) (locs : List Loc) (ls : Array Slot), HS D A (w μ) s.heap H locs → lv_has ls 7 [(0, .ref (ad q0)), (1, .int x1), (2, .int x2), (3, .int x3), (4, .int x4), (5, .int x5)] → k22 x1 x2 x3 x4 x5 μ = some r → W p l e (headSpec wsL_roots (rmc 9 10 60 159)).room s m args below meth c H locs cells slots (MQ below (PI D A (w μ) r) args s 10 60 A) (F0 m 22 ls [])) → ∀ (x1 : Int32) (x2 : Int32) (x3 : Int32) (x4 : Int32) (x5 : Int32) (cells slots : Nat), cells + 0 + G22 ≤ 10 → slots + 0 + GS22 ≤ 60 → ∀ (H : Heap) (locs : List Loc) (ls : Array Slot), HS D A (w μ) s.heap H locs → lv_has ls 7 [(0, .ref (ad q0)), (1, .int x1), (2, .int x2), (3, .int x3), (4, .int x4), (5, .int x5)] → f_L_roots_b122 q0 k22 x1 x2 x3 x4 x5 μ = some r → W p l e (headSpec wsL_roots (rmc 9 10 60 159)).room s m args below meth c H locs cells slots (MQ below (PI D A (w μ) r) args s 10 60 A) (F0 m 122 ls []) := by
    intro k22 G22 GS22 hG22 hGS22 hk22 x1 x2 x3 x4 x5 cells slots hc hs H locs ls hS hl h
    unfold f_L_roots_b122 at h
    refine lv_iinc (v := x5 + 1) (lv' := [(5, .int (x5 + 1)), (0, .ref (ad q0)), (1, .int x1), (2, .int x2), (3, .int x3), (4, .int x4)]) hx hb dL_roots_122 hl (k := 5) rfl rfl (by decide) rfl (fun ls hl => ?_)
    refine lv_goto (tgt := 22) hx hb dL_roots_125 (by decide) ?_
    exact hk22 x1 x2 x3 x4 (x5 + 1) _ _ (by omega) (by omega) _ _ _ hS (lv_sub hl [1, 2, 3, 4, 5, 0] rfl) h
  have hb120 : ∀  (cells slots : Nat), cells + 0 ≤ 10 → slots + 0 ≤ 60 → ∀ (H : Heap) (locs : List Loc) (ls : Array Slot), HS D A (w μ) s.heap H locs → lv_has ls 7 [] → f_L_roots_b120 q0 μ = some r → W p l e (headSpec wsL_roots (rmc 9 10 60 159)).room s m args below meth c H locs cells slots (MQ below (PI D A (w μ) r) args s 10 60 A) (F0 m 120 ls []) := by
    intro cells slots hc hs H locs ls hS hl h
    unfold f_L_roots_b120 at h
    refine lv_iconst (v := 0) hx hb dL_roots_120 (by decide) ?_
    cases h
    exact r_zretM X hS hr hlk (by decide) (by omega) (by omega) dL_roots_121
  have hb61 : ∀ (k22 : Int32 → Int32 → Int32 → Int32 → Int32 → Mem → Option Int32) (G22 GS22 : Nat), 10 ≤ G22 → 60 ≤ GS22 → (∀ (x1 : Int32) (x2 : Int32) (x3 : Int32) (x4 : Int32) (x5 : Int32) (cells slots : Nat), cells + G22 ≤ 10 → slots + GS22 ≤ 60 → ∀ (H : Heap) (locs : List Loc) (ls : Array Slot), HS D A (w μ) s.heap H locs → lv_has ls 7 [(0, .ref (ad q0)), (1, .int x1), (2, .int x2), (3, .int x3), (4, .int x4), (5, .int x5)] → k22 x1 x2 x3 x4 x5 μ = some r → W p l e (headSpec wsL_roots (rmc 9 10 60 159)).room s m args below meth c H locs cells slots (MQ below (PI D A (w μ) r) args s 10 60 A) (F0 m 22 ls [])) → ∀ (x1 : Int32) (x2 : Int32) (x4 : Int32) (x5 : Int32) (s0 : Int32) (cells slots : Nat), cells + 0 + G22 ≤ 10 → slots + 0 + GS22 ≤ 60 → ∀ (H : Heap) (locs : List Loc) (ls : Array Slot), HS D A (w μ) s.heap H locs → lv_has ls 7 [(0, .ref (ad q0)), (1, .int x1), (2, .int x2), (4, .int x4), (5, .int x5)] → f_L_roots_b61 q0 k22 x1 x2 x4 x5 s0 μ = some r → W p l e (headSpec wsL_roots (rmc 9 10 60 159)).room s m args below meth c H locs cells slots (MQ below (PI D A (w μ) r) args s 10 60 A) (F0 m 61 ls [.int s0]) := by
    intro k22 G22 GS22 hG22 hGS22 hk22 x1 x2 x4 x5 s0 cells slots hc hs H locs ls hS hl h
    unfold f_L_roots_b61 at h
    refine lv_istore_n (lv' := [(3, .int s0), (0, .ref (ad q0)), (1, .int x1), (2, .int x2), (4, .int x4), (5, .int x5)]) hx hb dL_roots_61 rfl hl (by decide) rfl (fun ls hl => ?_)
    refine lv_aload_n hx hb dL_roots_62 rfl (lv_at hl 1 rfl) ?_
    refine lv_iload hx hb dL_roots_63 (lv_at hl 5 rfl) ?_
    refine lv_iconst (v := 2) hx hb dL_roots_65 (by decide) ?_
    obtain ⟨v32, ev32, h⟩ := ob h
    refine r_ci hS (r_runV (As := [.int x5, .int 2]) (rest := []) X hS (c_X6_root l hE (w := w) (ad := ad) (μ := μ) (D := D) (cI := cI) (cG := cG) (cL := cL) hw0 ev32) (cwV 2 X.1.2.2.2.2 gL_roots_X6_root rfl rfl rfl (by decide +kernel) ⟨Nat.le_of_ble_eq_true rfl, Nat.le_of_ble_eq_true rfl⟩) (q0 := q0) (ci := 4) rfl (hw0.1 μ).1 rfl hl.1 rfl (Nat.le_of_ble_eq_true rfl) dL_roots_66 ⟨Nat.le_trans (m := 10) (by omega) (Nat.le_of_ble_eq_true rfl), Nat.le_trans (m := 60) (by omega) (Nat.le_of_ble_eq_true rfl)⟩) (fun H locs hS => ?_)
    refine lv_iconst (v := 1) hx hb dL_roots_69 (by decide) ?_
    refine lv_icmp_ne (tgt := 122) hx hb dL_roots_70 (by decide) (fun cc => ?_) (fun cc => ?_)
    · replace h := ie h cc
      exact hb122 k22 G22 GS22 hG22 hGS22 hk22 x1 x2 s0 x4 x5 _ _ (by omega) (by omega) _ _ _ hS (lv_sub hl [1, 2, 3, 0, 4, 5] rfl) h
    · replace h := it h cc
      refine lv_aload_n hx hb dL_roots_73 rfl (lv_at hl 1 rfl) ?_
      refine lv_aload_n hx hb dL_roots_74 rfl (lv_at hl 1 rfl) ?_
      refine lv_iload hx hb dL_roots_75 (lv_at hl 5 rfl) ?_
      refine lv_iconst (v := 1) hx hb dL_roots_77 (by decide) ?_
      obtain ⟨v33, ev33, h⟩ := ob h
      refine r_ci hS (r_runV (As := [.int x5, .int 1]) (rest := [.ref (ad q0)]) X hS (c_X6_root l hE (w := w) (ad := ad) (μ := μ) (D := D) (cI := cI) (cG := cG) (cL := cL) hw0 ev33) (cwV 2 X.1.2.2.2.2 gL_roots_X6_root rfl rfl rfl (by decide +kernel) ⟨Nat.le_of_ble_eq_true rfl, Nat.le_of_ble_eq_true rfl⟩) (q0 := q0) (ci := 4) rfl (hw0.1 μ).1 rfl hl.1 rfl (Nat.le_of_ble_eq_true rfl) dL_roots_78 ⟨Nat.le_trans (m := 10) (by omega) (Nat.le_of_ble_eq_true rfl), Nat.le_trans (m := 60) (by omega) (Nat.le_of_ble_eq_true rfl)⟩) (fun H locs hS => ?_)
      refine lv_iconst (v := 0) hx hb dL_roots_81 (by decide) ?_
      obtain ⟨v34, ev34, h⟩ := ob h
      refine r_ci hS (r_runV (As := [.int v33, .int 0]) (rest := []) X hS (c_X6_bed l hE (w := w) (ad := ad) (μ := μ) (D := D) (cI := cI) (cG := cG) (cL := cL) hw0 ev34) (cwV 2 X.1.2.2.2.2 gL_roots_X6_bed rfl rfl rfl (by decide +kernel) ⟨Nat.le_of_ble_eq_true rfl, Nat.le_of_ble_eq_true rfl⟩) (q0 := q0) (ci := 4) rfl (hw0.1 μ).1 rfl hl.1 rfl (Nat.le_of_ble_eq_true rfl) dL_roots_82 ⟨Nat.le_trans (m := 10) (by omega) (Nat.le_of_ble_eq_true rfl), Nat.le_trans (m := 60) (by omega) (Nat.le_of_ble_eq_true rfl)⟩) (fun H locs hS => ?_)
      refine lv_if_eq (tgt := 120) hx hb dL_roots_85 (by decide) (fun cc => ?_) (fun cc => ?_)
      · replace h := it h cc
        exact hb120  _ _ (by omega) (by omega) _ _ _ hS (lv_sub hl [] rfl) h
      · replace h := ie h cc
        refine lv_aload_n hx hb dL_roots_88 rfl (lv_at hl 1 rfl) ?_
        refine lv_aload_n hx hb dL_roots_89 rfl (lv_at hl 1 rfl) ?_
        refine lv_iload hx hb dL_roots_90 (lv_at hl 5 rfl) ?_
        refine lv_iconst (v := 1) hx hb dL_roots_92 (by decide) ?_
        obtain ⟨v35, ev35, h⟩ := ob h
        refine r_ci hS (r_runV (As := [.int x5, .int 1]) (rest := [.ref (ad q0)]) X hS (c_X6_root l hE (w := w) (ad := ad) (μ := μ) (D := D) (cI := cI) (cG := cG) (cL := cL) hw0 ev35) (cwV 2 X.1.2.2.2.2 gL_roots_X6_root rfl rfl rfl (by decide +kernel) ⟨Nat.le_of_ble_eq_true rfl, Nat.le_of_ble_eq_true rfl⟩) (q0 := q0) (ci := 4) rfl (hw0.1 μ).1 rfl hl.1 rfl (Nat.le_of_ble_eq_true rfl) dL_roots_93 ⟨Nat.le_trans (m := 10) (by omega) (Nat.le_of_ble_eq_true rfl), Nat.le_trans (m := 60) (by omega) (Nat.le_of_ble_eq_true rfl)⟩) (fun H locs hS => ?_)
        refine lv_iconst (v := 4) hx hb dL_roots_96 (by decide) ?_
        obtain ⟨v36, ev36, h⟩ := ob h
        refine r_ci hS (r_runV (As := [.int v35, .int 4]) (rest := []) X hS (c_X6_bed l hE (w := w) (ad := ad) (μ := μ) (D := D) (cI := cI) (cG := cG) (cL := cL) hw0 ev36) (cwV 2 X.1.2.2.2.2 gL_roots_X6_bed rfl rfl rfl (by decide +kernel) ⟨Nat.le_of_ble_eq_true rfl, Nat.le_of_ble_eq_true rfl⟩) (q0 := q0) (ci := 4) rfl (hw0.1 μ).1 rfl hl.1 rfl (Nat.le_of_ble_eq_true rfl) dL_roots_97 ⟨Nat.le_trans (m := 10) (by omega) (Nat.le_of_ble_eq_true rfl), Nat.le_trans (m := 60) (by omega) (Nat.le_of_ble_eq_true rfl)⟩) (fun H locs hS => ?_)
        refine lv_iconst (v := 1) hx hb dL_roots_100 (by decide) ?_
        refine lv_icmp_eq (tgt := 120) hx hb dL_roots_101 (by decide) (fun cc => ?_) (fun cc => ?_)
        · replace h := it h cc
          exact hb120  _ _ (by omega) (by omega) _ _ _ hS (lv_sub hl [] rfl) h
        · replace h := ie h cc
          refine lv_aload_n hx hb dL_roots_104 rfl (lv_at hl 1 rfl) ?_
          refine lv_aload_n hx hb dL_roots_105 rfl (lv_at hl 1 rfl) ?_
          refine lv_iload hx hb dL_roots_106 (lv_at hl 5 rfl) ?_
          refine lv_iconst (v := 1) hx hb dL_roots_108 (by decide) ?_
          obtain ⟨v37, ev37, h⟩ := ob h
          refine r_ci hS (r_runV (As := [.int x5, .int 1]) (rest := [.ref (ad q0)]) X hS (c_X6_root l hE (w := w) (ad := ad) (μ := μ) (D := D) (cI := cI) (cG := cG) (cL := cL) hw0 ev37) (cwV 2 X.1.2.2.2.2 gL_roots_X6_root rfl rfl rfl (by decide +kernel) ⟨Nat.le_of_ble_eq_true rfl, Nat.le_of_ble_eq_true rfl⟩) (q0 := q0) (ci := 4) rfl (hw0.1 μ).1 rfl hl.1 rfl (Nat.le_of_ble_eq_true rfl) dL_roots_109 ⟨Nat.le_trans (m := 10) (by omega) (Nat.le_of_ble_eq_true rfl), Nat.le_trans (m := 60) (by omega) (Nat.le_of_ble_eq_true rfl)⟩) (fun H locs hS => ?_)
          refine lv_iconst (v := 1) hx hb dL_roots_112 (by decide) ?_
          obtain ⟨v38, ev38, h⟩ := ob h
          refine r_ci hS (r_runV (As := [.int v37, .int 1]) (rest := []) X hS (c_X6_bed l hE (w := w) (ad := ad) (μ := μ) (D := D) (cI := cI) (cG := cG) (cL := cL) hw0 ev38) (cwV 2 X.1.2.2.2.2 gL_roots_X6_bed rfl rfl rfl (by decide +kernel) ⟨Nat.le_of_ble_eq_true rfl, Nat.le_of_ble_eq_true rfl⟩) (q0 := q0) (ci := 4) rfl (hw0.1 μ).1 rfl hl.1 rfl (Nat.le_of_ble_eq_true rfl) dL_roots_113 ⟨Nat.le_trans (m := 10) (by omega) (Nat.le_of_ble_eq_true rfl), Nat.le_trans (m := 60) (by omega) (Nat.le_of_ble_eq_true rfl)⟩) (fun H locs hS => ?_)
          refine lv_iconst (v := 1) hx hb dL_roots_116 (by decide) ?_
          refine lv_icmp_eq (tgt := 122) hx hb dL_roots_117 (by decide) (fun cc => ?_) (fun cc => ?_)
          · replace h := it h cc
            exact hb122 k22 G22 GS22 hG22 hGS22 hk22 x1 x2 s0 x4 x5 _ _ (by omega) (by omega) _ _ _ hS (lv_sub hl [1, 2, 3, 0, 4, 5] rfl) h
          · replace h := ie h cc
            exact hb120  _ _ (by omega) (by omega) _ _ _ hS (lv_sub hl [] rfl) h
  have hb60 : ∀ (k22 : Int32 → Int32 → Int32 → Int32 → Int32 → Mem → Option Int32) (G22 GS22 : Nat), 10 ≤ G22 → 60 ≤ GS22 → (∀ (x1 : Int32) (x2 : Int32) (x3 : Int32) (x4 : Int32) (x5 : Int32) (cells slots : Nat), cells + G22 ≤ 10 → slots + GS22 ≤ 60 → ∀ (H : Heap) (locs : List Loc) (ls : Array Slot), HS D A (w μ) s.heap H locs → lv_has ls 7 [(0, .ref (ad q0)), (1, .int x1), (2, .int x2), (3, .int x3), (4, .int x4), (5, .int x5)] → k22 x1 x2 x3 x4 x5 μ = some r → W p l e (headSpec wsL_roots (rmc 9 10 60 159)).room s m args below meth c H locs cells slots (MQ below (PI D A (w μ) r) args s 10 60 A) (F0 m 22 ls [])) → ∀ (x1 : Int32) (x2 : Int32) (x3 : Int32) (x4 : Int32) (x5 : Int32) (cells slots : Nat), cells + 0 + G22 ≤ 10 → slots + 0 + GS22 ≤ 60 → ∀ (H : Heap) (locs : List Loc) (ls : Array Slot), HS D A (w μ) s.heap H locs → lv_has ls 7 [(0, .ref (ad q0)), (1, .int x1), (2, .int x2), (3, .int x3), (4, .int x4), (5, .int x5)] → f_L_roots_b60 q0 k22 x1 x2 x3 x4 x5 μ = some r → W p l e (headSpec wsL_roots (rmc 9 10 60 159)).room s m args below meth c H locs cells slots (MQ below (PI D A (w μ) r) args s 10 60 A) (F0 m 60 ls []) := by
    intro k22 G22 GS22 hG22 hGS22 hk22 x1 x2 x3 x4 x5 cells slots hc hs H locs ls hS hl h
    unfold f_L_roots_b60 at h
    refine lv_iload_n hx hb dL_roots_60 rfl (lv_at hl 3 rfl) ?_
    exact hb61 k22 G22 GS22 hG22 hGS22 hk22 x1 x2 x4 x5 x3 _ _ (by omega) (by omega) _ _ _ hS (lv_sub hl [0, 1, 2, 4, 5] rfl) h
  have hb22 : ∀ (fu : Nat) (x1 : Int32) (x2 : Int32) (x3 : Int32) (x4 : Int32) (x5 : Int32) (cells slots : Nat), cells + (fu * 0 + 10) ≤ 10 → slots + (fu * 0 + 60) ≤ 60 → ∀ (H : Heap) (locs : List Loc) (ls : Array Slot), HS D A (w μ) s.heap H locs → lv_has ls 7 [(0, .ref (ad q0)), (1, .int x1), (2, .int x2), (3, .int x3), (4, .int x4), (5, .int x5)] → f_L_roots_b22 q0 fu x1 x2 x3 x4 x5 μ = some r → W p l e (headSpec wsL_roots (rmc 9 10 60 159)).room s m args below meth c H locs cells slots (MQ below (PI D A (w μ) r) args s 10 60 A) (F0 m 22 ls []) := by
    intro fu
    induction fu with
    | zero =>
      intro x1 x2 x3 x4 x5 cells slots hc hs H locs ls hS hl h
      rw [f_L_roots_b22] at h
      cases h
    | succ fuel22 ih22 =>
      intro x1 x2 x3 x4 x5 cells slots hc hs H locs ls hS hl h
      rw [f_L_roots_b22] at h
      refine lv_iload hx hb dL_roots_22 (lv_at hl 5 rfl) ?_
      refine lv_iconst (v := 2) hx hb dL_roots_24 (by decide) ?_
      refine lv_icmp_ge (tgt := 128) hx hb dL_roots_25 (by decide) (fun cc => ?_) (fun cc => ?_)
      · replace h := it h cc
        refine lv_iconst (v := 0) hx hb dL_roots_128 (by decide) ?_
        refine lv_istore (lv' := [(5, .int 0), (0, .ref (ad q0)), (1, .int x1), (2, .int x2), (3, .int x3), (4, .int x4)]) hx hb dL_roots_129 hl (by decide) rfl (fun ls hl => ?_)
        exact hb131 5 x1 x2 x3 x4 0 _ _ (by omega) (by omega) _ _ _ hS (lv_sub hl [1, 2, 3, 4, 5, 0] rfl) h
      · replace h := ie h cc
        refine lv_aload_n hx hb dL_roots_28 rfl (lv_at hl 0 rfl) ?_
        refine lv_iload hx hb dL_roots_29 (lv_at hl 5 rfl) ?_
        refine lv_iconst (v := 2) hx hb dL_roots_31 (by decide) ?_
        obtain ⟨v31, ev31, h⟩ := ob h
        refine r_ci hS (r_runV (As := [.int x5, .int 2]) (rest := []) X hS (c_X6_root l hE (w := w) (ad := ad) (μ := μ) (D := D) (cI := cI) (cG := cG) (cL := cL) hw0 ev31) (cwV 2 X.1.2.2.2.2 gL_roots_X6_root rfl rfl rfl (by decide +kernel) ⟨Nat.le_of_ble_eq_true rfl, Nat.le_of_ble_eq_true rfl⟩) (q0 := q0) (ci := 4) rfl (hw0.1 μ).1 rfl hl.1 rfl (Nat.le_of_ble_eq_true rfl) dL_roots_32 ⟨Nat.le_trans (m := 10) (by omega) (Nat.le_of_ble_eq_true rfl), Nat.le_trans (m := 60) (by omega) (Nat.le_of_ble_eq_true rfl)⟩) (fun H locs hS => ?_)
        refine lv_iconst (v := 1) hx hb dL_roots_35 (by decide) ?_
        refine lv_icmp_ne (tgt := 60) hx hb dL_roots_36 (by decide) (fun cc => ?_) (fun cc => ?_)
        · replace h := ie h cc
          exact hb60 (f_L_roots_b22 q0 fuel22) (fuel22 * 0 + 10) (fuel22 * 0 + 60) (by omega) (by omega) (fun x1 x2 x3 x4 x5 cells slots hc hs => ih22 x1 x2 x3 x4 x5 cells slots (by omega) (by omega)) x1 x2 x3 x4 x5 _ _ (by omega) (by omega) _ _ _ hS (lv_sub hl [0, 1, 2, 3, 4, 5] rfl) h
        · replace h := it h cc
          refine lv_aload_n hx hb dL_roots_39 rfl (lv_at hl 0 rfl) ?_
          refine lv_iload hx hb dL_roots_40 (lv_at hl 5 rfl) ?_
          refine lv_iconst (v := 0) hx hb dL_roots_42 (by decide) ?_
          obtain ⟨v39, ev39, h⟩ := ob h
          refine r_ci hS (r_runV (As := [.int x5, .int 0]) (rest := []) X hS (c_X6_root l hE (w := w) (ad := ad) (μ := μ) (D := D) (cI := cI) (cG := cG) (cL := cL) hw0 ev39) (cwV 2 X.1.2.2.2.2 gL_roots_X6_root rfl rfl rfl (by decide +kernel) ⟨Nat.le_of_ble_eq_true rfl, Nat.le_of_ble_eq_true rfl⟩) (q0 := q0) (ci := 4) rfl (hw0.1 μ).1 rfl hl.1 rfl (Nat.le_of_ble_eq_true rfl) dL_roots_43 ⟨Nat.le_trans (m := 10) (by omega) (Nat.le_of_ble_eq_true rfl), Nat.le_trans (m := 60) (by omega) (Nat.le_of_ble_eq_true rfl)⟩) (fun H locs hS => ?_)
          refine lv_iload_n hx hb dL_roots_46 rfl (lv_at hl 3 rfl) ?_
          refine lv_icmp_ge (tgt := 60) hx hb dL_roots_47 (by decide) (fun cc => ?_) (fun cc => ?_)
          · replace h := it h cc
            exact hb60 (f_L_roots_b22 q0 fuel22) (fuel22 * 0 + 10) (fuel22 * 0 + 60) (by omega) (by omega) (fun x1 x2 x3 x4 x5 cells slots hc hs => ih22 x1 x2 x3 x4 x5 cells slots (by omega) (by omega)) x1 x2 x3 x4 x5 _ _ (by omega) (by omega) _ _ _ hS (lv_sub hl [0, 1, 2, 3, 4, 5] rfl) h
          · replace h := ie h cc
            refine lv_aload_n hx hb dL_roots_50 rfl (lv_at hl 0 rfl) ?_
            refine lv_iload hx hb dL_roots_51 (lv_at hl 5 rfl) ?_
            refine lv_iconst (v := 0) hx hb dL_roots_53 (by decide) ?_
            obtain ⟨v40, ev40, h⟩ := ob h
            refine r_ci hS (r_runV (As := [.int x5, .int 0]) (rest := []) X hS (c_X6_root l hE (w := w) (ad := ad) (μ := μ) (D := D) (cI := cI) (cG := cG) (cL := cL) hw0 ev40) (cwV 2 X.1.2.2.2.2 gL_roots_X6_root rfl rfl rfl (by decide +kernel) ⟨Nat.le_of_ble_eq_true rfl, Nat.le_of_ble_eq_true rfl⟩) (q0 := q0) (ci := 4) rfl (hw0.1 μ).1 rfl hl.1 rfl (Nat.le_of_ble_eq_true rfl) dL_roots_54 ⟨Nat.le_trans (m := 10) (by omega) (Nat.le_of_ble_eq_true rfl), Nat.le_trans (m := 60) (by omega) (Nat.le_of_ble_eq_true rfl)⟩) (fun H locs hS => ?_)
            refine lv_goto (tgt := 61) hx hb dL_roots_57 (by decide) ?_
            exact hb61 (f_L_roots_b22 q0 fuel22) (fuel22 * 0 + 10) (fuel22 * 0 + 60) (by omega) (by omega) (fun x1 x2 x3 x4 x5 cells slots hc hs => ih22 x1 x2 x3 x4 x5 cells slots (by omega) (by omega)) x1 x2 x4 x5 v40 _ _ (by omega) (by omega) _ _ _ hS (lv_sub hl [0, 1, 2, 4, 5] rfl) h
  have key : ∀ (cells slots : Nat), cells + 10 ≤ 10 → slots + 60 ≤ 60 → W p l e (headSpec wsL_roots (rmc 9 10 60 159)).room s m args below meth c s.heap [] cells slots (MQ below (PI D A (w μ) r) args s 10 60 A) (F0 m 0 ls []) := by
    intro cells slots hc hs
    unfold f_L_roots at h
    refine lv_aload_n hx hb dL_roots_0 rfl (lv_at hl 0 rfl) ?_
    refine lv_iconst (v := 1) hx hb dL_roots_1 (by decide) ?_
    refine lv_iconst (v := 3) hx hb dL_roots_2 (by decide) ?_
    obtain ⟨v1, ev1, h⟩ := ob h
    refine r_ci hS (r_runV (As := [.int 1, .int 3]) (rest := []) X hS (c_X6_root l hE (w := w) (ad := ad) (μ := μ) (D := D) (cI := cI) (cG := cG) (cL := cL) hw0 ev1) (cwV 2 X.1.2.2.2.2 gL_roots_X6_root rfl rfl rfl (by decide +kernel) ⟨Nat.le_of_ble_eq_true rfl, Nat.le_of_ble_eq_true rfl⟩) (q0 := q0) (ci := 4) rfl (hw0.1 μ).1 rfl hl.1 rfl (Nat.le_of_ble_eq_true rfl) dL_roots_3 ⟨Nat.le_trans (m := 10) (by omega) (Nat.le_of_ble_eq_true rfl), Nat.le_trans (m := 60) (by omega) (Nat.le_of_ble_eq_true rfl)⟩) (fun H locs hS => ?_)
    refine lv_istore_n (lv' := [(1, .int v1), (0, .ref (ad q0))]) hx hb dL_roots_6 rfl hl (by decide) rfl (fun ls hl => ?_)
    refine lv_aload_n hx hb dL_roots_7 rfl (lv_at hl 1 rfl) ?_
    refine lv_iload_n hx hb dL_roots_8 rfl (lv_at hl 0 rfl) ?_
    refine lv_iconst (v := 0) hx hb dL_roots_9 (by decide) ?_
    obtain ⟨v2, ev2, h⟩ := ob h
    refine r_ci hS (r_runV (As := [.int v1, .int 0]) (rest := []) X hS (c_X6_root l hE (w := w) (ad := ad) (μ := μ) (D := D) (cI := cI) (cG := cG) (cL := cL) hw0 ev2) (cwV 2 X.1.2.2.2.2 gL_roots_X6_root rfl rfl rfl (by decide +kernel) ⟨Nat.le_of_ble_eq_true rfl, Nat.le_of_ble_eq_true rfl⟩) (q0 := q0) (ci := 4) rfl (hw0.1 μ).1 rfl hl.1 rfl (Nat.le_of_ble_eq_true rfl) dL_roots_10 ⟨Nat.le_trans (m := 10) (by omega) (Nat.le_of_ble_eq_true rfl), Nat.le_trans (m := 60) (by omega) (Nat.le_of_ble_eq_true rfl)⟩) (fun H locs hS => ?_)
    refine lv_istore_n (lv' := [(2, .int v2), (1, .int v1), (0, .ref (ad q0))]) hx hb dL_roots_13 rfl hl (by decide) rfl (fun ls hl => ?_)
    refine lv_iload_n hx hb dL_roots_14 rfl (lv_at hl 0 rfl) ?_
    refine lv_istore_n (lv' := [(3, .int v2), (2, .int v2), (1, .int v1), (0, .ref (ad q0))]) hx hb dL_roots_15 rfl hl (by decide) rfl (fun ls hl => ?_)
    refine lv_iconst (v := 0) hx hb dL_roots_16 (by decide) ?_
    refine lv_istore (lv' := [(4, .int 0), (3, .int v2), (2, .int v2), (1, .int v1), (0, .ref (ad q0))]) hx hb dL_roots_17 hl (by decide) rfl (fun ls hl => ?_)
    refine lv_iconst (v := 0) hx hb dL_roots_19 (by decide) ?_
    refine lv_istore (lv' := [(5, .int 0), (4, .int 0), (3, .int v2), (2, .int v2), (1, .int v1), (0, .ref (ad q0))]) hx hb dL_roots_20 hl (by decide) rfl (fun ls hl => ?_)
    exact hb22 3 v1 v2 v2 0 0 _ _ (by omega) (by omega) _ _ _ hS (lv_sub hl [5, 4, 3, 2, 1, 0] rfl) h
  exact key 0 0 (by decide) (by decide)
