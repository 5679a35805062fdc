def f_L_commits_b472 (q0 : Nat) (s0 : Int32) (μ : Mem) : Option (Int32 × Mem) := (zr s0).bind (fun v14 => (some (v14, μ)))
def f_L_commits_b471 (q0 : Nat)  (μ : Mem) : Option (Int32 × Mem) := f_L_commits_b472 q0 0 μ
def f_L_commits_b423 (q0 : Nat) (x10 : Int32) (x11 : Int32) (x12 : Int32) (x13 : Int32) (μ : Mem) : Option (Int32 × Mem) := (f_X6_whole q0 11 μ).bind (fun v17 => (if v17 = x11 then (f_X6_whole q0 12 μ).bind (fun v18 => (if v18 = (x12 + 1) then (f_X6_whole q0 5 μ).bind (fun v19 => (if v19 = x13 then (f_X6_whole q0 2 μ).bind (fun v20 => (if v20 = x10 then f_L_commits_b472 q0 1 μ else f_L_commits_b471 q0 μ)) else f_L_commits_b471 q0 μ)) else f_L_commits_b471 q0 μ)) else f_L_commits_b471 q0 μ))
def f_L_commits_b402 (q0 : Nat) (x1 : Int32) (x8 : Int32) (x9 : Int32) (x10 : Int32) (x11 : Int32) (x12 : Int32) (x13 : Int32) (μ : Mem) : Option (Int32 × Mem) := (if x1 < 2 then f_L_commits_b423 q0 x10 x11 x12 x13 μ else (f_X6_root q0 (1 - x8) 0 μ).bind (fun v21 => (if v21 = (x9 + 1) then f_L_commits_b423 q0 x10 x11 x12 x13 μ else f_L_commits_b471 q0 μ)))
def f_L_commits_b349 (q0 : Nat) (s0 : Int32) (μ : Mem) : Option (Int32 × Mem) := (zr s0).bind (fun v23 => (some (v23, μ)))
def f_L_commits_b348 (q0 : Nat)  (μ : Mem) : Option (Int32 × Mem) := f_L_commits_b349 q0 0 μ
def f_L_commits_b233 (q0 : Nat) (s0 : Int32) (μ : Mem) : Option (Int32 × Mem) := (zr s0).bind (fun v31 => (some (v31, μ)))
def f_L_commits_b232 (q0 : Nat)  (μ : Mem) : Option (Int32 × Mem) := f_L_commits_b233 q0 0 μ
def f_L_commits_b167 (q0 : Nat) (x1 : Int32) (x4 : Int32) (x5 : Int32) (x6 : Int32) (x7 : Int32) (x8 : Int32) (x9 : Int32) (x10 : Int32) (x11 : Int32) (x12 : Int32) (x13 : Int32) (x14 : Int32) (s0 : Int32) (μ : Mem) : Option (Int32 × Mem) := (if x6 = 0 then (if s0 = 0 then f_L_commits_b232 q0 μ else (if x14 = 0 then (f_X6_root q0 x8 3 μ).bind (fun v32 => (if v32 = 1 then (f_X6_whole q0 11 μ).bind (fun v33 => (if v33 = x11 then (f_X6_whole q0 12 μ).bind (fun v34 => (if v34 = x12 then (f_X6_get q0 x4 μ).bind (fun v35 => (if v35 = x5 then f_L_commits_b233 q0 1 μ else f_L_commits_b232 q0 μ)) else f_L_commits_b232 q0 μ)) else f_L_commits_b232 q0 μ)) else f_L_commits_b232 q0 μ)) else f_L_commits_b232 q0 μ)) else (if x1 = 3 then (if s0 = 0 then f_L_commits_b348 q0 μ else (if x14 = x7 then (if x7 ≤ 0 then f_L_commits_b348 q0 μ else (f_X6_root q0 (1 - x8) 3 μ).bind (fun v24 => (if v24 = 1 then (f_X6_root q0 (1 - x8) 0 μ).bind (fun v25 => (if v25 = (x9 + 1) then (f_X6_root q0 x8 2 μ).bind (fun v26 => (if v26 = 1 then (f_X6_whole q0 11 μ).bind (fun v27 => (if v27 = (x11 + 1) then (f_X6_whole q0 12 μ).bind (fun v28 => (if v28 = x12 then (f_X6_get q0 x4 μ).bind (fun v29 => (if v29 = x5 then (f_X6_whole q0 2 μ).bind (fun v30 => (if v30 = (x10 + x7) then f_L_commits_b349 q0 1 μ else f_L_commits_b348 q0 μ)) else f_L_commits_b348 q0 μ)) else f_L_commits_b348 q0 μ)) else f_L_commits_b348 q0 μ)) else f_L_commits_b348 q0 μ)) else f_L_commits_b348 q0 μ)) else f_L_commits_b348 q0 μ))) else f_L_commits_b348 q0 μ)) else (if s0 = 0 then f_L_commits_b471 q0 μ else (if x14 = (-1000) then (f_X6_root q0 x8 3 μ).bind (fun v15 => (if v15 = 1 then (f_X6_root q0 x8 0 μ).bind (fun v16 => (if v16 = x9 then (if x1 = 0 then f_L_commits_b402 q0 x1 x8 x9 x10 x11 x12 x13 μ else (f_X6_root q0 (1 - x8) 2 μ).bind (fun v22 => (if v22 = 0 then f_L_commits_b402 q0 x1 x8 x9 x10 x11 x12 x13 μ else f_L_commits_b471 q0 μ))) else f_L_commits_b471 q0 μ)) else f_L_commits_b471 q0 μ)) else f_L_commits_b471 q0 μ))))
def f_L_commits_b166 (q0 : Nat) (x1 : Int32) (x4 : Int32) (x5 : Int32) (x6 : Int32) (x7 : Int32) (x8 : Int32) (x9 : Int32) (x10 : Int32) (x11 : Int32) (x12 : Int32) (x13 : Int32) (x14 : Int32) (μ : Mem) : Option (Int32 × Mem) := f_L_commits_b167 q0 x1 x4 x5 x6 x7 x8 x9 x10 x11 x12 x13 x14 0 μ
def f_L_commits_b130 (q0 : Nat) (s0 : Int32) (μ : Mem) : Option (Int32 × Mem) := (zr s0).bind (fun v39 => (some (v39, μ)))
def f_L_commits_b129 (q0 : Nat)  (μ : Mem) : Option (Int32 × Mem) := f_L_commits_b130 q0 0 μ
def f_L_commits_b15 (q0 : Nat) (x1 : Int32) (x2 : Int32) (s0 : Int32) (μ : Mem) : Option (Int32 × Mem) := (f_L_low x2 30).bind (fun v2 => (f_L_drafted q0 v2 μ).bind (fun v3 => (f_X6_whole q0 9 μ).bind (fun v4 => (f_X6_whole q0 10 μ).bind (fun v5 => (f_X6_root q0 1 3 μ).bind (fun v6 => (f_X6_root q0 v6 0 μ).bind (fun v7 => (f_X6_whole q0 2 μ).bind (fun v8 => (f_X6_whole q0 11 μ).bind (fun v9 => (f_X6_whole q0 12 μ).bind (fun v10 => (f_X6_whole q0 5 μ).bind (fun v11 => bn2 (f_L_commit q0 x1 μ) (fun v12 μ13 => (if v12 = (-2902) then (if s0 = 0 then (f_X6_whole q0 11 μ13).bind (fun v40 => (if v40 = v9 then f_L_commits_b130 q0 1 μ13 else f_L_commits_b129 q0 μ13)) else f_L_commits_b129 q0 μ13) else (if s0 = 0 then f_L_commits_b166 q0 x1 v2 v3 v4 v5 v6 v7 v8 v9 v10 v11 v12 μ13 else (f_X6_whole q0 8 μ13).bind (fun v36 => (if v36 = 0 then (f_X6_whole q0 9 μ13).bind (fun v37 => (if v37 = 0 then (f_X6_whole q0 10 μ13).bind (fun v38 => (if v38 = 0 then f_L_commits_b167 q0 x1 v2 v3 v4 v5 v6 v7 v8 v9 v10 v11 v12 1 μ13 else f_L_commits_b166 q0 x1 v2 v3 v4 v5 v6 v7 v8 v9 v10 v11 v12 μ13)) else f_L_commits_b166 q0 x1 v2 v3 v4 v5 v6 v7 v8 v9 v10 v11 v12 μ13)) else f_L_commits_b166 q0 x1 v2 v3 v4 v5 v6 v7 v8 v9 v10 v11 v12 μ13)))))))))))))))
def f_L_commits (q0 : Nat) (a1 : Int32) (a2 : Int32) (μ : Mem) : Option (Int32 × Mem) := (f_X6_whole q0 8 μ).bind (fun v1 => (if v1 = 1 then f_L_commits_b15 q0 a1 a2 1 μ else f_L_commits_b15 q0 a1 a2 0 μ))
set_option maxHeartbeats 4000000 in
set_option maxRecDepth 100000 in
theorem c_L_commits (l : Launch) {D : va_G} {cI cG cL : ClassId} {A : Nat → Prop} {tC tS : Nat} {adE adK adV : Nat → Nat} (hE : EnOK (ENV tC tS adE adK adV A) A) (hst : l.stackTraces = false) {w : Mem → va_W} {ad : Nat → Nat} {q0 : Nat} {a1 : Int32} {a2 : Int32} {μ : Mem} {r : Int32} {μ' : Mem} (hw0 : PGAt cI cG adE w ad q0) (h : f_L_commits q0 a1 a2 μ = some (r, μ')) : Met l yL_commits wsL_commits (rmc 9 2 12 149) (WPre D (tyl cI cG cL) A (ENV tC tS adE adK adV A) (w μ) [.ref (ad q0), .int a1, .int a2]) (PI D A (w μ') r) 2 12 A := by
  refine met_startM (cc := cL_commits) (nL := 16) (ret := (some .boolean)) (own := RL) hE (by decide) rfl rfl (Nat.le_of_ble_eq_true rfl) (fun p e s m args below meth c ls X hS hl hr hlk => ?_)
  have hx := X.1.1
  have hb := X.1.2.1
  replace hl : lv_has ls 16 [(0, .ref (ad q0)), (1, .int a1), (2, .int a2)] := hl
  have hb472 : ∀ (s0 : Int32) (μ : Mem) (cells slots : Nat), cells + 0 ≤ 2 → slots + 0 ≤ 12 → ∀ (H : Heap) (locs : List Loc) (ls : Array Slot), HS D A (w μ) s.heap H locs → lv_has ls 16 [] → f_L_commits_b472 q0 s0 μ = some (r, μ') → W p l e (headSpec wsL_commits (rmc 9 2 12 149)).room s m args below meth c H locs cells slots (MQ below (PI D A (w μ') r) args s 2 12 A) (F0 m 472 ls [.int s0]) := by
    intro s0 μ cells slots hc hs H locs ls hS hl h
    unfold f_L_commits_b472 at h
    obtain ⟨v14, ev14, h⟩ := ob h
    obtain ⟨ezv14, eov14⟩ := zr_ok ev14
    rw [ezv14]
    obtain ⟨rfl, rfl⟩ := pr2 h
    exact r_zretM X hS hr hlk eov14 (by omega) (by omega) dL_commits_472
  have hb471 : ∀  (μ : Mem) (cells slots : Nat), cells + 0 ≤ 2 → slots + 0 ≤ 12 → ∀ (H : Heap) (locs : List Loc) (ls : Array Slot), HS D A (w μ) s.heap H locs → lv_has ls 16 [] → f_L_commits_b471 q0 μ = some (r, μ') → W p l e (headSpec wsL_commits (rmc 9 2 12 149)).room s m args below meth c H locs cells slots (MQ below (PI D A (w μ') r) args s 2 12 A) (F0 m 471 ls []) := by
    intro μ cells slots hc hs H locs ls hS hl h
    unfold f_L_commits_b471 at h
    refine lv_iconst (v := 0) hx hb dL_commits_471 (by decide) ?_
    exact hb472 0 μ _ _ (by omega) (by omega) _ _ _ hS (lv_sub hl [] rfl) h
  have hb423 : ∀ (x10 : Int32) (x11 : Int32) (x12 : Int32) (x13 : Int32) (μ : Mem) (cells slots : Nat), cells + 0 ≤ 2 → slots + 0 ≤ 12 → ∀ (H : Heap) (locs : List Loc) (ls : Array Slot), HS D A (w μ) s.heap H locs → lv_has ls 16 [(0, .ref (ad q0)), (10, .int x10), (11, .int x11), (12, .int x12), (13, .int x13)] → f_L_commits_b423 q0 x10 x11 x12 x13 μ = some (r, μ') → W p l e (headSpec wsL_commits (rmc 9 2 12 149)).room s m args below meth c H locs cells slots (MQ below (PI D A (w μ') r) args s 2 12 A) (F0 m 423 ls []) := by
    intro x10 x11 x12 x13 μ cells slots hc hs H locs ls hS hl h
    unfold f_L_commits_b423 at h
    refine lv_aload_n hx hb dL_commits_423 rfl (lv_at hl 0 rfl) ?_
    refine lv_bipush (v := 11) hx hb dL_commits_424 (by decide) ?_
    obtain ⟨v17, ev17, h⟩ := ob h
    refine r_ci hS (r_runV (As := [.int 11]) (rest := []) X hS (c_X6_whole l hE (w := w) (ad := ad) (μ := μ) (D := D) (cI := cI) (cG := cG) (cL := cL) hw0 ev17) (cwV 1 X.1.2.2.2.2 gL_commits_X6_whole rfl rfl rfl (by decide +kernel) ⟨Nat.le_of_ble_eq_true rfl, Nat.le_of_ble_eq_true rfl⟩) (q0 := q0) (ci := 4) rfl (hw0.1 μ).1 rfl hl.1 rfl (Nat.le_of_ble_eq_true rfl) dL_commits_426 ⟨Nat.le_trans (m := 2) (by omega) (Nat.le_of_ble_eq_true rfl), Nat.le_trans (m := 12) (by omega) (Nat.le_of_ble_eq_true rfl)⟩) (fun H locs hS => ?_)
    refine lv_iload hx hb dL_commits_429 (lv_at hl 2 rfl) ?_
    refine lv_icmp_ne (tgt := 471) hx hb dL_commits_431 (by decide) (fun cc => ?_) (fun cc => ?_)
    · replace h := ie h cc
      exact hb471 μ _ _ (by omega) (by omega) _ _ _ hS (lv_sub hl [] rfl) h
    · replace h := it h cc
      refine lv_aload_n hx hb dL_commits_434 rfl (lv_at hl 0 rfl) ?_
      refine lv_bipush (v := 12) hx hb dL_commits_435 (by decide) ?_
      obtain ⟨v18, ev18, h⟩ := ob h
      refine r_ci hS (r_runV (As := [.int 12]) (rest := []) X hS (c_X6_whole l hE (w := w) (ad := ad) (μ := μ) (D := D) (cI := cI) (cG := cG) (cL := cL) hw0 ev18) (cwV 1 X.1.2.2.2.2 gL_commits_X6_whole rfl rfl rfl (by decide +kernel) ⟨Nat.le_of_ble_eq_true rfl, Nat.le_of_ble_eq_true rfl⟩) (q0 := q0) (ci := 4) rfl (hw0.1 μ).1 rfl hl.1 rfl (Nat.le_of_ble_eq_true rfl) dL_commits_437 ⟨Nat.le_trans (m := 2) (by omega) (Nat.le_of_ble_eq_true rfl), Nat.le_trans (m := 12) (by omega) (Nat.le_of_ble_eq_true rfl)⟩) (fun H locs hS => ?_)
      refine lv_iload hx hb dL_commits_440 (lv_at hl 3 rfl) ?_
      refine lv_iconst (v := 1) hx hb dL_commits_442 (by decide) ?_
      refine lv_iadd hx hb dL_commits_443 ?_
      refine lv_icmp_ne (tgt := 471) hx hb dL_commits_444 (by decide) (fun cc => ?_) (fun cc => ?_)
      · replace h := ie h cc
        exact hb471 μ _ _ (by omega) (by omega) _ _ _ hS (lv_sub hl [] rfl) h
      · replace h := it h cc
        refine lv_aload_n hx hb dL_commits_447 rfl (lv_at hl 0 rfl) ?_
        refine lv_iconst (v := 5) hx hb dL_commits_448 (by decide) ?_
        obtain ⟨v19, ev19, h⟩ := ob h
        refine r_ci hS (r_runV (As := [.int 5]) (rest := []) X hS (c_X6_whole l hE (w := w) (ad := ad) (μ := μ) (D := D) (cI := cI) (cG := cG) (cL := cL) hw0 ev19) (cwV 1 X.1.2.2.2.2 gL_commits_X6_whole rfl rfl rfl (by decide +kernel) ⟨Nat.le_of_ble_eq_true rfl, Nat.le_of_ble_eq_true rfl⟩) (q0 := q0) (ci := 4) rfl (hw0.1 μ).1 rfl hl.1 rfl (Nat.le_of_ble_eq_true rfl) dL_commits_449 ⟨Nat.le_trans (m := 2) (by omega) (Nat.le_of_ble_eq_true rfl), Nat.le_trans (m := 12) (by omega) (Nat.le_of_ble_eq_true rfl)⟩) (fun H locs hS => ?_)
        refine lv_iload hx hb dL_commits_452 (lv_at hl 4 rfl) ?_
        refine lv_icmp_ne (tgt := 471) hx hb dL_commits_454 (by decide) (fun cc => ?_) (fun cc => ?_)
        · replace h := ie h cc
          exact hb471 μ _ _ (by omega) (by omega) _ _ _ hS (lv_sub hl [] rfl) h
        · replace h := it h cc
          refine lv_aload_n hx hb dL_commits_457 rfl (lv_at hl 0 rfl) ?_
          refine lv_iconst (v := 2) hx hb dL_commits_458 (by decide) ?_
          obtain ⟨v20, ev20, h⟩ := ob h
          refine r_ci hS (r_runV (As := [.int 2]) (rest := []) X hS (c_X6_whole l hE (w := w) (ad := ad) (μ := μ) (D := D) (cI := cI) (cG := cG) (cL := cL) hw0 ev20) (cwV 1 X.1.2.2.2.2 gL_commits_X6_whole rfl rfl rfl (by decide +kernel) ⟨Nat.le_of_ble_eq_true rfl, Nat.le_of_ble_eq_true rfl⟩) (q0 := q0) (ci := 4) rfl (hw0.1 μ).1 rfl hl.1 rfl (Nat.le_of_ble_eq_true rfl) dL_commits_459 ⟨Nat.le_trans (m := 2) (by omega) (Nat.le_of_ble_eq_true rfl), Nat.le_trans (m := 12) (by omega) (Nat.le_of_ble_eq_true rfl)⟩) (fun H locs hS => ?_)
          refine lv_iload hx hb dL_commits_462 (lv_at hl 1 rfl) ?_
          refine lv_icmp_ne (tgt := 471) hx hb dL_commits_464 (by decide) (fun cc => ?_) (fun cc => ?_)
          · replace h := ie h cc
            exact hb471 μ _ _ (by omega) (by omega) _ _ _ hS (lv_sub hl [] rfl) h
          · replace h := it h cc
            refine lv_iconst (v := 1) hx hb dL_commits_467 (by decide) ?_
            refine lv_goto (tgt := 472) hx hb dL_commits_468 (by decide) ?_
            exact hb472 1 μ _ _ (by omega) (by omega) _ _ _ hS (lv_sub hl [] rfl) h
  have hb402 : ∀ (x1 : Int32) (x8 : Int32) (x9 : Int32) (x10 : Int32) (x11 : Int32) (x12 : Int32) (x13 : Int32) (μ : Mem) (cells slots : Nat), cells + 0 ≤ 2 → slots + 0 ≤ 12 → ∀ (H : Heap) (locs : List Loc) (ls : Array Slot), HS D A (w μ) s.heap H locs → lv_has ls 16 [(0, .ref (ad q0)), (1, .int x1), (8, .int x8), (9, .int x9), (10, .int x10), (11, .int x11), (12, .int x12), (13, .int x13)] → f_L_commits_b402 q0 x1 x8 x9 x10 x11 x12 x13 μ = some (r, μ') → W p l e (headSpec wsL_commits (rmc 9 2 12 149)).room s m args below meth c H locs cells slots (MQ below (PI D A (w μ') r) args s 2 12 A) (F0 m 402 ls []) := by
    intro x1 x8 x9 x10 x11 x12 x13 μ cells slots hc hs H locs ls hS hl h
    unfold f_L_commits_b402 at h
    refine lv_iload_n hx hb dL_commits_402 rfl (lv_at hl 1 rfl) ?_
    refine lv_iconst (v := 2) hx hb dL_commits_403 (by decide) ?_
    refine lv_icmp_lt (tgt := 423) hx hb dL_commits_404 (by decide) (fun cc => ?_) (fun cc => ?_)
    · replace h := it h cc
      exact hb423 x10 x11 x12 x13 μ _ _ (by omega) (by omega) _ _ _ hS (lv_sub hl [0, 4, 5, 6, 7] rfl) h
    · replace h := ie h cc
      refine lv_aload_n hx hb dL_commits_407 rfl (lv_at hl 0 rfl) ?_
      refine lv_iconst (v := 1) hx hb dL_commits_408 (by decide) ?_
      refine lv_iload hx hb dL_commits_409 (lv_at hl 2 rfl) ?_
      refine lv_isub hx hb dL_commits_411 ?_
      refine lv_iconst (v := 0) hx hb dL_commits_412 (by decide) ?_
      obtain ⟨v21, ev21, h⟩ := ob h
      refine r_ci hS (r_runV (As := [.int (1 - x8), .int 0]) (rest := []) X hS (c_X6_root l hE (w := w) (ad := ad) (μ := μ) (D := D) (cI := cI) (cG := cG) (cL := cL) hw0 ev21) (cwV 2 X.1.2.2.2.2 gL_commits_X6_root rfl rfl rfl (by decide +kernel) ⟨Nat.le_of_ble_eq_true rfl, Nat.le_of_ble_eq_true rfl⟩) (q0 := q0) (ci := 4) rfl (hw0.1 μ).1 rfl hl.1 rfl (Nat.le_of_ble_eq_true rfl) dL_commits_413 ⟨Nat.le_trans (m := 2) (by omega) (Nat.le_of_ble_eq_true rfl), Nat.le_trans (m := 12) (by omega) (Nat.le_of_ble_eq_true rfl)⟩) (fun H locs hS => ?_)
      refine lv_iload hx hb dL_commits_416 (lv_at hl 3 rfl) ?_
      refine lv_iconst (v := 1) hx hb dL_commits_418 (by decide) ?_
      refine lv_iadd hx hb dL_commits_419 ?_
      refine lv_icmp_ne (tgt := 471) hx hb dL_commits_420 (by decide) (fun cc => ?_) (fun cc => ?_)
      · replace h := ie h cc
        exact hb471 μ _ _ (by omega) (by omega) _ _ _ hS (lv_sub hl [] rfl) h
      · replace h := it h cc
        exact hb423 x10 x11 x12 x13 μ _ _ (by omega) (by omega) _ _ _ hS (lv_sub hl [0, 4, 5, 6, 7] rfl) h
  have hb349 : ∀ (s0 : Int32) (μ : Mem) (cells slots : Nat), cells + 0 ≤ 2 → slots + 0 ≤ 12 → ∀ (H : Heap) (locs : List Loc) (ls : Array Slot), HS D A (w μ) s.heap H locs → lv_has ls 16 [] → f_L_commits_b349 q0 s0 μ = some (r, μ') → W p l e (headSpec wsL_commits (rmc 9 2 12 149)).room s m args below meth c H locs cells slots (MQ below (PI D A (w μ') r) args s 2 12 A) (F0 m 349 ls [.int s0]) := by
    intro s0 μ cells slots hc hs H locs ls hS hl h
    unfold f_L_commits_b349 at h
    obtain ⟨v23, ev23, h⟩ := ob h
    obtain ⟨ezv23, eov23⟩ := zr_ok ev23
    rw [ezv23]
    obtain ⟨rfl, rfl⟩ := pr2 h
    exact r_zretM X hS hr hlk eov23 (by omega) (by omega) dL_commits_349
  have hb348 : ∀  (μ : Mem) (cells slots : Nat), cells + 0 ≤ 2 → slots + 0 ≤ 12 → ∀ (H : Heap) (locs : List Loc) (ls : Array Slot), HS D A (w μ) s.heap H locs → lv_has ls 16 [] → f_L_commits_b348 q0 μ = some (r, μ') → W p l e (headSpec wsL_commits (rmc 9 2 12 149)).room s m args below meth c H locs cells slots (MQ below (PI D A (w μ') r) args s 2 12 A) (F0 m 348 ls []) := by
    intro μ cells slots hc hs H locs ls hS hl h
    unfold f_L_commits_b348 at h
    refine lv_iconst (v := 0) hx hb dL_commits_348 (by decide) ?_
    exact hb349 0 μ _ _ (by omega) (by omega) _ _ _ hS (lv_sub hl [] rfl) h
  have hb233 : ∀ (s0 : Int32) (μ : Mem) (cells slots : Nat), cells + 0 ≤ 2 → slots + 0 ≤ 12 → ∀ (H : Heap) (locs : List Loc) (ls : Array Slot), HS D A (w μ) s.heap H locs → lv_has ls 16 [] → f_L_commits_b233 q0 s0 μ = some (r, μ') → W p l e (headSpec wsL_commits (rmc 9 2 12 149)).room s m args below meth c H locs cells slots (MQ below (PI D A (w μ') r) args s 2 12 A) (F0 m 233 ls [.int s0]) := by
    intro s0 μ cells slots hc hs H locs ls hS hl h
    unfold f_L_commits_b233 at h
    obtain ⟨v31, ev31, h⟩ := ob h
    obtain ⟨ezv31, eov31⟩ := zr_ok ev31
    rw [ezv31]
    obtain ⟨rfl, rfl⟩ := pr2 h
    exact r_zretM X hS hr hlk eov31 (by omega) (by omega) dL_commits_233
  have hb232 : ∀  (μ : Mem) (cells slots : Nat), cells + 0 ≤ 2 → slots + 0 ≤ 12 → ∀ (H : Heap) (locs : List Loc) (ls : Array Slot), HS D A (w μ) s.heap H locs → lv_has ls 16 [] → f_L_commits_b232 q0 μ = some (r, μ') → W p l e (headSpec wsL_commits (rmc 9 2 12 149)).room s m args below meth c H locs cells slots (MQ below (PI D A (w μ') r) args s 2 12 A) (F0 m 232 ls []) := by
    intro μ cells slots hc hs H locs ls hS hl h
    unfold f_L_commits_b232 at h
    refine lv_iconst (v := 0) hx hb dL_commits_232 (by decide) ?_
    exact hb233 0 μ _ _ (by omega) (by omega) _ _ _ hS (lv_sub hl [] rfl) h
  have hb167 : ∀ (x1 : Int32) (x4 : Int32) (x5 : Int32) (x6 : Int32) (x7 : Int32) (x8 : Int32) (x9 : Int32) (x10 : Int32) (x11 : Int32) (x12 : Int32) (x13 : Int32) (x14 : Int32) (s0 : Int32) (μ : Mem) (cells slots : Nat), cells + 0 ≤ 2 → slots + 0 ≤ 12 → ∀ (H : Heap) (locs : List Loc) (ls : Array Slot), HS D A (w μ) s.heap H locs → lv_has ls 16 [(0, .ref (ad q0)), (1, .int x1), (4, .int x4), (5, .int x5), (6, .int x6), (7, .int x7), (8, .int x8), (9, .int x9), (10, .int x10), (11, .int x11), (12, .int x12), (13, .int x13), (14, .int x14)] → f_L_commits_b167 q0 x1 x4 x5 x6 x7 x8 x9 x10 x11 x12 x13 x14 s0 μ = some (r, μ') → W p l e (headSpec wsL_commits (rmc 9 2 12 149)).room s m args below meth c H locs cells slots (MQ below (PI D A (w μ') r) args s 2 12 A) (F0 m 167 ls [.int s0]) := by
    intro x1 x4 x5 x6 x7 x8 x9 x10 x11 x12 x13 x14 s0 μ cells slots hc hs H locs ls hS hl h
    unfold f_L_commits_b167 at h
    refine lv_istore (lv' := [(15, .int s0), (0, .ref (ad q0)), (1, .int x1), (4, .int x4), (5, .int x5), (6, .int x6), (7, .int x7), (8, .int x8), (9, .int x9), (10, .int x10), (11, .int x11), (12, .int x12), (13, .int x13), (14, .int x14)]) hx hb dL_commits_167 hl (by decide) rfl (fun ls hl => ?_)
    refine lv_iload hx hb dL_commits_169 (lv_at hl 5 rfl) ?_
    refine lv_if_ne (tgt := 234) hx hb dL_commits_171 (by decide) (fun cc => ?_) (fun cc => ?_)
    · replace h := ie h cc
      refine lv_iload_n hx hb dL_commits_234 rfl (lv_at hl 2 rfl) ?_
      refine lv_iconst (v := 3) hx hb dL_commits_235 (by decide) ?_
      refine lv_icmp_ne (tgt := 350) hx hb dL_commits_236 (by decide) (fun cc => ?_) (fun cc => ?_)
      · replace h := ie h cc
        refine lv_iload hx hb dL_commits_350 (lv_at hl 0 rfl) ?_
        refine lv_if_eq (tgt := 471) hx hb dL_commits_352 (by decide) (fun cc => ?_) (fun cc => ?_)
        · replace h := it h cc
          exact hb471 μ _ _ (by omega) (by omega) _ _ _ hS (lv_sub hl [] rfl) h
        · replace h := ie h cc
          refine lv_iload hx hb dL_commits_355 (lv_at hl 13 rfl) ?_
          refine lv_sipush (v := (-1000)) hx hb dL_commits_357 (by decide) ?_
          refine lv_icmp_ne (tgt := 471) hx hb dL_commits_360 (by decide) (fun cc => ?_) (fun cc => ?_)
          · replace h := ie h cc
            exact hb471 μ _ _ (by omega) (by omega) _ _ _ hS (lv_sub hl [] rfl) h
          · replace h := it h cc
            refine lv_aload_n hx hb dL_commits_363 rfl (lv_at hl 1 rfl) ?_
            refine lv_iload hx hb dL_commits_364 (lv_at hl 7 rfl) ?_
            refine lv_iconst (v := 3) hx hb dL_commits_366 (by decide) ?_
            obtain ⟨v15, ev15, h⟩ := ob h
            refine r_ci hS (r_runV (As := [.int x8, .int 3]) (rest := []) X hS (c_X6_root l hE (w := w) (ad := ad) (μ := μ) (D := D) (cI := cI) (cG := cG) (cL := cL) hw0 ev15) (cwV 2 X.1.2.2.2.2 gL_commits_X6_root rfl rfl rfl (by decide +kernel) ⟨Nat.le_of_ble_eq_true rfl, Nat.le_of_ble_eq_true rfl⟩) (q0 := q0) (ci := 4) rfl (hw0.1 μ).1 rfl hl.1 rfl (Nat.le_of_ble_eq_true rfl) dL_commits_367 ⟨Nat.le_trans (m := 2) (by omega) (Nat.le_of_ble_eq_true rfl), Nat.le_trans (m := 12) (by omega) (Nat.le_of_ble_eq_true rfl)⟩) (fun H locs hS => ?_)
            refine lv_iconst (v := 1) hx hb dL_commits_370 (by decide) ?_
            refine lv_icmp_ne (tgt := 471) hx hb dL_commits_371 (by decide) (fun cc => ?_) (fun cc => ?_)
            · replace h := ie h cc
              exact hb471 μ _ _ (by omega) (by omega) _ _ _ hS (lv_sub hl [] rfl) h
            · replace h := it h cc
              refine lv_aload_n hx hb dL_commits_374 rfl (lv_at hl 1 rfl) ?_
              refine lv_iload hx hb dL_commits_375 (lv_at hl 7 rfl) ?_
              refine lv_iconst (v := 0) hx hb dL_commits_377 (by decide) ?_
              obtain ⟨v16, ev16, h⟩ := ob h
              refine r_ci hS (r_runV (As := [.int x8, .int 0]) (rest := []) X hS (c_X6_root l hE (w := w) (ad := ad) (μ := μ) (D := D) (cI := cI) (cG := cG) (cL := cL) hw0 ev16) (cwV 2 X.1.2.2.2.2 gL_commits_X6_root rfl rfl rfl (by decide +kernel) ⟨Nat.le_of_ble_eq_true rfl, Nat.le_of_ble_eq_true rfl⟩) (q0 := q0) (ci := 4) rfl (hw0.1 μ).1 rfl hl.1 rfl (Nat.le_of_ble_eq_true rfl) dL_commits_378 ⟨Nat.le_trans (m := 2) (by omega) (Nat.le_of_ble_eq_true rfl), Nat.le_trans (m := 12) (by omega) (Nat.le_of_ble_eq_true rfl)⟩) (fun H locs hS => ?_)
              refine lv_iload hx hb dL_commits_381 (lv_at hl 8 rfl) ?_
              refine lv_icmp_ne (tgt := 471) hx hb dL_commits_383 (by decide) (fun cc => ?_) (fun cc => ?_)
              · replace h := ie h cc
                exact hb471 μ _ _ (by omega) (by omega) _ _ _ hS (lv_sub hl [] rfl) h
              · replace h := it h cc
                refine lv_iload_n hx hb dL_commits_386 rfl (lv_at hl 2 rfl) ?_
                refine lv_if_eq (tgt := 402) hx hb dL_commits_387 (by decide) (fun cc => ?_) (fun cc => ?_)
                · replace h := it h cc
                  exact hb402 x1 x8 x9 x10 x11 x12 x13 μ _ _ (by omega) (by omega) _ _ _ hS (lv_sub hl [1, 2, 7, 8, 9, 10, 11, 12] rfl) h
                · replace h := ie h cc
                  refine lv_aload_n hx hb dL_commits_390 rfl (lv_at hl 1 rfl) ?_
                  refine lv_iconst (v := 1) hx hb dL_commits_391 (by decide) ?_
                  refine lv_iload hx hb dL_commits_392 (lv_at hl 7 rfl) ?_
                  refine lv_isub hx hb dL_commits_394 ?_
                  refine lv_iconst (v := 2) hx hb dL_commits_395 (by decide) ?_
                  obtain ⟨v22, ev22, h⟩ := ob h
                  refine r_ci hS (r_runV (As := [.int (1 - x8), .int 2]) (rest := []) X hS (c_X6_root l hE (w := w) (ad := ad) (μ := μ) (D := D) (cI := cI) (cG := cG) (cL := cL) hw0 ev22) (cwV 2 X.1.2.2.2.2 gL_commits_X6_root rfl rfl rfl (by decide +kernel) ⟨Nat.le_of_ble_eq_true rfl, Nat.le_of_ble_eq_true rfl⟩) (q0 := q0) (ci := 4) rfl (hw0.1 μ).1 rfl hl.1 rfl (Nat.le_of_ble_eq_true rfl) dL_commits_396 ⟨Nat.le_trans (m := 2) (by omega) (Nat.le_of_ble_eq_true rfl), Nat.le_trans (m := 12) (by omega) (Nat.le_of_ble_eq_true rfl)⟩) (fun H locs hS => ?_)
                  refine lv_if_ne (tgt := 471) hx hb dL_commits_399 (by decide) (fun cc => ?_) (fun cc => ?_)
                  · replace h := ie h cc
                    exact hb471 μ _ _ (by omega) (by omega) _ _ _ hS (lv_sub hl [] rfl) h
                  · replace h := it h cc
                    exact hb402 x1 x8 x9 x10 x11 x12 x13 μ _ _ (by omega) (by omega) _ _ _ hS (lv_sub hl [1, 2, 7, 8, 9, 10, 11, 12] rfl) h
      · replace h := it h cc
        refine lv_iload hx hb dL_commits_239 (lv_at hl 0 rfl) ?_
        refine lv_if_eq (tgt := 348) hx hb dL_commits_241 (by decide) (fun cc => ?_) (fun cc => ?_)
        · replace h := it h cc
          exact hb348 μ _ _ (by omega) (by omega) _ _ _ hS (lv_sub hl [] rfl) h
        · replace h := ie h cc
          refine lv_iload hx hb dL_commits_244 (lv_at hl 13 rfl) ?_
          refine lv_iload hx hb dL_commits_246 (lv_at hl 6 rfl) ?_
          refine lv_icmp_ne (tgt := 348) hx hb dL_commits_248 (by decide) (fun cc => ?_) (fun cc => ?_)
          · replace h := ie h cc
            exact hb348 μ _ _ (by omega) (by omega) _ _ _ hS (lv_sub hl [] rfl) h
          · replace h := it h cc
            refine lv_iload hx hb dL_commits_251 (lv_at hl 6 rfl) ?_
            refine lv_if_le (tgt := 348) hx hb dL_commits_253 (by decide) (fun cc => ?_) (fun cc => ?_)
            · replace h := it h cc
              exact hb348 μ _ _ (by omega) (by omega) _ _ _ hS (lv_sub hl [] rfl) h
            · replace h := ie h cc
              refine lv_aload_n hx hb dL_commits_256 rfl (lv_at hl 1 rfl) ?_
              refine lv_iconst (v := 1) hx hb dL_commits_257 (by decide) ?_
              refine lv_iload hx hb dL_commits_258 (lv_at hl 7 rfl) ?_
              refine lv_isub hx hb dL_commits_260 ?_
              refine lv_iconst (v := 3) hx hb dL_commits_261 (by decide) ?_
              obtain ⟨v24, ev24, h⟩ := ob h
              refine r_ci hS (r_runV (As := [.int (1 - x8), .int 3]) (rest := []) X hS (c_X6_root l hE (w := w) (ad := ad) (μ := μ) (D := D) (cI := cI) (cG := cG) (cL := cL) hw0 ev24) (cwV 2 X.1.2.2.2.2 gL_commits_X6_root rfl rfl rfl (by decide +kernel) ⟨Nat.le_of_ble_eq_true rfl, Nat.le_of_ble_eq_true rfl⟩) (q0 := q0) (ci := 4) rfl (hw0.1 μ).1 rfl hl.1 rfl (Nat.le_of_ble_eq_true rfl) dL_commits_262 ⟨Nat.le_trans (m := 2) (by omega) (Nat.le_of_ble_eq_true rfl), Nat.le_trans (m := 12) (by omega) (Nat.le_of_ble_eq_true rfl)⟩) (fun H locs hS => ?_)
              refine lv_iconst (v := 1) hx hb dL_commits_265 (by decide) ?_
              refine lv_icmp_ne (tgt := 348) hx hb dL_commits_266 (by decide) (fun cc => ?_) (fun cc => ?_)
              · replace h := ie h cc
                exact hb348 μ _ _ (by omega) (by omega) _ _ _ hS (lv_sub hl [] rfl) h
              · replace h := it h cc
                refine lv_aload_n hx hb dL_commits_269 rfl (lv_at hl 1 rfl) ?_
                refine lv_iconst (v := 1) hx hb dL_commits_270 (by decide) ?_
                refine lv_iload hx hb dL_commits_271 (lv_at hl 7 rfl) ?_
                refine lv_isub hx hb dL_commits_273 ?_
                refine lv_iconst (v := 0) hx hb dL_commits_274 (by decide) ?_
                obtain ⟨v25, ev25, h⟩ := ob h
                refine r_ci hS (r_runV (As := [.int (1 - x8), .int 0]) (rest := []) X hS (c_X6_root l hE (w := w) (ad := ad) (μ := μ) (D := D) (cI := cI) (cG := cG) (cL := cL) hw0 ev25) (cwV 2 X.1.2.2.2.2 gL_commits_X6_root rfl rfl rfl (by decide +kernel) ⟨Nat.le_of_ble_eq_true rfl, Nat.le_of_ble_eq_true rfl⟩) (q0 := q0) (ci := 4) rfl (hw0.1 μ).1 rfl hl.1 rfl (Nat.le_of_ble_eq_true rfl) dL_commits_275 ⟨Nat.le_trans (m := 2) (by omega) (Nat.le_of_ble_eq_true rfl), Nat.le_trans (m := 12) (by omega) (Nat.le_of_ble_eq_true rfl)⟩) (fun H locs hS => ?_)
                refine lv_iload hx hb dL_commits_278 (lv_at hl 8 rfl) ?_
                refine lv_iconst (v := 1) hx hb dL_commits_280 (by decide) ?_
                refine lv_iadd hx hb dL_commits_281 ?_
                refine lv_icmp_ne (tgt := 348) hx hb dL_commits_282 (by decide) (fun cc => ?_) (fun cc => ?_)
                · replace h := ie h cc
                  exact hb348 μ _ _ (by omega) (by omega) _ _ _ hS (lv_sub hl [] rfl) h
                · replace h := it h cc
                  refine lv_aload_n hx hb dL_commits_285 rfl (lv_at hl 1 rfl) ?_
                  refine lv_iload hx hb dL_commits_286 (lv_at hl 7 rfl) ?_
                  refine lv_iconst (v := 2) hx hb dL_commits_288 (by decide) ?_
                  obtain ⟨v26, ev26, h⟩ := ob h
                  refine r_ci hS (r_runV (As := [.int x8, .int 2]) (rest := []) X hS (c_X6_root l hE (w := w) (ad := ad) (μ := μ) (D := D) (cI := cI) (cG := cG) (cL := cL) hw0 ev26) (cwV 2 X.1.2.2.2.2 gL_commits_X6_root rfl rfl rfl (by decide +kernel) ⟨Nat.le_of_ble_eq_true rfl, Nat.le_of_ble_eq_true rfl⟩) (q0 := q0) (ci := 4) rfl (hw0.1 μ).1 rfl hl.1 rfl (Nat.le_of_ble_eq_true rfl) dL_commits_289 ⟨Nat.le_trans (m := 2) (by omega) (Nat.le_of_ble_eq_true rfl), Nat.le_trans (m := 12) (by omega) (Nat.le_of_ble_eq_true rfl)⟩) (fun H locs hS => ?_)
                  refine lv_iconst (v := 1) hx hb dL_commits_292 (by decide) ?_
                  refine lv_icmp_ne (tgt := 348) hx hb dL_commits_293 (by decide) (fun cc => ?_) (fun cc => ?_)
                  · replace h := ie h cc
                    exact hb348 μ _ _ (by omega) (by omega) _ _ _ hS (lv_sub hl [] rfl) h
                  · replace h := it h cc
                    refine lv_aload_n hx hb dL_commits_296 rfl (lv_at hl 1 rfl) ?_
                    refine lv_bipush (v := 11) hx hb dL_commits_297 (by decide) ?_
                    obtain ⟨v27, ev27, h⟩ := ob h
                    refine r_ci hS (r_runV (As := [.int 11]) (rest := []) X hS (c_X6_whole l hE (w := w) (ad := ad) (μ := μ) (D := D) (cI := cI) (cG := cG) (cL := cL) hw0 ev27) (cwV 1 X.1.2.2.2.2 gL_commits_X6_whole rfl rfl rfl (by decide +kernel) ⟨Nat.le_of_ble_eq_true rfl, Nat.le_of_ble_eq_true rfl⟩) (q0 := q0) (ci := 4) rfl (hw0.1 μ).1 rfl hl.1 rfl (Nat.le_of_ble_eq_true rfl) dL_commits_299 ⟨Nat.le_trans (m := 2) (by omega) (Nat.le_of_ble_eq_true rfl), Nat.le_trans (m := 12) (by omega) (Nat.le_of_ble_eq_true rfl)⟩) (fun H locs hS => ?_)
                    refine lv_iload hx hb dL_commits_302 (lv_at hl 10 rfl) ?_
                    refine lv_iconst (v := 1) hx hb dL_commits_304 (by decide) ?_
                    refine lv_iadd hx hb dL_commits_305 ?_
                    refine lv_icmp_ne (tgt := 348) hx hb dL_commits_306 (by decide) (fun cc => ?_) (fun cc => ?_)
                    · replace h := ie h cc
                      exact hb348 μ _ _ (by omega) (by omega) _ _ _ hS (lv_sub hl [] rfl) h
                    · replace h := it h cc
                      refine lv_aload_n hx hb dL_commits_309 rfl (lv_at hl 1 rfl) ?_
                      refine lv_bipush (v := 12) hx hb dL_commits_310 (by decide) ?_
                      obtain ⟨v28, ev28, h⟩ := ob h
                      refine r_ci hS (r_runV (As := [.int 12]) (rest := []) X hS (c_X6_whole l hE (w := w) (ad := ad) (μ := μ) (D := D) (cI := cI) (cG := cG) (cL := cL) hw0 ev28) (cwV 1 X.1.2.2.2.2 gL_commits_X6_whole rfl rfl rfl (by decide +kernel) ⟨Nat.le_of_ble_eq_true rfl, Nat.le_of_ble_eq_true rfl⟩) (q0 := q0) (ci := 4) rfl (hw0.1 μ).1 rfl hl.1 rfl (Nat.le_of_ble_eq_true rfl) dL_commits_312 ⟨Nat.le_trans (m := 2) (by omega) (Nat.le_of_ble_eq_true rfl), Nat.le_trans (m := 12) (by omega) (Nat.le_of_ble_eq_true rfl)⟩) (fun H locs hS => ?_)
                      refine lv_iload hx hb dL_commits_315 (lv_at hl 11 rfl) ?_
                      refine lv_icmp_ne (tgt := 348) hx hb dL_commits_317 (by decide) (fun cc => ?_) (fun cc => ?_)
                      · replace h := ie h cc
                        exact hb348 μ _ _ (by omega) (by omega) _ _ _ hS (lv_sub hl [] rfl) h
                      · replace h := it h cc
                        refine lv_aload_n hx hb dL_commits_320 rfl (lv_at hl 1 rfl) ?_
                        refine lv_iload hx hb dL_commits_321 (lv_at hl 3 rfl) ?_
                        obtain ⟨v29, ev29, h⟩ := ob h
                        refine r_ci hS (r_runV (As := [.int x4]) (rest := []) X hS (c_X6_get l hE (w := w) (ad := ad) (μ := μ) (D := D) (cI := cI) (cG := cG) (cL := cL) hw0 ev29) (cwV 1 X.1.2.2.2.2 gL_commits_X6_get rfl rfl rfl (by decide +kernel) ⟨Nat.le_of_ble_eq_true rfl, Nat.le_of_ble_eq_true rfl⟩) (q0 := q0) (ci := 4) rfl (hw0.1 μ).1 rfl hl.1 rfl (Nat.le_of_ble_eq_true rfl) dL_commits_323 ⟨Nat.le_trans (m := 2) (by omega) (Nat.le_of_ble_eq_true rfl), Nat.le_trans (m := 12) (by omega) (Nat.le_of_ble_eq_true rfl)⟩) (fun H locs hS => ?_)
                        refine lv_iload hx hb dL_commits_326 (lv_at hl 4 rfl) ?_
                        refine lv_icmp_ne (tgt := 348) hx hb dL_commits_328 (by decide) (fun cc => ?_) (fun cc => ?_)
                        · replace h := ie h cc
                          exact hb348 μ _ _ (by omega) (by omega) _ _ _ hS (lv_sub hl [] rfl) h
                        · replace h := it h cc
                          refine lv_aload_n hx hb dL_commits_331 rfl (lv_at hl 1 rfl) ?_
                          refine lv_iconst (v := 2) hx hb dL_commits_332 (by decide) ?_
                          obtain ⟨v30, ev30, h⟩ := ob h
                          refine r_ci hS (r_runV (As := [.int 2]) (rest := []) X hS (c_X6_whole l hE (w := w) (ad := ad) (μ := μ) (D := D) (cI := cI) (cG := cG) (cL := cL) hw0 ev30) (cwV 1 X.1.2.2.2.2 gL_commits_X6_whole rfl rfl rfl (by decide +kernel) ⟨Nat.le_of_ble_eq_true rfl, Nat.le_of_ble_eq_true rfl⟩) (q0 := q0) (ci := 4) rfl (hw0.1 μ).1 rfl hl.1 rfl (Nat.le_of_ble_eq_true rfl) dL_commits_333 ⟨Nat.le_trans (m := 2) (by omega) (Nat.le_of_ble_eq_true rfl), Nat.le_trans (m := 12) (by omega) (Nat.le_of_ble_eq_true rfl)⟩) (fun H locs hS => ?_)
                          refine lv_iload hx hb dL_commits_336 (lv_at hl 9 rfl) ?_
                          refine lv_iload hx hb dL_commits_338 (lv_at hl 6 rfl) ?_
                          refine lv_iadd hx hb dL_commits_340 ?_
                          refine lv_icmp_ne (tgt := 348) hx hb dL_commits_341 (by decide) (fun cc => ?_) (fun cc => ?_)
                          · replace h := ie h cc
                            exact hb348 μ _ _ (by omega) (by omega) _ _ _ hS (lv_sub hl [] rfl) h
                          · replace h := it h cc
                            refine lv_iconst (v := 1) hx hb dL_commits_344 (by decide) ?_
                            refine lv_goto (tgt := 349) hx hb dL_commits_345 (by decide) ?_
                            exact hb349 1 μ _ _ (by omega) (by omega) _ _ _ hS (lv_sub hl [] rfl) h
    · replace h := it h cc
      refine lv_iload hx hb dL_commits_174 (lv_at hl 0 rfl) ?_
      refine lv_if_eq (tgt := 232) hx hb dL_commits_176 (by decide) (fun cc => ?_) (fun cc => ?_)
      · replace h := it h cc
        exact hb232 μ _ _ (by omega) (by omega) _ _ _ hS (lv_sub hl [] rfl) h
      · replace h := ie h cc
        refine lv_iload hx hb dL_commits_179 (lv_at hl 13 rfl) ?_
        refine lv_if_ne (tgt := 232) hx hb dL_commits_181 (by decide) (fun cc => ?_) (fun cc => ?_)
        · replace h := ie h cc
          exact hb232 μ _ _ (by omega) (by omega) _ _ _ hS (lv_sub hl [] rfl) h
        · replace h := it h cc
          refine lv_aload_n hx hb dL_commits_184 rfl (lv_at hl 1 rfl) ?_
          refine lv_iload hx hb dL_commits_185 (lv_at hl 7 rfl) ?_
          refine lv_iconst (v := 3) hx hb dL_commits_187 (by decide) ?_
          obtain ⟨v32, ev32, h⟩ := ob h
          refine r_ci hS (r_runV (As := [.int x8, .int 3]) (rest := []) X hS (c_X6_root l hE (w := w) (ad := ad) (μ := μ) (D := D) (cI := cI) (cG := cG) (cL := cL) hw0 ev32) (cwV 2 X.1.2.2.2.2 gL_commits_X6_root rfl rfl rfl (by decide +kernel) ⟨Nat.le_of_ble_eq_true rfl, Nat.le_of_ble_eq_true rfl⟩) (q0 := q0) (ci := 4) rfl (hw0.1 μ).1 rfl hl.1 rfl (Nat.le_of_ble_eq_true rfl) dL_commits_188 ⟨Nat.le_trans (m := 2) (by omega) (Nat.le_of_ble_eq_true rfl), Nat.le_trans (m := 12) (by omega) (Nat.le_of_ble_eq_true rfl)⟩) (fun H locs hS => ?_)
          refine lv_iconst (v := 1) hx hb dL_commits_191 (by decide) ?_
          refine lv_icmp_ne (tgt := 232) hx hb dL_commits_192 (by decide) (fun cc => ?_) (fun cc => ?_)
          · replace h := ie h cc
            exact hb232 μ _ _ (by omega) (by omega) _ _ _ hS (lv_sub hl [] rfl) h
          · replace h := it h cc
            refine lv_aload_n hx hb dL_commits_195 rfl (lv_at hl 1 rfl) ?_
            refine lv_bipush (v := 11) hx hb dL_commits_196 (by decide) ?_
            obtain ⟨v33, ev33, h⟩ := ob h
            refine r_ci hS (r_runV (As := [.int 11]) (rest := []) X hS (c_X6_whole l hE (w := w) (ad := ad) (μ := μ) (D := D) (cI := cI) (cG := cG) (cL := cL) hw0 ev33) (cwV 1 X.1.2.2.2.2 gL_commits_X6_whole rfl rfl rfl (by decide +kernel) ⟨Nat.le_of_ble_eq_true rfl, Nat.le_of_ble_eq_true rfl⟩) (q0 := q0) (ci := 4) rfl (hw0.1 μ).1 rfl hl.1 rfl (Nat.le_of_ble_eq_true rfl) dL_commits_198 ⟨Nat.le_trans (m := 2) (by omega) (Nat.le_of_ble_eq_true rfl), Nat.le_trans (m := 12) (by omega) (Nat.le_of_ble_eq_true rfl)⟩) (fun H locs hS => ?_)
            refine lv_iload hx hb dL_commits_201 (lv_at hl 10 rfl) ?_
            refine lv_icmp_ne (tgt := 232) hx hb dL_commits_203 (by decide) (fun cc => ?_) (fun cc => ?_)
            · replace h := ie h cc
              exact hb232 μ _ _ (by omega) (by omega) _ _ _ hS (lv_sub hl [] rfl) h
            · replace h := it h cc
              refine lv_aload_n hx hb dL_commits_206 rfl (lv_at hl 1 rfl) ?_
              refine lv_bipush (v := 12) hx hb dL_commits_207 (by decide) ?_
              obtain ⟨v34, ev34, h⟩ := ob h
              refine r_ci hS (r_runV (As := [.int 12]) (rest := []) X hS (c_X6_whole l hE (w := w) (ad := ad) (μ := μ) (D := D) (cI := cI) (cG := cG) (cL := cL) hw0 ev34) (cwV 1 X.1.2.2.2.2 gL_commits_X6_whole rfl rfl rfl (by decide +kernel) ⟨Nat.le_of_ble_eq_true rfl, Nat.le_of_ble_eq_true rfl⟩) (q0 := q0) (ci := 4) rfl (hw0.1 μ).1 rfl hl.1 rfl (Nat.le_of_ble_eq_true rfl) dL_commits_209 ⟨Nat.le_trans (m := 2) (by omega) (Nat.le_of_ble_eq_true rfl), Nat.le_trans (m := 12) (by omega) (Nat.le_of_ble_eq_true rfl)⟩) (fun H locs hS => ?_)
              refine lv_iload hx hb dL_commits_212 (lv_at hl 11 rfl) ?_
              refine lv_icmp_ne (tgt := 232) hx hb dL_commits_214 (by decide) (fun cc => ?_) (fun cc => ?_)
              · replace h := ie h cc
                exact hb232 μ _ _ (by omega) (by omega) _ _ _ hS (lv_sub hl [] rfl) h
              · replace h := it h cc
                refine lv_aload_n hx hb dL_commits_217 rfl (lv_at hl 1 rfl) ?_
                refine lv_iload hx hb dL_commits_218 (lv_at hl 3 rfl) ?_
                obtain ⟨v35, ev35, h⟩ := ob h
                refine r_ci hS (r_runV (As := [.int x4]) (rest := []) X hS (c_X6_get l hE (w := w) (ad := ad) (μ := μ) (D := D) (cI := cI) (cG := cG) (cL := cL) hw0 ev35) (cwV 1 X.1.2.2.2.2 gL_commits_X6_get rfl rfl rfl (by decide +kernel) ⟨Nat.le_of_ble_eq_true rfl, Nat.le_of_ble_eq_true rfl⟩) (q0 := q0) (ci := 4) rfl (hw0.1 μ).1 rfl hl.1 rfl (Nat.le_of_ble_eq_true rfl) dL_commits_220 ⟨Nat.le_trans (m := 2) (by omega) (Nat.le_of_ble_eq_true rfl), Nat.le_trans (m := 12) (by omega) (Nat.le_of_ble_eq_true rfl)⟩) (fun H locs hS => ?_)
                refine lv_iload hx hb dL_commits_223 (lv_at hl 4 rfl) ?_
                refine lv_icmp_ne (tgt := 232) hx hb dL_commits_225 (by decide) (fun cc => ?_) (fun cc => ?_)
                · replace h := ie h cc
                  exact hb232 μ _ _ (by omega) (by omega) _ _ _ hS (lv_sub hl [] rfl) h
                · replace h := it h cc
                  refine lv_iconst (v := 1) hx hb dL_commits_228 (by decide) ?_
                  refine lv_goto (tgt := 233) hx hb dL_commits_229 (by decide) ?_
                  exact hb233 1 μ _ _ (by omega) (by omega) _ _ _ hS (lv_sub hl [] rfl) h
  have hb166 : ∀ (x1 : Int32) (x4 : Int32) (x5 : Int32) (x6 : Int32) (x7 : Int32) (x8 : Int32) (x9 : Int32) (x10 : Int32) (x11 : Int32) (x12 : Int32) (x13 : Int32) (x14 : Int32) (μ : Mem) (cells slots : Nat), cells + 0 ≤ 2 → slots + 0 ≤ 12 → ∀ (H : Heap) (locs : List Loc) (ls : Array Slot), HS D A (w μ) s.heap H locs → lv_has ls 16 [(0, .ref (ad q0)), (1, .int x1), (4, .int x4), (5, .int x5), (6, .int x6), (7, .int x7), (8, .int x8), (9, .int x9), (10, .int x10), (11, .int x11), (12, .int x12), (13, .int x13), (14, .int x14)] → f_L_commits_b166 q0 x1 x4 x5 x6 x7 x8 x9 x10 x11 x12 x13 x14 μ = some (r, μ') → W p l e (headSpec wsL_commits (rmc 9 2 12 149)).room s m args below meth c H locs cells slots (MQ below (PI D A (w μ') r) args s 2 12 A) (F0 m 166 ls []) := by
    intro x1 x4 x5 x6 x7 x8 x9 x10 x11 x12 x13 x14 μ cells slots hc hs H locs ls hS hl h
    unfold f_L_commits_b166 at h
    refine lv_iconst (v := 0) hx hb dL_commits_166 (by decide) ?_
    exact hb167 x1 x4 x5 x6 x7 x8 x9 x10 x11 x12 x13 x14 0 μ _ _ (by omega) (by omega) _ _ _ hS (lv_sub hl [0, 1, 2, 3, 4, 5, 6, 7, 8, 9, 10, 11, 12] rfl) h
  have hb130 : ∀ (s0 : Int32) (μ : Mem) (cells slots : Nat), cells + 0 ≤ 2 → slots + 0 ≤ 12 → ∀ (H : Heap) (locs : List Loc) (ls : Array Slot), HS D A (w μ) s.heap H locs → lv_has ls 16 [] → f_L_commits_b130 q0 s0 μ = some (r, μ') → W p l e (headSpec wsL_commits (rmc 9 2 12 149)).room s m args below meth c H locs cells slots (MQ below (PI D A (w μ') r) args s 2 12 A) (F0 m 130 ls [.int s0]) := by
    intro s0 μ cells slots hc hs H locs ls hS hl h
    unfold f_L_commits_b130 at h
    obtain ⟨v39, ev39, h⟩ := ob h
    obtain ⟨ezv39, eov39⟩ := zr_ok ev39
    rw [ezv39]
    obtain ⟨rfl, rfl⟩ := pr2 h
    exact r_zretM X hS hr hlk eov39 (by omega) (by omega) dL_commits_130
  have hb129 : ∀  (μ : Mem) (cells slots : Nat), cells + 0 ≤ 2 → slots + 0 ≤ 12 → ∀ (H : Heap) (locs : List Loc) (ls : Array Slot), HS D A (w μ) s.heap H locs → lv_has ls 16 [] → f_L_commits_b129 q0 μ = some (r, μ') → W p l e (headSpec wsL_commits (rmc 9 2 12 149)).room s m args below meth c H locs cells slots (MQ below (PI D A (w μ') r) args s 2 12 A) (F0 m 129 ls []) := by
    intro μ cells slots hc hs H locs ls hS hl h
    unfold f_L_commits_b129 at h
    refine lv_iconst (v := 0) hx hb dL_commits_129 (by decide) ?_
    exact hb130 0 μ _ _ (by omega) (by omega) _ _ _ hS (lv_sub hl [] rfl) h
  have hb15 : ∀ (x1 : Int32) (x2 : Int32) (s0 : Int32) (μ : Mem) (cells slots : Nat), cells + 2 ≤ 2 → slots + 12 ≤ 12 → ∀ (H : Heap) (locs : List Loc) (ls : Array Slot), HS D A (w μ) s.heap H locs → lv_has ls 16 [(0, .ref (ad q0)), (1, .int x1), (2, .int x2)] → f_L_commits_b15 q0 x1 x2 s0 μ = some (r, μ') → W p l e (headSpec wsL_commits (rmc 9 2 12 149)).room s m args below meth c H locs cells slots (MQ below (PI D A (w μ') r) args s 2 12 A) (F0 m 15 ls [.int s0]) := by
    intro x1 x2 s0 μ cells slots hc hs H locs ls hS hl h
    unfold f_L_commits_b15 at h
    refine lv_istore_n (lv' := [(3, .int s0), (0, .ref (ad q0)), (1, .int x1), (2, .int x2)]) hx hb dL_commits_15 rfl hl (by decide) rfl (fun ls hl => ?_)
    refine lv_iload_n hx hb dL_commits_16 rfl (lv_at hl 3 rfl) ?_
    refine lv_bipush (v := 30) hx hb dL_commits_17 (by decide) ?_
    obtain ⟨v2, ev2, h⟩ := ob h
    refine r_cim hS (r_runSm (mc := 0) (ms := 0) (As := [.int x2, .int 30]) (rest := []) X hS (c_L_low l hE (w := w) (ad := ad) (μ := μ) (D := D) (cI := cI) (cG := cG) (cL := cL) ev2) (va_cwS 2 X.1.2.2.2.2 gL_commits_L_low rfl rfl rfl (by decide +kernel) ⟨Nat.le_of_ble_eq_true rfl, Nat.le_of_ble_eq_true rfl⟩) rfl hl.1 rfl (Nat.le_of_ble_eq_true rfl) dL_commits_19 ⟨Nat.le_trans (m := 2) (by omega) (Nat.le_of_ble_eq_true rfl), Nat.le_trans (m := 12) (by omega) (Nat.le_of_ble_eq_true rfl)⟩) (fun H locs hS => ?_)
    refine lv_istore (lv' := [(4, .int v2), (3, .int s0), (0, .ref (ad q0)), (1, .int x1), (2, .int x2)]) hx hb dL_commits_22 hl (by decide) rfl (fun ls hl => ?_)
    refine lv_aload_n hx hb dL_commits_24 rfl (lv_at hl 2 rfl) ?_
    refine lv_iload hx hb dL_commits_25 (lv_at hl 0 rfl) ?_
    obtain ⟨v3, ev3, h⟩ := ob h
    refine r_cim hS (r_runSW (mc := 1) (ms := 6) (As := [.ref (ad q0), .int v2]) (rest := []) X hS (c_L_drafted l hE hst (w := w) (ad := ad) (μ := μ) (D := D) (cI := cI) (cG := cG) (cL := cL) hw0 ev3) (vx_cwSW (hh := [(0, 5, 6, 15), (0, 5, 11, 17)]) 2 X.1.2.2.2.2 gL_commits_L_drafted rfl rfl rfl (by decide +kernel) ⟨Nat.le_of_ble_eq_true rfl, Nat.le_of_ble_eq_true rfl⟩) rfl hl.1 rfl (Nat.le_of_ble_eq_true rfl) dL_commits_27 ⟨Nat.le_trans (m := 2) (by omega) (Nat.le_of_ble_eq_true rfl), Nat.le_trans (m := 12) (by omega) (Nat.le_of_ble_eq_true rfl)⟩) (fun H locs hS => ?_)
    refine lv_istore (lv' := [(5, .int v3), (4, .int v2), (3, .int s0), (0, .ref (ad q0)), (1, .int x1), (2, .int x2)]) hx hb dL_commits_30 hl (by decide) rfl (fun ls hl => ?_)
    refine lv_aload_n hx hb dL_commits_32 rfl (lv_at hl 3 rfl) ?_
    refine lv_bipush (v := 9) hx hb dL_commits_33 (by decide) ?_
    obtain ⟨v4, ev4, h⟩ := ob h
    refine r_ci hS (r_runV (As := [.int 9]) (rest := []) X hS (c_X6_whole l hE (w := w) (ad := ad) (μ := μ) (D := D) (cI := cI) (cG := cG) (cL := cL) hw0 ev4) (cwV 1 X.1.2.2.2.2 gL_commits_X6_whole rfl rfl rfl (by decide +kernel) ⟨Nat.le_of_ble_eq_true rfl, Nat.le_of_ble_eq_true rfl⟩) (q0 := q0) (ci := 4) rfl (hw0.1 μ).1 rfl hl.1 rfl (Nat.le_of_ble_eq_true rfl) dL_commits_35 ⟨Nat.le_trans (m := 2) (by omega) (Nat.le_of_ble_eq_true rfl), Nat.le_trans (m := 12) (by omega) (Nat.le_of_ble_eq_true rfl)⟩) (fun H locs hS => ?_)
    refine lv_istore (lv' := [(6, .int v4), (5, .int v3), (4, .int v2), (3, .int s0), (0, .ref (ad q0)), (1, .int x1), (2, .int x2)]) hx hb dL_commits_38 hl (by decide) rfl (fun ls hl => ?_)
    refine lv_aload_n hx hb dL_commits_40 rfl (lv_at hl 4 rfl) ?_
    refine lv_bipush (v := 10) hx hb dL_commits_41 (by decide) ?_
    obtain ⟨v5, ev5, h⟩ := ob h
    refine r_ci hS (r_runV (As := [.int 10]) (rest := []) X hS (c_X6_whole l hE (w := w) (ad := ad) (μ := μ) (D := D) (cI := cI) (cG := cG) (cL := cL) hw0 ev5) (cwV 1 X.1.2.2.2.2 gL_commits_X6_whole rfl rfl rfl (by decide +kernel) ⟨Nat.le_of_ble_eq_true rfl, Nat.le_of_ble_eq_true rfl⟩) (q0 := q0) (ci := 4) rfl (hw0.1 μ).1 rfl hl.1 rfl (Nat.le_of_ble_eq_true rfl) dL_commits_43 ⟨Nat.le_trans (m := 2) (by omega) (Nat.le_of_ble_eq_true rfl), Nat.le_trans (m := 12) (by omega) (Nat.le_of_ble_eq_true rfl)⟩) (fun H locs hS => ?_)
    refine lv_istore (lv' := [(7, .int v5), (6, .int v4), (5, .int v3), (4, .int v2), (3, .int s0), (0, .ref (ad q0)), (1, .int x1), (2, .int x2)]) hx hb dL_commits_46 hl (by decide) rfl (fun ls hl => ?_)
    refine lv_aload_n hx hb dL_commits_48 rfl (lv_at hl 5 rfl) ?_
    refine lv_iconst (v := 1) hx hb dL_commits_49 (by decide) ?_
    refine lv_iconst (v := 3) hx hb dL_commits_50 (by decide) ?_
    obtain ⟨v6, ev6, h⟩ := ob h
    refine r_ci hS (r_runV (As := [.int 1, .int 3]) (rest := []) X hS (c_X6_root l hE (w := w) (ad := ad) (μ := μ) (D := D) (cI := cI) (cG := cG) (cL := cL) hw0 ev6) (cwV 2 X.1.2.2.2.2 gL_commits_X6_root rfl rfl rfl (by decide +kernel) ⟨Nat.le_of_ble_eq_true rfl, Nat.le_of_ble_eq_true rfl⟩) (q0 := q0) (ci := 4) rfl (hw0.1 μ).1 rfl hl.1 rfl (Nat.le_of_ble_eq_true rfl) dL_commits_51 ⟨Nat.le_trans (m := 2) (by omega) (Nat.le_of_ble_eq_true rfl), Nat.le_trans (m := 12) (by omega) (Nat.le_of_ble_eq_true rfl)⟩) (fun H locs hS => ?_)
    refine lv_istore (lv' := [(8, .int v6), (7, .int v5), (6, .int v4), (5, .int v3), (4, .int v2), (3, .int s0), (0, .ref (ad q0)), (1, .int x1), (2, .int x2)]) hx hb dL_commits_54 hl (by decide) rfl (fun ls hl => ?_)
    refine lv_aload_n hx hb dL_commits_56 rfl (lv_at hl 6 rfl) ?_
    refine lv_iload hx hb dL_commits_57 (lv_at hl 0 rfl) ?_
    refine lv_iconst (v := 0) hx hb dL_commits_59 (by decide) ?_
    obtain ⟨v7, ev7, h⟩ := ob h
    refine r_ci hS (r_runV (As := [.int v6, .int 0]) (rest := []) X hS (c_X6_root l hE (w := w) (ad := ad) (μ := μ) (D := D) (cI := cI) (cG := cG) (cL := cL) hw0 ev7) (cwV 2 X.1.2.2.2.2 gL_commits_X6_root rfl rfl rfl (by decide +kernel) ⟨Nat.le_of_ble_eq_true rfl, Nat.le_of_ble_eq_true rfl⟩) (q0 := q0) (ci := 4) rfl (hw0.1 μ).1 rfl hl.1 rfl (Nat.le_of_ble_eq_true rfl) dL_commits_60 ⟨Nat.le_trans (m := 2) (by omega) (Nat.le_of_ble_eq_true rfl), Nat.le_trans (m := 12) (by omega) (Nat.le_of_ble_eq_true rfl)⟩) (fun H locs hS => ?_)
    refine lv_istore (lv' := [(9, .int v7), (8, .int v6), (7, .int v5), (6, .int v4), (5, .int v3), (4, .int v2), (3, .int s0), (0, .ref (ad q0)), (1, .int x1), (2, .int x2)]) hx hb dL_commits_63 hl (by decide) rfl (fun ls hl => ?_)
    refine lv_aload_n hx hb dL_commits_65 rfl (lv_at hl 7 rfl) ?_
    refine lv_iconst (v := 2) hx hb dL_commits_66 (by decide) ?_
    obtain ⟨v8, ev8, h⟩ := ob h
    refine r_ci hS (r_runV (As := [.int 2]) (rest := []) X hS (c_X6_whole l hE (w := w) (ad := ad) (μ := μ) (D := D) (cI := cI) (cG := cG) (cL := cL) hw0 ev8) (cwV 1 X.1.2.2.2.2 gL_commits_X6_whole rfl rfl rfl (by decide +kernel) ⟨Nat.le_of_ble_eq_true rfl, Nat.le_of_ble_eq_true rfl⟩) (q0 := q0) (ci := 4) rfl (hw0.1 μ).1 rfl hl.1 rfl (Nat.le_of_ble_eq_true rfl) dL_commits_67 ⟨Nat.le_trans (m := 2) (by omega) (Nat.le_of_ble_eq_true rfl), Nat.le_trans (m := 12) (by omega) (Nat.le_of_ble_eq_true rfl)⟩) (fun H locs hS => ?_)
    refine lv_istore (lv' := [(10, .int v8), (9, .int v7), (8, .int v6), (7, .int v5), (6, .int v4), (5, .int v3), (4, .int v2), (3, .int s0), (0, .ref (ad q0)), (1, .int x1), (2, .int x2)]) hx hb dL_commits_70 hl (by decide) rfl (fun ls hl => ?_)
    refine lv_aload_n hx hb dL_commits_72 rfl (lv_at hl 8 rfl) ?_
    refine lv_bipush (v := 11) hx hb dL_commits_73 (by decide) ?_
    obtain ⟨v9, ev9, h⟩ := ob h
    refine r_ci hS (r_runV (As := [.int 11]) (rest := []) X hS (c_X6_whole l hE (w := w) (ad := ad) (μ := μ) (D := D) (cI := cI) (cG := cG) (cL := cL) hw0 ev9) (cwV 1 X.1.2.2.2.2 gL_commits_X6_whole rfl rfl rfl (by decide +kernel) ⟨Nat.le_of_ble_eq_true rfl, Nat.le_of_ble_eq_true rfl⟩) (q0 := q0) (ci := 4) rfl (hw0.1 μ).1 rfl hl.1 rfl (Nat.le_of_ble_eq_true rfl) dL_commits_75 ⟨Nat.le_trans (m := 2) (by omega) (Nat.le_of_ble_eq_true rfl), Nat.le_trans (m := 12) (by omega) (Nat.le_of_ble_eq_true rfl)⟩) (fun H locs hS => ?_)
    refine lv_istore (lv' := [(11, .int v9), (10, .int v8), (9, .int v7), (8, .int v6), (7, .int v5), (6, .int v4), (5, .int v3), (4, .int v2), (3, .int s0), (0, .ref (ad q0)), (1, .int x1), (2, .int x2)]) hx hb dL_commits_78 hl (by decide) rfl (fun ls hl => ?_)
    refine lv_aload_n hx hb dL_commits_80 rfl (lv_at hl 9 rfl) ?_
    refine lv_bipush (v := 12) hx hb dL_commits_81 (by decide) ?_
    obtain ⟨v10, ev10, h⟩ := ob h
    refine r_ci hS (r_runV (As := [.int 12]) (rest := []) X hS (c_X6_whole l hE (w := w) (ad := ad) (μ := μ) (D := D) (cI := cI) (cG := cG) (cL := cL) hw0 ev10) (cwV 1 X.1.2.2.2.2 gL_commits_X6_whole rfl rfl rfl (by decide +kernel) ⟨Nat.le_of_ble_eq_true rfl, Nat.le_of_ble_eq_true rfl⟩) (q0 := q0) (ci := 4) rfl (hw0.1 μ).1 rfl hl.1 rfl (Nat.le_of_ble_eq_true rfl) dL_commits_83 ⟨Nat.le_trans (m := 2) (by omega) (Nat.le_of_ble_eq_true rfl), Nat.le_trans (m := 12) (by omega) (Nat.le_of_ble_eq_true rfl)⟩) (fun H locs hS => ?_)
    refine lv_istore (lv' := [(12, .int v10), (11, .int v9), (10, .int v8), (9, .int v7), (8, .int v6), (7, .int v5), (6, .int v4), (5, .int v3), (4, .int v2), (3, .int s0), (0, .ref (ad q0)), (1, .int x1), (2, .int x2)]) hx hb dL_commits_86 hl (by decide) rfl (fun ls hl => ?_)
    refine lv_aload_n hx hb dL_commits_88 rfl (lv_at hl 10 rfl) ?_
    refine lv_iconst (v := 5) hx hb dL_commits_89 (by decide) ?_
    obtain ⟨v11, ev11, h⟩ := ob h
    refine r_ci hS (r_runV (As := [.int 5]) (rest := []) X hS (c_X6_whole l hE (w := w) (ad := ad) (μ := μ) (D := D) (cI := cI) (cG := cG) (cL := cL) hw0 ev11) (cwV 1 X.1.2.2.2.2 gL_commits_X6_whole rfl rfl rfl (by decide +kernel) ⟨Nat.le_of_ble_eq_true rfl, Nat.le_of_ble_eq_true rfl⟩) (q0 := q0) (ci := 4) rfl (hw0.1 μ).1 rfl hl.1 rfl (Nat.le_of_ble_eq_true rfl) dL_commits_90 ⟨Nat.le_trans (m := 2) (by omega) (Nat.le_of_ble_eq_true rfl), Nat.le_trans (m := 12) (by omega) (Nat.le_of_ble_eq_true rfl)⟩) (fun H locs hS => ?_)
    refine lv_istore (lv' := [(13, .int v11), (12, .int v10), (11, .int v9), (10, .int v8), (9, .int v7), (8, .int v6), (7, .int v5), (6, .int v4), (5, .int v3), (4, .int v2), (3, .int s0), (0, .ref (ad q0)), (1, .int x1), (2, .int x2)]) hx hb dL_commits_93 hl (by decide) rfl (fun ls hl => ?_)
    refine lv_aload_n hx hb dL_commits_95 rfl (lv_at hl 11 rfl) ?_
    refine lv_iload_n hx hb dL_commits_96 rfl (lv_at hl 12 rfl) ?_
    obtain ⟨v12, μ13, ev12, h⟩ := ob2 h
    refine r_cim hS (r_runSW (mc := 1) (ms := 6) (As := [.ref (ad q0), .int x1]) (rest := []) X hS (c_L_commit l hE hst (w := w) (ad := ad) (μ := μ) (D := D) (cI := cI) (cG := cG) (cL := cL) hw0 ev12) (vx_cwSW (hh := [(0, 5, 6, 15), (0, 5, 11, 17)]) 2 X.1.2.2.2.2 gL_commits_L_commit rfl rfl rfl (by decide +kernel) ⟨Nat.le_of_ble_eq_true rfl, Nat.le_of_ble_eq_true rfl⟩) rfl hl.1 rfl (Nat.le_of_ble_eq_true rfl) dL_commits_97 ⟨Nat.le_trans (m := 2) (by omega) (Nat.le_of_ble_eq_true rfl), Nat.le_trans (m := 12) (by omega) (Nat.le_of_ble_eq_true rfl)⟩) (fun H locs hS => ?_)
    refine lv_istore (lv' := [(14, .int v12), (13, .int v11), (12, .int v10), (11, .int v9), (10, .int v8), (9, .int v7), (8, .int v6), (7, .int v5), (6, .int v4), (5, .int v3), (4, .int v2), (3, .int s0), (0, .ref (ad q0)), (1, .int x1), (2, .int x2)]) hx hb dL_commits_100 hl (by decide) rfl (fun ls hl => ?_)
    refine lv_iload hx hb dL_commits_102 (lv_at hl 0 rfl) ?_
    refine lv_sipush (v := (-2902)) hx hb dL_commits_104 (by decide) ?_
    refine lv_icmp_ne (tgt := 131) hx hb dL_commits_107 (by decide) (fun cc => ?_) (fun cc => ?_)
    · replace h := ie h cc
      refine lv_iload_n hx hb dL_commits_131 rfl (lv_at hl 11 rfl) ?_
      refine lv_if_eq (tgt := 166) hx hb dL_commits_132 (by decide) (fun cc => ?_) (fun cc => ?_)
      · replace h := it h cc
        exact hb166 x1 v2 v3 v4 v5 v6 v7 v8 v9 v10 v11 v12 μ13 _ _ (by omega) (by omega) _ _ _ hS (lv_sub hl [12, 13, 10, 9, 8, 7, 6, 5, 4, 3, 2, 1, 0] rfl) h
      · replace h := ie h cc
        refine lv_aload_n hx hb dL_commits_135 rfl (lv_at hl 12 rfl) ?_
        refine lv_bipush (v := 8) hx hb dL_commits_136 (by decide) ?_
        obtain ⟨v36, ev36, h⟩ := ob h
        refine r_ci hS (r_runV (As := [.int 8]) (rest := []) X hS (c_X6_whole l hE (w := w) (ad := ad) (μ := μ13) (D := D) (cI := cI) (cG := cG) (cL := cL) hw0 ev36) (cwV 1 X.1.2.2.2.2 gL_commits_X6_whole rfl rfl rfl (by decide +kernel) ⟨Nat.le_of_ble_eq_true rfl, Nat.le_of_ble_eq_true rfl⟩) (q0 := q0) (ci := 4) rfl (hw0.1 μ13).1 rfl hl.1 rfl (Nat.le_of_ble_eq_true rfl) dL_commits_138 ⟨Nat.le_trans (m := 2) (by omega) (Nat.le_of_ble_eq_true rfl), Nat.le_trans (m := 12) (by omega) (Nat.le_of_ble_eq_true rfl)⟩) (fun H locs hS => ?_)
        refine lv_if_ne (tgt := 166) hx hb dL_commits_141 (by decide) (fun cc => ?_) (fun cc => ?_)
        · replace h := ie h cc
          exact hb166 x1 v2 v3 v4 v5 v6 v7 v8 v9 v10 v11 v12 μ13 _ _ (by omega) (by omega) _ _ _ hS (lv_sub hl [12, 13, 10, 9, 8, 7, 6, 5, 4, 3, 2, 1, 0] rfl) h
        · replace h := it h cc
          refine lv_aload_n hx hb dL_commits_144 rfl (lv_at hl 12 rfl) ?_
          refine lv_bipush (v := 9) hx hb dL_commits_145 (by decide) ?_
          obtain ⟨v37, ev37, h⟩ := ob h
          refine r_ci hS (r_runV (As := [.int 9]) (rest := []) X hS (c_X6_whole l hE (w := w) (ad := ad) (μ := μ13) (D := D) (cI := cI) (cG := cG) (cL := cL) hw0 ev37) (cwV 1 X.1.2.2.2.2 gL_commits_X6_whole rfl rfl rfl (by decide +kernel) ⟨Nat.le_of_ble_eq_true rfl, Nat.le_of_ble_eq_true rfl⟩) (q0 := q0) (ci := 4) rfl (hw0.1 μ13).1 rfl hl.1 rfl (Nat.le_of_ble_eq_true rfl) dL_commits_147 ⟨Nat.le_trans (m := 2) (by omega) (Nat.le_of_ble_eq_true rfl), Nat.le_trans (m := 12) (by omega) (Nat.le_of_ble_eq_true rfl)⟩) (fun H locs hS => ?_)
          refine lv_if_ne (tgt := 166) hx hb dL_commits_150 (by decide) (fun cc => ?_) (fun cc => ?_)
          · replace h := ie h cc
            exact hb166 x1 v2 v3 v4 v5 v6 v7 v8 v9 v10 v11 v12 μ13 _ _ (by omega) (by omega) _ _ _ hS (lv_sub hl [12, 13, 10, 9, 8, 7, 6, 5, 4, 3, 2, 1, 0] rfl) h
          · replace h := it h cc
            refine lv_aload_n hx hb dL_commits_153 rfl (lv_at hl 12 rfl) ?_
            refine lv_bipush (v := 10) hx hb dL_commits_154 (by decide) ?_
            obtain ⟨v38, ev38, h⟩ := ob h
            refine r_ci hS (r_runV (As := [.int 10]) (rest := []) X hS (c_X6_whole l hE (w := w) (ad := ad) (μ := μ13) (D := D) (cI := cI) (cG := cG) (cL := cL) hw0 ev38) (cwV 1 X.1.2.2.2.2 gL_commits_X6_whole rfl rfl rfl (by decide +kernel) ⟨Nat.le_of_ble_eq_true rfl, Nat.le_of_ble_eq_true rfl⟩) (q0 := q0) (ci := 4) rfl (hw0.1 μ13).1 rfl hl.1 rfl (Nat.le_of_ble_eq_true rfl) dL_commits_156 ⟨Nat.le_trans (m := 2) (by omega) (Nat.le_of_ble_eq_true rfl), Nat.le_trans (m := 12) (by omega) (Nat.le_of_ble_eq_true rfl)⟩) (fun H locs hS => ?_)
            refine lv_if_ne (tgt := 166) hx hb dL_commits_159 (by decide) (fun cc => ?_) (fun cc => ?_)
            · replace h := ie h cc
              exact hb166 x1 v2 v3 v4 v5 v6 v7 v8 v9 v10 v11 v12 μ13 _ _ (by omega) (by omega) _ _ _ hS (lv_sub hl [12, 13, 10, 9, 8, 7, 6, 5, 4, 3, 2, 1, 0] rfl) h
            · replace h := it h cc
              refine lv_iconst (v := 1) hx hb dL_commits_162 (by decide) ?_
              refine lv_goto (tgt := 167) hx hb dL_commits_163 (by decide) ?_
              exact hb167 x1 v2 v3 v4 v5 v6 v7 v8 v9 v10 v11 v12 1 μ13 _ _ (by omega) (by omega) _ _ _ hS (lv_sub hl [12, 13, 10, 9, 8, 7, 6, 5, 4, 3, 2, 1, 0] rfl) h
    · replace h := it h cc
      refine lv_iload_n hx hb dL_commits_110 rfl (lv_at hl 11 rfl) ?_
      refine lv_if_ne (tgt := 129) hx hb dL_commits_111 (by decide) (fun cc => ?_) (fun cc => ?_)
      · replace h := ie h cc
        exact hb129 μ13 _ _ (by omega) (by omega) _ _ _ hS (lv_sub hl [] rfl) h
      · replace h := it h cc
        refine lv_aload_n hx hb dL_commits_114 rfl (lv_at hl 12 rfl) ?_
        refine lv_bipush (v := 11) hx hb dL_commits_115 (by decide) ?_
        obtain ⟨v40, ev40, h⟩ := ob h
        refine r_ci hS (r_runV (As := [.int 11]) (rest := []) X hS (c_X6_whole l hE (w := w) (ad := ad) (μ := μ13) (D := D) (cI := cI) (cG := cG) (cL := cL) hw0 ev40) (cwV 1 X.1.2.2.2.2 gL_commits_X6_whole rfl rfl rfl (by decide +kernel) ⟨Nat.le_of_ble_eq_true rfl, Nat.le_of_ble_eq_true rfl⟩) (q0 := q0) (ci := 4) rfl (hw0.1 μ13).1 rfl hl.1 rfl (Nat.le_of_ble_eq_true rfl) dL_commits_117 ⟨Nat.le_trans (m := 2) (by omega) (Nat.le_of_ble_eq_true rfl), Nat.le_trans (m := 12) (by omega) (Nat.le_of_ble_eq_true rfl)⟩) (fun H locs hS => ?_)
        refine lv_iload hx hb dL_commits_120 (lv_at hl 3 rfl) ?_
        refine lv_icmp_ne (tgt := 129) hx hb dL_commits_122 (by decide) (fun cc => ?_) (fun cc => ?_)
        · replace h := ie h cc
          exact hb129 μ13 _ _ (by omega) (by omega) _ _ _ hS (lv_sub hl [] rfl) h
        · replace h := it h cc
          refine lv_iconst (v := 1) hx hb dL_commits_125 (by decide) ?_
          refine lv_goto (tgt := 130) hx hb dL_commits_126 (by decide) ?_
          exact hb130 1 μ13 _ _ (by omega) (by omega) _ _ _ hS (lv_sub hl [] rfl) h
  have key : ∀ (cells slots : Nat), cells + 2 ≤ 2 → slots + 12 ≤ 12 → W p l e (headSpec wsL_commits (rmc 9 2 12 149)).room s m args below meth c s.heap [] cells slots (MQ below (PI D A (w μ') r) args s 2 12 A) (F0 m 0 ls []) := by
    intro cells slots hc hs
    unfold f_L_commits at h
    refine lv_aload_n hx hb dL_commits_0 rfl (lv_at hl 0 rfl) ?_
    refine lv_bipush (v := 8) hx hb dL_commits_1 (by decide) ?_
    obtain ⟨v1, ev1, h⟩ := ob h
    refine r_ci hS (r_runV (As := [.int 8]) (rest := []) X hS (c_X6_whole l hE (w := w) (ad := ad) (μ := μ) (D := D) (cI := cI) (cG := cG) (cL := cL) hw0 ev1) (cwV 1 X.1.2.2.2.2 gL_commits_X6_whole rfl rfl rfl (by decide +kernel) ⟨Nat.le_of_ble_eq_true rfl, Nat.le_of_ble_eq_true rfl⟩) (q0 := q0) (ci := 4) rfl (hw0.1 μ).1 rfl hl.1 rfl (Nat.le_of_ble_eq_true rfl) dL_commits_3 ⟨Nat.le_trans (m := 2) (by omega) (Nat.le_of_ble_eq_true rfl), Nat.le_trans (m := 12) (by omega) (Nat.le_of_ble_eq_true rfl)⟩) (fun H locs hS => ?_)
    refine lv_iconst (v := 1) hx hb dL_commits_6 (by decide) ?_
    refine lv_icmp_ne (tgt := 14) hx hb dL_commits_7 (by decide) (fun cc => ?_) (fun cc => ?_)
    · replace h := ie h cc
      refine lv_iconst (v := 0) hx hb dL_commits_14 (by decide) ?_
      exact hb15 a1 a2 0 μ _ _ (by omega) (by omega) _ _ _ hS (lv_sub hl [0, 1, 2] rfl) h
    · replace h := it h cc
      refine lv_iconst (v := 1) hx hb dL_commits_10 (by decide) ?_
      refine lv_goto (tgt := 15) hx hb dL_commits_11 (by decide) ?_
      exact hb15 a1 a2 1 μ _ _ (by omega) (by omega) _ _ _ hS (lv_sub hl [0, 1, 2] rfl) h
  exact key 0 0 (by decide) (by decide)
