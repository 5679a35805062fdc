def f_L_puts_b216 (q0 : Nat) (s0 : Int32) (μ : Mem) : Option (Int32 × Mem) := (zr s0).bind (fun v8 => (some (v8, μ)))
def f_L_puts_b215 (q0 : Nat)  (μ : Mem) : Option (Int32 × Mem) := f_L_puts_b216 q0 0 μ
def f_L_puts_b195 (q0 : Nat) (x1 : Int32) (μ : Mem) : Option (Int32 × Mem) := (f_X6_reason q0 x1 μ).bind (fun v11 => (if v11 = 0 then (f_X6_bedsFor q0 x1 μ).bind (fun v12 => (if v12 = 0 then f_L_puts_b216 q0 1 μ else f_L_puts_b215 q0 μ)) else f_L_puts_b215 q0 μ))
def f_L_puts_b139 (q0 : Nat) (s0 : Int32) (μ : Mem) : Option (Int32 × Mem) := (zr s0).bind (fun v15 => (some (v15, μ)))
def f_L_puts_b138 (q0 : Nat)  (μ : Mem) : Option (Int32 × Mem) := f_L_puts_b139 q0 0 μ
def f_L_puts_b104 (q0 : Nat) (x1 : Int32) (x5 : Int32) (x6 : Int32) (x8 : Int32) (μ : Mem) : Option (Int32 × Mem) := (f_X6_whole q0 9 μ).bind (fun v14 => (if v14 = x6 then (f_L_drafted q0 x1 μ).bind (fun v16 => (if v16 = x5 then (f_X6_nextBed q0 μ).bind (fun v17 => (if v17 = x8 then f_L_puts_b139 q0 1 μ else f_L_puts_b138 q0 μ)) else f_L_puts_b138 q0 μ)) else f_L_puts_b138 q0 μ))
def f_L_puts_b93 (q0 : Nat) (x1 : Int32) (x4 : Int32) (x5 : Int32) (x6 : Int32) (x7 : Int32) (x8 : Int32) (μ : Mem) : Option (Int32 × Mem) := (if x4 = 2 then (if x7 ≤ 0 then f_L_puts_b138 q0 μ else f_L_puts_b104 q0 x1 x5 x6 x8 μ) else f_L_puts_b138 q0 μ)
def f_L_puts_b51 (q0 : Nat) (x1 : Int32) (x2 : Int32) (x3 : Int32) (x4 : Int32) (x5 : Int32) (x6 : Int32) (s0 : Int32) (μ : Mem) : Option (Int32 × Mem) := (f_X6_nextBed q0 μ).bind (fun v5 => bn2 (f_L_put q0 x1 x2 μ) (fun v6 μ7 => (if v6 = (-2902) then (if x3 = 0 then f_L_puts_b104 q0 x1 x5 x6 v5 μ7 else (if x4 = 1 then (if s0 = (-1000) then f_L_puts_b104 q0 x1 x5 x6 v5 μ7 else f_L_puts_b93 q0 x1 x4 x5 x6 s0 v5 μ7) else f_L_puts_b93 q0 x1 x4 x5 x6 s0 v5 μ7)) else (if x3 = 0 then f_L_puts_b215 q0 μ7 else (if x4 = 0 then (if v6 = x5 then (f_X6_drafted q0 x1 μ7).bind (fun v9 => (if v9 = x2 then (f_X6_whole q0 9 μ7).bind (fun v10 => (if v10 = (x6 + s0) then (if s0 = 0 then f_L_puts_b195 q0 x1 μ7 else (f_X6_bed q0 v5 5 μ7).bind (fun v13 => (if v13 = 1 then f_L_puts_b195 q0 x1 μ7 else f_L_puts_b215 q0 μ7))) else f_L_puts_b215 q0 μ7)) else f_L_puts_b215 q0 μ7)) else f_L_puts_b215 q0 μ7) else f_L_puts_b215 q0 μ7)))))
def f_L_puts_b15 (q0 : Nat) (x1 : Int32) (x2 : Int32) (s0 : Int32) (μ : Mem) : Option (Int32 × Mem) := (f_L_reason q0 x1 μ).bind (fun v2 => (f_L_drafted q0 x1 μ).bind (fun v3 => (f_X6_whole q0 9 μ).bind (fun v4 => (if s0 = 0 then f_L_puts_b51 q0 x1 x2 s0 v2 v3 v4 0 μ else (f_X6_bedsFor q0 x1 μ).bind (fun v18 => f_L_puts_b51 q0 x1 x2 s0 v2 v3 v4 v18 μ)))))
def f_L_puts (q0 : Nat) (a1 : Int32) (a2 : Int32) (μ : Mem) : Option (Int32 × Mem) := (f_X6_whole q0 8 μ).bind (fun v1 => (if v1 = 1 then f_L_puts_b15 q0 a1 a2 1 μ else f_L_puts_b15 q0 a1 a2 0 μ))
set_option maxHeartbeats 4000000 in
set_option maxRecDepth 100000 in
theorem c_L_puts (l : Launch) {D : va_G} {cI cG cL : ClassId} {A : Nat → Prop} {tC tS : Nat} {adE adK adV : Nat → Nat} (hE : EnOK (ENV tC tS adE adK adV A) A) (hst : l.stackTraces = false) {w : Mem → va_W} {ad : Nat → Nat} {q0 : Nat} {a1 : Int32} {a2 : Int32} {μ : Mem} {r : Int32} {μ' : Mem} (hw0 : PGAt cI cG adE w ad q0) (h : f_L_puts q0 a1 a2 μ = some (r, μ')) : Met l yL_puts wsL_puts (rmc 9 4 24 173) (WPre D (tyl cI cG cL) A (ENV tC tS adE adK adV A) (w μ) [.ref (ad q0), .int a1, .int a2]) (PI D A (w μ') r) 4 24 A := by
  refine met_startM (cc := cL_puts) (nL := 10) (ret := (some .boolean)) (own := RL) hE (by decide) rfl rfl (Nat.le_of_ble_eq_true rfl) (fun p e s m args below meth c ls X hS hl hr hlk => ?_)
  have hx := X.1.1
  have hb := X.1.2.1
  replace hl : lv_has ls 10 [(0, .ref (ad q0)), (1, .int a1), (2, .int a2)] := hl
  have hb216 : ∀ (s0 : Int32) (μ : Mem) (cells slots : Nat), cells + 0 ≤ 4 → slots + 0 ≤ 24 → ∀ (H : Heap) (locs : List Loc) (ls : Array Slot), HS D A (w μ) s.heap H locs → lv_has ls 10 [] → f_L_puts_b216 q0 s0 μ = some (r, μ') → W p l e (headSpec wsL_puts (rmc 9 4 24 173)).room s m args below meth c H locs cells slots (MQ below (PI D A (w μ') r) args s 4 24 A) (F0 m 216 ls [.int s0]) := by
    intro s0 μ cells slots hc hs H locs ls hS hl h
    unfold f_L_puts_b216 at h
    obtain ⟨v8, ev8, h⟩ := ob h
    obtain ⟨ezv8, eov8⟩ := zr_ok ev8
    rw [ezv8]
    obtain ⟨rfl, rfl⟩ := pr2 h
    exact r_zretM X hS hr hlk eov8 (by omega) (by omega) dL_puts_216
  have hb215 : ∀  (μ : Mem) (cells slots : Nat), cells + 0 ≤ 4 → slots + 0 ≤ 24 → ∀ (H : Heap) (locs : List Loc) (ls : Array Slot), HS D A (w μ) s.heap H locs → lv_has ls 10 [] → f_L_puts_b215 q0 μ = some (r, μ') → W p l e (headSpec wsL_puts (rmc 9 4 24 173)).room s m args below meth c H locs cells slots (MQ below (PI D A (w μ') r) args s 4 24 A) (F0 m 215 ls []) := by
    intro μ cells slots hc hs H locs ls hS hl h
    unfold f_L_puts_b215 at h
    refine lv_iconst (v := 0) hx hb dL_puts_215 (by decide) ?_
    exact hb216 0 μ _ _ (by omega) (by omega) _ _ _ hS (lv_sub hl [] rfl) h
  have hb195 : ∀ (x1 : Int32) (μ : Mem) (cells slots : Nat), cells + 0 ≤ 4 → slots + 0 ≤ 24 → ∀ (H : Heap) (locs : List Loc) (ls : Array Slot), HS D A (w μ) s.heap H locs → lv_has ls 10 [(0, .ref (ad q0)), (1, .int x1)] → f_L_puts_b195 q0 x1 μ = some (r, μ') → W p l e (headSpec wsL_puts (rmc 9 4 24 173)).room s m args below meth c H locs cells slots (MQ below (PI D A (w μ') r) args s 4 24 A) (F0 m 195 ls []) := by
    intro x1 μ cells slots hc hs H locs ls hS hl h
    unfold f_L_puts_b195 at h
    refine lv_aload_n hx hb dL_puts_195 rfl (lv_at hl 0 rfl) ?_
    refine lv_iload_n hx hb dL_puts_196 rfl (lv_at hl 1 rfl) ?_
    obtain ⟨v11, ev11, h⟩ := ob h
    refine r_ci hS (r_runV (As := [.int x1]) (rest := []) X hS (c_X6_reason l hE (w := w) (ad := ad) (μ := μ) (D := D) (cI := cI) (cG := cG) (cL := cL) hw0 ev11) (cwV 1 X.1.2.2.2.2 gL_puts_X6_reason rfl rfl rfl (by decide +kernel) ⟨Nat.le_of_ble_eq_true rfl, Nat.le_of_ble_eq_true rfl⟩) (q0 := q0) (ci := 4) rfl (hw0.1 μ).1 rfl hl.1 rfl (Nat.le_of_ble_eq_true rfl) dL_puts_197 ⟨Nat.le_trans (m := 4) (by omega) (Nat.le_of_ble_eq_true rfl), Nat.le_trans (m := 24) (by omega) (Nat.le_of_ble_eq_true rfl)⟩) (fun H locs hS => ?_)
    refine lv_if_ne (tgt := 215) hx hb dL_puts_200 (by decide) (fun cc => ?_) (fun cc => ?_)
    · replace h := ie h cc
      exact hb215 μ _ _ (by omega) (by omega) _ _ _ hS (lv_sub hl [] rfl) h
    · replace h := it h cc
      refine lv_aload_n hx hb dL_puts_203 rfl (lv_at hl 0 rfl) ?_
      refine lv_iload_n hx hb dL_puts_204 rfl (lv_at hl 1 rfl) ?_
      obtain ⟨v12, ev12, h⟩ := ob h
      refine r_ci hS (r_runV (As := [.int x1]) (rest := []) X hS (c_X6_bedsFor l hE (w := w) (ad := ad) (μ := μ) (D := D) (cI := cI) (cG := cG) (cL := cL) hw0 ev12) (cwV 1 X.1.2.2.2.2 gL_puts_X6_bedsFor rfl rfl rfl (by decide +kernel) ⟨Nat.le_of_ble_eq_true rfl, Nat.le_of_ble_eq_true rfl⟩) (q0 := q0) (ci := 4) rfl (hw0.1 μ).1 rfl hl.1 rfl (Nat.le_of_ble_eq_true rfl) dL_puts_205 ⟨Nat.le_trans (m := 4) (by omega) (Nat.le_of_ble_eq_true rfl), Nat.le_trans (m := 24) (by omega) (Nat.le_of_ble_eq_true rfl)⟩) (fun H locs hS => ?_)
      refine lv_if_ne (tgt := 215) hx hb dL_puts_208 (by decide) (fun cc => ?_) (fun cc => ?_)
      · replace h := ie h cc
        exact hb215 μ _ _ (by omega) (by omega) _ _ _ hS (lv_sub hl [] rfl) h
      · replace h := it h cc
        refine lv_iconst (v := 1) hx hb dL_puts_211 (by decide) ?_
        refine lv_goto (tgt := 216) hx hb dL_puts_212 (by decide) ?_
        exact hb216 1 μ _ _ (by omega) (by omega) _ _ _ hS (lv_sub hl [] rfl) h
  have hb139 : ∀ (s0 : Int32) (μ : Mem) (cells slots : Nat), cells + 0 ≤ 4 → slots + 0 ≤ 24 → ∀ (H : Heap) (locs : List Loc) (ls : Array Slot), HS D A (w μ) s.heap H locs → lv_has ls 10 [] → f_L_puts_b139 q0 s0 μ = some (r, μ') → W p l e (headSpec wsL_puts (rmc 9 4 24 173)).room s m args below meth c H locs cells slots (MQ below (PI D A (w μ') r) args s 4 24 A) (F0 m 139 ls [.int s0]) := by
    intro s0 μ cells slots hc hs H locs ls hS hl h
    unfold f_L_puts_b139 at h
    obtain ⟨v15, ev15, h⟩ := ob h
    obtain ⟨ezv15, eov15⟩ := zr_ok ev15
    rw [ezv15]
    obtain ⟨rfl, rfl⟩ := pr2 h
    exact r_zretM X hS hr hlk eov15 (by omega) (by omega) dL_puts_139
  have hb138 : ∀  (μ : Mem) (cells slots : Nat), cells + 0 ≤ 4 → slots + 0 ≤ 24 → ∀ (H : Heap) (locs : List Loc) (ls : Array Slot), HS D A (w μ) s.heap H locs → lv_has ls 10 [] → f_L_puts_b138 q0 μ = some (r, μ') → W p l e (headSpec wsL_puts (rmc 9 4 24 173)).room s m args below meth c H locs cells slots (MQ below (PI D A (w μ') r) args s 4 24 A) (F0 m 138 ls []) := by
    intro μ cells slots hc hs H locs ls hS hl h
    unfold f_L_puts_b138 at h
    refine lv_iconst (v := 0) hx hb dL_puts_138 (by decide) ?_
    exact hb139 0 μ _ _ (by omega) (by omega) _ _ _ hS (lv_sub hl [] rfl) h
  have hb104 : ∀ (x1 : Int32) (x5 : Int32) (x6 : Int32) (x8 : Int32) (μ : Mem) (cells slots : Nat), cells + 1 ≤ 4 → slots + 6 ≤ 24 → ∀ (H : Heap) (locs : List Loc) (ls : Array Slot), HS D A (w μ) s.heap H locs → lv_has ls 10 [(0, .ref (ad q0)), (1, .int x1), (5, .int x5), (6, .int x6), (8, .int x8)] → f_L_puts_b104 q0 x1 x5 x6 x8 μ = some (r, μ') → W p l e (headSpec wsL_puts (rmc 9 4 24 173)).room s m args below meth c H locs cells slots (MQ below (PI D A (w μ') r) args s 4 24 A) (F0 m 104 ls []) := by
    intro x1 x5 x6 x8 μ cells slots hc hs H locs ls hS hl h
    unfold f_L_puts_b104 at h
    refine lv_aload_n hx hb dL_puts_104 rfl (lv_at hl 0 rfl) ?_
    refine lv_bipush (v := 9) hx hb dL_puts_105 (by decide) ?_
    obtain ⟨v14, ev14, h⟩ := ob h
    refine r_ci hS (r_runV (As := [.int 9]) (rest := []) X hS (c_X6_whole l hE (w := w) (ad := ad) (μ := μ) (D := D) (cI := cI) (cG := cG) (cL := cL) hw0 ev14) (cwV 1 X.1.2.2.2.2 gL_puts_X6_whole rfl rfl rfl (by decide +kernel) ⟨Nat.le_of_ble_eq_true rfl, Nat.le_of_ble_eq_true rfl⟩) (q0 := q0) (ci := 4) rfl (hw0.1 μ).1 rfl hl.1 rfl (Nat.le_of_ble_eq_true rfl) dL_puts_107 ⟨Nat.le_trans (m := 4) (by omega) (Nat.le_of_ble_eq_true rfl), Nat.le_trans (m := 24) (by omega) (Nat.le_of_ble_eq_true rfl)⟩) (fun H locs hS => ?_)
    refine lv_iload hx hb dL_puts_110 (lv_at hl 3 rfl) ?_
    refine lv_icmp_ne (tgt := 138) hx hb dL_puts_112 (by decide) (fun cc => ?_) (fun cc => ?_)
    · replace h := ie h cc
      exact hb138 μ _ _ (by omega) (by omega) _ _ _ hS (lv_sub hl [] rfl) h
    · replace h := it h cc
      refine lv_aload_n hx hb dL_puts_115 rfl (lv_at hl 0 rfl) ?_
      refine lv_iload_n hx hb dL_puts_116 rfl (lv_at hl 1 rfl) ?_
      obtain ⟨v16, ev16, h⟩ := ob h
      refine r_cim hS (r_runSW (mc := 1) (ms := 6) (As := [.ref (ad q0), .int x1]) (rest := []) X hS (c_L_drafted l hE hst (w := w) (ad := ad) (μ := μ) (D := D) (cI := cI) (cG := cG) (cL := cL) hw0 ev16) (vx_cwSW (hh := [(0, 5, 6, 15), (0, 5, 11, 17)]) 2 X.1.2.2.2.2 gL_puts_L_drafted rfl rfl rfl (by decide +kernel) ⟨Nat.le_of_ble_eq_true rfl, Nat.le_of_ble_eq_true rfl⟩) rfl hl.1 rfl (Nat.le_of_ble_eq_true rfl) dL_puts_117 ⟨Nat.le_trans (m := 4) (by omega) (Nat.le_of_ble_eq_true rfl), Nat.le_trans (m := 24) (by omega) (Nat.le_of_ble_eq_true rfl)⟩) (fun H locs hS => ?_)
      refine lv_iload hx hb dL_puts_120 (lv_at hl 2 rfl) ?_
      refine lv_icmp_ne (tgt := 138) hx hb dL_puts_122 (by decide) (fun cc => ?_) (fun cc => ?_)
      · replace h := ie h cc
        exact hb138 μ _ _ (by omega) (by omega) _ _ _ hS (lv_sub hl [] rfl) h
      · replace h := it h cc
        refine lv_aload_n hx hb dL_puts_125 rfl (lv_at hl 0 rfl) ?_
        obtain ⟨v17, ev17, h⟩ := ob h
        refine r_ci hS (r_runV (As := []) (rest := []) X hS (c_X6_nextBed l hE (w := w) (ad := ad) (μ := μ) (D := D) (cI := cI) (cG := cG) (cL := cL) hw0 ev17) (cwV 0 X.1.2.2.2.2 gL_puts_X6_nextBed rfl rfl rfl (by decide +kernel) ⟨Nat.le_of_ble_eq_true rfl, Nat.le_of_ble_eq_true rfl⟩) (q0 := q0) (ci := 4) rfl (hw0.1 μ).1 rfl hl.1 rfl (Nat.le_of_ble_eq_true rfl) dL_puts_126 ⟨Nat.le_trans (m := 4) (by omega) (Nat.le_of_ble_eq_true rfl), Nat.le_trans (m := 24) (by omega) (Nat.le_of_ble_eq_true rfl)⟩) (fun H locs hS => ?_)
        refine lv_iload hx hb dL_puts_129 (lv_at hl 4 rfl) ?_
        refine lv_icmp_ne (tgt := 138) hx hb dL_puts_131 (by decide) (fun cc => ?_) (fun cc => ?_)
        · replace h := ie h cc
          exact hb138 μ _ _ (by omega) (by omega) _ _ _ hS (lv_sub hl [] rfl) h
        · replace h := it h cc
          refine lv_iconst (v := 1) hx hb dL_puts_134 (by decide) ?_
          refine lv_goto (tgt := 139) hx hb dL_puts_135 (by decide) ?_
          exact hb139 1 μ _ _ (by omega) (by omega) _ _ _ hS (lv_sub hl [] rfl) h
  have hb93 : ∀ (x1 : Int32) (x4 : Int32) (x5 : Int32) (x6 : Int32) (x7 : Int32) (x8 : Int32) (μ : Mem) (cells slots : Nat), cells + 1 ≤ 4 → slots + 6 ≤ 24 → ∀ (H : Heap) (locs : List Loc) (ls : Array Slot), HS D A (w μ) s.heap H locs → lv_has ls 10 [(0, .ref (ad q0)), (1, .int x1), (4, .int x4), (5, .int x5), (6, .int x6), (7, .int x7), (8, .int x8)] → f_L_puts_b93 q0 x1 x4 x5 x6 x7 x8 μ = some (r, μ') → W p l e (headSpec wsL_puts (rmc 9 4 24 173)).room s m args below meth c H locs cells slots (MQ below (PI D A (w μ') r) args s 4 24 A) (F0 m 93 ls []) := by
    intro x1 x4 x5 x6 x7 x8 μ cells slots hc hs H locs ls hS hl h
    unfold f_L_puts_b93 at h
    refine lv_iload hx hb dL_puts_93 (lv_at hl 2 rfl) ?_
    refine lv_iconst (v := 2) hx hb dL_puts_95 (by decide) ?_
    refine lv_icmp_ne (tgt := 138) hx hb dL_puts_96 (by decide) (fun cc => ?_) (fun cc => ?_)
    · replace h := ie h cc
      exact hb138 μ _ _ (by omega) (by omega) _ _ _ hS (lv_sub hl [] rfl) h
    · replace h := it h cc
      refine lv_iload hx hb dL_puts_99 (lv_at hl 5 rfl) ?_
      refine lv_if_le (tgt := 138) hx hb dL_puts_101 (by decide) (fun cc => ?_) (fun cc => ?_)
      · replace h := it h cc
        exact hb138 μ _ _ (by omega) (by omega) _ _ _ hS (lv_sub hl [] rfl) h
      · replace h := ie h cc
        exact hb104 x1 x5 x6 x8 μ _ _ (by omega) (by omega) _ _ _ hS (lv_sub hl [0, 1, 3, 4, 6] rfl) h
  have hb51 : ∀ (x1 : Int32) (x2 : Int32) (x3 : Int32) (x4 : Int32) (x5 : Int32) (x6 : Int32) (s0 : Int32) (μ : Mem) (cells slots : Nat), cells + 2 ≤ 4 → slots + 12 ≤ 24 → ∀ (H : Heap) (locs : List Loc) (ls : Array Slot), HS D A (w μ) s.heap H locs → lv_has ls 10 [(0, .ref (ad q0)), (1, .int x1), (2, .int x2), (3, .int x3), (4, .int x4), (5, .int x5), (6, .int x6)] → f_L_puts_b51 q0 x1 x2 x3 x4 x5 x6 s0 μ = some (r, μ') → W p l e (headSpec wsL_puts (rmc 9 4 24 173)).room s m args below meth c H locs cells slots (MQ below (PI D A (w μ') r) args s 4 24 A) (F0 m 51 ls [.int s0]) := by
    intro x1 x2 x3 x4 x5 x6 s0 μ cells slots hc hs H locs ls hS hl h
    unfold f_L_puts_b51 at h
    refine lv_istore (lv' := [(7, .int s0), (0, .ref (ad q0)), (1, .int x1), (2, .int x2), (3, .int x3), (4, .int x4), (5, .int x5), (6, .int x6)]) hx hb dL_puts_51 hl (by decide) rfl (fun ls hl => ?_)
    refine lv_aload_n hx hb dL_puts_53 rfl (lv_at hl 1 rfl) ?_
    obtain ⟨v5, ev5, h⟩ := ob h
    refine r_ci hS (r_runV (As := []) (rest := []) X hS (c_X6_nextBed l hE (w := w) (ad := ad) (μ := μ) (D := D) (cI := cI) (cG := cG) (cL := cL) hw0 ev5) (cwV 0 X.1.2.2.2.2 gL_puts_X6_nextBed rfl rfl rfl (by decide +kernel) ⟨Nat.le_of_ble_eq_true rfl, Nat.le_of_ble_eq_true rfl⟩) (q0 := q0) (ci := 4) rfl (hw0.1 μ).1 rfl hl.1 rfl (Nat.le_of_ble_eq_true rfl) dL_puts_54 ⟨Nat.le_trans (m := 4) (by omega) (Nat.le_of_ble_eq_true rfl), Nat.le_trans (m := 24) (by omega) (Nat.le_of_ble_eq_true rfl)⟩) (fun H locs hS => ?_)
    refine lv_istore (lv' := [(8, .int v5), (7, .int s0), (0, .ref (ad q0)), (1, .int x1), (2, .int x2), (3, .int x3), (4, .int x4), (5, .int x5), (6, .int x6)]) hx hb dL_puts_57 hl (by decide) rfl (fun ls hl => ?_)
    refine lv_aload_n hx hb dL_puts_59 rfl (lv_at hl 2 rfl) ?_
    refine lv_iload_n hx hb dL_puts_60 rfl (lv_at hl 3 rfl) ?_
    refine lv_iload_n hx hb dL_puts_61 rfl (lv_at hl 4 rfl) ?_
    obtain ⟨v6, μ7, ev6, h⟩ := ob2 h
    refine r_cim hS (r_runSW (mc := 1) (ms := 6) (As := [.ref (ad q0), .int x1, .int x2]) (rest := []) X hS (c_L_put l hE hst (w := w) (ad := ad) (μ := μ) (D := D) (cI := cI) (cG := cG) (cL := cL) hw0 ev6) (vx_cwSW (hh := [(0, 6, 7, 15), (0, 6, 12, 17)]) 3 X.1.2.2.2.2 gL_puts_L_put rfl rfl rfl (by decide +kernel) ⟨Nat.le_of_ble_eq_true rfl, Nat.le_of_ble_eq_true rfl⟩) rfl hl.1 rfl (Nat.le_of_ble_eq_true rfl) dL_puts_62 ⟨Nat.le_trans (m := 4) (by omega) (Nat.le_of_ble_eq_true rfl), Nat.le_trans (m := 24) (by omega) (Nat.le_of_ble_eq_true rfl)⟩) (fun H locs hS => ?_)
    refine lv_istore (lv' := [(9, .int v6), (8, .int v5), (7, .int s0), (0, .ref (ad q0)), (1, .int x1), (2, .int x2), (3, .int x3), (4, .int x4), (5, .int x5), (6, .int x6)]) hx hb dL_puts_65 hl (by decide) rfl (fun ls hl => ?_)
    refine lv_iload hx hb dL_puts_67 (lv_at hl 0 rfl) ?_
    refine lv_sipush (v := (-2902)) hx hb dL_puts_69 (by decide) ?_
    refine lv_icmp_ne (tgt := 140) hx hb dL_puts_72 (by decide) (fun cc => ?_) (fun cc => ?_)
    · replace h := ie h cc
      refine lv_iload_n hx hb dL_puts_140 rfl (lv_at hl 6 rfl) ?_
      refine lv_if_eq (tgt := 215) hx hb dL_puts_141 (by decide) (fun cc => ?_) (fun cc => ?_)
      · replace h := it h cc
        exact hb215 μ7 _ _ (by omega) (by omega) _ _ _ hS (lv_sub hl [] rfl) h
      · replace h := ie h cc
        refine lv_iload hx hb dL_puts_144 (lv_at hl 7 rfl) ?_
        refine lv_if_ne (tgt := 215) hx hb dL_puts_146 (by decide) (fun cc => ?_) (fun cc => ?_)
        · replace h := ie h cc
          exact hb215 μ7 _ _ (by omega) (by omega) _ _ _ hS (lv_sub hl [] rfl) h
        · replace h := it h cc
          refine lv_iload hx hb dL_puts_149 (lv_at hl 0 rfl) ?_
          refine lv_iload hx hb dL_puts_151 (lv_at hl 8 rfl) ?_
          refine lv_icmp_ne (tgt := 215) hx hb dL_puts_153 (by decide) (fun cc => ?_) (fun cc => ?_)
          · replace h := ie h cc
            exact hb215 μ7 _ _ (by omega) (by omega) _ _ _ hS (lv_sub hl [] rfl) h
          · replace h := it h cc
            refine lv_aload_n hx hb dL_puts_156 rfl (lv_at hl 3 rfl) ?_
            refine lv_iload_n hx hb dL_puts_157 rfl (lv_at hl 4 rfl) ?_
            obtain ⟨v9, ev9, h⟩ := ob h
            refine r_ci hS (r_runV (As := [.int x1]) (rest := []) X hS (c_X6_drafted l hE (w := w) (ad := ad) (μ := μ7) (D := D) (cI := cI) (cG := cG) (cL := cL) hw0 ev9) (cwV 1 X.1.2.2.2.2 gL_puts_X6_drafted rfl rfl rfl (by decide +kernel) ⟨Nat.le_of_ble_eq_true rfl, Nat.le_of_ble_eq_true rfl⟩) (q0 := q0) (ci := 4) rfl (hw0.1 μ7).1 rfl hl.1 rfl (Nat.le_of_ble_eq_true rfl) dL_puts_158 ⟨Nat.le_trans (m := 4) (by omega) (Nat.le_of_ble_eq_true rfl), Nat.le_trans (m := 24) (by omega) (Nat.le_of_ble_eq_true rfl)⟩) (fun H locs hS => ?_)
            refine lv_iload_n hx hb dL_puts_161 rfl (lv_at hl 5 rfl) ?_
            refine lv_icmp_ne (tgt := 215) hx hb dL_puts_162 (by decide) (fun cc => ?_) (fun cc => ?_)
            · replace h := ie h cc
              exact hb215 μ7 _ _ (by omega) (by omega) _ _ _ hS (lv_sub hl [] rfl) h
            · replace h := it h cc
              refine lv_aload_n hx hb dL_puts_165 rfl (lv_at hl 3 rfl) ?_
              refine lv_bipush (v := 9) hx hb dL_puts_166 (by decide) ?_
              obtain ⟨v10, ev10, h⟩ := ob h
              refine r_ci hS (r_runV (As := [.int 9]) (rest := []) X hS (c_X6_whole l hE (w := w) (ad := ad) (μ := μ7) (D := D) (cI := cI) (cG := cG) (cL := cL) hw0 ev10) (cwV 1 X.1.2.2.2.2 gL_puts_X6_whole rfl rfl rfl (by decide +kernel) ⟨Nat.le_of_ble_eq_true rfl, Nat.le_of_ble_eq_true rfl⟩) (q0 := q0) (ci := 4) rfl (hw0.1 μ7).1 rfl hl.1 rfl (Nat.le_of_ble_eq_true rfl) dL_puts_168 ⟨Nat.le_trans (m := 4) (by omega) (Nat.le_of_ble_eq_true rfl), Nat.le_trans (m := 24) (by omega) (Nat.le_of_ble_eq_true rfl)⟩) (fun H locs hS => ?_)
              refine lv_iload hx hb dL_puts_171 (lv_at hl 9 rfl) ?_
              refine lv_iload hx hb dL_puts_173 (lv_at hl 2 rfl) ?_
              refine lv_iadd hx hb dL_puts_175 ?_
              refine lv_icmp_ne (tgt := 215) hx hb dL_puts_176 (by decide) (fun cc => ?_) (fun cc => ?_)
              · replace h := ie h cc
                exact hb215 μ7 _ _ (by omega) (by omega) _ _ _ hS (lv_sub hl [] rfl) h
              · replace h := it h cc
                refine lv_iload hx hb dL_puts_179 (lv_at hl 2 rfl) ?_
                refine lv_if_eq (tgt := 195) hx hb dL_puts_181 (by decide) (fun cc => ?_) (fun cc => ?_)
                · replace h := it h cc
                  exact hb195 x1 μ7 _ _ (by omega) (by omega) _ _ _ hS (lv_sub hl [3, 4] rfl) h
                · replace h := ie h cc
                  refine lv_aload_n hx hb dL_puts_184 rfl (lv_at hl 3 rfl) ?_
                  refine lv_iload hx hb dL_puts_185 (lv_at hl 1 rfl) ?_
                  refine lv_iconst (v := 5) hx hb dL_puts_187 (by decide) ?_
                  obtain ⟨v13, ev13, h⟩ := ob h
                  refine r_ci hS (r_runV (As := [.int v5, .int 5]) (rest := []) X hS (c_X6_bed l hE (w := w) (ad := ad) (μ := μ7) (D := D) (cI := cI) (cG := cG) (cL := cL) hw0 ev13) (cwV 2 X.1.2.2.2.2 gL_puts_X6_bed rfl rfl rfl (by decide +kernel) ⟨Nat.le_of_ble_eq_true rfl, Nat.le_of_ble_eq_true rfl⟩) (q0 := q0) (ci := 4) rfl (hw0.1 μ7).1 rfl hl.1 rfl (Nat.le_of_ble_eq_true rfl) dL_puts_188 ⟨Nat.le_trans (m := 4) (by omega) (Nat.le_of_ble_eq_true rfl), Nat.le_trans (m := 24) (by omega) (Nat.le_of_ble_eq_true rfl)⟩) (fun H locs hS => ?_)
                  refine lv_iconst (v := 1) hx hb dL_puts_191 (by decide) ?_
                  refine lv_icmp_ne (tgt := 215) hx hb dL_puts_192 (by decide) (fun cc => ?_) (fun cc => ?_)
                  · replace h := ie h cc
                    exact hb215 μ7 _ _ (by omega) (by omega) _ _ _ hS (lv_sub hl [] rfl) h
                  · replace h := it h cc
                    exact hb195 x1 μ7 _ _ (by omega) (by omega) _ _ _ hS (lv_sub hl [3, 4] rfl) h
    · replace h := it h cc
      refine lv_iload_n hx hb dL_puts_75 rfl (lv_at hl 6 rfl) ?_
      refine lv_if_eq (tgt := 104) hx hb dL_puts_76 (by decide) (fun cc => ?_) (fun cc => ?_)
      · replace h := it h cc
        exact hb104 x1 x5 x6 v5 μ7 _ _ (by omega) (by omega) _ _ _ hS (lv_sub hl [3, 4, 8, 9, 1] rfl) h
      · replace h := ie h cc
        refine lv_iload hx hb dL_puts_79 (lv_at hl 7 rfl) ?_
        refine lv_iconst (v := 1) hx hb dL_puts_81 (by decide) ?_
        refine lv_icmp_ne (tgt := 93) hx hb dL_puts_82 (by decide) (fun cc => ?_) (fun cc => ?_)
        · replace h := ie h cc
          exact hb93 x1 x4 x5 x6 s0 v5 μ7 _ _ (by omega) (by omega) _ _ _ hS (lv_sub hl [3, 4, 7, 8, 9, 2, 1] rfl) h
        · replace h := it h cc
          refine lv_iload hx hb dL_puts_85 (lv_at hl 2 rfl) ?_
          refine lv_sipush (v := (-1000)) hx hb dL_puts_87 (by decide) ?_
          refine lv_icmp_eq (tgt := 104) hx hb dL_puts_90 (by decide) (fun cc => ?_) (fun cc => ?_)
          · replace h := it h cc
            exact hb104 x1 x5 x6 v5 μ7 _ _ (by omega) (by omega) _ _ _ hS (lv_sub hl [3, 4, 8, 9, 1] rfl) h
          · replace h := ie h cc
            exact hb93 x1 x4 x5 x6 s0 v5 μ7 _ _ (by omega) (by omega) _ _ _ hS (lv_sub hl [3, 4, 7, 8, 9, 2, 1] rfl) h
  have hb15 : ∀ (x1 : Int32) (x2 : Int32) (s0 : Int32) (μ : Mem) (cells slots : Nat), cells + 4 ≤ 4 → slots + 24 ≤ 24 → ∀ (H : Heap) (locs : List Loc) (ls : Array Slot), HS D A (w μ) s.heap H locs → lv_has ls 10 [(0, .ref (ad q0)), (1, .int x1), (2, .int x2)] → f_L_puts_b15 q0 x1 x2 s0 μ = some (r, μ') → W p l e (headSpec wsL_puts (rmc 9 4 24 173)).room s m args below meth c H locs cells slots (MQ below (PI D A (w μ') r) args s 4 24 A) (F0 m 15 ls [.int s0]) := by
    intro x1 x2 s0 μ cells slots hc hs H locs ls hS hl h
    unfold f_L_puts_b15 at h
    refine lv_istore_n (lv' := [(3, .int s0), (0, .ref (ad q0)), (1, .int x1), (2, .int x2)]) hx hb dL_puts_15 rfl hl (by decide) rfl (fun ls hl => ?_)
    refine lv_aload_n hx hb dL_puts_16 rfl (lv_at hl 1 rfl) ?_
    refine lv_iload_n hx hb dL_puts_17 rfl (lv_at hl 2 rfl) ?_
    obtain ⟨v2, ev2, h⟩ := ob h
    refine r_cim hS (r_runSW (mc := 1) (ms := 6) (As := [.ref (ad q0), .int x1]) (rest := []) X hS (c_L_reason l hE hst (w := w) (ad := ad) (μ := μ) (D := D) (cI := cI) (cG := cG) (cL := cL) hw0 ev2) (vx_cwSW (hh := [(0, 5, 6, 15), (0, 5, 11, 17)]) 2 X.1.2.2.2.2 gL_puts_L_reason rfl rfl rfl (by decide +kernel) ⟨Nat.le_of_ble_eq_true rfl, Nat.le_of_ble_eq_true rfl⟩) rfl hl.1 rfl (Nat.le_of_ble_eq_true rfl) dL_puts_18 ⟨Nat.le_trans (m := 4) (by omega) (Nat.le_of_ble_eq_true rfl), Nat.le_trans (m := 24) (by omega) (Nat.le_of_ble_eq_true rfl)⟩) (fun H locs hS => ?_)
    refine lv_istore (lv' := [(4, .int v2), (3, .int s0), (0, .ref (ad q0)), (1, .int x1), (2, .int x2)]) hx hb dL_puts_21 hl (by decide) rfl (fun ls hl => ?_)
    refine lv_aload_n hx hb dL_puts_23 rfl (lv_at hl 2 rfl) ?_
    refine lv_iload_n hx hb dL_puts_24 rfl (lv_at hl 3 rfl) ?_
    obtain ⟨v3, ev3, h⟩ := ob h
    refine r_cim hS (r_runSW (mc := 1) (ms := 6) (As := [.ref (ad q0), .int x1]) (rest := []) X hS (c_L_drafted l hE hst (w := w) (ad := ad) (μ := μ) (D := D) (cI := cI) (cG := cG) (cL := cL) hw0 ev3) (vx_cwSW (hh := [(0, 5, 6, 15), (0, 5, 11, 17)]) 2 X.1.2.2.2.2 gL_puts_L_drafted rfl rfl rfl (by decide +kernel) ⟨Nat.le_of_ble_eq_true rfl, Nat.le_of_ble_eq_true rfl⟩) rfl hl.1 rfl (Nat.le_of_ble_eq_true rfl) dL_puts_25 ⟨Nat.le_trans (m := 4) (by omega) (Nat.le_of_ble_eq_true rfl), Nat.le_trans (m := 24) (by omega) (Nat.le_of_ble_eq_true rfl)⟩) (fun H locs hS => ?_)
    refine lv_istore (lv' := [(5, .int v3), (4, .int v2), (3, .int s0), (0, .ref (ad q0)), (1, .int x1), (2, .int x2)]) hx hb dL_puts_28 hl (by decide) rfl (fun ls hl => ?_)
    refine lv_aload_n hx hb dL_puts_30 rfl (lv_at hl 3 rfl) ?_
    refine lv_bipush (v := 9) hx hb dL_puts_31 (by decide) ?_
    obtain ⟨v4, ev4, h⟩ := ob h
    refine r_ci hS (r_runV (As := [.int 9]) (rest := []) X hS (c_X6_whole l hE (w := w) (ad := ad) (μ := μ) (D := D) (cI := cI) (cG := cG) (cL := cL) hw0 ev4) (cwV 1 X.1.2.2.2.2 gL_puts_X6_whole rfl rfl rfl (by decide +kernel) ⟨Nat.le_of_ble_eq_true rfl, Nat.le_of_ble_eq_true rfl⟩) (q0 := q0) (ci := 4) rfl (hw0.1 μ).1 rfl hl.1 rfl (Nat.le_of_ble_eq_true rfl) dL_puts_33 ⟨Nat.le_trans (m := 4) (by omega) (Nat.le_of_ble_eq_true rfl), Nat.le_trans (m := 24) (by omega) (Nat.le_of_ble_eq_true rfl)⟩) (fun H locs hS => ?_)
    refine lv_istore (lv' := [(6, .int v4), (5, .int v3), (4, .int v2), (3, .int s0), (0, .ref (ad q0)), (1, .int x1), (2, .int x2)]) hx hb dL_puts_36 hl (by decide) rfl (fun ls hl => ?_)
    refine lv_iload_n hx hb dL_puts_38 rfl (lv_at hl 3 rfl) ?_
    refine lv_if_eq (tgt := 50) hx hb dL_puts_39 (by decide) (fun cc => ?_) (fun cc => ?_)
    · replace h := it h cc
      refine lv_iconst (v := 0) hx hb dL_puts_50 (by decide) ?_
      exact hb51 x1 x2 s0 v2 v3 v4 0 μ _ _ (by omega) (by omega) _ _ _ hS (lv_sub hl [4, 5, 6, 3, 2, 1, 0] rfl) h
    · replace h := ie h cc
      refine lv_aload_n hx hb dL_puts_42 rfl (lv_at hl 4 rfl) ?_
      refine lv_iload_n hx hb dL_puts_43 rfl (lv_at hl 5 rfl) ?_
      obtain ⟨v18, ev18, h⟩ := ob h
      refine r_ci hS (r_runV (As := [.int x1]) (rest := []) X hS (c_X6_bedsFor l hE (w := w) (ad := ad) (μ := μ) (D := D) (cI := cI) (cG := cG) (cL := cL) hw0 ev18) (cwV 1 X.1.2.2.2.2 gL_puts_X6_bedsFor rfl rfl rfl (by decide +kernel) ⟨Nat.le_of_ble_eq_true rfl, Nat.le_of_ble_eq_true rfl⟩) (q0 := q0) (ci := 4) rfl (hw0.1 μ).1 rfl hl.1 rfl (Nat.le_of_ble_eq_true rfl) dL_puts_44 ⟨Nat.le_trans (m := 4) (by omega) (Nat.le_of_ble_eq_true rfl), Nat.le_trans (m := 24) (by omega) (Nat.le_of_ble_eq_true rfl)⟩) (fun H locs hS => ?_)
      refine lv_goto (tgt := 51) hx hb dL_puts_47 (by decide) ?_
      exact hb51 x1 x2 s0 v2 v3 v4 v18 μ _ _ (by omega) (by omega) _ _ _ hS (lv_sub hl [4, 5, 6, 3, 2, 1, 0] rfl) h
  have key : ∀ (cells slots : Nat), cells + 4 ≤ 4 → slots + 24 ≤ 24 → W p l e (headSpec wsL_puts (rmc 9 4 24 173)).room s m args below meth c s.heap [] cells slots (MQ below (PI D A (w μ') r) args s 4 24 A) (F0 m 0 ls []) := by
    intro cells slots hc hs
    unfold f_L_puts at h
    refine lv_aload_n hx hb dL_puts_0 rfl (lv_at hl 0 rfl) ?_
    refine lv_bipush (v := 8) hx hb dL_puts_1 (by decide) ?_
    obtain ⟨v1, ev1, h⟩ := ob h
    refine r_ci hS (r_runV (As := [.int 8]) (rest := []) X hS (c_X6_whole l hE (w := w) (ad := ad) (μ := μ) (D := D) (cI := cI) (cG := cG) (cL := cL) hw0 ev1) (cwV 1 X.1.2.2.2.2 gL_puts_X6_whole rfl rfl rfl (by decide +kernel) ⟨Nat.le_of_ble_eq_true rfl, Nat.le_of_ble_eq_true rfl⟩) (q0 := q0) (ci := 4) rfl (hw0.1 μ).1 rfl hl.1 rfl (Nat.le_of_ble_eq_true rfl) dL_puts_3 ⟨Nat.le_trans (m := 4) (by omega) (Nat.le_of_ble_eq_true rfl), Nat.le_trans (m := 24) (by omega) (Nat.le_of_ble_eq_true rfl)⟩) (fun H locs hS => ?_)
    refine lv_iconst (v := 1) hx hb dL_puts_6 (by decide) ?_
    refine lv_icmp_ne (tgt := 14) hx hb dL_puts_7 (by decide) (fun cc => ?_) (fun cc => ?_)
    · replace h := ie h cc
      refine lv_iconst (v := 0) hx hb dL_puts_14 (by decide) ?_
      exact hb15 a1 a2 0 μ _ _ (by omega) (by omega) _ _ _ hS (lv_sub hl [0, 1, 2] rfl) h
    · replace h := it h cc
      refine lv_iconst (v := 1) hx hb dL_puts_10 (by decide) ?_
      refine lv_goto (tgt := 15) hx hb dL_puts_11 (by decide) ?_
      exact hb15 a1 a2 1 μ _ _ (by omega) (by omega) _ _ _ hS (lv_sub hl [0, 1, 2] rfl) h
  exact key 0 0 (by decide) (by decide)
